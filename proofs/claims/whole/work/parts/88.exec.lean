theorem digitAt_c {σ τ : St} {d n : Nat} (h : TxtOk σ d n) (e8 : gI τ 8 d = gI σ 8 d) (e9 : gI τ 9 d = gI σ 9 d) {i : Nat} (hi : i < 2000) (hd : dgt (txt σ d n i)) : fX4_digitAt τ d (nI i) = some (nI (numN (txt σ d n) i 1)) := by
  unfold fX4_digitAt
  rw [byteAt_c h e8 e9 (by omega), bd_s, (dgt_s hd).2.2, (num1 hd).1]
theorem twoAt_c {σ τ : St} {d n : Nat} (h : TxtOk σ d n) (e8 : gI τ 8 d = gI σ 8 d) (e9 : gI τ 9 d = gI σ 9 d) {i : Nat} (hi : i < 1000) (hd : dgt (txt σ d n i)) (hd' : dgt (txt σ d n (i + 1))) : fX4_twoDigitsAt τ d (nI i) = some (nI (numN (txt σ d n) i 2)) := by
  unfold fX4_twoDigitsAt
  rw [digitAt_c h e8 e9 (i := i) (by omega) hd, bd_s, nI_1, digitAt_c h e8 e9 (i := i + 1) (by omega) hd', bd_s, show (10 : Int32) * nI (numN (txt σ d n) i 1) = nI (10 * numN (txt σ d n) i 1) from pk_mul 10 _, nI_add, (num1 hd).1, (num1 hd').1, (num2 hd hd').1]
theorem lenAt_c {σ τ : St} {d n : Nat} (h : TxtOk σ d n) (e8 : gI τ 8 d = gI σ 8 d) (e9 : gI τ 9 d = gI σ 9 d) {a : Nat} (ha : a < 1000) (hk : kd (txt σ d n a) ≠ 0) : fX11_lengthAt τ d (nI a) = some (nI (kd (txt σ d n a) + 2)) := by
  unfold fX11_lengthAt
  rw [byteAt_c h e8 e9 (by omega), bd_s, digits_c (txt_lt h a), if_neg hk, bd_s, if_pos (show (0 : Int32) < nI (kd (txt σ d n a)) from nI_lt (a := 0) (Nat.pos_of_ne_zero hk) (by have := kd_le (txt σ d n a); omega)), nmv_s, show nI (kd (txt σ d n a)) + 2 = nI (kd (txt σ d n a) + 2) from nI_add _ 2]
theorem done_c {σ τ : St} {d n : Nat} (hT : TxtOk σ d n) (hS : Sp4 σ τ) {h : Hg} (hC : RelC τ 2 h) (hO : OkH h) {a : Nat} (ha : a < 900) (ok : SOK (txt σ d n) a) : (canD h (txt σ d n) a ∧ ∃ τ', fX11_isDoneOnSpare τ d (nI a) = some (1, τ') ∧ Sp4 σ τ' ∧ RelC τ' 2 (aftD h (txt σ d n) a)) ∨ (¬ canD h (txt σ d n) a ∧ ∃ τ', fX11_isDoneOnSpare τ d (nI a) = some (0, τ') ∧ Sp4 σ τ') := by
  have e8 : gI τ 8 d = gI σ 8 d := hS.1 8 d (by have := hT.1; omega) (by omega) (by omega)
  have e9 : gI τ 9 d = gI σ 9 d := hS.1 9 d (by have := hT.1; omega) (by omega) (by omega)
  have hR : RefsOk τ := hS.2.2.2.2.2.1
  obtain ⟨q1, q2, q3, q4, -⟩ := sgn_fin _ (txt_lt hT a)
  obtain ⟨ok1, ok2, -⟩ := ok
  unfold fX11_isDoneOnSpare
  rw [byteAt_c hT e8 e9 (by omega), bd_s, nI_1, show nI a + 3 = nI (a + 3) from nI_add a 3, show nI a + 5 = nI (a + 5) from nI_add a 5, show nI a + 2 = nI (a + 2) from nI_add a 2]
  by_cases c1 : txt σ d n a = 98
  · have kk : kd (txt σ d n a) = 5 := if_pos c1
    rw [kk] at ok2
    have g1 := (num2 (ok2 (a + 1) (by omega) (by omega)) (ok2 (a + 1 + 1) (by omega) (by omega))).2
    have g2 := (num2 (ok2 (a + 3) (by omega) (by omega)) (ok2 (a + 3 + 1) (by omega) (by omega))).2
    have g3 := (num1 (ok2 (a + 5) (by omega) (by omega))).2
    rw [if_pos (q1.mpr c1), twoAt_c hT e8 e9 (by omega) (ok2 _ (by omega) (by omega)) (ok2 _ (by omega) (by omega)), bd_s, twoAt_c hT e8 e9 (by omega) (ok2 _ (by omega) (by omega)) (ok2 _ (by omega) (by omega)), bd_s, digitAt_c hT e8 e9 (by omega) (ok2 _ (by omega) (by omega)), bd_s]
    have cd : canD h (txt σ d n) a ↔ ((1 ≤ numN (txt σ d n) (a + 1) 2 ∧ numN (txt σ d n) (a + 1) 2 ≤ 24) ∧ (1 ≤ numN (txt σ d n) (a + 3) 2 ∧ numN (txt σ d n) (a + 3) 2 ≤ 24) ∧ h 0 0 < 6) := by
      unfold canD
      constructor
      · intro q
        rcases q with ⟨-, q⟩ | ⟨q, -⟩ | ⟨q, -⟩ | ⟨q, -⟩
        · exact q
        · omega
        · omega
        · omega
      · exact fun q => Or.inl ⟨c1, q⟩
    rcases addB2_c hC hO hR (br := numN (txt σ d n) (a + 1) 2) (ln := numN (txt σ d n) (a + 3) 2) (wt := numN (txt σ d n) (a + 5) 1) (by omega) (by omega) g3 with ⟨z, τ', r, z1, z2, z3, z4⟩ | ⟨z, r, z1, z2⟩
    · rw [z1, bd_s]
      dsimp only
      rw [if_neg (nI_pos (by omega))]
      exact Or.inl ⟨cd.mpr z, τ', rfl, Sp4_of2 hS z3, by rw [show aftD h (txt σ d n) a = _ from if_pos c1]; exact z4⟩
    · rw [z2, bd_s]
      dsimp only
      rw [if_pos z1]
      exact Or.inr ⟨fun q => z (cd.mp q), τ, rfl, hS⟩
  rw [if_neg (fun q => c1 (q1.mp q))]
  by_cases c2 : txt σ d n a = 107
  · have kk : kd (txt σ d n a) = 2 := by unfold kd; rw [if_neg c1, if_pos c2]
    rw [kk] at ok2
    have g1 := (num1 (ok2 (a + 1) (by omega) (by omega))).2
    have g2 := (num1 (ok2 (a + 2) (by omega) (by omega))).2
    have cd : canD h (txt σ d n) a ↔ (numN (txt σ d n) (a + 1) 1 < 8 ∧ h 0 2 < 6) := by
      unfold canD
      constructor
      · intro q
        rcases q with ⟨q, -⟩ | ⟨-, q⟩ | ⟨q, -⟩ | ⟨q, -⟩
        · omega
        · exact q
        · omega
        · omega
      · exact fun q => Or.inr (Or.inl ⟨c2, q⟩)
    have q9 : fX11_isOut τ (nI (numN (txt σ d n) (a + 2) 1)) 0 9 = some 0 := by
      have := isOut_n (σ := τ) (a := 0) (b := 9) (v := numN (txt σ d n) (a + 2) 1) (by omega) (by omega) (by omega)
      rw [if_pos ⟨Nat.zero_le _, g2⟩] at this
      exact this
    rw [if_pos (q2.mpr c2), digitAt_c hT e8 e9 (by omega) (ok2 _ (by omega) (by omega)), bd_s, digitAt_c hT e8 e9 (by omega) (ok2 _ (by omega) (by omega)), bd_s, ck_t (Nat.le_refl _)]
    by_cases c8 : numN (txt σ d n) (a + 1) 1 ≤ 7
    · have hS2 : Sp4 σ (sB τ (clsOf (numN (txt σ d n) (a + 1) 1)) (nI (numN (txt σ d n) (a + 1) 1)) (nI (numN (txt σ d n) (a + 2) 1))) := Sp4_sB hS
      have hC2 : RelC (sB τ (clsOf (numN (txt σ d n) (a + 1) 1)) (nI (numN (txt σ d n) (a + 1) 1)) (nI (numN (txt σ d n) (a + 2) 1))) 2 h := relC_bl hC (fun c hc => by
        show gI (sI (sI τ 13 0 (gS τ 2 0) _) 14 0 (gS τ 2 0) _) c 2 = _
        rw [gsI_n (by omega), gsI_n (by omega)]) rfl (fun _ _ _ q => bl_sB q)
      rw [newBlow_s hR c8 q9, bd_s]
      dsimp only
      rcases addK2_c hC2 hO hS2.2.2.2.2.2.1 (bl_new (σ := τ) (kd := numN (txt σ d n) (a + 1) 1) (fg := numN (txt σ d n) (a + 2) 1)) with ⟨z, τ', r, z1, z2, z3, z4⟩ | ⟨z, r, z1, z2⟩
      · rw [z1, bd_s]
        dsimp only
        rw [if_neg (nI_pos (by omega))]
        exact Or.inl ⟨cd.mpr ⟨by omega, z⟩, τ', rfl, Sp4_of2 hS2 z3, by rw [show aftD h (txt σ d n) a = _ from (if_neg c1).trans (if_pos c2)]; exact z4⟩
      · rw [z2, bd_s]
        dsimp only
        rw [if_pos z1]
        exact Or.inr ⟨fun q => z (cd.mp q).2, _, rfl, hS2⟩
    · have nb : fX11_newBlow τ (nI (numN (txt σ d n) (a + 1) 1)) (nI (numN (txt σ d n) (a + 2) 1)) = some (none, τ) := by
        rcases newBlow_n (σ := τ) (a := nI (numN (txt σ d n) (a + 1) 1)) (b := nI (numN (txt σ d n) (a + 2) 1)) (Or.inl (fun k hk q => c8 (by have := (nI_eq (by omega) (by omega)).mp q; omega))) with q | q
        · exact q
        · rw [q9] at q
          cases q
      rw [nb, bd_s]
      refine Or.inr ⟨fun q => c8 (by have := (cd.mp q).1; omega), τ, ?_, hS⟩
      rfl
  rw [if_neg (fun q => c2 (q2.mp q))]
  by_cases c3 : txt σ d n a = 116
  · have kk : kd (txt σ d n a) = 3 := by unfold kd; rw [if_neg c1, if_neg c2, if_pos c3]
    rw [kk] at ok2
    have g1 := (num1 (ok2 (a + 1) (by omega) (by omega))).2
    have g2 := (num2 (ok2 (a + 2) (by omega) (by omega)) (ok2 (a + 2 + 1) (by omega) (by omega))).2
    have cd : canD h (txt σ d n) a ↔ (numN (txt σ d n) (a + 2) 2 ≤ 60 ∧ h 0 1 < 4) := by
      unfold canD
      constructor
      · intro q
        rcases q with ⟨q, -⟩ | ⟨q, -⟩ | ⟨-, q⟩ | ⟨q, -⟩
        · omega
        · omega
        · exact q
        · omega
      · exact fun q => Or.inr (Or.inr (Or.inl ⟨c3, q⟩))
    rw [if_pos (q3.mpr c3), digitAt_c hT e8 e9 (by omega) (ok2 _ (by omega) (by omega)), bd_s, twoAt_c hT e8 e9 (by omega) (ok2 _ (by omega) (by omega)) (ok2 _ (by omega) (by omega)), bd_s]
    rcases addT2_c hC hO hR (sl := numN (txt σ d n) (a + 1) 1) (gr := numN (txt σ d n) (a + 2) 2) g1 (by omega) with ⟨z, τ', r, z1, z2, z3, z4⟩ | ⟨z, r, z1, z2⟩
    · rw [z1, bd_s]
      dsimp only
      rw [if_neg (nI_pos (by omega))]
      exact Or.inl ⟨cd.mpr z, τ', rfl, Sp4_of2 hS z3, by rw [show aftD h (txt σ d n) a = _ from (if_neg c1).trans ((if_neg c2).trans (if_pos c3))]; exact z4⟩
    · rw [z2, bd_s]
      dsimp only
      rw [if_pos z1]
      exact Or.inr ⟨fun q => z (cd.mp q), τ, rfl, hS⟩
  rw [if_neg (fun q => c3 (q3.mp q))]
  have c4 : txt σ d n a = 121 := by
    by_cases c : txt σ d n a = 121
    · exact c
    · exact absurd (by unfold kd; rw [if_neg c1, if_neg c2, if_neg c3, if_neg c]) ok1
  have kk : kd (txt σ d n a) = 7 := by unfold kd; rw [if_neg c1, if_neg c2, if_neg c3, if_pos c4]
  rw [kk] at ok2
  have g1 := (num1 (ok2 (a + 1) (by omega) (by omega))).2
  have g2 := (num1 (ok2 (a + 2) (by omega) (by omega))).2
  have g3 := (num1 (ok2 (a + 3) (by omega) (by omega))).2
  have g4 := (num2 (ok2 (a + 4) (by omega) (by omega)) (ok2 (a + 4 + 1) (by omega) (by omega))).2
  have g5 := (num2 (ok2 (a + 6) (by omega) (by omega)) (ok2 (a + 6 + 1) (by omega) (by omega))).2
  have cd : canD h (txt σ d n) a ↔ (numN (txt σ d n) (a + 1) 1 < h 0 0 ∧ numN (txt σ d n) (a + 2) 1 < h 0 1 ∧ numN (txt σ d n) (a + 3) 1 < h 0 2 ∧ numN (txt σ d n) (a + 4) 2 ≤ 60 ∧ numN (txt σ d n) (a + 6) 2 ≤ 60 ∧ splN h (numN (txt σ d n) (a + 1) 1) = 0) := by
    unfold canD
    constructor
    · intro q
      rcases q with ⟨q, -⟩ | ⟨q, -⟩ | ⟨q, -⟩ | ⟨-, q⟩
      · omega
      · omega
      · omega
      · exact q
    · exact fun q => Or.inr (Or.inr (Or.inr ⟨c4, q⟩))
  unfold fX11_isTriedOnSpare
  rw [nI_1, show nI a + 2 = nI (a + 2) from nI_add a 2, show nI a + 3 = nI (a + 3) from nI_add a 3, show nI a + 4 = nI (a + 4) from nI_add a 4, show nI a + 6 = nI (a + 6) from nI_add a 6, digitAt_c hT e8 e9 (by omega) (ok2 _ (by omega) (by omega)), bd_s, digitAt_c hT e8 e9 (by omega) (ok2 _ (by omega) (by omega)), bd_s, digitAt_c hT e8 e9 (by omega) (ok2 _ (by omega) (by omega)), bd_s, twoAt_c hT e8 e9 (by omega) (ok2 _ (by omega) (by omega)) (ok2 _ (by omega) (by omega)), bd_s, twoAt_c hT e8 e9 (by omega) (ok2 _ (by omega) (by omega)) (ok2 _ (by omega) (by omega)), bd_s]
  have ea : aftD h (txt σ d n) a = weN h (numN (txt σ d n) (a + 1) 1) (wsp (h 7 (numN (txt σ d n) (a + 3) 1)) (h 8 (numN (txt σ d n) (a + 3) 1)) (numN (txt σ d n) (a + 6) 2)) := (if_neg c1).trans ((if_neg c2).trans (if_neg c3))
  rw [ea]
  generalize numN (txt σ d n) (a + 1) 1 = n0 at g1 cd ⊢
  generalize numN (txt σ d n) (a + 2) 1 = n1 at g2 cd ⊢
  generalize numN (txt σ d n) (a + 3) 1 = n2 at g3 cd ⊢
  generalize numN (txt σ d n) (a + 4) 2 = n3 at g4 cd ⊢
  generalize numN (txt σ d n) (a + 6) 2 = n4 at g5 cd ⊢
  have o6 := hO.1
  have o2 := hO.2.2.1
  have all : fX3_hasAll τ 2 (nI n0) (nI n1) (nI n2) = some (if n0 < h 0 0 ∧ n1 < h 0 1 ∧ n2 < h 0 2 then 1 else 0) := by
    have o4 := hO.2.1
    have has : ∀ (m c : Nat) (g : Int32), m < 1000 → c < 1000 → g = nI c → (if nI m < 0 then some (0 : Int32) else if g ≤ nI m then some 0 else some 1) = some (if m < c then 1 else 0) := fun m c g hm hc eg => by
      rw [eg, if_neg (nI_pos (by omega))]
      by_cases q : m < c
      · rw [if_neg (nI_ge q (by omega)), if_pos q]
      · rw [if_pos (nI_le (by omega) (by omega)), if_neg q]
    unfold fX3_hasAll fX3_hasBlade fX3_hasThumbs fX3_hasBlow
    rw [has n0 (h 0 0) _ (by omega) (by omega) hC.1, has n1 (h 0 1) _ (by omega) (by omega) hC.2.1, has n2 (h 0 2) _ (by omega) (by omega) hC.2.2.1]
    by_cases u1 : n0 < h 0 0
    · by_cases u2 : n1 < h 0 1
      · by_cases u3 : n2 < h 0 2
        · rw [if_pos u1, if_pos u2, if_pos u3, show (if n0 < h 0 0 ∧ n1 < h 0 1 ∧ n2 < h 0 2 then (1 : Int32) else 0) = 1 from if_pos ⟨u1, u2, u3⟩]
          rfl
        · rw [if_pos u1, if_pos u2, if_neg u3, show (if n0 < h 0 0 ∧ n1 < h 0 1 ∧ n2 < h 0 2 then (1 : Int32) else 0) = 0 from if_neg (fun q => u3 q.2.2)]
          rfl
      · rw [if_pos u1, if_neg u2, show (if n0 < h 0 0 ∧ n1 < h 0 1 ∧ n2 < h 0 2 then (1 : Int32) else 0) = 0 from if_neg (fun q => u2 q.2.1)]
        rfl
    · rw [if_neg u1, show (if n0 < h 0 0 ∧ n1 < h 0 1 ∧ n2 < h 0 2 then (1 : Int32) else 0) = 0 from if_neg (fun q => u1 q.1)]
      rfl
  by_cases u : n0 < h 0 0 ∧ n1 < h 0 1 ∧ n2 < h 0 2
  rotate_left
  · rw [if_neg u] at all
    rw [all, bd_s, if_pos rfl, bd_s]
    dsimp only
    rw [ck_t (Or.inl rfl)]
    exact Or.inr ⟨fun q => u ⟨(cd.mp q).1, (cd.mp q).2.1, (cd.mp q).2.2.1⟩, τ, rfl, hS⟩
  rw [if_pos u] at all
  obtain ⟨u1, u2, u3⟩ := u
  have t3 := isOut60 (σ := τ) (n := n3) (by omega)
  have t4 := isOut60 (σ := τ) (n := n4) (by omega)
  rw [all, bd_s, if_neg (by decide)]
  by_cases v3 : n3 ≤ 60
  rotate_left
  · rw [if_neg v3] at t3
    rw [t3, bd_s, if_neg (by decide), bd_s]
    dsimp only
    rw [ck_t (Or.inl rfl)]
    exact Or.inr ⟨fun q => v3 (cd.mp q).2.2.2.1, τ, rfl, hS⟩
  rw [if_pos v3] at t3
  rw [t3, bd_s, if_pos rfl]
  by_cases v4 : n4 ≤ 60
  rotate_left
  · rw [if_neg v4] at t4
    rw [t4, bd_s, if_neg (by decide), bd_s]
    dsimp only
    rw [ck_t (Or.inl rfl)]
    exact Or.inr ⟨fun q => v4 (cd.mp q).2.2.2.2.1, τ, rfl, hS⟩
  rw [if_pos v4] at t4
  rw [t4, bd_s, if_pos rfl, splN_c hC hO u1, bd_s]
  rcases splN_01 h n0 with s0 | s0
  rotate_left
  · rw [s0, if_neg (by decide), bd_s]
    dsimp only
    rw [ck_t (Or.inl rfl)]
    exact Or.inr ⟨fun q => by have := (cd.mp q).2.2.2.2.2; omega, τ, rfl, hS⟩
  obtain ⟨j, j1, j2⟩ := hC.2.2.2.2.2 n2 u3
  rw [s0, if_pos nI_0, ck_t (in6 (by omega)), ck_t (in6 (by omega)), nI_clamp (by omega), j1, bd_s, ck_t ⟨j2.1, okc_of j2⟩, wear_c j2 (hO.2.2.2.2.2 n2 u3).1 v4, bd_s, ck_t (in6 (by omega)), nI_clamp (by omega), (hC.2.2.2.1 n0 u1).2.2.2, nI_add, nmv_s, bd_s]
  dsimp only
  rw [ck_t (Or.inr rfl)]
  exact Or.inl ⟨cd.mpr ⟨u1, u2, u3, v3, v4, s0⟩, _, rfl, Sp4_of2 hS (Sp2_sI (Sp2_refl hR) (by omega)), we_c hC⟩
