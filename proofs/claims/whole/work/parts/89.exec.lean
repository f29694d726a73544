/-- the numbers of a good statement are small -/
theorem aftD_ok {h : Hg} (hO : OkH h) {X : Nat → Nat} {a : Nat} (ok : SOK X a) (cd : canD h X a) : OkH (aftD h X a) := by
  obtain ⟨ok1, ok2, -⟩ := ok
  unfold aftD
  rcases cd with ⟨c, q1, q2, q3⟩ | ⟨c, q1, q2⟩ | ⟨c, q1, q2⟩ | ⟨c, q1, q2, q3, q4, q5, q6⟩
  · have kk : kd (X a) = 5 := if_pos c
    rw [kk] at ok2
    rw [if_pos c]
    exact addB_ok hO q3 q1 q2 (num1 (ok2 (a + 5) (by omega) (by omega))).2
  · have kk : kd (X a) = 2 := by unfold kd; rw [if_neg (by omega), if_pos c]
    rw [kk] at ok2
    rw [if_neg (by omega), if_pos c]
    exact addK_ok hO q2 (by omega) (num1 (ok2 (a + 2) (by omega) (by omega))).2
  · have kk : kd (X a) = 3 := by unfold kd; rw [if_neg (by omega), if_neg (by omega), if_pos c]
    rw [kk] at ok2
    rw [if_neg (by omega), if_neg (by omega), if_pos c]
    exact addT_ok hO q2 (num1 (ok2 (a + 1) (by omega) (by omega))).2 q1
  · rw [if_neg (by omega), if_neg (by omega), if_neg (by omega)]
    have wl : wsp (h 7 (numN X (a + 3) 1)) (h 8 (numN X (a + 3) 1)) (numN X (a + 6) 2) ≤ 15 := wsp_le (hO.2.2.2.2.2 _ q3).2 q5
    obtain ⟨-, ⟨-, r1⟩, r2, -⟩ := hO.2.2.2.1 _ q1
    have := spl_le q6
    exact we_ok hO (by omega)
/-- the hedge after i statements -/
def exH (h : Hg) (X : Nat → Nat) : Nat → Hg
  | 0 => h
  | i + 1 => aftD (exH h X i) X (aN X i)
/-- but for the model's row 0 -/
def M0 (υ υ' : St) : Prop := (∀ c i, ¬ (c = 12 ∧ i = 0) → gI υ' c i = gI υ c i) ∧ gR υ' = gR υ ∧ gS υ' = gS υ
theorem M0_sI {υ υ' : St} {j : Nat} {v : Int32} (h : M0 υ υ') : M0 υ (sI υ' 12 0 j v) := ⟨fun c i q => by rw [gsI_n q]; exact h.1 c i q, h.2.1, h.2.2⟩
theorem M0_refl {υ : St} : M0 υ υ := ⟨fun _ _ _ => rfl, rfl, rfl⟩
theorem eqN {a b : Nat} (ha : a < 1000) (hb : b < 1000) {α : Type} {x y : α} : (if nI a = nI b then x else y) = if a = b then x else y := by
  by_cases c : a = b
  · rw [if_pos c, if_pos (congrArg nI c)]
  · rw [if_neg c, if_neg (fun q => c ((nI_eq (by omega) (by omega)).mp q))]
theorem ltN {a b : Nat} (ha : a < 1000) (hb : b < 1000) {α : Type} {x y : α} : (if nI a < nI b then x else y) = if a < b then x else y := by
  by_cases c : a < b
  · rw [if_pos c, if_pos (nI_lt c (by omega))]
  · rw [if_neg c, if_neg (nI_nlt (by omega) (by omega))]
theorem areAll_m {υ : St} {h : Hg} (hM : RelM υ 0 h) (hO : OkH h) {b t k : Nat} (hb : b < 1000) (ht : t < 1000) (hk : k < 1000) : (b < h 0 0 ∧ t < h 0 1 ∧ k < h 0 2 ∧ fX12_areAll υ (nI b) (nI t) (nI k) = some 1) ∨ (¬ (b < h 0 0 ∧ t < h 0 1 ∧ k < h 0 2) ∧ fX12_areAll υ (nI b) (nI t) (nI k) = some 0) := by
  have o6 := hO.1
  have o4 := hO.2.1
  have o2 := hO.2.2.1
  have ix : ∀ (a n : Nat), n ≤ 6 → a < 1000 → (a < n ∧ fX12_isIn υ (nI a) 0 (nI n - 1) = some 1) ∨ (¬ a < n ∧ fX12_isIn υ (nI a) 0 (nI n - 1) = some 0) := fun a n hn ha => by
    rcases idx_s (σ := υ) (n := n) (nI a) (by omega) with ⟨⟨j, hj, e⟩, q⟩ | ⟨q, q2⟩
    · have := (nI_eq (by omega) (by omega)).mp e
      exact Or.inl ⟨by omega, q⟩
    · exact Or.inr ⟨fun c => q a c rfl, q2⟩
  unfold fX12_areAll fX12_isBlade fX12_isThumbs fX12_isBlow
  rw [ck_t (show vp_in 0 47 from in47 (k := 0) (by omega)), ck_t (show vp_in 1 47 from in47 (k := 1) (by omega)), ck_t (show vp_in 2 47 from in47 (k := 2) (by omega)), show gI υ 12 0 (0 : Int32).toNatClampNeg = nI (h 0 0) from hM.1, show gI υ 12 0 (1 : Int32).toNatClampNeg = nI (h 0 1) from hM.2.1, show gI υ 12 0 (2 : Int32).toNatClampNeg = nI (h 0 2) from hM.2.2.1]
  rcases ix b (h 0 0) o6 hb with ⟨u1, v1⟩ | ⟨u1, v1⟩
  · rcases ix t (h 0 1) (by omega) ht with ⟨u2, v2⟩ | ⟨u2, v2⟩
    · rcases ix k (h 0 2) o2 hk with ⟨u3, v3⟩ | ⟨u3, v3⟩
      · refine Or.inl ⟨u1, u2, u3, ?_⟩
        simp only [v1, v2, v3, bd_s, ck_t (show (1 : Int32) = 0 ∨ True from Or.inr trivial), ck_t (show True ∨ (0 : Int32) = 1 from Or.inl trivial), if_neg (show ¬ (1 : Int32) = 0 by decide), if_true]
      · refine Or.inr ⟨fun q => u3 q.2.2, ?_⟩
        simp only [v1, v2, v3, bd_s, ck_t (show (1 : Int32) = 0 ∨ True from Or.inr trivial), ck_t (show True ∨ (0 : Int32) = 1 from Or.inl trivial), if_neg (show ¬ (1 : Int32) = 0 by decide), if_true]
    · refine Or.inr ⟨fun q => u2 q.2.1, ?_⟩
      simp only [v1, v2, bd_s, ck_t (show (1 : Int32) = 0 ∨ True from Or.inr trivial), ck_t (show True ∨ (0 : Int32) = 1 from Or.inl trivial), if_neg (show ¬ (1 : Int32) = 0 by decide), if_true]
  · refine Or.inr ⟨fun q => u1 q.1, ?_⟩
    simp only [v1, bd_s, ck_t (show (1 : Int32) = 0 ∨ True from Or.inr trivial), ck_t (show True ∨ (0 : Int32) = 1 from Or.inl trivial), if_neg (show ¬ (1 : Int32) = 0 by decide), if_true]
theorem done_m {υ : St} {h : Hg} (hM : RelM υ 0 h) (hO : OkH h) {X : Nat → Nat} {a : Nat} (hX : X a < 257) (ok : SOK X a) (hN : stN X a (gI υ 12 8)) : (canD h X a ∧ ∃ υ', fX12_isDone υ (uns (X a)) = some (1, υ') ∧ RelM υ' 0 (aftD h X a) ∧ M0 υ υ') ∨ (¬ canD h X a ∧ fX12_isDone υ (uns (X a)) = some (0, υ)) := by
  obtain ⟨-, -, -, -, -, u1, u2, u3, u4, -⟩ := sgn_fin _ hX
  obtain ⟨ok1, ok2, -⟩ := ok
  obtain ⟨n1, n2, n3, n4⟩ := hN
  have o6 := hO.1
  have o4 := hO.2.1
  have o2 := hO.2.2.1
  have v0 : vp_in 0 5 := pk_in 0 5 (by omega) rfl (by omega)
  have v1 : vp_in 1 5 := pk_in 1 5 (by omega) rfl (by omega)
  have v2 : vp_in 2 5 := pk_in 2 5 (by omega) rfl (by omega)
  have v3 : vp_in 3 5 := pk_in 3 5 (by omega) rfl (by omega)
  have v4 : vp_in 4 5 := pk_in 4 5 (by omega) rfl (by omega)
  unfold fX12_isDone
  rw [ck_t v0, nmv_s, ck_t v1, nmv_s, show (0 : Int32).toNatClampNeg = 0 from rfl, show (1 : Int32).toNatClampNeg = 1 from rfl, show (2 : Int32).toNatClampNeg = 2 from rfl, show (3 : Int32).toNatClampNeg = 3 from rfl, show (4 : Int32).toNatClampNeg = 4 from rfl]
  by_cases c1 : X a = 98
  · have kk : kd (X a) = 5 := if_pos c1
    rw [kk] at ok2
    obtain ⟨m0, m1, m2⟩ := n1 c1
    have g1 := (num2 (ok2 (a + 1) (by omega) (by omega)) (ok2 (a + 1 + 1) (by omega) (by omega))).2
    have g2 := (num2 (ok2 (a + 3) (by omega) (by omega)) (ok2 (a + 3 + 1) (by omega) (by omega))).2
    have g3 := (num1 (ok2 (a + 5) (by omega) (by omega))).2
    have cd : canD h X a ↔ ((1 ≤ numN X (a + 1) 2 ∧ numN X (a + 1) 2 ≤ 24) ∧ (1 ≤ numN X (a + 3) 2 ∧ numN X (a + 3) 2 ≤ 24) ∧ h 0 0 < 6) := by
      unfold canD
      constructor
      · intro q
        rcases q with ⟨-, q⟩ | ⟨q, -⟩ | ⟨q, -⟩ | ⟨q, -⟩
        · exact q
        · omega
        · omega
        · omega
      · exact fun q => Or.inl ⟨c1, q⟩
    have ea : aftD h X a = addB h (numN X (a + 1) 2) (numN X (a + 3) 2) (numN X (a + 5) 1) := if_pos c1
    rw [if_pos (u1.mpr c1), ck_t v2, m0, m1, m2, ea]
    generalize numN X (a + 1) 2 = w1 at g1 cd ⊢
    generalize numN X (a + 3) 2 = w2 at g2 cd ⊢
    generalize numN X (a + 5) 1 = w3 at g3 cd ⊢
    have t1 : fX12_isIn υ (nI w1) 1 24 = some (if 1 ≤ w1 ∧ w1 ≤ 24 then 1 else 0) := isIn_n (a := 1) (b := 24) (by omega) (by omega) (by omega)
    have t2 : fX12_isIn υ (nI w2) 1 24 = some (if 1 ≤ w2 ∧ w2 ≤ 24 then 1 else 0) := isIn_n (a := 1) (b := 24) (by omega) (by omega) (by omega)
    have t3 : fX12_isIn υ (nI w3) 0 9 = some (if 0 ≤ w3 ∧ w3 ≤ 9 then 1 else 0) := isIn_n (a := 0) (b := 9) (by omega) (by omega) (by omega)
    rw [if_pos ⟨Nat.zero_le _, g3⟩] at t3
    unfold fX12_isBladeLike
    by_cases d1 : 1 ≤ w1 ∧ w1 ≤ 24
    rotate_left
    · rw [if_neg d1] at t1
      rw [t1, bd_s, if_pos rfl, bd_s, if_pos rfl]
      exact Or.inr ⟨fun q => d1 (cd.mp q).1, rfl⟩
    rw [if_pos d1] at t1
    rw [t1, bd_s, if_neg (by decide)]
    by_cases d2 : 1 ≤ w2 ∧ w2 ≤ 24
    rotate_left
    · rw [if_neg d2] at t2
      rw [t2, bd_s, if_pos rfl, bd_s, if_pos rfl]
      exact Or.inr ⟨fun q => d2 (cd.mp q).2.1, rfl⟩
    rw [if_pos d2] at t2
    rw [t2, bd_s, if_neg (by decide), t3, bd_s, if_neg (by decide), bd_s, if_neg (by decide), ck_t (show vp_in 0 47 from in47 (k := 0) (by omega)), hM.1]
    by_cases d3 : h 0 0 = 6
    · rw [if_pos (show nI (h 0 0) = (6 : Int32) from congrArg nI d3)]
      exact Or.inr ⟨fun q => by have := (cd.mp q).2.2; omega, rfl⟩
    · rw [if_neg (show ¬ nI (h 0 0) = (6 : Int32) from fun q : _ = nI 6 => d3 ((nI_eq (by omega) (by omega)).mp q)), ck_t v2, addsB_m hM.1 (by omega), bd_s]
      exact Or.inl ⟨cd.mpr ⟨d1, d2, by omega⟩, _, rfl, addB_m hM (by omega) rfl, M0_sI (M0_sI (M0_sI (M0_sI (M0_sI M0_refl))))⟩
  rw [if_neg (fun q => c1 (u1.mp q))]
  by_cases c2 : X a = 107
  · have kk : kd (X a) = 2 := by unfold kd; rw [if_neg c1, if_pos c2]
    rw [kk] at ok2
    obtain ⟨m0, m1⟩ := n2 c2
    have g1 := (num1 (ok2 (a + 1) (by omega) (by omega))).2
    have g2 := (num1 (ok2 (a + 2) (by omega) (by omega))).2
    have cd : canD h X a ↔ (numN X (a + 1) 1 < 8 ∧ h 0 2 < 6) := by
      unfold canD
      constructor
      · intro q
        rcases q with ⟨q, -⟩ | ⟨-, q⟩ | ⟨q, -⟩ | ⟨q, -⟩
        · omega
        · exact q
        · omega
        · omega
      · exact fun q => Or.inr (Or.inl ⟨c2, q⟩)
    have ea : aftD h X a = addK h (numN X (a + 1) 1) (numN X (a + 2) 1) := (if_neg c1).trans (if_pos c2)
    rw [if_pos (u2.mpr c2), m0, m1, ea]
    generalize numN X (a + 1) 1 = w1 at g1 cd ⊢
    generalize numN X (a + 2) 1 = w2 at g2 cd ⊢
    by_cases d1 : 8 ≤ w1
    · rw [if_pos (show (8 : Int32) ≤ nI w1 from nI_le (a := 8) d1 (by omega))]
      exact Or.inr ⟨fun q => by have := (cd.mp q).1; omega, rfl⟩
    · rw [if_neg (show ¬ (8 : Int32) ≤ nI w1 from nI_ge (b := 8) (by omega) (by omega)), ck_t (show vp_in 2 47 from in47 (k := 2) (by omega)), hM.2.2.1]
      by_cases d3 : h 0 2 = 6
      · rw [if_pos (show nI (h 0 2) = (6 : Int32) from congrArg nI d3)]
        exact Or.inr ⟨fun q => by have := (cd.mp q).2; omega, rfl⟩
      · rw [if_neg (show ¬ nI (h 0 2) = (6 : Int32) from fun q : _ = nI 6 => d3 ((nI_eq (by omega) (by omega)).mp q)), addsK_m hM.2.2.1 (by omega), bd_s]
        exact Or.inl ⟨cd.mpr ⟨by omega, by omega⟩, _, rfl, addK_m hM hO (by omega) rfl, M0_sI (M0_sI (M0_sI M0_refl))⟩
  rw [if_neg (fun q => c2 (u2.mp q))]
  by_cases c3 : X a = 116
  · have kk : kd (X a) = 3 := by unfold kd; rw [if_neg c1, if_neg c2, if_pos c3]
    rw [kk] at ok2
    obtain ⟨m0, m1⟩ := n3 c3
    have g1 := (num1 (ok2 (a + 1) (by omega) (by omega))).2
    have g2 := (num2 (ok2 (a + 2) (by omega) (by omega)) (ok2 (a + 2 + 1) (by omega) (by omega))).2
    have cd : canD h X a ↔ (numN X (a + 2) 2 ≤ 60 ∧ h 0 1 < 4) := by
      unfold canD
      constructor
      · intro q
        rcases q with ⟨q, -⟩ | ⟨q, -⟩ | ⟨-, q⟩ | ⟨q, -⟩
        · omega
        · omega
        · exact q
        · omega
      · exact fun q => Or.inr (Or.inr (Or.inl ⟨c3, q⟩))
    have ea : aftD h X a = addT h (numN X (a + 1) 1) (numN X (a + 2) 2) := (if_neg c1).trans ((if_neg c2).trans (if_pos c3))
    rw [if_pos (u3.mpr c3), m0, m1, ea]
    generalize numN X (a + 1) 1 = w1 at g1 cd ⊢
    generalize numN X (a + 2) 2 = w2 at g2 cd ⊢
    by_cases d1 : 60 < w2
    · rw [if_pos (show (60 : Int32) < nI w2 from nI_lt (a := 60) d1 (by omega))]
      exact Or.inr ⟨fun q => by have := (cd.mp q).1; omega, rfl⟩
    · rw [if_neg (show ¬ (60 : Int32) < nI w2 from nI_nlt (a := 60) (by omega) (by omega)), ck_t (show vp_in 1 47 from in47 (k := 1) (by omega)), hM.2.1]
      by_cases d3 : h 0 1 = 4
      · rw [if_pos (show nI (h 0 1) = (4 : Int32) from congrArg nI d3)]
        exact Or.inr ⟨fun q => by have := (cd.mp q).2; omega, rfl⟩
      · rw [if_neg (show ¬ nI (h 0 1) = (4 : Int32) from fun q : _ = nI 4 => d3 ((nI_eq (by omega) (by omega)).mp q)), addsT_m hM.2.1 (by omega), bd_s]
        exact Or.inl ⟨cd.mpr ⟨by omega, by omega⟩, _, rfl, addT_m hM hO (by omega) rfl, M0_sI (M0_sI (M0_sI M0_refl))⟩
  rw [if_neg (fun q => c3 (u3.mp q))]
  have c4 : X a = 121 := by
    by_cases c : X a = 121
    · exact c
    · exact absurd (by unfold kd; rw [if_neg c1, if_neg c2, if_neg c3, if_neg c]) ok1
  have kk : kd (X a) = 7 := by unfold kd; rw [if_neg c1, if_neg c2, if_neg c3, if_pos c4]
  rw [kk] at ok2
  obtain ⟨m0, m1, m2, m3, m4⟩ := n4 c4
  have g1 := (num1 (ok2 (a + 1) (by omega) (by omega))).2
  have g2 := (num1 (ok2 (a + 2) (by omega) (by omega))).2
  have g3 := (num1 (ok2 (a + 3) (by omega) (by omega))).2
  have g4 := (num2 (ok2 (a + 4) (by omega) (by omega)) (ok2 (a + 4 + 1) (by omega) (by omega))).2
  have g5 := (num2 (ok2 (a + 6) (by omega) (by omega)) (ok2 (a + 6 + 1) (by omega) (by omega))).2
  have cd : canD h X a ↔ (numN X (a + 1) 1 < h 0 0 ∧ numN X (a + 2) 1 < h 0 1 ∧ numN X (a + 3) 1 < h 0 2 ∧ numN X (a + 4) 2 ≤ 60 ∧ numN X (a + 6) 2 ≤ 60 ∧ splN h (numN X (a + 1) 1) = 0) := by
    unfold canD
    constructor
    · intro q
      rcases q with ⟨q, -⟩ | ⟨q, -⟩ | ⟨q, -⟩ | ⟨-, q⟩
      · omega
      · omega
      · omega
      · exact q
    · exact fun q => Or.inr (Or.inr (Or.inr ⟨c4, q⟩))
  have ea : aftD h X a = weN h (numN X (a + 1) 1) (wsp (h 7 (numN X (a + 3) 1)) (h 8 (numN X (a + 3) 1)) (numN X (a + 6) 2)) := (if_neg c1).trans ((if_neg c2).trans (if_neg c3))
  rw [m0, m1, m2, m3, m4, ea]
  generalize numN X (a + 1) 1 = w0 at g1 cd ⊢
  generalize numN X (a + 2) 1 = w1 at g2 cd ⊢
  generalize numN X (a + 3) 1 = w2 at g3 cd ⊢
  generalize numN X (a + 4) 2 = w3 at g4 cd ⊢
  generalize numN X (a + 6) 2 = w4 at g5 cd ⊢
  rw [ck_t v2]
  rcases areAll_m hM hO (b := w0) (t := w1) (k := w2) (by omega) (by omega) (by omega) with ⟨x1, x2, x3, x4⟩ | ⟨x1, x4⟩
  rotate_left
  · rw [x4, bd_s, if_pos rfl]
    exact Or.inr ⟨fun q => x1 ⟨(cd.mp q).1, (cd.mp q).2.1, (cd.mp q).2.2.1⟩, rfl⟩
  rw [x4, bd_s, if_neg (by decide), ck_t v3]
  by_cases y3 : 60 < w3
  · rw [if_pos (show (60 : Int32) < nI w3 from nI_lt (a := 60) y3 (by omega))]
    exact Or.inr ⟨fun q => by have := (cd.mp q).2.2.2.1; omega, rfl⟩
  rw [if_neg (show ¬ (60 : Int32) < nI w3 from nI_nlt (a := 60) (by omega) (by omega)), ck_t v4]
  by_cases y4 : 60 < w4
  · rw [if_pos (show (60 : Int32) < nI w4 from nI_lt (a := 60) y4 (by omega))]
    exact Or.inr ⟨fun q => by have := (cd.mp q).2.2.2.2.1; omega, rfl⟩
  rw [if_neg (show ¬ (60 : Int32) < nI w4 from nI_nlt (a := 60) (by omega) (by omega)), splN_m hM hO x1, bd_s]
  rcases splN_01 h w0 with s0 | s0
  rotate_left
  · rw [s0, if_neg (by decide)]
    exact Or.inr ⟨fun q => by have := (cd.mp q).2.2.2.2.2; omega, rfl⟩
  rw [s0, if_pos nI_0, show fX12_atBlade υ (nI w0) 3 = some (nI (3 + 4 * w0 + 3)) from at_b (w := 3), bd_s, ck_t (in47 (by omega)), ck_t v2, ck_t v4, wear_m hM hO x3 (by omega), bd_s, ck_t (in47 (by omega)), nI_clamp (by omega), (hM.2.2.2.1 w0 x1).2.2.2, nI_add, nmv_s]
  exact Or.inl ⟨cd.mpr ⟨x1, x2, x3, by omega, by omega, s0⟩, _, rfl, we_m hM hO x1, M0_sI M0_refl⟩
