/-- a blow more -/
def addK (h : Hg) (kd fg : Nat) : Hg := fun c i => if c = 0 ∧ i = 2 then h 0 2 + 1 else if i = h 0 2 then (if c = 7 then kd else if c = 8 then fg else h c i) else h c i
theorem addK_00 {h : Hg} {kd fg : Nat} : addK h kd fg 0 2 = h 0 2 + 1 := rfl
theorem addK_x {h : Hg} {kd fg c i : Nat} (h0 : ¬ (c = 0 ∧ i = 2)) (hc : c < 7 ∨ 8 < c ∨ i ≠ h 0 2) : addK h kd fg c i = h c i := by
  unfold addK
  rw [if_neg h0]
  by_cases hi : i = h 0 2
  · rw [if_pos hi, if_neg (by omega), if_neg (by omega)]
  · rw [if_neg hi]
theorem addK_n {h : Hg} {kd fg : Nat} : addK h kd fg 7 (h 0 2) = kd ∧ addK h kd fg 8 (h 0 2) = fg := by
  refine ⟨?_, ?_⟩ <;> (unfold addK; rw [if_neg (by omega), if_pos rfl]; rfl)
theorem addK_ok {h : Hg} (hO : OkH h) {kd fg : Nat} (h4 : h 0 2 < 6) (h1 : kd ≤ 7) (h2 : fg ≤ 9) : OkH (addK h kd fg) := by
  obtain ⟨o0, o1, o2, o3, o4, o5⟩ := hO
  refine ⟨by rw [addK_x (by omega) (by omega)]; exact o0, by rw [addK_x (by omega) (by omega)]; exact o1, by rw [addK_00]; omega, fun b hb => ?_, fun t ht => ?_, fun k hk => ?_⟩
  · rw [addK_x (by omega) (by omega)] at hb
    rw [addK_x (by omega) (by omega), addK_x (by omega) (by omega), addK_x (by omega) (by omega), addK_x (by omega) (by omega)]
    exact o3 b hb
  · rw [addK_x (by omega) (by omega)] at ht
    rw [addK_x (by omega) (by omega), addK_x (by omega) (by omega)]
    exact o4 t ht
  · rw [addK_00] at hk
    by_cases e : k = h 0 2
    · subst e
      obtain ⟨e1, e2⟩ := addK_n (h := h) (kd := kd) (fg := fg)
      rw [e1, e2]
      exact ⟨h1, h2⟩
    · rw [addK_x (by omega) (Or.inr (Or.inr e)), addK_x (by omega) (Or.inr (Or.inr e))]
      exact o5 k (by omega)
theorem addK_c {σ σ' : St} {h : Hg} {x : Nat} (hC : RelC σ x h) {kd fg j : Nat} (hb : Bl σ j kd fg) (e0 : gI σ' 0 x = upd (gI σ 0 x) 8 (nI (h 0 2 + 1))) (e1 : gI σ' 1 x = gI σ 1 x) (e2 : gI σ' 2 x = gI σ 2 x) (e3 : gI σ' 3 x = gI σ 3 x) (e4 : gI σ' 4 x = gI σ 4 x) (e5 : gI σ' 5 x = gI σ 5 x) (e6 : gI σ' 6 x = gI σ 6 x) (e7 : gR σ' 0 x = va_up (gR σ 0 x) (h 0 2) (some j)) (e8 : ∀ j kd fg, Bl σ j kd fg → Bl σ' j kd fg) : RelC σ' x (addK h kd fg) := by
  obtain ⟨c0, c1, c2, c3, c4, c5⟩ := hC
  refine ⟨by rw [e0, pk_un (by omega), addK_x (by omega) (by omega)]; exact c0, by rw [e0, pk_un (by omega), addK_x (by omega) (by omega)]; exact c1, by rw [e0, pk_us, addK_00], fun b hb => ?_, fun t ht => ?_, fun k hk => ?_⟩
  · rw [addK_x (by omega) (by omega)] at hb
    rw [addK_x (by omega) (by omega), addK_x (by omega) (by omega), addK_x (by omega) (by omega), addK_x (by omega) (by omega), e1, e2, e3, e4]
    exact c3 b hb
  · rw [addK_x (by omega) (by omega)] at ht
    rw [addK_x (by omega) (by omega), addK_x (by omega) (by omega), e5, e6]
    exact c4 t ht
  · rw [addK_00] at hk
    rw [e7]
    by_cases e : k = h 0 2
    · subst e
      obtain ⟨f1, f2⟩ := addK_n (h := h) (kd := kd) (fg := fg)
      rw [f1, f2]
      exact ⟨j, if_pos rfl, e8 _ _ _ hb⟩
    · obtain ⟨j', q1, q2⟩ := c5 k (by omega)
      rw [addK_x (by omega) (Or.inr (Or.inr e)), addK_x (by omega) (Or.inr (Or.inr e))]
      exact ⟨j', (if_neg e).trans q1, e8 _ _ _ q2⟩
theorem addK_m {σ σ' : St} {h : Hg} (hM : RelM σ 0 h) (hO : OkH h) {kd fg : Nat} (h4 : h 0 2 < 6) (e : gI σ' 12 0 = upd (upd (upd (gI σ 12 0) (35 + 2 * h 0 2) (nI kd)) (35 + 2 * h 0 2 + 1) (nI fg)) 2 (nI (h 0 2 + 1))) : RelM σ' 0 (addK h kd fg) := by
  have h6 := hO.1
  have h7 := hO.2.1
  obtain ⟨c0, c1, c2, c3, c4, c5⟩ := hM
  unfold RelM
  rw [e]
  refine ⟨?_, ?_, by rw [pk_us, addK_00], fun b hb => ?_, fun t ht => ?_, fun k hk => ?_⟩
  · rw [addK_x (by omega) (by omega), pk_un (by omega), pk_un (by omega), pk_un (by omega)]
    exact c0
  · rw [addK_x (by omega) (by omega), pk_un (by omega), pk_un (by omega), pk_un (by omega)]
    exact c1
  · rw [addK_x (by omega) (by omega)] at hb
    rw [addK_x (by omega) (by omega), addK_x (by omega) (by omega), addK_x (by omega) (by omega), addK_x (by omega) (by omega)]
    obtain ⟨q1, q2, q3, q4⟩ := c3 b hb
    refine ⟨?_, ?_, ?_, ?_⟩
    · rw [pk_un (by omega), pk_un (by omega), pk_un (by omega)]; exact q1
    · rw [pk_un (by omega), pk_un (by omega), pk_un (by omega)]; exact q2
    · rw [pk_un (by omega), pk_un (by omega), pk_un (by omega)]; exact q3
    · rw [pk_un (by omega), pk_un (by omega), pk_un (by omega)]; exact q4
  · rw [addK_x (by omega) (by omega)] at ht
    rw [addK_x (by omega) (by omega), addK_x (by omega) (by omega)]
    obtain ⟨q1, q2⟩ := c4 t ht
    refine ⟨?_, ?_⟩
    · rw [pk_un (by omega), pk_un (by omega), pk_un (by omega)]; exact q1
    · rw [pk_un (by omega), pk_un (by omega), pk_un (by omega)]; exact q2
  · rw [addK_00] at hk
    by_cases e : k = h 0 2
    · subst e
      obtain ⟨f1, f2⟩ := addK_n (h := h) (kd := kd) (fg := fg)
      rw [f1, f2]
      refine ⟨?_, ?_⟩
      · rw [pk_un (by omega), pk_un (by omega), pk_us]
      · rw [pk_un (by omega), pk_us]
    · obtain ⟨q1, q2⟩ := c5 k (by omega)
      rw [addK_x (by omega) (Or.inr (Or.inr e)), addK_x (by omega) (Or.inr (Or.inr e))]
      refine ⟨?_, ?_⟩
      · rw [pk_un (by omega), pk_un (by omega), pk_un (by omega)]; exact q1
      · rw [pk_un (by omega), pk_un (by omega), pk_un (by omega)]; exact q2
theorem m2_n {τ : St} {j : Nat} {v : Int32} (hj : j ≠ 2) : gI (sI τ 12 0 j v) 12 0 2 = gI τ 12 0 2 := pk_un (Ne.symm hj)
theorem z2c : (2 : Int32).toNatClampNeg = 2 := rfl
theorem at_k {τ : St} {n w : Nat} : fX12_atBlow τ (nI n) (nI w) = some (nI (35 + 2 * n + w)) := by
  unfold fX12_atBlow
  have e : (35 : Int32) + 2 * nI n + nI w = nI (35 + 2 * n + w) := by
    show nI 35 + nI 2 * nI n + nI w = _
    rw [pk_mul, nI_add, nI_add]
  rw [e]
theorem addsK_m {τ : St} {n kd fg : Nat} (h0 : gI τ 12 0 2 = nI n) (hn : n < 6) : fX12_addsBlow τ (nI kd) (nI fg) = some (sI (sI (sI τ 12 0 (35 + 2 * n) (nI kd)) 12 0 (35 + 2 * n + 1) (nI fg)) 12 0 2 (nI (n + 1))) := by
  have i0 : vp_in 2 47 := in47 (k := 2) (by omega)
  have g1 : gI (sI τ 12 0 (35 + 2 * n) (nI kd)) 12 0 2 = nI n := (m2_n (by omega)).trans h0
  have g2 : gI (sI (sI τ 12 0 (35 + 2 * n) (nI kd)) 12 0 (35 + 2 * n + 1) (nI fg)) 12 0 2 = nI n := (m2_n (by omega)).trans g1
  unfold fX12_addsBlow
  rw [ck_t i0, z2c, h0, show fX12_atBlow τ (nI n) 0 = some (nI (35 + 2 * n)) from at_k (w := 0), bd_s, ck_t (in47 (by omega)), nI_clamp (by omega), nmv_s]
  rw [ck_t i0, g1, show fX12_atBlow _ (nI n) 1 = some (nI (35 + 2 * n + 1)) from at_k (w := 1), bd_s, ck_t (in47 (by omega)), nI_clamp (by omega), nmv_s]
  rw [ck_t i0, ck_t i0, g2, nI_1]
  rfl
theorem addK_f {σ : St} {n j : Nat} (h0 : gI σ 0 0 8 = nI n) (hn : n < 6) (hj : j < gS σ 2 0 ∧ okc (gS σ 1 j)) : fX3_addBlow σ 0 (some j) = some (nI n, sI (sR σ 0 0 n (some j)) 0 0 8 (nI (n + 1))) := by
  have i6 : vp_in (nI n) 6 := pk_in n 6 hn rfl (by omega)
  have hlt : nI n < 6 := nI_lt (b := 6) hn (by omega)
  unfold fX3_addBlow
  show (if gI σ 0 0 8 < 6 then _ else _) = _
  rw [h0, if_pos hlt, ck_t i6, ck_t (fun j' e => by cases e; exact hj), nI_clamp (by omega), nmv_s, show gI (sR σ 0 0 n (some j)) 0 0 8 = nI n from h0, nI_1, nmv_s]
