theorem rng1_s {σ τ : St} {M : Int32} {n : Nat} (v : Int32) (hn : n < 2 ^ 30) (hM : M = nI n) : (∃ j, 1 ≤ j ∧ j ≤ n ∧ v = nI j ∧ fX12_isIn τ v 1 M = some 1 ∧ fX11_isOut σ v 1 M = some 0) ∨ (fX12_isIn τ v 1 M = some 0 ∧ fX11_isOut σ v 1 M = some 1) := by
  subst hM
  unfold fX12_isIn fX11_isOut
  by_cases h1 : v < 1
  · exact Or.inr ⟨by rw [if_pos h1], by rw [if_pos h1]⟩
  · have h1' : ¬ v < nI 1 := h1
    rcases ix3 v (n := n + 1) (by omega) with q | ⟨q, q2⟩ | ⟨j, hj, rfl⟩
    · exact absurd (Int32.lt_of_lt_of_le q (by decide)) h1
    · have h2 : nI n < v := Int32.lt_of_lt_of_le (nI_lt (by omega) (by omega)) q2
      exact Or.inr ⟨by rw [if_neg h1, if_pos h2], by rw [if_neg h1, if_neg (Int32.not_le.mpr h2)]⟩
    · have hj1 : 1 ≤ j := Nat.le_of_not_lt (fun q => h1' (nI_lt q (by omega)))
      refine Or.inl ⟨j, hj1, by omega, rfl, ?_, ?_⟩
      · rw [if_neg h1, if_neg (nI_nlt (by omega) (by omega))]
      · rw [if_neg h1, if_pos (nI_le (by omega) (by omega))]
/-- a blade more -/
def addB (h : Hg) (br ln wt : Nat) : Hg := fun c i => if c = 0 ∧ i = 0 then h 0 0 + 1 else if i = h 0 0 then (if c = 1 then br else if c = 2 then ln else if c = 3 then wt else if c = 4 then 0 else h c i) else h c i
theorem addB_00 {h : Hg} {br ln wt : Nat} : addB h br ln wt 0 0 = h 0 0 + 1 := rfl
theorem addB_x {h : Hg} {br ln wt c i : Nat} (h0 : ¬ (c = 0 ∧ i = 0)) (hc : c = 0 ∨ 4 < c ∨ i ≠ h 0 0) : addB h br ln wt c i = h c i := by
  unfold addB
  rw [if_neg h0]
  by_cases hi : i = h 0 0
  · rw [if_pos hi, if_neg (by omega), if_neg (by omega), if_neg (by omega), if_neg (by omega)]
  · rw [if_neg hi]
theorem addB_n {h : Hg} {br ln wt : Nat} : addB h br ln wt 1 (h 0 0) = br ∧ addB h br ln wt 2 (h 0 0) = ln ∧ addB h br ln wt 3 (h 0 0) = wt ∧ addB h br ln wt 4 (h 0 0) = 0 := by
  refine ⟨?_, ?_, ?_, ?_⟩ <;> (unfold addB; rw [if_neg (by omega), if_pos rfl]; rfl)
theorem addB_ok {h : Hg} (hO : OkH h) {br ln wt : Nat} (h6 : h 0 0 < 6) (h1 : 1 ≤ br ∧ br ≤ 24) (h2 : 1 ≤ ln ∧ ln ≤ 24) (h3 : wt ≤ 9) : OkH (addB h br ln wt) := by
  obtain ⟨o0, o1, o2, o3, o4, o5⟩ := hO
  refine ⟨by rw [addB_00]; omega, by rw [addB_x (by omega) (by omega)]; exact o1, by rw [addB_x (by omega) (by omega)]; exact o2, fun b hb => ?_, fun t ht => ?_, fun k hk => ?_⟩
  · rw [addB_00] at hb
    by_cases e : b = h 0 0
    · subst e
      obtain ⟨e1, e2, e3, e4⟩ := addB_n (h := h) (br := br) (ln := ln) (wt := wt)
      rw [e1, e2, e3, e4]
      exact ⟨h1, h2, h3, by omega⟩
    · rw [addB_x (by omega) (Or.inr (Or.inr e)), addB_x (by omega) (Or.inr (Or.inr e)), addB_x (by omega) (Or.inr (Or.inr e)), addB_x (by omega) (Or.inr (Or.inr e))]
      exact o3 b (by omega)
  · rw [addB_x (by omega) (by omega)] at ht
    rw [addB_x (by omega) (by omega), addB_x (by omega) (by omega)]
    exact o4 t ht
  · rw [addB_x (by omega) (by omega)] at hk
    rw [addB_x (by omega) (by omega), addB_x (by omega) (by omega)]
    exact o5 k hk
theorem addB_c {σ σ' : St} {h : Hg} {x : Nat} (hC : RelC σ x h) {br ln wt : Nat} (e0 : gI σ' 0 x = upd (gI σ 0 x) 0 (nI (h 0 0 + 1))) (e1 : gI σ' 1 x = upd (gI σ 1 x) (h 0 0) (nI br)) (e2 : gI σ' 2 x = upd (gI σ 2 x) (h 0 0) (nI ln)) (e3 : gI σ' 3 x = upd (gI σ 3 x) (h 0 0) (nI wt)) (e4 : gI σ' 4 x = upd (gI σ 4 x) (h 0 0) (nI 0)) (e5 : gI σ' 5 x = gI σ 5 x) (e6 : gI σ' 6 x = gI σ 6 x) (e7 : gR σ' 0 x = gR σ 0 x) (e8 : ∀ j kd fg, Bl σ j kd fg → Bl σ' j kd fg) : RelC σ' x (addB h br ln wt) := by
  obtain ⟨c0, c1, c2, c3, c4, c5⟩ := hC
  refine ⟨by rw [e0, pk_us, addB_00], by rw [e0, pk_un (by omega), addB_x (by omega) (by omega)]; exact c1, by rw [e0, pk_un (by omega), addB_x (by omega) (by omega)]; exact c2, fun b hb => ?_, fun t ht => ?_, fun k hk => ?_⟩
  · rw [addB_00] at hb
    rw [e1, e2, e3, e4]
    by_cases e : b = h 0 0
    · subst e
      obtain ⟨f1, f2, f3, f4⟩ := addB_n (h := h) (br := br) (ln := ln) (wt := wt)
      rw [f1, f2, f3, f4, pk_us, pk_us, pk_us, pk_us]
      exact ⟨rfl, rfl, rfl, rfl⟩
    · rw [addB_x (by omega) (Or.inr (Or.inr e)), addB_x (by omega) (Or.inr (Or.inr e)), addB_x (by omega) (Or.inr (Or.inr e)), addB_x (by omega) (Or.inr (Or.inr e)), pk_un e, pk_un e, pk_un e, pk_un e]
      exact c3 b (by omega)
  · rw [addB_x (by omega) (by omega)] at ht
    rw [addB_x (by omega) (by omega), addB_x (by omega) (by omega), e5, e6]
    exact c4 t ht
  · rw [addB_x (by omega) (by omega)] at hk
    obtain ⟨j, q1, q2⟩ := c5 k hk
    rw [addB_x (by omega) (by omega), addB_x (by omega) (by omega), e7]
    exact ⟨j, q1, e8 _ _ _ q2⟩
theorem addB_m {σ σ' : St} {h : Hg} (hM : RelM σ 0 h) {br ln wt : Nat} (h6 : h 0 0 < 6) (e : gI σ' 12 0 = upd (upd (upd (upd (upd (gI σ 12 0) (3 + 4 * h 0 0) (nI br)) (3 + 4 * h 0 0 + 1) (nI ln)) (3 + 4 * h 0 0 + 2) (nI wt)) (3 + 4 * h 0 0 + 3) (nI 0)) 0 (nI (h 0 0 + 1))) : RelM σ' 0 (addB h br ln wt) := by
  obtain ⟨c0, c1, c2, c3, c4, c5⟩ := hM
  unfold RelM
  rw [e]
  refine ⟨by rw [pk_us, addB_00], ?_, ?_, fun b hb => ?_, fun t ht => ?_, fun k hk => ?_⟩
  · rw [addB_x (by omega) (by omega)]
    repeat rw [pk_un (by omega)]
    exact c1
  · rw [addB_x (by omega) (by omega)]
    repeat rw [pk_un (by omega)]
    exact c2
  · rw [addB_00] at hb
    by_cases e : b = h 0 0
    · subst e
      obtain ⟨f1, f2, f3, f4⟩ := addB_n (h := h) (br := br) (ln := ln) (wt := wt)
      rw [f1, f2, f3, f4]
      refine ⟨?_, ?_, ?_, ?_⟩
      · rw [pk_un (by omega), pk_un (by omega), pk_un (by omega), pk_un (by omega), pk_us]
      · rw [pk_un (by omega), pk_un (by omega), pk_un (by omega), pk_us]
      · rw [pk_un (by omega), pk_un (by omega), pk_us]
      · rw [pk_un (by omega), pk_us]
    · obtain ⟨q1, q2, q3, q4⟩ := c3 b (by omega)
      rw [addB_x (by omega) (Or.inr (Or.inr e)), addB_x (by omega) (Or.inr (Or.inr e)), addB_x (by omega) (Or.inr (Or.inr e)), addB_x (by omega) (Or.inr (Or.inr e))]
      refine ⟨?_, ?_, ?_, ?_⟩
      · rw [pk_un (by omega), pk_un (by omega), pk_un (by omega), pk_un (by omega), pk_un (by omega)]; exact q1
      · rw [pk_un (by omega), pk_un (by omega), pk_un (by omega), pk_un (by omega), pk_un (by omega)]; exact q2
      · rw [pk_un (by omega), pk_un (by omega), pk_un (by omega), pk_un (by omega), pk_un (by omega)]; exact q3
      · rw [pk_un (by omega), pk_un (by omega), pk_un (by omega), pk_un (by omega), pk_un (by omega)]; exact q4
  · rw [addB_x (by omega) (by omega)] at ht
    rw [addB_x (by omega) (by omega), addB_x (by omega) (by omega)]
    obtain ⟨q1, q2⟩ := c4 t ht
    refine ⟨?_, ?_⟩
    · rw [pk_un (by omega), pk_un (by omega), pk_un (by omega), pk_un (by omega), pk_un (by omega)]; exact q1
    · rw [pk_un (by omega), pk_un (by omega), pk_un (by omega), pk_un (by omega), pk_un (by omega)]; exact q2
  · rw [addB_x (by omega) (by omega)] at hk
    rw [addB_x (by omega) (by omega), addB_x (by omega) (by omega)]
    obtain ⟨q1, q2⟩ := c5 k hk
    refine ⟨?_, ?_⟩
    · rw [pk_un (by omega), pk_un (by omega), pk_un (by omega), pk_un (by omega), pk_un (by omega)]; exact q1
    · rw [pk_un (by omega), pk_un (by omega), pk_un (by omega), pk_un (by omega), pk_un (by omega)]; exact q2
