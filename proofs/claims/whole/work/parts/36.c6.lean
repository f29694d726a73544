/-- thumbs more -/
def addT (h : Hg) (sl gr : Nat) : Hg := fun c i => if c = 0 ∧ i = 1 then h 0 1 + 1 else if i = h 0 1 then (if c = 5 then sl else if c = 6 then gr else h c i) else h c i
theorem addT_00 {h : Hg} {sl gr : Nat} : addT h sl gr 0 1 = h 0 1 + 1 := rfl
theorem addT_x {h : Hg} {sl gr c i : Nat} (h0 : ¬ (c = 0 ∧ i = 1)) (hc : c < 5 ∨ 6 < c ∨ i ≠ h 0 1) : addT h sl gr c i = h c i := by
  unfold addT
  rw [if_neg h0]
  by_cases hi : i = h 0 1
  · rw [if_pos hi, if_neg (by omega), if_neg (by omega)]
  · rw [if_neg hi]
theorem addT_n {h : Hg} {sl gr : Nat} : addT h sl gr 5 (h 0 1) = sl ∧ addT h sl gr 6 (h 0 1) = gr := by
  refine ⟨?_, ?_⟩ <;> (unfold addT; rw [if_neg (by omega), if_pos rfl]; rfl)
theorem addT_ok {h : Hg} (hO : OkH h) {sl gr : Nat} (h4 : h 0 1 < 4) (h1 : sl ≤ 9) (h2 : gr ≤ 60) : OkH (addT h sl gr) := by
  obtain ⟨o0, o1, o2, o3, o4, o5⟩ := hO
  refine ⟨by rw [addT_x (by omega) (by omega)]; exact o0, by rw [addT_00]; omega, by rw [addT_x (by omega) (by omega)]; exact o2, fun b hb => ?_, fun t ht => ?_, fun k hk => ?_⟩
  · rw [addT_x (by omega) (by omega)] at hb
    rw [addT_x (by omega) (by omega), addT_x (by omega) (by omega), addT_x (by omega) (by omega), addT_x (by omega) (by omega)]
    exact o3 b hb
  · rw [addT_00] at ht
    by_cases e : t = h 0 1
    · subst e
      obtain ⟨e1, e2⟩ := addT_n (h := h) (sl := sl) (gr := gr)
      rw [e1, e2]
      exact ⟨h1, h2⟩
    · rw [addT_x (by omega) (Or.inr (Or.inr e)), addT_x (by omega) (Or.inr (Or.inr e))]
      exact o4 t (by omega)
  · rw [addT_x (by omega) (by omega)] at hk
    rw [addT_x (by omega) (by omega), addT_x (by omega) (by omega)]
    exact o5 k hk
theorem addT_c {σ σ' : St} {h : Hg} {x : Nat} (hC : RelC σ x h) {sl gr : Nat} (e0 : gI σ' 0 x = upd (gI σ 0 x) 5 (nI (h 0 1 + 1))) (e1 : gI σ' 1 x = gI σ 1 x) (e2 : gI σ' 2 x = gI σ 2 x) (e3 : gI σ' 3 x = gI σ 3 x) (e4 : gI σ' 4 x = gI σ 4 x) (e5 : gI σ' 5 x = upd (gI σ 5 x) (h 0 1) (nI sl)) (e6 : gI σ' 6 x = upd (gI σ 6 x) (h 0 1) (nI gr)) (e7 : gR σ' 0 x = gR σ 0 x) (e8 : ∀ j kd fg, Bl σ j kd fg → Bl σ' j kd fg) : RelC σ' x (addT h sl gr) := by
  obtain ⟨c0, c1, c2, c3, c4, c5⟩ := hC
  refine ⟨by rw [e0, pk_un (by omega), addT_x (by omega) (by omega)]; exact c0, by rw [e0, pk_us, addT_00], by rw [e0, pk_un (by omega), addT_x (by omega) (by omega)]; exact c2, fun b hb => ?_, fun t ht => ?_, fun k hk => ?_⟩
  · rw [addT_x (by omega) (by omega)] at hb
    rw [addT_x (by omega) (by omega), addT_x (by omega) (by omega), addT_x (by omega) (by omega), addT_x (by omega) (by omega), e1, e2, e3, e4]
    exact c3 b hb
  · rw [addT_00] at ht
    rw [e5, e6]
    by_cases e : t = h 0 1
    · subst e
      obtain ⟨f1, f2⟩ := addT_n (h := h) (sl := sl) (gr := gr)
      rw [f1, f2, pk_us, pk_us]
      exact ⟨rfl, rfl⟩
    · rw [addT_x (by omega) (Or.inr (Or.inr e)), addT_x (by omega) (Or.inr (Or.inr e)), pk_un e, pk_un e]
      exact c4 t (by omega)
  · rw [addT_x (by omega) (by omega)] at hk
    obtain ⟨j, q1, q2⟩ := c5 k hk
    rw [addT_x (by omega) (by omega), addT_x (by omega) (by omega), e7]
    exact ⟨j, q1, e8 _ _ _ q2⟩
theorem addT_m {σ σ' : St} {h : Hg} (hM : RelM σ 0 h) (hO : OkH h) {sl gr : Nat} (h4 : h 0 1 < 4) (e : gI σ' 12 0 = upd (upd (upd (gI σ 12 0) (27 + 2 * h 0 1) (nI sl)) (27 + 2 * h 0 1 + 1) (nI gr)) 1 (nI (h 0 1 + 1))) : RelM σ' 0 (addT h sl gr) := by
  have h6 := hO.1
  obtain ⟨c0, c1, c2, c3, c4, c5⟩ := hM
  unfold RelM
  rw [e]
  refine ⟨?_, by rw [pk_us, addT_00], ?_, fun b hb => ?_, fun t ht => ?_, fun k hk => ?_⟩
  · rw [addT_x (by omega) (by omega), pk_un (by omega), pk_un (by omega), pk_un (by omega)]
    exact c0
  · rw [addT_x (by omega) (by omega), pk_un (by omega), pk_un (by omega), pk_un (by omega)]
    exact c2
  · rw [addT_x (by omega) (by omega)] at hb
    rw [addT_x (by omega) (by omega), addT_x (by omega) (by omega), addT_x (by omega) (by omega), addT_x (by omega) (by omega)]
    obtain ⟨q1, q2, q3, q4⟩ := c3 b hb
    refine ⟨?_, ?_, ?_, ?_⟩
    · rw [pk_un (by omega), pk_un (by omega), pk_un (by omega)]; exact q1
    · rw [pk_un (by omega), pk_un (by omega), pk_un (by omega)]; exact q2
    · rw [pk_un (by omega), pk_un (by omega), pk_un (by omega)]; exact q3
    · rw [pk_un (by omega), pk_un (by omega), pk_un (by omega)]; exact q4
  · rw [addT_00] at ht
    by_cases e : t = h 0 1
    · subst e
      obtain ⟨f1, f2⟩ := addT_n (h := h) (sl := sl) (gr := gr)
      rw [f1, f2]
      refine ⟨?_, ?_⟩
      · rw [pk_un (by omega), pk_un (by omega), pk_us]
      · rw [pk_un (by omega), pk_us]
    · obtain ⟨q1, q2⟩ := c4 t (by omega)
      rw [addT_x (by omega) (Or.inr (Or.inr e)), addT_x (by omega) (Or.inr (Or.inr e))]
      refine ⟨?_, ?_⟩
      · rw [pk_un (by omega), pk_un (by omega), pk_un (by omega)]; exact q1
      · rw [pk_un (by omega), pk_un (by omega), pk_un (by omega)]; exact q2
  · rw [addT_x (by omega) (by omega)] at hk
    rw [addT_x (by omega) (by omega), addT_x (by omega) (by omega)]
    obtain ⟨q1, q2⟩ := c5 k hk
    refine ⟨?_, ?_⟩
    · rw [pk_un (by omega), pk_un (by omega), pk_un (by omega)]; exact q1
    · rw [pk_un (by omega), pk_un (by omega), pk_un (by omega)]; exact q2
theorem m1_n {τ : St} {j : Nat} {v : Int32} (hj : j ≠ 1) : gI (sI τ 12 0 j v) 12 0 1 = gI τ 12 0 1 := pk_un (Ne.symm hj)
theorem z1c : (1 : Int32).toNatClampNeg = 1 := rfl
theorem at_t {τ : St} {n w : Nat} : fX12_atThumbs τ (nI n) (nI w) = some (nI (27 + 2 * n + w)) := by
  unfold fX12_atThumbs
  have e : (27 : Int32) + 2 * nI n + nI w = nI (27 + 2 * n + w) := by
    show nI 27 + nI 2 * nI n + nI w = _
    rw [pk_mul, nI_add, nI_add]
  rw [e]
theorem addsT_m {τ : St} {n sl gr : Nat} (h0 : gI τ 12 0 1 = nI n) (hn : n < 4) : fX12_addsThumbs τ (nI sl) (nI gr) = some (sI (sI (sI τ 12 0 (27 + 2 * n) (nI sl)) 12 0 (27 + 2 * n + 1) (nI gr)) 12 0 1 (nI (n + 1))) := by
  have i0 : vp_in 1 47 := in47 (k := 1) (by omega)
  have g1 : gI (sI τ 12 0 (27 + 2 * n) (nI sl)) 12 0 1 = nI n := (m1_n (by omega)).trans h0
  have g2 : gI (sI (sI τ 12 0 (27 + 2 * n) (nI sl)) 12 0 (27 + 2 * n + 1) (nI gr)) 12 0 1 = nI n := (m1_n (by omega)).trans g1
  unfold fX12_addsThumbs
  rw [ck_t i0, z1c, h0, show fX12_atThumbs τ (nI n) 0 = some (nI (27 + 2 * n)) from at_t (w := 0), bd_s, ck_t (in47 (by omega)), nI_clamp (by omega), nmv_s]
  rw [ck_t i0, g1, show fX12_atThumbs _ (nI n) 1 = some (nI (27 + 2 * n + 1)) from at_t (w := 1), bd_s, ck_t (in47 (by omega)), nI_clamp (by omega), nmv_s]
  rw [ck_t i0, ck_t i0, g2, nI_1]
  rfl
theorem addT_f {σ : St} {n sl gr : Nat} (h0 : gI σ 0 0 5 = nI n) (hn : n < 4) (q1 : fX11_isOut σ (nI sl) 0 9 = some 0) (q2 : fX11_isOut σ (nI gr) 0 60 = some 0) : fX3_addThumbs σ 0 (nI sl) (nI gr) = some (nI n, sI (sI (sI σ 5 0 n (nI sl)) 6 0 n (nI gr)) 0 0 5 (nI (n + 1))) := by
  have i4 : vp_in (nI n) 4 := pk_in n 4 hn rfl (by omega)
  have hlt : nI n < 4 := nI_lt (b := 4) hn (by omega)
  unfold fX3_addThumbs
  rw [q1, bd_s, if_pos rfl, q2, bd_s, if_pos rfl, h0, if_pos hlt, ck_t i4, nI_clamp (by omega), nmv_s]
  rw [show gI (sI σ 5 0 n (nI sl)) 0 0 5 = nI n from h0, ck_t i4, nI_clamp (by omega), nmv_s]
  rw [show gI (sI (sI σ 5 0 n (nI sl)) 6 0 n (nI gr)) 0 0 5 = nI n from h0, nI_1, nmv_s]
/-- comes -/
theorem case6 : Case6 Inv := by
  intro σ hI a1 a2
  obtain ⟨⟨h, hO, hC, hM⟩, ⟨h1, O1, C1, M1⟩, I3, I4, I5, I6, I7, I8⟩ := id hI
  have h4 := hO.2.1
  rcases rng_s (σ := σ) (τ := σ) (M := 9) (n := 9) a1 (by omega) rfl with ⟨sl, s2, rfl, p1, p2⟩ | ⟨-, p1, p2⟩
  · rcases force_s (σ := σ) (τ := σ) a2 with ⟨gr, g2, rfl, q1, q2⟩ | ⟨-, q1, q2⟩
    · have i1 : vp_in 1 47 := in47 (k := 1) (by omega)
      by_cases hn : h 0 1 = 4
      · refine ⟨-2, σ, σ, ?_, ?_, hI⟩
        · unfold fX11_comes fX3_addThumbs
          rw [p2, bd_s, if_pos rfl, q2, bd_s, if_pos rfl, hC.2.1, hn, if_neg (by decide)]
          rfl
        · unfold fX12_comes
          rw [p1, bd_s, if_neg (by decide), q1, bd_s, if_neg (by decide), ck_t i1, z1c, hM.2.1, hn]
          rfl
      · have hn4 : h 0 1 < 4 := by omega
        refine ⟨nI (h 0 1), sI (sI (sI σ 5 0 (h 0 1) (nI sl)) 6 0 (h 0 1) (nI gr)) 0 0 5 (nI (h 0 1 + 1)), sI (sI (sI (sI (sI (sI σ 5 0 (h 0 1) (nI sl)) 6 0 (h 0 1) (nI gr)) 0 0 5 (nI (h 0 1 + 1))) 12 0 (27 + 2 * h 0 1) (nI sl)) 12 0 (27 + 2 * h 0 1 + 1) (nI gr)) 12 0 1 (nI (h 0 1 + 1)), ?_, ?_, ?_⟩
        · unfold fX11_comes
          rw [addT_f hC.2.1 hn4 p2 q2]
          rfl
        · unfold fX12_comes
          rw [show fX12_isIn (sI (sI (sI σ 5 0 (h 0 1) (nI sl)) 6 0 (h 0 1) (nI gr)) 0 0 5 (nI (h 0 1 + 1))) (nI sl) 0 9 = some 1 from p1, bd_s, if_neg (by decide), show fX12_isForce (sI (sI (sI σ 5 0 (h 0 1) (nI sl)) 6 0 (h 0 1) (nI gr)) 0 0 5 (nI (h 0 1 + 1))) (nI gr) = some 1 from q1, bd_s, if_neg (by decide), ck_t i1, z1c, show gI (sI (sI (sI σ 5 0 (h 0 1) (nI sl)) 6 0 (h 0 1) (nI gr)) 0 0 5 (nI (h 0 1 + 1))) 12 0 1 = nI (h 0 1) from hM.2.1, if_neg (show ¬ nI (h 0 1) = 4 from fun q => hn ((nI_eq (b := 4) (by omega) (by omega)).mp q)), addsT_m (τ := sI (sI (sI σ 5 0 (h 0 1) (nI sl)) 6 0 (h 0 1) (nI gr)) 0 0 5 (nI (h 0 1 + 1))) (n := h 0 1) hM.2.1 hn4, bd_s, ck_t i1]
          show some (nI (h 0 1 + 1) - 1, _) = _
          rw [nI_pred]
        · exact ⟨⟨addT h sl gr, addT_ok hO hn4 s2 g2, addT_c hC rfl rfl rfl rfl rfl rfl rfl rfl (fun _ _ _ q => q), addT_m (σ := sI (sI (sI σ 5 0 (h 0 1) (nI sl)) 6 0 (h 0 1) (nI gr)) 0 0 5 (nI (h 0 1 + 1))) hM hO hn4 rfl⟩, ⟨h1, O1, C1, M1⟩, I3, I4, I5, I6, I7, I8⟩
    · refine ⟨-1, σ, σ, ?_, ?_, hI⟩
      · unfold fX11_comes fX3_addThumbs
        rw [p2, q2]
        rfl
      · unfold fX12_comes
        rw [p1, q1]
        rfl
  · refine ⟨-1, σ, σ, ?_, ?_, hI⟩
    · unfold fX11_comes fX3_addThumbs
      rw [p2]
      rfl
    · unfold fX12_comes
      rw [p1]
      rfl
