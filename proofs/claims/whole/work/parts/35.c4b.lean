theorem gsI_n {σ : St} {c i j c' i' : Nat} {v : Int32} (h : ¬ (c' = c ∧ i' = i)) : gI (sI σ c i j v) c' i' = gI σ c' i' := if_neg h
theorem m0_n {τ : St} {j : Nat} {v : Int32} (hj : j ≠ 0) : gI (sI τ 12 0 j v) 12 0 0 = gI τ 12 0 0 := pk_un (Ne.symm hj)
theorem z0c : (0 : Int32).toNatClampNeg = 0 := rfl
theorem at_b {τ : St} {n w : Nat} : fX12_atBlade τ (nI n) (nI w) = some (nI (3 + 4 * n + w)) := by
  unfold fX12_atBlade
  have e : (3 : Int32) + 4 * nI n + nI w = nI (3 + 4 * n + w) := by
    show nI 3 + nI 4 * nI n + nI w = _
    rw [pk_mul, nI_add, nI_add]
  rw [e]
theorem addsB_m {τ : St} {n br ln wt : Nat} (h0 : gI τ 12 0 0 = nI n) (hn : n < 6) : fX12_addsBlade τ (nI br) (nI ln) (nI wt) = some (sI (sI (sI (sI (sI τ 12 0 (3 + 4 * n) (nI br)) 12 0 (3 + 4 * n + 1) (nI ln)) 12 0 (3 + 4 * n + 2) (nI wt)) 12 0 (3 + 4 * n + 3) (nI 0)) 12 0 0 (nI (n + 1))) := by
  have i0 : vp_in 0 47 := in47 (k := 0) (by omega)
  have g1 : gI (sI τ 12 0 (3 + 4 * n) (nI br)) 12 0 0 = nI n := (m0_n (by omega)).trans h0
  have g2 : gI (sI (sI τ 12 0 (3 + 4 * n) (nI br)) 12 0 (3 + 4 * n + 1) (nI ln)) 12 0 0 = nI n := (m0_n (by omega)).trans g1
  have g3 : gI (sI (sI (sI τ 12 0 (3 + 4 * n) (nI br)) 12 0 (3 + 4 * n + 1) (nI ln)) 12 0 (3 + 4 * n + 2) (nI wt)) 12 0 0 = nI n := (m0_n (by omega)).trans g2
  have g4 : gI (sI (sI (sI (sI τ 12 0 (3 + 4 * n) (nI br)) 12 0 (3 + 4 * n + 1) (nI ln)) 12 0 (3 + 4 * n + 2) (nI wt)) 12 0 (3 + 4 * n + 3) (nI 0)) 12 0 0 = nI n := (m0_n (by omega)).trans g3
  unfold fX12_addsBlade
  rw [ck_t i0, z0c, h0, show fX12_atBlade τ (nI n) 0 = some (nI (3 + 4 * n)) from at_b (w := 0), bd_s, ck_t (in47 (by omega)), nI_clamp (by omega), nmv_s]
  rw [ck_t i0, g1, show fX12_atBlade _ (nI n) 1 = some (nI (3 + 4 * n + 1)) from at_b (w := 1), bd_s, ck_t (in47 (by omega)), nI_clamp (by omega), nmv_s]
  rw [ck_t i0, g2, show fX12_atBlade _ (nI n) 2 = some (nI (3 + 4 * n + 2)) from at_b (w := 2), bd_s, ck_t (in47 (by omega)), nI_clamp (by omega), nmv_s]
  rw [ck_t i0, g3, show fX12_atBlade _ (nI n) 3 = some (nI (3 + 4 * n + 3)) from at_b (w := 3), bd_s, ck_t (in47 (by omega)), nI_clamp (by omega), nmv_s]
  rw [ck_t i0, ck_t i0]
  show some (sI (sI (sI (sI (sI τ 12 0 (3 + 4 * n) (nI br)) 12 0 (3 + 4 * n + 1) (nI ln)) 12 0 (3 + 4 * n + 2) (nI wt)) 12 0 (3 + 4 * n + 3) (nI 0)) 12 0 0 (gI (sI (sI (sI (sI τ 12 0 (3 + 4 * n) (nI br)) 12 0 (3 + 4 * n + 1) (nI ln)) 12 0 (3 + 4 * n + 2) (nI wt)) 12 0 (3 + 4 * n + 3) (nI 0)) 12 0 0 + 1)) = _
  rw [g4, nI_1]
theorem addB_f {σ : St} {n br ln wt : Nat} (h0 : gI σ 0 0 0 = nI n) (hn : n < 6) (q1 : fX11_isOut σ (nI br) 1 24 = some 0) (q2 : fX11_isOut σ (nI ln) 1 24 = some 0) (q3 : fX11_isOut σ (nI wt) 0 9 = some 0) : fX3_addBlade σ 0 (nI br) (nI ln) (nI wt) = some (nI n, sI (sI (sI (sI (sI σ 1 0 n (nI br)) 2 0 n (nI ln)) 3 0 n (nI wt)) 4 0 n (nI 0)) 0 0 0 (nI (n + 1))) := by
  have i6 : vp_in (nI n) 6 := pk_in n 6 hn rfl (by omega)
  have hlt : nI n < 6 := nI_lt (b := 6) hn (by omega)
  unfold fX3_addBlade
  rw [q1, bd_s, if_pos rfl, q2, bd_s, if_pos rfl, q3, bd_s, if_pos rfl, h0, if_pos hlt, ck_t i6, nI_clamp (by omega), nmv_s]
  rw [show gI (sI σ 1 0 n (nI br)) 0 0 0 = nI n from h0, ck_t i6, nI_clamp (by omega), nmv_s]
  rw [show gI (sI (sI σ 1 0 n (nI br)) 2 0 n (nI ln)) 0 0 0 = nI n from h0, ck_t i6, nI_clamp (by omega), nmv_s]
  rw [show gI (sI (sI (sI σ 1 0 n (nI br)) 2 0 n (nI ln)) 3 0 n (nI wt)) 0 0 0 = nI n from h0, ck_t i6, nI_clamp (by omega), nmv_s]
  rw [show gI (sI (sI (sI (sI σ 1 0 n (nI br)) 2 0 n (nI ln)) 3 0 n (nI wt)) 4 0 n 0) 0 0 0 = nI n from h0, nI_1, nmv_s]
  rfl
/-- grows -/
theorem case4 : Case4 Inv := by
  intro σ hI a1 a2 a3
  obtain ⟨⟨h, hO, hC, hM⟩, ⟨h1, O1, C1, M1⟩, I3, I4, I5, I6, I7, I8⟩ := id hI
  have h6 := hO.1
  have bad : ∀ (e1 : fX3_addBlade σ 0 a1 a2 a3 = some (-1, σ)) (e2 : fX12_isBladeLike σ a1 a2 a3 = some 0), ∃ r σ1 σ2, fX11_grows σ a1 a2 a3 = some (r, σ1) ∧ fX12_grows σ1 a1 a2 a3 = some (r, σ2) ∧ Inv σ2 := fun e1 e2 => ⟨-1, σ, σ, by unfold fX11_grows; rw [e1]; rfl, by unfold fX12_grows; rw [e2]; rfl, hI⟩
  rcases rng1_s (σ := σ) (τ := σ) (M := 24) (n := 24) a1 (by omega) rfl with ⟨br, b1, b2, rfl, p1, p2⟩ | ⟨p1, p2⟩
  · rcases rng1_s (σ := σ) (τ := σ) (M := 24) (n := 24) a2 (by omega) rfl with ⟨ln, l1, l2, rfl, q1, q2⟩ | ⟨q1, q2⟩
    · rcases rng_s (σ := σ) (τ := σ) (M := 9) (n := 9) a3 (by omega) rfl with ⟨wt, w2, rfl, r1, r2⟩ | ⟨-, r1, r2⟩
      · have like : ∀ τ, fX12_isBladeLike τ (nI br) (nI ln) (nI wt) = some 1 := fun τ => by
          unfold fX12_isBladeLike
          rw [show fX12_isIn τ (nI br) 1 24 = some 1 from p1, show fX12_isIn τ (nI ln) 1 24 = some 1 from q1, show fX12_isIn τ (nI wt) 0 9 = some 1 from r1]
          rfl
        by_cases hn : h 0 0 = 6
        · refine ⟨-2, σ, σ, ?_, ?_, hI⟩
          · unfold fX11_grows fX3_addBlade
            rw [p2, bd_s, if_pos rfl, q2, bd_s, if_pos rfl, r2, bd_s, if_pos rfl, hC.1, hn, if_neg (by decide)]
            rfl
          · unfold fX12_grows
            rw [like, bd_s, if_neg (by decide), ck_t (show vp_in 0 47 from in47 (k := 0) (by omega)), z0c, hM.1, hn]
            rfl
        · have hn6 : h 0 0 < 6 := by omega
          refine ⟨nI (h 0 0), sI (sI (sI (sI (sI σ 1 0 (h 0 0) (nI br)) 2 0 (h 0 0) (nI ln)) 3 0 (h 0 0) (nI wt)) 4 0 (h 0 0) (nI 0)) 0 0 0 (nI (h 0 0 + 1)), sI (sI (sI (sI (sI (sI (sI (sI (sI (sI σ 1 0 (h 0 0) (nI br)) 2 0 (h 0 0) (nI ln)) 3 0 (h 0 0) (nI wt)) 4 0 (h 0 0) (nI 0)) 0 0 0 (nI (h 0 0 + 1))) 12 0 (3 + 4 * h 0 0) (nI br)) 12 0 (3 + 4 * h 0 0 + 1) (nI ln)) 12 0 (3 + 4 * h 0 0 + 2) (nI wt)) 12 0 (3 + 4 * h 0 0 + 3) (nI 0)) 12 0 0 (nI (h 0 0 + 1)), ?_, ?_, ?_⟩
          · unfold fX11_grows
            rw [addB_f hC.1 hn6 p2 q2 r2]
            rfl
          · unfold fX12_grows
            rw [like, bd_s, if_neg (by decide), ck_t (show vp_in 0 47 from in47 (k := 0) (by omega)), z0c, show gI (sI (sI (sI (sI (sI σ 1 0 (h 0 0) (nI br)) 2 0 (h 0 0) (nI ln)) 3 0 (h 0 0) (nI wt)) 4 0 (h 0 0) (nI 0)) 0 0 0 (nI (h 0 0 + 1))) 12 0 0 = nI (h 0 0) from hM.1, if_neg (show ¬ nI (h 0 0) = 6 from fun q => hn ((nI_eq (b := 6) (by omega) (by omega)).mp q)), addsB_m (τ := sI (sI (sI (sI (sI σ 1 0 (h 0 0) (nI br)) 2 0 (h 0 0) (nI ln)) 3 0 (h 0 0) (nI wt)) 4 0 (h 0 0) (nI 0)) 0 0 0 (nI (h 0 0 + 1))) (n := h 0 0) hM.1 hn6, bd_s, ck_t (show vp_in 0 47 from in47 (k := 0) (by omega))]
            show some (nI (h 0 0 + 1) - 1, _) = _
            rw [nI_pred]
          · exact ⟨⟨addB h br ln wt, addB_ok hO hn6 ⟨b1, b2⟩ ⟨l1, l2⟩ w2, addB_c hC rfl rfl rfl rfl rfl rfl rfl rfl (fun _ _ _ q => q), addB_m (σ := sI (sI (sI (sI (sI σ 1 0 (h 0 0) (nI br)) 2 0 (h 0 0) (nI ln)) 3 0 (h 0 0) (nI wt)) 4 0 (h 0 0) (nI 0)) 0 0 0 (nI (h 0 0 + 1))) hM hn6 rfl⟩, ⟨h1, O1, C1, M1⟩, I3, I4, I5, I6, I7, I8⟩
      · refine bad ?_ ?_
        · unfold fX3_addBlade
          rw [p2, q2, r2]
          rfl
        · unfold fX12_isBladeLike
          rw [p1, q1, r1]
          rfl
    · refine bad ?_ ?_
      · unfold fX3_addBlade
        rw [p2, q2]
        rfl
      · unfold fX12_isBladeLike
        rw [p1, q1]
        rfl
  · refine bad ?_ ?_
    · unfold fX3_addBlade
      rw [p2]
      rfl
    · unfold fX12_isBladeLike
      rw [p1]
      rfl
