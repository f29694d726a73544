/-- learns -/
theorem case5 : Case5 Inv := by
  intro σ hI a1
  obtain ⟨⟨h, hO, hC, hM⟩, ⟨h1, O1, C1, M1⟩, I3, I4, I5, I6, I7, I8⟩ := id hI
  have h6 := hO.2.2.1
  have i2 : vp_in 2 47 := in47 (k := 2) (by omega)
  rcases shelf_s I8 a1 with ⟨-, -, p1, p2⟩ | ⟨d, hd, rfl, ⟨-, -, p1, p2⟩ | ⟨⟨-, -, p1, p2⟩, j, kd, fg, k1, k2, k3, k4, k5, k6⟩ | ⟨⟨-, -, p1, p2⟩, -⟩⟩
  · exact ⟨-1, σ, σ, by unfold fX11_learns; rw [p1]; rfl, by unfold fX12_learns; rw [p2]; rfl, hI⟩
  · exact ⟨-11, σ, σ, by unfold fX11_learns; rw [p1]; rfl, by unfold fX12_learns; rw [p2]; rfl, hI⟩
  · have i8 : vp_in (nI d) 8 := pk_in d 8 hd rfl (by omega)
    by_cases hn : h 0 2 = 6
    · refine ⟨-2, σ, σ, ?_, ?_, hI⟩
      · unfold fX11_learns fX3_addBlow
        rw [p1, bd_s, if_pos (by decide), ck_t i8, nI_clamp (by omega), k1, hC.2.2.1, hn]
        rfl
      · unfold fX12_learns
        rw [p2, bd_s, if_pos rfl, ck_t i2, z2c, hM.2.2.1, hn]
        rfl
    · have hn6 : h 0 2 < 6 := by omega
      refine ⟨nI (h 0 2), sI (sR σ 0 0 (h 0 2) (some j)) 0 0 8 (nI (h 0 2 + 1)), sI (sI (sI (sI (sR σ 0 0 (h 0 2) (some j)) 0 0 8 (nI (h 0 2 + 1))) 12 0 (35 + 2 * h 0 2) (nI kd)) 12 0 (35 + 2 * h 0 2 + 1) (nI fg)) 12 0 2 (nI (h 0 2 + 1)), ?_, ?_, ?_⟩
      · unfold fX11_learns
        rw [p1, bd_s, if_pos (by decide), ck_t i8, nI_clamp (by omega), k1, addK_f hC.2.2.1 hn6 ⟨k2.1, okc_of k2⟩]
        rfl
      · unfold fX12_learns
        rw [show fX12_wrongKept (sI (sR σ 0 0 (h 0 2) (some j)) 0 0 8 (nI (h 0 2 + 1))) (nI d) = some 0 from p2, bd_s, if_pos rfl, ck_t i2, z2c, show gI (sI (sR σ 0 0 (h 0 2) (some j)) 0 0 8 (nI (h 0 2 + 1))) 12 0 2 = nI (h 0 2) from hM.2.2.1, if_neg (show ¬ nI (h 0 2) = 6 from fun q => hn ((nI_eq (b := 6) (by omega) (by omega)).mp q)), ck_t i8, ck_t i8, nI_clamp (by omega), show gI (sI (sR σ 0 0 (h 0 2) (some j)) 0 0 8 (nI (h 0 2 + 1))) 12 16 d = nI kd from k5, show gI (sI (sR σ 0 0 (h 0 2) (some j)) 0 0 8 (nI (h 0 2 + 1))) 12 17 d = nI fg from k6, addsK_m (τ := sI (sR σ 0 0 (h 0 2) (some j)) 0 0 8 (nI (h 0 2 + 1))) (n := h 0 2) hM.2.2.1 hn6, bd_s, ck_t i2]
        show some (nI (h 0 2 + 1) - 1, _) = _
        rw [nI_pred]
      · refine ⟨⟨addK h kd fg, addK_ok hO hn6 k3 k4, addK_c hC k2 rfl rfl rfl rfl rfl rfl rfl rfl (fun _ _ _ q => q), addK_m (σ := sI (sR σ 0 0 (h 0 2) (some j)) 0 0 8 (nI (h 0 2 + 1))) hM hO hn6 rfl⟩, ⟨h1, O1, C1, M1⟩, I3, I4, I5, ?_, I7, I8⟩
        intro c i k j' q
        have q : gR (sR σ 0 0 (h 0 2) (some j)) c i k = some j' := q
        show j' < gS σ 2 0
        by_cases e : c = 0 ∧ i = 0
        · obtain ⟨rfl, rfl⟩ := e
          rw [gsR_s] at q
          by_cases hk : k = h 0 2
          · have q2 : (if k = h 0 2 then some j else gR σ 0 0 k) = some j' := q
            rw [if_pos hk] at q2
            cases q2
            exact k2.1
          · have q2 : (if k = h 0 2 then some j else gR σ 0 0 k) = some j' := q
            rw [if_neg hk] at q2
            exact I6 _ _ _ _ q2
        · rw [gsR_n e] at q
          exact I6 _ _ _ _ q
  · exact ⟨-12, σ, σ, by unfold fX11_learns; rw [p1]; rfl, by unfold fX12_learns; rw [p2]; rfl, hI⟩
