theorem j43_n {σ : St} {a1 a2 : Int32} {z : Int32} (hz : ¬ z = 0) : fX12_element_J43 a1 a2 z σ = some (0, sI σ 11 0 21 z) := by
  unfold fX12_element_J43
  rw [nmv_s]
  exact if_neg hz
/-- element -/
theorem case41 : Case41 Inv := by
  intro σ hI a1 a2
  have I8 := hI.2.2.2.2.2.2.2
  unfold fL_element fX11_element
  rcases isShelf_s (σ := σ) a1 with ⟨d, hd, rfl, q1, q2⟩ | ⟨-, q1, q2⟩
  · have i8 : vp_in (nI d) 8 := pk_in d 8 hd rfl (by omega)
    have two : ∀ (e1 : gI σ 8 d 1 = 0) (e2 : ¬ gI σ 12 15 d = 2), ∃ k b σ1 σ2, (bd (bd (fX11_isOut σ (nI d) 0 7) fun r1 => if r1 = 0 then ck (vp_in (nI d) 8) (if gI σ 8 (nI d).toNatClampNeg 1 = 0 then some (2, 0) else bd (fX4_hasPlace σ (nI d).toNatClampNeg a2) fun r2 => if r2 = 0 then some (2, 0) else ck (vp_in a2 100) (some (0, (gI σ 9 (nI d).toNatClampNeg a2.toNatClampNeg).toInt64))) else some (1, 0)) fun q => if q.1 = 0 then some ((0 : Int32), sL σ 2 0 q.2) else if q.1 = 1 then some (1, σ) else some (2, σ)) = some (k, σ1) ∧ fX12_element σ1 (nI d) a2 = some (b, σ2) ∧ fX12_thrown σ2 = some k ∧ (k = 0 → gL σ2 2 0 = b) ∧ Inv σ2 := by
      intro e1 e2
      refine ⟨2, 0, σ, sI σ 11 0 21 2, ?_, ?_, rfl, fun q => absurd q (by decide), hI⟩
      · rw [q2, bd_s, if_pos rfl, ck_t i8, nI_clamp (by omega), e1]
        rfl
      · unfold fX12_element fX12_element_J38
        rw [q1, bd_s, if_neg (by decide), ck_t i8, nI_clamp (by omega), if_neg e2]
        exact j43_n (by decide)
    rcases I8 d hd with ⟨k1, k2, k3⟩ | ⟨k1, k2, -⟩ | ⟨k1, k2, k3, so, n, hso, hn, k4, k5, k6, k7, k8⟩
    · exact two k2 (by rw [k1]; decide)
    · exact two k2 (by rw [k1]; decide)
    · rcases place_s (σ := σ) hn k6 a2 with ⟨i, hi, rfl, p1, p2⟩ | ⟨-, p1, p2⟩
      · refine ⟨0, (gI σ 9 d i).toInt64, sL σ 2 0 (gI σ 9 d i).toInt64, sI (sL σ 2 0 (gI σ 9 d i).toInt64) 11 0 21 0, ?_, ?_, rfl, fun _ => rfl, hI⟩
        · rw [q2, bd_s, if_pos rfl, ck_t i8, nI_clamp (by omega), k2, if_neg (by decide), p1, bd_s, if_neg (by decide), ck_t (show vp_in (nI i) 100 from pk_in i 100 (by omega) rfl (by omega)), nI_clamp (by omega)]
          rfl
        · unfold fX12_element
          rw [show fX12_isShelf (sL σ 2 0 (gI σ 9 d i).toInt64) (nI d) = some 1 from q1, bd_s, if_neg (by decide), ck_t i8, nI_clamp (by omega), show gI (sL σ 2 0 (gI σ 9 d i).toInt64) 12 15 d = 2 from k1, if_pos rfl, ck_t i8, show gI (sL σ 2 0 (gI σ 9 d i).toInt64) 12 19 d = nI n from k7, show fX12_isIn (sL σ 2 0 (gI σ 9 d i).toInt64) (nI i) 0 (nI n - 1) = some 1 from p2, bd_s, if_neg (by decide)]
          unfold fX12_element_J43
          rw [nmv_s, cell_ix, ck_t (in800 hd (show i < 100 by omega)), nI_clamp (by omega)]
          rw [k8 i hi]
          rfl
      · refine ⟨2, 0, σ, sI σ 11 0 21 2, ?_, ?_, rfl, fun q => absurd q (by decide), hI⟩
        · rw [q2, bd_s, if_pos rfl, ck_t i8, nI_clamp (by omega), k2, if_neg (by decide), p1]
          rfl
        · unfold fX12_element fX12_element_J38
          rw [q1, bd_s, if_neg (by decide), ck_t i8, nI_clamp (by omega), k1, if_pos rfl, ck_t i8, k7, p2, bd_s, if_pos rfl]
          exact j43_n (by decide)
  · refine ⟨1, 0, σ, sI σ 11 0 21 1, ?_, ?_, rfl, fun q => absurd q (by decide), hI⟩
    · rw [q2]
      rfl
    · unfold fX12_element
      rw [q1, bd_s, if_pos rfl]
      exact j43_n (by decide)
