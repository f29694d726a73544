/-- a number at most n, one by one -/
theorem at_bl {σ : St} {h : Hg} (hM : RelM σ 0 h) (hO : OkH h) {b w : Nat} (hb : b < h 0 0) (hw : w ≤ 3) : fX12_bladeOf σ (nI b) (nI w) = some (nI (h (w + 1) b)) := by
  have h6 := hO.1
  unfold fX12_bladeOf fX12_atBlade
  have e : (3 : Int32) + 4 * nI b + nI w = nI (3 + 4 * b + w) := by
    show nI 3 + nI 4 * nI b + nI w = _
    rw [pk_mul, nI_add, nI_add]
  rw [bd_s, e, ck_t (in47 (by omega)), nI_clamp (by omega)]
  obtain ⟨q0, q1, q2, q3⟩ := hM.2.2.2.1 b hb
  rcases w with _ | _ | _ | _ | w
  · rw [Nat.add_zero, q0]
  · rw [q1]
  · rw [q2]
  · rw [q3]
  · omega
/-- split: the wear is above length and wet -/
def spl (h : Hg) (b : Nat) : Prop := h 2 b + h 3 b < h 4 b
theorem split_c {σ : St} {x : Nat} {h : Hg} (hC : RelC σ x h) (hO : OkH h) {b : Nat} (hb : b < h 0 0) : (spl h b ∧ fX3_isSplit σ x (nI b) = some 1) ∨ (¬ spl h b ∧ fX3_isSplit σ x (nI b) = some 0) := by
  have h6 := hO.1
  obtain ⟨-, ⟨-, o2⟩, o3, o4⟩ := hO.2.2.2.1 b hb
  obtain ⟨-, q1, q2, q3⟩ := hC.2.2.2.1 b hb
  have i6 : vp_in (nI b) 6 := pk_in b 6 (by omega) rfl (by omega)
  unfold fX3_isSplit
  rw [ck_t i6, ck_t i6, ck_t i6, nI_clamp (by omega), q1, q2, q3, nI_add]
  by_cases hs : spl h b
  · exact Or.inl ⟨hs, if_neg (nI_ge hs (by omega))⟩
  · exact Or.inr ⟨hs, if_pos (nI_le (by unfold spl at hs; omega) (by omega))⟩
theorem split_m {σ : St} {h : Hg} (hM : RelM σ 0 h) (hO : OkH h) {b : Nat} (hb : b < h 0 0) : (spl h b ∧ fX12_isSplit σ (nI b) = some 1) ∨ (¬ spl h b ∧ fX12_isSplit σ (nI b) = some 0) := by
  obtain ⟨-, ⟨-, o2⟩, o3, o4⟩ := hO.2.2.2.1 b hb
  unfold fX12_isSplit
  rw [show fX12_bladeOf σ (nI b) 3 = some (nI (h 4 b)) from at_bl hM hO (w := 3) hb (by omega), show fX12_bladeOf σ (nI b) 1 = some (nI (h 2 b)) from at_bl hM hO (w := 1) hb (by omega), show fX12_bladeOf σ (nI b) 2 = some (nI (h 3 b)) from at_bl hM hO (w := 2) hb (by omega), bd_s, bd_s, bd_s, nI_add]
  by_cases hs : spl h b
  · exact Or.inl ⟨hs, if_neg (nI_ge hs (by omega))⟩
  · exact Or.inr ⟨hs, if_pos (nI_le (by unfold spl at hs; omega) (by omega))⟩
/-- blade -/
theorem case1 : Case1 Inv := by
  intro σ hI a1 a2
  obtain ⟨⟨h, hO, hC, hM⟩, -⟩ := hI
  have h6 := hO.1
  unfold fX11_blade fX12_blade
  rcases blade_s hC hM hO a1 with ⟨b, hb, rfl, p1, p2⟩ | ⟨-, p1, p2⟩
  · have i6 : vp_in (nI b) 6 := pk_in b 6 (by omega) rfl (by omega)
    obtain ⟨c0, c1, c2, c3⟩ := hC.2.2.2.1 b hb
    simp only [p1, p2, bd_s, ck_t i6, nI_clamp (show b < 2 ^ 31 by omega), c0, c1, c2, c3]
    rcases rng_s (σ := σ) (τ := σ) (M := 4) (n := 4) a2 (by omega) rfl with ⟨j, hj, rfl, q1, -⟩ | ⟨hne, q1, -⟩
    · rw [q1]
      rcases j with _ | _ | _ | _ | _ | j
      · exact ⟨_, rfl, by rw [show fX12_bladeOf σ (nI b) (nI 0) = _ from at_bl hM hO (w := 0) hb (by omega)]; rfl⟩
      · exact ⟨_, rfl, by rw [show fX12_bladeOf σ (nI b) (nI 1) = _ from at_bl hM hO (w := 1) hb (by omega)]; rfl⟩
      · exact ⟨_, rfl, by rw [show fX12_bladeOf σ (nI b) (nI 2) = _ from at_bl hM hO (w := 2) hb (by omega)]; rfl⟩
      · exact ⟨_, rfl, by rw [show fX12_bladeOf σ (nI b) (nI 3) = _ from at_bl hM hO (w := 3) hb (by omega)]; rfl⟩
      · rcases split_c hC hO hb with ⟨s1, s2⟩ | ⟨s1, s2⟩ <;> rcases split_m hM hO hb with ⟨t1, t2⟩ | ⟨t1, t2⟩
        · exact ⟨1, by rw [s2]; rfl, by rw [t2]; rfl⟩
        · exact absurd s1 t1
        · exact absurd t1 s1
        · exact ⟨0, by rw [s2]; rfl, by rw [t2]; rfl⟩
      · omega
    · rw [q1]
      refine ⟨-1, ?_, rfl⟩
      rw [if_neg (by decide), if_neg (show ¬ a2 = 0 from hne 0 (by omega)), if_neg (show ¬ a2 = 1 from hne 1 (by omega)), if_neg (show ¬ a2 = 2 from hne 2 (by omega)), if_neg (show ¬ a2 = 3 from hne 3 (by omega)), if_neg (show ¬ a2 = 4 from hne 4 (by omega))]
  · rw [p1, p2]
    exact ⟨-1, rfl, rfl⟩
/-- thumbs -/
theorem case2 : Case2 Inv := by
  intro σ hI a1 a2
  obtain ⟨⟨h, hO, hC, hM⟩, -⟩ := hI
  have h6 := hO.2.1
  unfold fX11_thumbs fX12_thumbs
  rcases thumbs_s hC hM hO a1 with ⟨b, hb, rfl, p1, p2⟩ | ⟨-, p1, p2⟩
  · have i6 : vp_in (nI b) 4 := pk_in b 4 (by omega) rfl (by omega)
    obtain ⟨c0, c1⟩ := hC.2.2.2.2.1 b hb
    obtain ⟨d0, d1⟩ := hM.2.2.2.2.1 b hb
    have e : ∀ w, (27 : Int32) + 2 * nI b + nI w = nI (27 + 2 * b + w) := fun w => by
      show nI 27 + nI 2 * nI b + nI w = _
      rw [pk_mul, nI_add, nI_add]
    simp only [p1, p2, bd_s, ck_t i6, nI_clamp (show b < 2 ^ 31 by omega), c0, c1]
    rcases rng_s (σ := σ) (τ := σ) (M := 1) (n := 1) a2 (by omega) rfl with ⟨j, hj, rfl, q1, q2⟩ | ⟨hne, q1, q2⟩
    · rw [q1, q2]
      unfold fX12_atThumbs
      simp only [bd_s, e, ck_t (in47 (show 27 + 2 * b + j < 47 by omega)), nI_clamp (show 27 + 2 * b + j < 2 ^ 31 by omega)]
      rcases j with _ | _ | j
      · exact ⟨_, rfl, by rw [Nat.add_zero, d0]; rfl⟩
      · exact ⟨_, rfl, by rw [d1]; rfl⟩
      · omega
    · rw [q1, q2]
      exact ⟨-1, rfl, rfl⟩
  · rw [p1, p2]
    exact ⟨-1, rfl, rfl⟩
