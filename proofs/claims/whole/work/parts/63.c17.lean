/-- halves: m steps at most, from a to c, the i-th try -/
def hvN (lo hi : Nat) : Nat → Nat → Nat → Nat → Int32
  | 0, _, _, _ => -4
  | m + 1, a, c, i => if c < a then -4 else if lo ≤ (a + c) / 2 then if (a + c) / 2 ≤ hi then nI i else hvN lo hi m a ((a + c) / 2 - 1) (i + 1) else hvN lo hi m ((a + c) / 2 + 1) c (i + 1)
theorem halvesL_c {σ : St} {lo hi gr so ha : Nat} (h1 : lo ≤ 60) (h2 : hi ≤ 60) : fX11_halves_L37 (fun σ19 => some ((-4), σ19)) FU 0 60 1 (spn σ 0 lo hi gr so ha) = some (hvN lo hi 61 0 60 1, spn σ 0 lo hi gr so ha) := by
  obtain ⟨e0, e1, e2, e3, e4⟩ := spn_v (σ := σ) (x := 0) (lo := lo) (hi := hi) (gr := gr) (so := so) (ha := ha)
  generalize spn σ 0 lo hi gr so ha = τ at e0 e1
  refine loop_h (S := Nat × Nat) (fun n i s => fX11_halves_L37 (fun σ19 => some ((-4), σ19)) n (nI s.1) (nI s.2) (nI (i + 1)) τ) 61 (fun i s => s.1 ≤ 61 ∧ s.2 ≤ 60 ∧ s.2 + 1 - s.1 ≤ 61 - i ∧ hvN lo hi (61 - i) s.1 s.2 (i + 1) = hvN lo hi 61 0 60 1) (fun q => q = some (hvN lo hi 61 0 60 1, τ)) (fun n i s hi' hI => ?_) 61 0 (0, 60) FU (by omega) (FU_gt (by omega)) ⟨by omega, by omega, by omega, rfl⟩
  obtain ⟨a, c⟩ := s
  obtain ⟨i1, i2, i3, i4⟩ := hI
  dsimp only at i1 i2 i3 i4
  show fX11_halves_L37B _ (fX11_halves_L37 _ n) (nI a) (nI c) (nI (i + 1)) τ = _ ∨ (i < 61 ∧ ∃ s', fX11_halves_L37B _ (fX11_halves_L37 _ n) (nI a) (nI c) (nI (i + 1)) τ = _ ∧ _)
  unfold fX11_halves_L37B
  rw [← i4]
  by_cases e : i = 61
  · subst e
    rw [if_pos (by decide)]
    exact Or.inl rfl
  · rw [if_neg (show ¬ (61 : Int32) < nI (i + 1) from nI_nlt (a := 61) (by omega) (by omega))]
    obtain ⟨m, hm⟩ : ∃ m, 61 - i = m + 1 := ⟨60 - i, by omega⟩
    have hm2 : 61 - (i + 1) = m := by omega
    rw [hm]
    rw [hm] at i4
    by_cases ca : c < a
    · rw [if_pos (nI_lt ca (by omega))]
      refine Or.inl ?_
      rw [show hvN lo hi (m + 1) a c (i + 1) = -4 from if_pos ca]
    · have em : (nI a + nI c) / 2 = nI ((a + c) / 2) := by
        rw [nI_add]
        exact pk_div (d := 2) (by omega) (by omega) (by omega)
      rw [if_neg (nI_nlt (by omega) (by omega)), nmv_s, em, e0, e1]
      unfold fX11_halves_J101
      by_cases c1 : lo ≤ (a + c) / 2
      · rw [if_pos (nI_le c1 (by omega))]
        by_cases c2 : (a + c) / 2 ≤ hi
        · rw [if_pos (nI_le c2 (by omega))]
          refine Or.inl ?_
          rw [show hvN lo hi (m + 1) a c (i + 1) = nI (i + 1) from (if_neg ca).trans ((if_pos c1).trans (if_pos c2))]
        · rw [if_neg (nI_ge (by omega) (by omega)), nmv_s, nmv_s, nI_1]
          refine Or.inr ⟨by omega, (a, (a + c) / 2 - 1), ?_, by show a ≤ 61; omega, by show (a + c) / 2 - 1 ≤ 60; omega, by show (a + c) / 2 - 1 + 1 - a ≤ _; omega, ?_⟩
          · show fX11_halves_L37 _ n (nI a) (nI ((a + c) / 2) - 1) (nI (i + 1 + 1)) τ = _
            rw [show nI ((a + c) / 2) - 1 = nI ((a + c) / 2 - 1) from pk_sub (b := 1) (by omega)]
          · first | rw [hm2, ← i4] | rw [hm2]
            exact ((if_neg ca).trans ((if_pos c1).trans (if_neg c2))).symm
      · rw [if_neg (nI_ge (by omega) (by omega)), nmv_s, nmv_s, nI_1, nI_1]
        refine Or.inr ⟨by omega, ((a + c) / 2 + 1, c), rfl, by show (a + c) / 2 + 1 ≤ 61; omega, i2, by show c + 1 - ((a + c) / 2 + 1) ≤ _; omega, ?_⟩
        first | rw [hm2, ← i4] | rw [hm2]
        exact ((if_neg ca).trans (if_neg c1)).symm
theorem halvesL_m {τ : St} {A B C : Int32} {lo hi : Nat} (h1 : lo ≤ 60) (h2 : hi ≤ 60) (hl : fX12_low τ A B C = some (nI lo)) (hh : fX12_high τ A B C = some (nI hi)) : fX12_halves_L22 τ A B C (some (-4)) FU 0 60 1 = some (hvN lo hi 61 0 60 1) := by
  refine loop_h (S := Nat × Nat) (fun n i s => fX12_halves_L22 τ A B C (some (-4)) n (nI s.1) (nI s.2) (nI (i + 1))) 61 (fun i s => s.1 ≤ 61 ∧ s.2 ≤ 60 ∧ s.2 + 1 - s.1 ≤ 61 - i ∧ hvN lo hi (61 - i) s.1 s.2 (i + 1) = hvN lo hi 61 0 60 1) (fun q => q = some (hvN lo hi 61 0 60 1)) (fun n i s hi' hI => ?_) 61 0 (0, 60) FU (by omega) (FU_gt (by omega)) ⟨by omega, by omega, by omega, rfl⟩
  obtain ⟨a, c⟩ := s
  obtain ⟨i1, i2, i3, i4⟩ := hI
  dsimp only at i1 i2 i3 i4
  show fX12_halves_L22B τ A B C _ (fX12_halves_L22 τ A B C _ n) (nI a) (nI c) (nI (i + 1)) = _ ∨ (i < 61 ∧ ∃ s', fX12_halves_L22B τ A B C _ (fX12_halves_L22 τ A B C _ n) (nI a) (nI c) (nI (i + 1)) = _ ∧ _)
  unfold fX12_halves_L22B
  rw [← i4]
  by_cases e : i = 61
  · subst e
    rw [if_pos (nI_lt (by omega) (by omega))]
    exact Or.inl rfl
  · obtain ⟨m, hm⟩ : ∃ m, 61 - i = m + 1 := ⟨60 - i, by omega⟩
    have hm2 : 61 - (i + 1) = m := by omega
    rw [hm]
    rw [hm] at i4
    by_cases ca : c < a
    · rw [if_pos (nI_lt ca (by omega))]
      refine Or.inl ?_
      rw [show hvN lo hi (m + 1) a c (i + 1) = -4 from if_pos ca]
    · have em : (nI a + nI c) / 2 = nI ((a + c) / 2) := by
        rw [nI_add]
        exact pk_div (d := 2) (by omega) (by omega) (by omega)
      rw [if_neg (nI_nlt (by omega) (by omega)), nmv_s, em, hl, bd_s, hh, bd_s]
      unfold fX12_halves_J83
      by_cases c1 : lo ≤ (a + c) / 2
      · rw [if_pos (nI_le c1 (by omega))]
        by_cases c2 : (a + c) / 2 ≤ hi
        · rw [if_pos (nI_le c2 (by omega))]
          refine Or.inl ?_
          rw [show hvN lo hi (m + 1) a c (i + 1) = nI (i + 1) from (if_neg ca).trans ((if_pos c1).trans (if_pos c2))]
        · rw [if_neg (nI_ge (by omega) (by omega)), nmv_s, nmv_s, nI_1]
          refine Or.inr ⟨by omega, (a, (a + c) / 2 - 1), ?_, by show a ≤ 61; omega, by show (a + c) / 2 - 1 ≤ 60; omega, by show (a + c) / 2 - 1 + 1 - a ≤ _; omega, ?_⟩
          · show fX12_halves_L22 τ A B C _ n (nI a) (nI ((a + c) / 2) - 1) (nI (i + 1 + 1)) = _
            rw [show nI ((a + c) / 2) - 1 = nI ((a + c) / 2 - 1) from pk_sub (b := 1) (by omega)]
          · first | rw [hm2, ← i4] | rw [hm2]
            exact ((if_neg ca).trans ((if_pos c1).trans (if_neg c2))).symm
      · rw [if_neg (nI_ge (by omega) (by omega)), nmv_s, nmv_s, nI_1, nI_1]
        refine Or.inr ⟨by omega, ((a + c) / 2 + 1, c), rfl, by show (a + c) / 2 + 1 ≤ 61; omega, i2, by show c + 1 - ((a + c) / 2 + 1) ≤ _; omega, ?_⟩
        first | rw [hm2, ← i4] | rw [hm2]
        exact ((if_neg ca).trans (if_neg c1)).symm
/-- halves -/
theorem case17 : Case17 Inv := by
  intro σ hI a1 a2 a3
  obtain ⟨⟨h, hO, hC, hM⟩, ⟨h1', O1, C1, M1⟩, I3, I4, I5, I6, I7, I8⟩ := id hI
  unfold fX11_halves fX12_halves
  rcases all_s hC hM hO a1 a2 a3 with ⟨b, t, k, hb, ht, hk, rfl, rfl, rfl, p1, p2⟩ | ⟨p1, p2⟩
  · obtain ⟨l1, l2, l3, l4, l5, l6, l7, l8, l9⟩ := okS (hp := 3) hO hb ht hk
    have hM' : RelM (zSPN σ 0 h b t k) 0 h := relM_spn hM
    have hh : gI (zSPN σ 0 h b t k) 11 0 4 = nI 3 := I4
    refine ⟨hvN (zLO 3 h b t k) (zHI 3 h b t k) 61 0 60 1, zSPN σ 0 h b t k, ?_, ?_, inv_spn hI⟩
    · rw [p1, bd_s, if_neg (by decide), spanOf_c hC hO hb ht hk, bd_s]
      exact halvesL_c (by omega) (by omega)
    · rw [show fX12_areAll (zSPN σ 0 h b t k) (nI b) (nI t) (nI k) = some 1 from p2, bd_s, if_neg (by decide)]
      exact halvesL_m (by omega) (by omega) (low_m hM' hO hh (by omega) hb ht hk) (high_m hM' hO hh (by omega) hb ht hk)
  · exact ⟨-1, σ, by rw [p1]; rfl, by rw [p2]; rfl, hI⟩
