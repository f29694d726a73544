/-- of the forces so to ft below i the first that lasts longest -/
def bF (l : Nat → Nat) (so ft i : Nat) (x : Int32) : Prop := (x = -4 ∧ ∀ f, so ≤ f → f ≤ ft → ¬ f < i) ∨ ∃ g, so ≤ g ∧ g ≤ ft ∧ g < i ∧ x = nI g ∧ (∀ f, so ≤ f → f < g → l f < l g) ∧ ∀ f, so ≤ f → f ≤ ft → f < i → l f ≤ l g
theorem bF_u {l : Nat → Nat} {so ft i j : Nat} {x y : Int32} (hx : bF l so ft i x) (hy : bF l so ft j y) (hi : ft < i) (hj : ft < j) : x = y := by
  rcases hx with ⟨x1, x2⟩ | ⟨g, g1, g2, g3, g4, g5, g6⟩ <;> rcases hy with ⟨y1, y2⟩ | ⟨k, k1, k2, k3, k4, k5, k6⟩
  · rw [x1, y1]
  · exact absurd (show k < i by omega) (x2 k k1 k2)
  · exact absurd (show g < j by omega) (y2 g g1 g2)
  · have a := g6 k k1 k2 (by omega)
    have b := k6 g g1 g2 (by omega)
    rw [g4, k4]
    by_cases c : g < k
    · have := k5 g g1 c; omega
    · by_cases d : k < g
      · have := g5 k k1 d; omega
      · exact congrArg nI (by omega)
theorem bestL_c {τ : St} {h : Hg} (hC : RelC τ 0 h) (hO : OkH h) {b k so ft : Nat} (hb : b < h 0 0) (hk : k < h 0 2) (hs : h 4 b ≤ h 2 b + h 3 b) (h1 : so ≤ ft) (h2 : ft ≤ 60) (hT : fX9_topForce τ 0 = some (nI ft)) : ∃ x, bF (lstN h b k) so ft (ft + 1) x ∧ fX11_bestForce_L66 (nI b) (nI k) (fun y21 σ22 => some (y21, σ22)) FU (-4) 0 (nI so) τ = some (x, τ) := by
  refine loop_h (S := Int32 × Nat) (fun n i s => fX11_bestForce_L66 (nI b) (nI k) (fun y21 σ22 => some (y21, σ22)) n s.1 (nI s.2) (nI i) τ) (ft + 1) (fun i s => so ≤ i ∧ bF (lstN h b k) so ft i s.1 ∧ ((s.1 = -4 ∧ s.2 = 0) ∨ ∃ g, g ≤ 60 ∧ s.1 = nI g ∧ s.2 = lstN h b k g)) (fun q => ∃ x, bF (lstN h b k) so ft (ft + 1) x ∧ q = some (x, τ)) (fun n i s hi hI => ?_) (ft + 1 - so) so (-4, 0) FU (by omega) (FU_gt (by omega)) ⟨Nat.le_refl _, Or.inl ⟨rfl, fun f q _ q2 => by omega⟩, Or.inl ⟨rfl, rfl⟩⟩
  obtain ⟨x, m⟩ := s
  obtain ⟨i0, i1, i2⟩ := hI
  dsimp only at i1 i2
  show (∃ x', _ ∧ fX11_bestForce_L66B (nI b) (nI k) _ (fX11_bestForce_L66 (nI b) (nI k) _ n) x (nI m) (nI i) τ = _) ∨ (i < ft + 1 ∧ ∃ s', fX11_bestForce_L66B (nI b) (nI k) _ (fX11_bestForce_L66 (nI b) (nI k) _ n) x (nI m) (nI i) τ = _ ∧ _)
  unfold fX11_bestForce_L66B fX11_bestForce_J101
  rw [hT, bd_s]
  by_cases e : i = ft + 1
  · rw [if_pos (nI_lt (by omega) (by omega))]
    subst e
    exact Or.inl ⟨x, i1, rfl⟩
  · obtain ⟨ll1, ll2⟩ := lstN_le h b k i
    rw [if_neg (nI_nlt (by omega) (by omega)), tries_c hC hO hb hk (by omega) hs, bd_s]
    refine Or.inr ⟨by omega, ?_⟩
    have new : (∀ f, so ≤ f → f ≤ ft → f < i → lstN h b k f < lstN h b k i) → bF (lstN h b k) so ft (i + 1) (nI i) := fun q => by
      refine Or.inr ⟨i, i0, by omega, by omega, rfl, fun f q1 q2 => q f q1 (by omega) q2, fun f q1 q2 q3 => ?_⟩
      by_cases c : f = i
      · rw [c]; exact Nat.le_refl _
      · exact Nat.le_of_lt (q f q1 q2 (by omega))
    rcases i2 with ⟨j1, j2⟩ | ⟨g, g0, j1, j2⟩
    · subst j2
      rw [if_neg (show ¬ nI (lstN h b k i) ≤ nI 0 from nI_nle (by omega) (by omega)), nmv_s, nI_1]
      refine ⟨(nI i, lstN h b k i), rfl, by omega, ?_, Or.inr ⟨i, by omega, rfl, rfl⟩⟩
      rcases i1 with ⟨-, q⟩ | ⟨g, -, g2, -, q, -⟩
      · exact new (fun f q1 q2 q3 => absurd q3 (q f q1 q2))
      · rw [j1] at q
        exact absurd (q ▸ (show ((-4 : Int32)) < 0 by decide)) (nI_pos (by omega))
    · have ig := lstN_le h b k g
      rcases i1 with ⟨q, -⟩ | ⟨g', k1, k2, k3, k4, k5, k6⟩
      · rw [j1] at q
        exact absurd (q ▸ (show ((-4 : Int32)) < 0 by decide)) (nI_pos (by omega))
      · have eg : g = g' := (nI_eq (by omega) (by omega)).mp (j1.symm.trans k4)
        subst eg
        rw [j2]
        by_cases c : lstN h b k i ≤ lstN h b k g
        · rw [if_pos (nI_le c (by omega)), nmv_s, nI_1]
          refine ⟨(x, lstN h b k g), rfl, by omega, Or.inr ⟨g, k1, k2, by omega, k4, k5, fun f q1 q2 q3 => ?_⟩, Or.inr ⟨g, g0, j1, rfl⟩⟩
          by_cases d : f = i
          · rw [d]; exact c
          · exact k6 f q1 q2 (by omega)
        · rw [if_neg (nI_ge (by omega) (by omega)), nmv_s, nI_1]
          exact ⟨(nI i, lstN h b k i), rfl, by omega, new (fun f q1 q2 q3 => Nat.lt_of_le_of_lt (k6 f q1 q2 q3) (by omega)), Or.inr ⟨i, by omega, rfl, rfl⟩⟩
theorem bestL_m {τ : St} {h : Hg} (hM : RelM τ 0 h) (hO : OkH h) (hh : gI τ 11 0 4 = nI 3) {b t k p : Nat} (hb : b < h 0 0) (ht : t < h 0 1) (hk : k < h 0 2) (hs : h 4 b ≤ h 2 b + h 3 b) (hp : 0 < p) (hp2 : p ≤ 61 * 61) (h9 : gI τ 11 0 9 = nI p) : ∃ x, bF (lstN h b k) (zSO 3 h t k) (zFt 3 h t k) 61 x ∧ fX12_bestForce_L37 (nI b) (nI t) (nI k) (fun y21 σ22 => some (y21, σ22)) FU (-4) 0 τ = some (x, τ) := by
  have ft60 : zFt 3 h t k ≤ 60 := by unfold zFt; omega
  refine loop_h (S := Int32) (fun n i s => fX12_bestForce_L37 (nI b) (nI t) (nI k) (fun y21 σ22 => some (y21, σ22)) n s (nI i) τ) 61 (fun i s => bF (lstN h b k) (zSO 3 h t k) (zFt 3 h t k) i s) (fun q => ∃ x, bF (lstN h b k) (zSO 3 h t k) (zFt 3 h t k) 61 x ∧ q = some (x, τ)) (fun n i x hi i1 => ?_) 61 0 (-4) FU (by omega) (FU_gt (by omega)) (Or.inl ⟨rfl, fun f _ _ => Nat.not_lt_zero f⟩)
  show (∃ x', _ ∧ fX12_bestForce_L37B (nI b) (nI t) (nI k) _ (fX12_bestForce_L37 (nI b) (nI t) (nI k) _ n) x (nI i) τ = _) ∨ (i < 61 ∧ ∃ s', fX12_bestForce_L37B (nI b) (nI t) (nI k) _ (fX12_bestForce_L37 (nI b) (nI t) (nI k) _ n) x (nI i) τ = _ ∧ _)
  unfold fX12_bestForce_L37B fX12_bestForce_J86 fX12_bestForce_J90
  by_cases e : i = 61
  · subst e
    rw [if_pos (by decide)]
    exact Or.inl ⟨x, i1, rfl⟩
  · rw [if_neg (show ¬ (60 : Int32) < nI i from nI_nlt (a := 60) (by omega) (by omega)), h9, if_neg (nI_nle hp (by omega)), nI_1]
    refine Or.inr ⟨by omega, ?_⟩
    have ll := lstN_le h b k i
    have Hd : (zSO 3 h t k ≤ i ∧ i ≤ zFt 3 h t k) ↔ hA 3 h t k i := by
      unfold zFt hA
      omega
    rcases isHard_m (v := i) hM hO hh (by omega) ht hk (by omega) with ⟨s1, s2⟩ | ⟨s1, s2⟩
    · obtain ⟨d1, d2⟩ := Hd.mpr s1
      have new : (∀ f, zSO 3 h t k ≤ f → f ≤ zFt 3 h t k → f < i → lstN h b k f < lstN h b k i) → bF (lstN h b k) (zSO 3 h t k) (zFt 3 h t k) (i + 1) (nI i) := fun q => by
        refine Or.inr ⟨i, d1, d2, by omega, rfl, fun f q1 q2 => q f q1 (by omega) q2, fun f q1 q2 q3 => ?_⟩
        by_cases c : f = i
        · rw [c]; exact Nat.le_refl _
        · exact Nat.le_of_lt (q f q1 q2 (by omega))
      rw [s2, bd_s, if_neg (by decide), nmv_s, nmv_s]
      rcases i1 with ⟨j1, q⟩ | ⟨g, k1, k2, k3, k4, k5, k6⟩
      · rw [j1, if_pos (by decide)]
        exact ⟨nI i, rfl, new (fun f q1 q2 q3 => absurd q3 (q f q1 q2))⟩
      · have ig := lstN_le h b k g
        rw [k4, if_neg (nI_pos (by omega)), lasts_m hM hO hb hk (by omega) hs, bd_s, lasts_m hM hO hb hk (by omega) hs, bd_s]
        by_cases c : lstN h b k i ≤ lstN h b k g
        · rw [if_pos (nI_le c (by omega))]
          refine ⟨nI g, rfl, Or.inr ⟨g, k1, k2, by omega, rfl, k5, fun f q1 q2 q3 => ?_⟩⟩
          by_cases d : f = i
          · rw [d]; exact c
          · exact k6 f q1 q2 (by omega)
        · rw [if_neg (nI_ge (by omega) (by omega))]
          exact ⟨nI i, rfl, new (fun f q1 q2 q3 => Nat.lt_of_le_of_lt (k6 f q1 q2 q3) (by omega))⟩
    · have d : ¬ (zSO 3 h t k ≤ i ∧ i ≤ zFt 3 h t k) := fun q => s1 (Hd.mp q)
      rw [s2, bd_s, if_pos rfl, nmv_s]
      refine ⟨x, rfl, ?_⟩
      rcases i1 with ⟨j1, q⟩ | ⟨g, k1, k2, k3, k4, k5, k6⟩
      · refine Or.inl ⟨j1, fun f q1 q2 q3 => ?_⟩
        by_cases c : f = i
        · subst c; exact d ⟨q1, q2⟩
        · exact q f q1 q2 (by omega)
      · refine Or.inr ⟨g, k1, k2, by omega, k4, k5, fun f q1 q2 q3 => ?_⟩
        by_cases c : f = i
        · subst c; exact absurd ⟨q1, q2⟩ d
        · exact k6 f q1 q2 (by omega)
theorem prs_pos {h : Hg} {hp b t k : Nat} (z : ¬ prs hp h b t k = 0) : zLO hp h b t k ≤ zTop hp h b t k ∧ zSO hp h t k ≤ zFt hp h t k := by
  refine ⟨?_, ?_⟩
  · by_cases c : zLO hp h b t k ≤ zTop hp h b t k
    · exact c
    · exact absurd (by unfold prs; rw [show zTop hp h b t k + 1 - zLO hp h b t k = 0 by omega, Nat.zero_mul]) z
  · by_cases c : zSO hp h t k ≤ zFt hp h t k
    · exact c
    · exact absurd (by unfold prs; rw [show zFt hp h t k + 1 - zSO hp h t k = 0 by omega, Nat.mul_zero]) z
/-- bestForce -/
theorem case21 : Case21 Inv := by
  intro σ hI a1 a2 a3
  obtain ⟨⟨h, hO, hC, hM⟩, ⟨h1', O1, C1, M1⟩, I3, I4, I5, I6, I7, I8⟩ := id hI
  unfold fX11_bestForce
  rcases all_s hC hM hO a1 a2 a3 with ⟨b, t, k, hb, ht, hk, rfl, rfl, rfl, p1, p2⟩ | ⟨p1, p2⟩
  rotate_left
  · exact ⟨-1, σ, σ, by rw [p1]; rfl, by unfold fX12_bestForce; rw [p2]; rfl, hI⟩
  by_cases hs : h 4 b ≤ h 2 b + h 3 b
  rotate_left
  · have s1 : splN h b = 1 := if_pos (by omega)
    exact ⟨-3, σ, σ, by rw [p1, bd_s, if_neg (by decide), splN_c hC hO hb, s1]; rfl, by unfold fX12_bestForce; rw [p2, bd_s, if_neg (by decide), splN_m hM hO hb, s1]; rfl, hI⟩
  have s0 : splN h b = 0 := if_neg (by omega)
  obtain ⟨l1, l2, l3, l4, l5, l6, l7, l8, l9⟩ := okS (hp := 3) hO hb ht hk
  have hM' : RelM (zSPN σ 0 h b t k) 0 h := relM_spn hM
  have hC' : RelC (zSPN σ 0 h b t k) 0 h := relC_spn hC
  have hh : gI (zSPN σ 0 h b t k) 11 0 4 = nI 3 := I4
  have pl := prs_le (h := h) (hp := 3) (b := b) (t := t) (k := k)
  obtain ⟨g, g1, g2, g3⟩ := looks0_m hM' hO hh hb ht hk
  have hh2 : gI (sA (zSPN σ 0 h b t k) 11 0 g) 11 0 4 = nI 3 := by rw [gsA_s, g2 4 (by omega) (by omega) (by omega)]; exact hh
  rw [p1, bd_s, if_neg (by decide), splN_c hC hO hb, s0, bd_s, if_pos nI_0, spanOf_c hC hO hb ht hk, bd_s, pairs_c hO hb ht hk, bd_s]
  have ml : fX12_bestForce (zSPN σ 0 h b t k) (nI b) (nI t) (nI k) = fX12_bestForce_L37 (nI b) (nI t) (nI k) (fun y21 σ22 => some (y21, σ22)) FU (-4) 0 (sA (zSPN σ 0 h b t k) 11 0 g) := by
    unfold fX12_bestForce
    rw [show fX12_areAll (zSPN σ 0 h b t k) (nI b) (nI t) (nI k) = some 1 from p2, bd_s, if_neg (by decide), splN_m hM' hO hb, s0, bd_s, if_pos nI_0, g1, bd_s]
  by_cases z : prs 3 h b t k = 0
  · rw [z, if_pos nI_0]
    refine ⟨-4, zSPN σ 0 h b t k, sA (zSPN σ 0 h b t k) 11 0 g, rfl, ?_, inv_fr9 (inv_spn hI) g2⟩
    rw [ml]
    show fX12_bestForce_L37B (nI b) (nI t) (nI k) _ _ (-4) 0 (sA (zSPN σ 0 h b t k) 11 0 g) = _
    unfold fX12_bestForce_L37B
    rw [if_neg (by decide), gsA_s, g3, z, if_pos (by decide)]
  · obtain ⟨z1, z2⟩ := prs_pos z
    have ft60 : zFt 3 h t k ≤ 60 := by unfold zFt; omega
    rw [if_neg (nI_ne0 (by omega) (by omega)), nmv_s]
    obtain ⟨x, x1, x2⟩ := bestL_c (τ := zSPN σ 0 h b t k) hC' hO hb hk hs z2 ft60 (topF_c (by omega))
    obtain ⟨y, y1, y2⟩ := bestL_m (relM_11 hM' (f := g)) hO hh2 hb ht hk hs (Nat.pos_of_ne_zero z) pl (by rw [gsA_s]; exact g3)
    have e := bF_u x1 y1 (by omega) (by omega)
    subst e
    refine ⟨x, zSPN σ 0 h b t k, sA (zSPN σ 0 h b t k) 11 0 g, ?_, by rw [ml]; exact y2, inv_fr9 (inv_spn hI) g2⟩
    rw [show gI (zSPN σ 0 h b t k) 7 0 3 = nI (zSO 3 h t k) from spn_v.2.2.2.1]
    exact x2
