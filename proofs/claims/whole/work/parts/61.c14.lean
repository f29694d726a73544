/-- the span row -/
def sp5 (g : Nat → Int32) (lo hi gr so ha : Nat) : Nat → Int32 := upd (upd (upd (upd (upd g 0 (nI lo)) 1 (nI hi)) 2 (nI gr)) 3 (nI so)) 4 (nI ha)
theorem spn_A {σ : St} {x lo hi gr so ha : Nat} {g : Nat → Int32} : spn (sA σ 7 x g) x lo hi gr so ha = sA σ 7 x (sp5 g lo hi gr so ha) := by
  unfold spn sp5
  have e : ∀ (g : Nat → Int32) (j : Nat) (v : Int32), sI (sA σ 7 x g) 7 x j v = sA σ 7 x (upd g j v) := fun g j v => by
    show sA (sA σ 7 x g) 7 x (upd (gI (sA σ 7 x g) 7 x) j v) = _
    rw [sA_sA, gsA_s]
  rw [e, e, e, e, e]
theorem spn_A0 {σ : St} {x lo hi gr so ha : Nat} : spn σ x lo hi gr so ha = sA σ 7 x (sp5 (gI σ 7 x) lo hi gr so ha) := by
  rw [← spn_A, sA_self]
theorem zSPN_A {σ : St} {x : Nat} {h : Hg} {b t k : Nat} {g : Nat → Int32} : zSPN (sA σ 7 x g) x h b t k = sA σ 7 x (sp5 g (zLO 3 h b t k) (zHI 3 h b t k) (zGR 3 h t) (zSO 3 h t k) (zHA 3 h t k)) := spn_A
theorem relC_7 {σ : St} {x y : Nat} {h : Hg} (hC : RelC σ x h) {f : Nat → Int32} : RelC (sA σ 7 y f) x h := hC
theorem relM_7 {σ : St} {x y : Nat} {h : Hg} (hM : RelM σ x h) {f : Nat → Int32} : RelM (sA σ 7 y f) x h := hM
theorem relC_11 {σ : St} {x y : Nat} {h : Hg} (hC : RelC σ x h) {f : Nat → Int32} : RelC (sA σ 11 y f) x h := hC
theorem inv_7 {σ : St} (hI : Inv σ) {x : Nat} {f : Nat → Int32} : Inv (sA σ 7 x f) := hI
/-- the span of a blade, thumbs, a blow, and its pairs, from a state whose span row is any -/
theorem spanPairs_c {σ : St} {h : Hg} (hC : RelC σ 0 h) (hO : OkH h) {b t k : Nat} (hb : b < h 0 0) (ht : t < h 0 1) (hk : k < h 0 2) (g : Nat → Int32) : ∃ g', fX3_spanOf (sA σ 7 0 g) 0 (nI b) (nI t) (nI k) = some (sA σ 7 0 g') ∧ fX9_pairs (sA σ 7 0 g') 0 = some (nI (prs 3 h b t k)) := by
  have e := spanOf_c (relC_7 hC (y := 0) (f := g)) hO hb ht hk
  have e2 := pairs_c (σ := sA σ 7 0 g) (x := 0) hO hb ht hk
  rw [zSPN_A] at e e2
  exact ⟨_, e, e2⟩
/-- rows 9, 10, 11 of the model's fields apart -/
def Fr9 (o g : Nat → Int32) : Prop := ∀ j, j ≠ 9 → j ≠ 10 → j ≠ 11 → g j = o j
theorem looksA_m {τ : St} {h : Hg} (hM : RelM τ 0 h) (hO : OkH h) (hh : gI τ 11 0 4 = nI 3) {b t k : Nat} (hb : b < h 0 0) (ht : t < h 0 1) (hk : k < h 0 2) {g : Nat → Int32} (hg : Fr9 (gI τ 11 0) g) : ∃ g', fX12_looks (sA τ 11 0 g) (nI b) (nI t) (nI k) = some (sA τ 11 0 g') ∧ Fr9 (gI τ 11 0) g' ∧ g' 9 = nI (prs 3 h b t k) ∧ g' 10 = (if prs 3 h b t k = 0 then -4 else nI (zLO 3 h b t k)) ∧ g' 11 = (if prs 3 h b t k = 0 then -4 else nI (zSO 3 h t k)) := by
  have hh' : gI (sA τ 11 0 g) 11 0 4 = nI 3 := by rw [gsA_s, hg 4 (by omega) (by omega) (by omega)]; exact hh
  obtain ⟨g', g1, g2, g3, g4, g5⟩ := looks_m (relM_11 hM (f := g)) hO hh' (by omega) hb ht hk
  refine ⟨g', ?_, fun j j9 j10 j11 => ?_, g3, g4, g5⟩
  · rw [g1, sA_sA]
  · rw [g2 j j9 j10 j11, gsA_s]
    exact hg j j9 j10 j11
/-- the best blade of the first i: its number or -4, with how many pairs -/
def bst (h : Hg) (t k : Nat) : Nat → Int32 × Nat
  | 0 => (-4, 0)
  | i + 1 => if splN h i = 0 ∧ (bst h t k i).2 < prs 3 h i t k then (nI i, prs 3 h i t k) else bst h t k i
theorem bst_s (h : Hg) (t k : Nat) : ∀ i, ((bst h t k i).1 = -4 ∧ (bst h t k i).2 = 0 ∧ ∀ b, b < i → ¬ (splN h b = 0 ∧ 0 < prs 3 h b t k)) ∨ ∃ b, b < i ∧ (bst h t k i).1 = nI b ∧ 0 < (bst h t k i).2 ∧ splN h b = 0 ∧ 0 < prs 3 h b t k := by
  intro i
  induction i with
  | zero => exact Or.inl ⟨rfl, rfl, fun b hb => absurd hb (Nat.not_lt_zero b)⟩
  | succ i ih =>
    by_cases c : splN h i = 0 ∧ (bst h t k i).2 < prs 3 h i t k
    · have e : bst h t k (i + 1) = (nI i, prs 3 h i t k) := if_pos c
      rw [e]
      exact Or.inr ⟨i, by omega, rfl, by show 0 < prs 3 h i t k; omega, c.1, by omega⟩
    · have e : bst h t k (i + 1) = bst h t k i := if_neg c
      rw [e]
      rcases ih with ⟨q1, q2, q3⟩ | ⟨b, q1, q2, q3, q4⟩
      · refine Or.inl ⟨q1, q2, fun b hb => ?_⟩
        by_cases e2 : b = i
        · subst e2
          intro q
          exact c ⟨q.1, by omega⟩
        · exact q3 b (by omega)
      · exact Or.inr ⟨b, by omega, q2, q3, q4⟩
theorem bst_le (h : Hg) (t k i : Nat) : (bst h t k i).2 ≤ 61 * 61 := by
  induction i with
  | zero => exact Nat.zero_le _
  | succ i ih =>
    by_cases c : splN h i = 0 ∧ (bst h t k i).2 < prs 3 h i t k
    · have e : bst h t k (i + 1) = (nI i, prs 3 h i t k) := if_pos c
      rw [e]
      exact prs_le
    · have e : bst h t k (i + 1) = bst h t k i := if_neg c
      rw [e]
      exact ih
theorem whichL_c {σ : St} {h : Hg} (hC : RelC σ 0 h) (hO : OkH h) {t k : Nat} (ht : t < h 0 1) (hk : k < h 0 2) : ∃ g, fX11_which_L33 (nI t) (nI k) (fun y21 σ22 => some (y21, σ22)) FU (-4) 0 0 σ = some ((bst h t k (h 0 0)).1, sA σ 7 0 g) := by
  have o6 := hO.1
  have q : (fun q => ∃ g, q = some ((bst h t k (h 0 0)).1, sA σ 7 0 g)) (fX11_which_L33 (nI t) (nI k) (fun y21 σ22 => some (y21, σ22)) FU (-4) (nI 0) (nI 0) (sA σ 7 0 (gI σ 7 0))) := by
    refine loop_h (S := Int32 × Nat × (Nat → Int32)) (fun n i s => fX11_which_L33 (nI t) (nI k) (fun y21 σ22 => some (y21, σ22)) n s.1 (nI s.2.1) (nI i) (sA σ 7 0 s.2.2)) (h 0 0) (fun i s => s.1 = (bst h t k i).1 ∧ s.2.1 = (bst h t k i).2) (fun q => ∃ g, q = some ((bst h t k (h 0 0)).1, sA σ 7 0 g)) (fun n i s hi hI => ?_) (h 0 0) 0 (-4, 0, gI σ 7 0) FU (by omega) (FU_gt (by omega)) ⟨rfl, rfl⟩
    obtain ⟨x5, x6, g⟩ := s
    obtain ⟨i5, i6⟩ := hI
    simp only at i5 i6
    subst i5 i6
    have bl := bst_le h t k i
    by_cases e : i = h 0 0
    · subst e
      refine Or.inl ⟨g, ?_⟩
      show fX11_which_L33B (nI t) (nI k) _ _ _ _ (nI (h 0 0)) (sA σ 7 0 g) = _
      unfold fX11_which_L33B
      rw [(relC_7 hC (y := 0) (f := g)).1, if_pos (nI_le (Nat.le_refl _) (by omega))]
    · have hb : i < h 0 0 := by omega
      refine Or.inr ⟨hb, ?_⟩
      show ∃ s', fX11_which_L33B (nI t) (nI k) _ (fX11_which_L33 (nI t) (nI k) _ n) _ _ (nI i) (sA σ 7 0 g) = _ ∧ _
      unfold fX11_which_L33B
      rw [(relC_7 hC (y := 0) (f := g)).1, if_neg (nI_ge hb (by omega)), splN_c (relC_7 hC (y := 0) (f := g)) hO hb, bd_s]
      rcases splN_01 h i with s0 | s0
      · rw [s0, if_pos nI_0]
        obtain ⟨g', g1, g2⟩ := spanPairs_c hC hO hb ht hk g
        have pl := prs_le (h := h) (hp := 3) (b := i) (t := t) (k := k)
        rw [g1, bd_s, g2, bd_s]
        unfold fX11_which_J75 fX11_which_J91
        dsimp only
        by_cases c : (bst h t k i).2 < prs 3 h i t k
        · rw [if_neg (nI_ge c (by omega)), nmv_s, nI_1]
          refine ⟨(nI i, prs 3 h i t k, g'), rfl, ?_⟩
          rw [show bst h t k (i + 1) = (nI i, prs 3 h i t k) from if_pos ⟨s0, c⟩]
          exact ⟨rfl, rfl⟩
        · rw [if_pos (nI_le (by omega) (by omega)), nmv_s, nI_1]
          refine ⟨((bst h t k i).1, (bst h t k i).2, g'), rfl, ?_⟩
          rw [show bst h t k (i + 1) = bst h t k i from if_neg (fun q => c q.2)]
          exact ⟨rfl, rfl⟩
      · rw [s0, if_neg (by decide)]
        unfold fX11_which_J75 fX11_which_J91
        dsimp only
        rw [if_pos (show (0 : Int32) ≤ nI (bst h t k i).2 from nI_le (a := 0) (Nat.zero_le _) (by omega)), nmv_s, nI_1]
        refine ⟨((bst h t k i).1, (bst h t k i).2, g), rfl, ?_⟩
        rw [show bst h t k (i + 1) = bst h t k i from if_neg (fun q => by omega)]
        exact ⟨rfl, rfl⟩
  rw [sA_self] at q
  exact q
theorem best_m {τ : St} {h : Hg} (hM : RelM τ 0 h) (hO : OkH h) (hh : gI τ 11 0 4 = nI 3) {t k : Nat} (ht : t < h 0 1) (hk : k < h 0 2) {g0 : Nat → Int32} (hg0 : Fr9 (gI τ 11 0) g0) : ∃ g, fX12_bestBlade (sA τ 11 0 g0) (nI t) (nI k) = some ((bst h t k (h 0 0)).1, sA τ 11 0 g) ∧ Fr9 (gI τ 11 0) g := by
  have o6 := hO.1
  have k0 : vp_in 0 47 := in47 (k := 0) (by omega)
  refine loop_h (S := Int32 × Nat × (Nat → Int32)) (fun n i s => fX12_bestBlade_L9 (nI t) (nI k) (fun y16 σ17 => some (y16, σ17)) n s.1 (nI s.2.1) (nI i) (sA τ 11 0 s.2.2)) (h 0 0) (fun i s => s.1 = (bst h t k i).1 ∧ s.2.1 = (bst h t k i).2 ∧ Fr9 (gI τ 11 0) s.2.2) (fun q => ∃ g, q = some ((bst h t k (h 0 0)).1, sA τ 11 0 g) ∧ Fr9 (gI τ 11 0) g) (fun n i s hi hI => ?_) (h 0 0) 0 (-4, 0, g0) FU (by omega) (FU_gt (by omega)) ⟨rfl, rfl, hg0⟩
  obtain ⟨x5, x6, g⟩ := s
  obtain ⟨i5, i6, ig⟩ := hI
  simp only at i5 i6 ig
  subst i5 i6
  have bl := bst_le h t k i
  have hM' := relM_11 hM (f := g)
  by_cases e : i = h 0 0
  · subst e
    refine Or.inl ⟨g, ?_, ig⟩
    show fX12_bestBlade_L9B (nI t) (nI k) _ _ _ _ (nI (h 0 0)) (sA τ 11 0 g) = _
    unfold fX12_bestBlade_L9B
    rw [ck_t k0, show gI (sA τ 11 0 g) 12 0 (0 : Int32).toNatClampNeg = nI (h 0 0) from hM.1, if_pos (nI_le (Nat.le_refl _) (by omega))]
  · have hb : i < h 0 0 := by omega
    refine Or.inr ⟨hb, ?_⟩
    show ∃ s', fX12_bestBlade_L9B (nI t) (nI k) _ (fX12_bestBlade_L9 (nI t) (nI k) _ n) _ _ (nI i) (sA τ 11 0 g) = _ ∧ _
    unfold fX12_bestBlade_L9B
    rw [ck_t k0, show gI (sA τ 11 0 g) 12 0 (0 : Int32).toNatClampNeg = nI (h 0 0) from hM.1, if_neg (nI_ge hb (by omega)), splN_m hM' hO hb, bd_s]
    rcases splN_01 h i with s0 | s0
    · rw [s0, if_pos nI_0]
      obtain ⟨g', g1, g2, g3, -, -⟩ := looksA_m hM hO hh hb ht hk ig
      have pl := prs_le (h := h) (hp := 3) (b := i) (t := t) (k := k)
      rw [g1, bd_s, gsA_s, g3]
      unfold fX12_bestBlade_J61
      dsimp only
      by_cases c : (bst h t k i).2 < prs 3 h i t k
      · rw [if_pos (nI_lt c (by omega)), nmv_s, nmv_s, nI_1]
        refine ⟨(nI i, prs 3 h i t k, g'), rfl, ?_⟩
        rw [show bst h t k (i + 1) = (nI i, prs 3 h i t k) from if_pos ⟨s0, c⟩]
        exact ⟨rfl, rfl, g2⟩
      · rw [if_neg (nI_nlt (by omega) (by omega)), nmv_s, nI_1]
        refine ⟨((bst h t k i).1, (bst h t k i).2, g'), rfl, ?_⟩
        rw [show bst h t k (i + 1) = bst h t k i from if_neg (fun q => c q.2)]
        exact ⟨rfl, rfl, g2⟩
    · rw [s0, if_neg (by decide)]
      unfold fX12_bestBlade_J61
      dsimp only
      rw [nmv_s, nI_1]
      refine ⟨((bst h t k i).1, (bst h t k i).2, g), rfl, ?_⟩
      rw [show bst h t k (i + 1) = bst h t k i from if_neg (fun q => by omega)]
      exact ⟨rfl, rfl, ig⟩
theorem best0_m {τ : St} {h : Hg} (hM : RelM τ 0 h) (hO : OkH h) (hh : gI τ 11 0 4 = nI 3) {t k : Nat} (ht : t < h 0 1) (hk : k < h 0 2) : ∃ g, fX12_bestBlade τ (nI t) (nI k) = some ((bst h t k (h 0 0)).1, sA τ 11 0 g) ∧ Fr9 (gI τ 11 0) g := by
  have e := best_m hM hO hh ht hk (g0 := gI τ 11 0) (fun j _ _ _ => rfl)
  rw [sA_self] at e
  exact e
theorem inv_fr9 {σ : St} (hI : Inv σ) {f : Nat → Int32} (hf : Fr9 (gI σ 11 0) f) : Inv (sA σ 11 0 f) := inv_11 hI (hf 3 (by omega) (by omega) (by omega)) (hf 4 (by omega) (by omega) (by omega))
/-- which -/
theorem case14 : Case14 Inv := by
  intro σ hI a1 a2
  obtain ⟨⟨h, hO, hC, hM⟩, ⟨h1', O1, C1, M1⟩, I3, I4, I5, I6, I7, I8⟩ := id hI
  unfold fX11_which
  rcases thumbs_s hC hM hO a1 with ⟨t, ht, rfl, p1, p2⟩ | ⟨-, p1, p2⟩
  · rcases blow_s hC hM hO a2 with ⟨k, hk, rfl, q1, q2⟩ | ⟨-, q1, q2⟩
    · obtain ⟨g, g1⟩ := whichL_c hC hO ht hk
      obtain ⟨f, f1, f2⟩ := best0_m (τ := sA σ 7 0 g) (relM_7 hM) hO I4 ht hk
      refine ⟨(bst h t k (h 0 0)).1, sA σ 7 0 g, sA (sA σ 7 0 g) 11 0 f, ?_, ?_, inv_fr9 (inv_7 hI) f2⟩
      · rw [p1, bd_s, if_neg (by decide), q1, bd_s, if_neg (by decide)]
        exact g1
      · unfold fX12_which
        rw [show fX12_isThumbs (sA σ 7 0 g) (nI t) = some 1 from p2, bd_s, if_neg (by decide), show fX12_isBlow (sA σ 7 0 g) (nI k) = some 1 from q2, bd_s, if_neg (by decide), f1]
        rfl
    · exact ⟨-1, σ, σ, by rw [p1, q1]; rfl, by unfold fX12_which; rw [p2, q2]; rfl, hI⟩
  · exact ⟨-1, σ, σ, by rw [p1]; rfl, by unfold fX12_which; rw [p2]; rfl, hI⟩
