/-- by how many of the first i cups a note comes at a tightness -/
def cupN (h : Hg) (b k : Nat) (note : Int32) (T : Nat) : Nat → Nat
  | 0 => 0
  | i + 1 => cupN h b k note T i + (if psp (h 7 k) (nI (h 8 k)) (nI (h 1 b)) (nI T) (nI i) = note then 1 else 0)
/-- over the first i tightnesses that are in the span -/
def tsm (h : Hg) (b t k : Nat) (note : Int32) : Nat → Nat
  | 0 => 0
  | i + 1 => tsm h b t k note i + (if zLO 3 h b t k ≤ i ∧ i ≤ zTop 3 h b t k then cupN h b k note i 10 else 0)
/-- ways by a blade and a blow -/
def wyN (h : Hg) (t : Nat) (note : Int32) (b k : Nat) : Nat := if splN h b = 0 ∧ zSO 3 h t k ≤ zFt 3 h t k then tsm h b t k note 61 else 0
theorem cupN_le (h : Hg) (b k : Nat) (note : Int32) (T : Nat) : ∀ i, cupN h b k note T i ≤ i := by
  intro i
  induction i with
  | zero => exact Nat.le_refl _
  | succ i ih =>
    show cupN h b k note T i + _ ≤ _
    split <;> omega
theorem tsm_le (h : Hg) (b t k : Nat) (note : Int32) : ∀ i, tsm h b t k note i ≤ 10 * i := by
  intro i
  induction i with
  | zero => exact Nat.le_refl _
  | succ i ih =>
    have := cupN_le h b k note i 10
    show tsm h b t k note i + _ ≤ _
    split <;> omega
theorem wyN_le (h : Hg) (t : Nat) (note : Int32) (b k : Nat) : wyN h t note b k ≤ 610 := by
  have := tsm_le h b t k note 61
  unfold wyN
  split <;> omega
theorem tsm_lo (h : Hg) (b t k : Nat) (note : Int32) : ∀ i, i ≤ zLO 3 h b t k → tsm h b t k note i = 0 := by
  intro i
  induction i with
  | zero => exact fun _ => rfl
  | succ i ih =>
    intro hi
    show tsm h b t k note i + (if zLO 3 h b t k ≤ i ∧ i ≤ zTop 3 h b t k then cupN h b k note i 10 else 0) = 0
    rw [ih (by omega), if_neg (by omega)]
theorem tsm_hi (h : Hg) (b t k : Nat) (note : Int32) : ∀ m i, zTop 3 h b t k < i → tsm h b t k note (i + m) = tsm h b t k note i := by
  intro m
  induction m with
  | zero => exact fun _ _ => rfl
  | succ m ih =>
    intro i hi
    show tsm h b t k note (i + m) + (if zLO 3 h b t k ≤ i + m ∧ i + m ≤ zTop 3 h b t k then cupN h b k note (i + m) 10 else 0) = _
    rw [ih i hi, if_neg (by omega)]
    rfl
theorem tsm_no {h : Hg} {b t k : Nat} (note : Int32) (hn : zTop 3 h b t k < zLO 3 h b t k) : ∀ i, tsm h b t k note i = 0 := by
  intro i
  induction i with
  | zero => rfl
  | succ i ih =>
    show tsm h b t k note i + (if zLO 3 h b t k ≤ i ∧ i ≤ zTop 3 h b t k then cupN h b k note i 10 else 0) = 0
    rw [ih, if_neg (by omega)]
theorem cups_c {τ : St} {h : Hg} (hC : RelC τ 0 h) (hO : OkH h) {b k T s : Nat} (hb : b < h 0 0) (hk : k < h 0 2) (note : Int32) (K : Int32 → St → Option (Int32 × St)) : fX11_waysBy_L56 (nI b) (nI k) note (nI T) K FU (nI s) 0 τ = K (nI (s + cupN h b k note T 10)) τ := by
  obtain ⟨j, c1, hj⟩ := hC.2.2.2.2.2 k hk
  have o6 := hO.1
  have o2 := hO.2.2.1
  refine loop_h (S := Unit) (fun n i _ => fX11_waysBy_L56 (nI b) (nI k) note (nI T) K n (nI (s + cupN h b k note T i)) (nI i) τ) 10 (fun i _ => True) (fun q => q = K (nI (s + cupN h b k note T 10)) τ) (fun n i _ hi _ => ?_) 10 0 () FU (by omega) (FU_gt (by omega)) trivial
  show fX11_waysBy_L56B (nI b) (nI k) note (nI T) K (fX11_waysBy_L56 (nI b) (nI k) note (nI T) K n) (nI (s + cupN h b k note T i)) (nI i) τ = _ ∨ (i < 10 ∧ ∃ s', fX11_waysBy_L56B (nI b) (nI k) note (nI T) K (fX11_waysBy_L56 (nI b) (nI k) note (nI T) K n) (nI (s + cupN h b k note T i)) (nI i) τ = _ ∧ _)
  unfold fX11_waysBy_L56B fX11_waysBy_J96
  by_cases e : i = 10
  · subst e
    rw [if_pos (by decide)]
    exact Or.inl rfl
  · rw [if_neg (show ¬ (9 : Int32) < nI i from nI_nlt (a := 9) (by omega) (by omega)), ck_t (in6 (by omega)), nI_clamp (by omega), c1, bd_s, ck_t ⟨hj.1, okc_of hj⟩, ck_t (in6 (by omega)), nI_clamp (by omega), (hC.2.2.2.1 b hb).1, pitch_c hj (hO.2.2.2.2.2 k hk).1, bd_s, nI_1, nI_1]
    refine Or.inr ⟨by omega, (), ?_, trivial⟩
    show _ = fX11_waysBy_L56 (nI b) (nI k) note (nI T) K n (nI (s + (cupN h b k note T i + (if psp (h 7 k) (nI (h 8 k)) (nI (h 1 b)) (nI T) (nI i) = note then 1 else 0)))) (nI (i + 1)) τ
    by_cases c : psp (h 7 k) (nI (h 8 k)) (nI (h 1 b)) (nI T) (nI i) = note
    · rw [if_pos c, if_pos c]
      rfl
    · rw [if_neg c, if_neg c]
      rfl
theorem cups_m {τ : St} {h : Hg} (hM : RelM τ 0 h) (hO : OkH h) {b k T s : Nat} (hb : b < h 0 0) (hk : k < h 0 2) (note : Int32) (K : Int32 → Option Int32) : fX12_waysBy_L69 τ (nI b) note (nI k) (nI T) K FU (nI s) 0 = K (nI (s + cupN h b k note T 10)) := by
  refine loop_h (S := Unit) (fun n i _ => fX12_waysBy_L69 τ (nI b) note (nI k) (nI T) K n (nI (s + cupN h b k note T i)) (nI i)) 10 (fun i _ => True) (fun q => q = K (nI (s + cupN h b k note T 10))) (fun n i _ hi _ => ?_) 10 0 () FU (by omega) (FU_gt (by omega)) trivial
  show fX12_waysBy_L69B τ (nI b) note (nI k) (nI T) K (fX12_waysBy_L69 τ (nI b) note (nI k) (nI T) K n) (nI (s + cupN h b k note T i)) (nI i) = _ ∨ (i < 10 ∧ ∃ s', fX12_waysBy_L69B τ (nI b) note (nI k) (nI T) K (fX12_waysBy_L69 τ (nI b) note (nI k) (nI T) K n) (nI (s + cupN h b k note T i)) (nI i) = _ ∧ _)
  unfold fX12_waysBy_L69B fX12_waysBy_J98
  by_cases e : i = 10
  · subst e
    rw [if_pos (by decide)]
    exact Or.inl rfl
  · rw [if_neg (show ¬ (10 : Int32) ≤ nI i from nI_ge (b := 10) (by omega) (by omega)), pitch_m hM hO hb hk, bd_s, nI_1, nI_1]
    refine Or.inr ⟨by omega, (), ?_, trivial⟩
    show _ = fX12_waysBy_L69 τ (nI b) note (nI k) (nI T) K n (nI (s + (cupN h b k note T i + (if psp (h 7 k) (nI (h 8 k)) (nI (h 1 b)) (nI T) (nI i) = note then 1 else 0)))) (nI (i + 1))
    by_cases c : psp (h 7 k) (nI (h 8 k)) (nI (h 1 b)) (nI T) (nI i) = note
    · rw [if_pos c, if_pos c]
      rfl
    · rw [if_neg c, if_neg c, show nI (s + cupN h b k note T i) + 0 = nI (s + cupN h b k note T i + 0) from nI_add _ 0]
      rfl
theorem tights_c {τ : St} {h : Hg} (hC : RelC τ 0 h) (hO : OkH h) {b t k : Nat} (hb : b < h 0 0) (hk : k < h 0 2) (note : Int32) (hl : zLO 3 h b t k ≤ zTop 3 h b t k) (h6 : zTop 3 h b t k ≤ 60) (hT : fX9_topTight τ 0 = some (nI (zTop 3 h b t k))) : fX11_waysBy_L43 (nI b) (nI k) note (fun y28 σ29 => some (y28, σ29)) FU 0 (nI (zLO 3 h b t k)) τ = some (nI (tsm h b t k note 61), τ) := by
  have z : (0 : Int32) = nI (tsm h b t k note (zLO 3 h b t k)) := by rw [tsm_lo h b t k note _ (Nat.le_refl _)]; rfl
  rw [z]
  refine loop_h (S := Unit) (fun n i _ => fX11_waysBy_L43 (nI b) (nI k) note (fun y28 σ29 => some (y28, σ29)) n (nI (tsm h b t k note i)) (nI i) τ) (zTop 3 h b t k + 1) (fun i _ => zLO 3 h b t k ≤ i) (fun q => q = some (nI (tsm h b t k note 61), τ)) (fun n i _ hi hI => ?_) (zTop 3 h b t k + 1 - zLO 3 h b t k) (zLO 3 h b t k) () FU (by omega) (FU_gt (by omega)) (Nat.le_refl _)
  show fX11_waysBy_L43B (nI b) (nI k) note _ (fX11_waysBy_L43 (nI b) (nI k) note _ n) (nI (tsm h b t k note i)) (nI i) τ = _ ∨ (i < zTop 3 h b t k + 1 ∧ ∃ s', fX11_waysBy_L43B (nI b) (nI k) note _ (fX11_waysBy_L43 (nI b) (nI k) note _ n) (nI (tsm h b t k note i)) (nI i) τ = _ ∧ _)
  unfold fX11_waysBy_L43B
  rw [hT, bd_s]
  by_cases e : i = zTop 3 h b t k + 1
  · rw [if_pos (nI_lt (by omega) (by omega))]
    refine Or.inl ?_
    have := tsm_hi h b t k note (61 - i) i (by omega)
    rw [show i + (61 - i) = 61 by omega] at this
    rw [this]
  · rw [if_neg (nI_nlt (by omega) (by omega)), cups_c hC hO hb hk note, nmv_s, nI_1]
    refine Or.inr ⟨by omega, (), ?_, by omega⟩
    show _ = fX11_waysBy_L43 (nI b) (nI k) note _ n (nI (tsm h b t k note i + (if zLO 3 h b t k ≤ i ∧ i ≤ zTop 3 h b t k then cupN h b k note i 10 else 0))) (nI (i + 1)) τ
    rw [if_pos ⟨hI, by omega⟩]
theorem waysBy_c {σ : St} {h : Hg} (hC : RelC σ 0 h) (hO : OkH h) {b t k : Nat} (hb : b < h 0 0) (ht : t < h 0 1) (hk : k < h 0 2) (note : Int32) (g : Nat → Int32) : ∃ g', fX11_waysBy (sA σ 7 0 g) (nI b) (nI t) (nI k) note = some (nI (wyN h t note b k), sA σ 7 0 g') := by
  obtain ⟨l1, l2, l3, l4, l5, l6, l7, l8, l9⟩ := okS (hp := 3) hO hb ht hk
  have hC' := relC_7 hC (y := 0) (f := g)
  have e1 := spanOf_c hC' hO hb ht hk
  have hC2 : RelC (zSPN (sA σ 7 0 g) 0 h b t k) 0 h := relC_spn hC'
  have e2 := pairs_c (σ := sA σ 7 0 g) (x := 0) hO hb ht hk
  have e3 : fX9_topTight (zSPN (sA σ 7 0 g) 0 h b t k) 0 = some (nI (zTop 3 h b t k)) := topT_c (by omega) (by omega)
  have e4 : gI (zSPN (sA σ 7 0 g) 0 h b t k) 7 0 0 = nI (zLO 3 h b t k) := spn_v.1
  have t60 : zTop 3 h b t k ≤ 60 := by unfold zTop; omega
  have pl := prs_le (h := h) (hp := 3) (b := b) (t := t) (k := k)
  have e5 := splN_c hC2 hO hb
  unfold fX11_waysBy
  rw [e1, bd_s, e5, bd_s]
  rw [zSPN_A] at *
  rcases splN_01 h b with s0 | s0
  · rw [s0, if_pos nI_0, e2, bd_s]
    by_cases z : prs 3 h b t k = 0
    · rw [z, if_pos nI_0]
      refine ⟨sp5 g (zLO 3 h b t k) (zHI 3 h b t k) (zGR 3 h t) (zSO 3 h t k) (zHA 3 h t k), ?_⟩
      have w0 : wyN h t note b k = 0 := by
        unfold wyN
        by_cases c : splN h b = 0 ∧ zSO 3 h t k ≤ zFt 3 h t k
        · rw [if_pos c]
          refine tsm_no note ?_ 61
          by_cases d : zTop 3 h b t k < zLO 3 h b t k
          · exact d
          · exfalso
            unfold prs at z
            have z1 : 1 ≤ zTop 3 h b t k + 1 - zLO 3 h b t k := by omega
            have z2 : 1 ≤ zFt 3 h t k + 1 - zSO 3 h t k := by omega
            have := Nat.mul_le_mul z1 z2
            omega
        · rw [if_neg c]
      rw [w0]
      rfl
    · obtain ⟨z1, z2⟩ := prs_pos z
      rw [if_neg (nI_ne0 (by omega) (by omega)), e4, nmv_s, tights_c hC2 hO hb hk note z1 t60 e3]
      refine ⟨sp5 g (zLO 3 h b t k) (zHI 3 h b t k) (zGR 3 h t) (zSO 3 h t k) (zHA 3 h t k), ?_⟩
      rw [show wyN h t note b k = tsm h b t k note 61 from if_pos ⟨s0, z2⟩]
  · rw [s0, if_neg (by decide), show wyN h t note b k = 0 from if_neg (fun q => by omega)]
    exact ⟨_, rfl⟩
theorem canF_m {τ : St} {h : Hg} (hM : RelM τ 0 h) (hO : OkH h) (hh : gI τ 11 0 4 = nI 3) {t k : Nat} (ht : t < h 0 1) (hk : k < h 0 2) : fX12_canAnyForce τ (nI t) (nI k) = some (if zSO 3 h t k ≤ zFt 3 h t k then 1 else 0) := by
  refine loop_h (S := Unit) (fun n i _ => fX12_canAnyForce_L2 τ (nI t) (nI k) (some 0) n (nI i)) 61 (fun i _ => ∀ f, f < i → ¬ hA 3 h t k f) (fun q => q = some (if zSO 3 h t k ≤ zFt 3 h t k then 1 else 0)) (fun n i _ hi hI => ?_) 61 0 () FU (by omega) (FU_gt (by omega)) (fun f hf => absurd hf (Nat.not_lt_zero f))
  show fX12_canAnyForce_L2B τ (nI t) (nI k) _ (fX12_canAnyForce_L2 τ (nI t) (nI k) _ n) (nI i) = _ ∨ (i < 61 ∧ ∃ s', fX12_canAnyForce_L2B τ (nI t) (nI k) _ (fX12_canAnyForce_L2 τ (nI t) (nI k) _ n) (nI i) = _ ∧ _)
  unfold fX12_canAnyForce_L2B
  have Hd : ∀ f, (zSO 3 h t k ≤ f ∧ f ≤ zFt 3 h t k) ↔ (hA 3 h t k f ∧ f ≤ 60) := fun f => by
    unfold zFt hA
    omega
  have f60 : zFt 3 h t k ≤ 60 := by unfold zFt; omega
  by_cases e : i = 61
  · subst e
    rw [if_pos (by decide), if_neg (fun q => hI (zSO 3 h t k) (by omega) ((Hd _).mp ⟨Nat.le_refl _, q⟩).1)]
    exact Or.inl rfl
  · rw [if_neg (show ¬ (60 : Int32) < nI i from nI_nlt (a := 60) (by omega) (by omega))]
    rcases isHard_m (v := i) hM hO hh (by omega) ht hk (by omega) with ⟨s1, s2⟩ | ⟨s1, s2⟩
    · have := (Hd i).mpr ⟨s1, by omega⟩
      rw [s2, bd_s, if_neg (by decide), if_pos (by omega)]
      exact Or.inl rfl
    · rw [s2, bd_s, if_pos rfl, nmv_s, nI_1]
      refine Or.inr ⟨by omega, (), rfl, fun f hf => ?_⟩
      by_cases c : f = i
      · subst c; exact s1
      · exact hI f (by omega)
theorem tights_m {τ : St} {h : Hg} (hM : RelM τ 0 h) (hO : OkH h) (hh : gI τ 11 0 4 = nI 3) {b t k s : Nat} (hb : b < h 0 0) (ht : t < h 0 1) (hk : k < h 0 2) (note : Int32) (K : Int32 → Option Int32) : fX12_waysBy_L43 τ (nI b) (nI t) note (nI k) K FU (nI s) 0 = K (nI (s + tsm h b t k note 61)) := by
  refine loop_h (S := Unit) (fun n i _ => fX12_waysBy_L43 τ (nI b) (nI t) note (nI k) K n (nI (s + tsm h b t k note i)) (nI i)) 61 (fun i _ => True) (fun q => q = K (nI (s + tsm h b t k note 61))) (fun n i _ hi _ => ?_) 61 0 () FU (by omega) (FU_gt (by omega)) trivial
  show fX12_waysBy_L43B τ (nI b) (nI t) note (nI k) K (fX12_waysBy_L43 τ (nI b) (nI t) note (nI k) K n) (nI (s + tsm h b t k note i)) (nI i) = _ ∨ (i < 61 ∧ ∃ s', fX12_waysBy_L43B τ (nI b) (nI t) note (nI k) K (fX12_waysBy_L43 τ (nI b) (nI t) note (nI k) K n) (nI (s + tsm h b t k note i)) (nI i) = _ ∧ _)
  unfold fX12_waysBy_L43B
  by_cases e : i = 61
  · subst e
    rw [if_pos (by decide)]
    exact Or.inl rfl
  · have T : (zLO 3 h b t k ≤ i ∧ i ≤ zTop 3 h b t k) ↔ tI 3 h b t k i := by
      unfold tI zTop
      omega
    rw [if_neg (show ¬ (60 : Int32) < nI i from nI_nlt (a := 60) (by omega) (by omega)), nI_1]
    refine Or.inr ⟨by omega, (), ?_, trivial⟩
    show _ = fX12_waysBy_L43 τ (nI b) (nI t) note (nI k) K n (nI (s + (tsm h b t k note i + (if zLO 3 h b t k ≤ i ∧ i ≤ zTop 3 h b t k then cupN h b k note i 10 else 0)))) (nI (i + 1))
    rcases tight_m (v := i) hM hO hh (by omega) hb ht hk (by omega) with ⟨s1, s2⟩ | ⟨s1, s2⟩
    · rw [s2, bd_s, if_neg (by decide), cups_m hM hO hb hk note, nmv_s, if_pos (T.mpr s1), Nat.add_assoc]
    · rw [s2, bd_s, if_pos rfl, nmv_s, if_neg (fun q => s1 (T.mp q))]
      rfl
theorem waysBy_m {τ : St} {h : Hg} (hM : RelM τ 0 h) (hO : OkH h) (hh : gI τ 11 0 4 = nI 3) {b t : Nat} (hb : b < h 0 0) (ht : t < h 0 1) (note : Int32) : fX12_waysBy τ (nI b) (nI t) note = some (nI (sm (wyN h t note b) (h 0 2))) := by
  have o2 := hO.2.2.1
  have k2 : vp_in 2 47 := in47 (k := 2) (by omega)
  unfold fX12_waysBy
  rw [splN_m hM hO hb, bd_s]
  rcases splN_01 h b with s0 | s0
  · rw [s0, if_pos nI_0]
    refine loop_h (S := Unit) (fun n i _ => fX12_waysBy_L16 τ (nI b) (nI t) note (fun y28 => some y28) n (nI (sm (wyN h t note b) i)) (nI i)) (h 0 2) (fun i _ => True) (fun q => q = some (nI (sm (wyN h t note b) (h 0 2)))) (fun n i _ hi _ => ?_) (h 0 2) 0 () FU (by omega) (FU_gt (by omega)) trivial
    show fX12_waysBy_L16B τ (nI b) (nI t) note _ (fX12_waysBy_L16 τ (nI b) (nI t) note _ n) (nI (sm (wyN h t note b) i)) (nI i) = _ ∨ (i < h 0 2 ∧ ∃ s', fX12_waysBy_L16B τ (nI b) (nI t) note _ (fX12_waysBy_L16 τ (nI b) (nI t) note _ n) (nI (sm (wyN h t note b) i)) (nI i) = _ ∧ _)
    unfold fX12_waysBy_L16B
    rw [ck_t k2, show gI τ 12 0 (2 : Int32).toNatClampNeg = nI (h 0 2) from hM.2.2.1]
    by_cases e : i = h 0 2
    · subst e
      rw [if_pos (nI_le (Nat.le_refl _) (by omega))]
      exact Or.inl rfl
    · have hk : i < h 0 2 := by omega
      rw [if_neg (nI_ge hk (by omega)), canF_m hM hO hh ht hk, bd_s, nI_1]
      refine Or.inr ⟨hk, (), ?_, trivial⟩
      show _ = fX12_waysBy_L16 τ (nI b) (nI t) note _ n (nI (sm (wyN h t note b) i + wyN h t note b i)) (nI (i + 1))
      by_cases c : zSO 3 h t i ≤ zFt 3 h t i
      · rw [if_pos c, if_neg (by decide), tights_m hM hO hh hb ht hk note, nmv_s, show wyN h t note b i = tsm h b t i note 61 from if_pos ⟨s0, c⟩]
      · rw [if_neg c, if_pos rfl, nmv_s, show wyN h t note b i = 0 from if_neg (fun q => c q.2)]
        rfl
  · rw [s0, if_neg (by decide)]
    have : ∀ n, sm (wyN h t note b) n = 0 := by
      intro n
      induction n with
      | zero => rfl
      | succ n ih =>
        show sm (wyN h t note b) n + wyN h t note b n = 0
        rw [ih, show wyN h t note b n = 0 from if_neg (fun q => by omega)]
    rw [this]
    rfl
