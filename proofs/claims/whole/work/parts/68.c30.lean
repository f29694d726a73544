/-- does a force fit a wear -/
def fit (h : Hg) (k : Nat) (w : Int32) (f : Nat) : Prop := nI (wsp (h 7 k) (h 8 k) f) = w
/-- how many forces below i fit -/
def cfit (h : Hg) (k : Nat) (w : Int32) : Nat → Nat
  | 0 => 0
  | i + 1 => cfit h k w i + (if nI (wsp (h 7 k) (h 8 k) i) = w then 1 else 0)
theorem cfit_mono (h : Hg) (k : Nat) (w : Int32) : ∀ m i, cfit h k w i ≤ cfit h k w (i + m) := by
  intro m i
  induction m with
  | zero => exact Nat.le_refl _
  | succ m ih => exact Nat.le_trans ih (Nat.le_add_right _ _)
theorem cfit_le (h : Hg) (k : Nat) (w : Int32) : ∀ i, cfit h k w i ≤ i := by
  intro i
  induction i with
  | zero => exact Nat.le_refl _
  | succ i ih =>
    show cfit h k w i + _ ≤ _
    split <;> omega
theorem cfit_0 (h : Hg) (k : Nat) (w : Int32) : ∀ i, cfit h k w i = 0 ↔ ∀ f, f < i → ¬ fit h k w f := by
  intro i
  induction i with
  | zero => exact ⟨fun _ f hf => absurd hf (Nat.not_lt_zero f), fun _ => rfl⟩
  | succ i ih =>
    by_cases c : nI (wsp (h 7 k) (h 8 k) i) = w
    · have e : cfit h k w (i + 1) = cfit h k w i + 1 := by
        show cfit h k w i + _ = _
        rw [if_pos c]
      rw [e]
      exact ⟨fun q => by omega, fun q => absurd c (q i (by omega))⟩
    · have e : cfit h k w (i + 1) = cfit h k w i := by
        show cfit h k w i + _ = _
        rw [if_neg c]
        rfl
      rw [e, ih]
      exact ⟨fun q f hf => by
        by_cases e2 : f = i
        · subst e2; exact c
        · exact q f (by omega), fun q f hf => q f (by omega)⟩
/-- the least force from lo to 60 that fits -/
def lsf (h : Hg) (k : Nat) (w : Int32) (lo : Nat) (x : Int32) : Prop := (x = -4 ∧ ∀ f, lo ≤ f → f ≤ 60 → ¬ fit h k w f) ∨ ∃ f, lo ≤ f ∧ f ≤ 60 ∧ x = nI f ∧ fit h k w f ∧ ∀ g, lo ≤ g → g < f → ¬ fit h k w g
theorem lsf_u {h : Hg} {k : Nat} {w x y : Int32} (hx : lsf h k w 0 x) (hy : lsf h k w 0 y) : x = y := by
  rcases hx with ⟨x1, x2⟩ | ⟨f, f1, f2, f3, f4, f5⟩ <;> rcases hy with ⟨y1, y2⟩ | ⟨g, g1, g2, g3, g4, g5⟩
  · rw [x1, y1]
  · exact absurd g4 (x2 g g1 g2)
  · exact absurd f4 (y2 f f1 f2)
  · rw [f3, g3]
    by_cases c : f < g
    · exact absurd f4 (g5 f f1 c)
    · by_cases d : g < f
      · exact absurd g4 (f5 g g1 d)
      · exact congrArg nI (by omega)
theorem lsf_0 {h : Hg} {k : Nat} {w x : Int32} (hx : lsf h k w 0 x) : (x < 0 ∧ cfit h k w 61 = 0) ∨ (¬ x < 0 ∧ 0 ≤ x ∧ ¬ cfit h k w 61 = 0) := by
  rcases hx with ⟨x1, x2⟩ | ⟨f, f1, f2, f3, f4, f5⟩
  · exact Or.inl ⟨by rw [x1]; decide, (cfit_0 h k w 61).mpr (fun f hf => x2 f (Nat.zero_le _) (by omega))⟩
  · exact Or.inr ⟨by rw [f3]; exact nI_pos (by omega), by rw [f3]; exact nI_pos' (by omega), fun q => (cfit_0 h k w 61).mp q f (by omega) f4⟩
theorem wearAt_c {σ : St} {h : Hg} (hC : RelC σ 0 h) (hO : OkH h) {k f : Nat} (hk : k < h 0 2) (hf : f ≤ 60) {α : Type} (G : Int32 → Option α) : (ck (vp_in (nI k) 6) <| bd (gR σ 0 0 (nI k).toNatClampNeg) fun j4 => ck (j4 < gS σ 2 0 ∧ okc (gS σ 1 j4)) <| bd (fvwearBy σ j4 (nI f)) G) = G (nI (wsp (h 7 k) (h 8 k) f)) := by
  obtain ⟨j, c1, hj⟩ := hC.2.2.2.2.2 k hk
  have o2 := hO.2.2.1
  rw [ck_t (in6 (by omega)), nI_clamp (by omega), c1, bd_s, ck_t ⟨hj.1, okc_of hj⟩, wear_c hj (hO.2.2.2.2.2 k hk).1 hf, bd_s]
theorem least_c {σ : St} {h : Hg} (hC : RelC σ 0 h) (hO : OkH h) {k : Nat} (hk : k < h 0 2) (w : Int32) : ∃ x, fX11_leastForceThatFits σ (nI k) w = some x ∧ lsf h k w 0 x := by
  refine loop_h (S := Unit) (fun n i s => fX11_leastForceThatFits_L2 σ (nI k) w (some (-4)) n (nI i)) 61 (fun i s => ∀ f, f < i → ¬ fit h k w f) (fun q => ∃ x, q = some x ∧ lsf h k w 0 x) (fun n i s hi hI => ?_) 61 0 () FU (by omega) (FU_gt (by omega)) (fun f hf => absurd hf (Nat.not_lt_zero f))
  show (∃ x, fX11_leastForceThatFits_L2B σ (nI k) w _ (fX11_leastForceThatFits_L2 σ (nI k) w _ n) (nI i) = some x ∧ _) ∨ (i < 61 ∧ ∃ s', fX11_leastForceThatFits_L2B σ (nI k) w _ (fX11_leastForceThatFits_L2 σ (nI k) w _ n) (nI i) = _ ∧ _)
  unfold fX11_leastForceThatFits_L2B
  by_cases e : i = 61
  · subst e
    rw [if_pos (by decide)]
    exact Or.inl ⟨-4, rfl, Or.inl ⟨rfl, fun f _ q => hI f (by omega)⟩⟩
  · rw [if_neg (show ¬ (60 : Int32) < nI i from nI_nlt (a := 60) (by omega) (by omega)), wearAt_c hC hO hk (by omega)]
    by_cases c : nI (wsp (h 7 k) (h 8 k) i) = w
    · rw [if_pos c]
      exact Or.inl ⟨nI i, rfl, Or.inr ⟨i, Nat.zero_le _, by omega, rfl, c, fun g _ hg => hI g hg⟩⟩
    · rw [if_neg c, nmv_s, nI_1]
      refine Or.inr ⟨by omega, (), rfl, fun f hf => ?_⟩
      by_cases e2 : f = i
      · subst e2; exact c
      · exact hI f (by omega)
theorem forces_c {σ : St} {h : Hg} (hC : RelC σ 0 h) (hO : OkH h) {k : Nat} (hk : k < h 0 2) (w : Int32) : fX11_forcesThatFit σ (nI k) w = some (nI (cfit h k w 61)) := by
  refine loop_a (fun n i s => fX11_forcesThatFit_L5 σ (nI k) w (fun y11 => some y11) n s (nI i)) 61 (fun i => nI (cfit h k w i)) _ (fun n i hi => ?_) (fun n => ?_) FU (FU_gt (by omega))
  · show fX11_forcesThatFit_L5B σ (nI k) w _ (fX11_forcesThatFit_L5 σ (nI k) w _ n) (nI (cfit h k w i)) (nI i) = _
    unfold fX11_forcesThatFit_L5B fX11_forcesThatFit_J33
    rw [if_neg (show ¬ (60 : Int32) < nI i from nI_nlt (a := 60) (by omega) (by omega)), wearAt_c hC hO hk (by omega), nI_1, nI_1]
    show _ = fX11_forcesThatFit_L5 σ (nI k) w _ n (nI (cfit h k w i + (if nI (wsp (h 7 k) (h 8 k) i) = w then 1 else 0))) (nI (i + 1))
    by_cases c : nI (wsp (h 7 k) (h 8 k) i) = w
    · rw [if_pos c, if_pos c]
      rfl
    · rw [if_neg c, if_neg c]
      rfl
  · show fX11_forcesThatFit_L5B σ (nI k) w _ (fX11_forcesThatFit_L5 σ (nI k) w _ n) (nI (cfit h k w 61)) (nI 61) = _
    unfold fX11_forcesThatFit_L5B
    rw [if_pos (by decide)]
/-- the model's count, from a state whose fields 9, 10, 11 are any -/
theorem forces_m {τ : St} {h : Hg} (hM : RelM τ 0 h) (hO : OkH h) {k : Nat} (hk : k < h 0 2) (w : Int32) (g0 : Nat → Int32) : ∃ g, fX12_forcesFor (sA τ 11 0 g0) (nI k) w = some (nI (cfit h k w 61), sA τ 11 0 g) ∧ (∀ j, j ≠ 11 → g j = g0 j) ∧ lsf h k w 0 (g 11) := by
  unfold fX12_forcesFor
  have e9 : ∀ (g : Nat → Int32) (v : Int32), sI (sA τ 11 0 g) 11 0 11 v = sA τ 11 0 (upd g 11 v) := fun g v => by
    show sA (sA τ 11 0 g) 11 0 (upd (gI (sA τ 11 0 g) 11 0) 11 v) = _
    rw [sA_sA, gsA_s]
  rw [nmv_s, e9]
  have q := loop_h (S := Nat → Int32) (fun n i s => fX12_forcesFor_L12 (nI k) w (fun y13 σ14 => some (y13, σ14)) n (nI (cfit h k w 61 - cfit h k w (61 - i))) (dn i) (sA τ 11 0 s)) 61 (fun i s => (∀ j, j ≠ 11 → s j = g0 j) ∧ lsf h k w (61 - i) (s 11)) (fun q => ∃ g, q = some (nI (cfit h k w 61), sA τ 11 0 g) ∧ (∀ j, j ≠ 11 → g j = g0 j) ∧ lsf h k w 0 (g 11)) (fun n i g hi hI => by
    show (∃ g', fX12_forcesFor_L12B (nI k) w _ (fX12_forcesFor_L12 (nI k) w _ n) (nI (cfit h k w 61 - cfit h k w (61 - i))) (dn i) (sA τ 11 0 g) = _ ∧ _) ∨ (i < 61 ∧ ∃ s', fX12_forcesFor_L12B (nI k) w _ (fX12_forcesFor_L12 (nI k) w _ n) (nI (cfit h k w 61 - cfit h k w (61 - i))) (dn i) (sA τ 11 0 g) = _ ∧ _)
    unfold fX12_forcesFor_L12B fX12_forcesFor_J40
    obtain ⟨i1, i2⟩ := hI
    by_cases e : i = 61
    · subst e
      rw [if_pos (show dn 61 < 0 by decide)]
      exact Or.inl ⟨g, rfl, i1, i2⟩
    · have ed : dn i = nI (60 - i) := if_pos (by omega)
      rw [ed, if_neg (nI_pos (by omega)), wear_m (relM_11 hM) hO hk (by omega), bd_s, dn_s (by omega)]
      refine Or.inr ⟨by omega, ?_⟩
      have es : cfit h k w (61 - i) = cfit h k w (60 - i) + (if nI (wsp (h 7 k) (h 8 k) (60 - i)) = w then 1 else 0) := by
        rw [show 61 - i = 60 - i + 1 by omega]
        rfl
      have ev : 61 - (i + 1) = 60 - i := by omega
      have cm : cfit h k w (60 - i + 1) ≤ cfit h k w 61 := by
        have := cfit_mono h k w i (60 - i + 1)
        rw [show 60 - i + 1 + i = 61 by omega] at this
        exact this
      rw [show 60 - i + 1 = 61 - i by omega] at cm
      rw [ev]
      have low : ∀ f, 60 - i ≤ f → f = 60 - i ∨ 61 - i ≤ f := fun f q => by omega
      by_cases c : nI (wsp (h 7 k) (h 8 k) (60 - i)) = w
      · rw [if_pos c] at es
        rw [if_pos c, nI_1, nmv_s, nmv_s, e9, nmv_s]
        refine ⟨upd g 11 (nI (60 - i)), ?_, fun j hj => (pk_un hj).trans (i1 j hj), Or.inr ⟨60 - i, Nat.le_refl _, by omega, pk_us, c, fun f q1 q2 => by omega⟩⟩
        rw [show cfit h k w 61 - cfit h k w (61 - i) + 1 = cfit h k w 61 - cfit h k w (60 - i) by omega]
      · rw [if_neg c] at es
        rw [if_neg c, nmv_s]
        refine ⟨g, ?_, i1, ?_⟩
        · rw [show cfit h k w 61 - cfit h k w (61 - i) = cfit h k w 61 - cfit h k w (60 - i) by omega]
        · rcases i2 with ⟨x1, x2⟩ | ⟨f, f1, f2, f3, f4, f5⟩
          · refine Or.inl ⟨x1, fun f q1 q2 => ?_⟩
            rcases low f q1 with q | q
            · subst q; exact c
            · exact x2 f q q2
          · refine Or.inr ⟨f, by omega, f2, f3, f4, fun g' q1 q2 => ?_⟩
            rcases low g' q1 with q | q
            · subst q; exact c
            · exact f5 g' q q2) 61 0 (upd g0 11 (-4)) FU (by omega) (FU_gt (by omega)) ⟨fun j hj => pk_un hj, Or.inl ⟨rfl, fun f q1 q2 => by omega⟩⟩
  have z : cfit h k w 61 - cfit h k w (61 - 0) = 0 := Nat.sub_self _
  rw [z] at q
  exact q
