/-- the first cell that no force explains -/
def fgd (h : Hg) (k : Nat) (ce : Nat → Int32) (n : Nat) (x : Int32) : Prop := (x = -4 ∧ ∀ i, i < n → ¬ cfit h k (ce i) 61 = 0) ∨ ∃ i, i < n ∧ x = nI i ∧ cfit h k (ce i) 61 = 0 ∧ ∀ j, j < i → ¬ cfit h k (ce j) 61 = 0
theorem fgd_u {h : Hg} {k n : Nat} {ce cm : Nat → Int32} {x y : Int32} (hx : fgd h k ce n x) (hy : fgd h k cm n y) (e : ∀ i, i < n → ce i = cm i) : x = y := by
  rcases hx with ⟨x1, x2⟩ | ⟨f, f2, f3, f4, f5⟩ <;> rcases hy with ⟨y1, y2⟩ | ⟨g, g2, g3, g4, g5⟩
  · rw [x1, y1]
  · rw [← e g g2] at g4
    exact absurd g4 (x2 g g2)
  · rw [e f f2] at f4
    exact absurd f4 (y2 f f2)
  · rw [f3, g3]
    by_cases c : f < g
    · rw [e f f2] at f4
      exact absurd f4 (g5 f c)
    · by_cases d : g < f
      · rw [← e g g2] at g4
        exact absurd g4 (f5 g d)
      · exact congrArg nI (by omega)
theorem firstForged_c {σ : St} {h : Hg} (hC : RelC σ 0 h) (hO : OkH h) {k d n : Nat} (hk : k < h 0 2) (hn : n ≤ 100) (h3 : gI σ 8 d 3 = nI n) : ∃ x, fX11_firstForged σ (nI k) d = some x ∧ fgd h k (gI σ 9 d) n x := by
  refine loop_h (S := Unit) (fun m i s => fX11_firstForged_L2 σ (nI k) d (some (-4)) m (nI i)) n (fun i s => ∀ j, j < i → ¬ cfit h k (gI σ 9 d j) 61 = 0) (fun q => ∃ x, q = some x ∧ fgd h k (gI σ 9 d) n x) (fun m i s hi hI => ?_) n 0 () FU (by omega) (FU_gt (by omega)) (fun f hf => absurd hf (Nat.not_lt_zero f))
  show (∃ x, fX11_firstForged_L2B σ (nI k) d _ (fX11_firstForged_L2 σ (nI k) d _ m) (nI i) = some x ∧ _) ∨ (i < n ∧ ∃ s', fX11_firstForged_L2B σ (nI k) d _ (fX11_firstForged_L2 σ (nI k) d _ m) (nI i) = _ ∧ _)
  unfold fX11_firstForged_L2B
  rw [h3]
  by_cases e : i = n
  · subst e
    rw [if_pos (nI_le (Nat.le_refl _) (by omega))]
    exact Or.inl ⟨-4, rfl, Or.inl ⟨rfl, hI⟩⟩
  · obtain ⟨x, x1, x2⟩ := least_c hC hO hk (gI σ 9 d i)
    rw [if_neg (nI_ge (by omega) (by omega)), ck_t (pk_in i 100 (by omega) rfl (by omega)), nI_clamp (by omega), x1, bd_s]
    rcases lsf_0 x2 with ⟨y1, y2⟩ | ⟨y1, y2, y3⟩
    · rw [if_neg (fun q => Int32.not_le.mpr y1 q)]
      exact Or.inl ⟨nI i, rfl, Or.inr ⟨i, by omega, rfl, y2, hI⟩⟩
    · rw [if_pos y2, nmv_s, nI_1]
      refine Or.inr ⟨by omega, (), rfl, fun j hj => ?_⟩
      by_cases e2 : j = i
      · subst e2; exact y3
      · exact hI j (by omega)
theorem fr9_of {o g g' : Nat → Int32} (h : Fr9 o g) (q : ∀ j, j ≠ 11 → g' j = g j) : Fr9 o g' := fun j j9 j10 j11 => (q j j11).trans (h j j9 j10 j11)
theorem forged_m {τ : St} {h : Hg} (hM : RelM τ 0 h) (hO : OkH h) {k d n : Nat} (hk : k < h 0 2) (hd : d < 8) (hn : n ≤ 100) (h3 : gI τ 12 19 d = nI n) : ∃ x g, fX12_forged_L26 (nI k) (nI d) (fun σ13 => some ((-4), σ13)) FU 0 τ = some (x, sA τ 11 0 g) ∧ fgd h k (fun i => gI τ 12 20 (100 * d + i)) n x ∧ Fr9 (gI τ 11 0) g := by
  have q : (fun q => ∃ x g, q = some (x, sA τ 11 0 g) ∧ fgd h k (fun i => gI τ 12 20 (100 * d + i)) n x ∧ Fr9 (gI τ 11 0) g) (fX12_forged_L26 (nI k) (nI d) (fun σ13 => some ((-4), σ13)) FU (nI 0) (sA τ 11 0 (gI τ 11 0))) := by
    refine loop_h (S := Nat → Int32) (fun m i s => fX12_forged_L26 (nI k) (nI d) (fun σ13 => some ((-4), σ13)) m (nI i) (sA τ 11 0 s)) n (fun i s => Fr9 (gI τ 11 0) s ∧ ∀ j, j < i → ¬ cfit h k (gI τ 12 20 (100 * d + j)) 61 = 0) (fun q => ∃ x g, q = some (x, sA τ 11 0 g) ∧ fgd h k (fun i => gI τ 12 20 (100 * d + i)) n x ∧ Fr9 (gI τ 11 0) g) (fun m i g hi hI => ?_) n 0 (gI τ 11 0) FU (by omega) (FU_gt (by omega)) ⟨fun j _ _ _ => rfl, fun f hf => absurd hf (Nat.not_lt_zero f)⟩
    obtain ⟨i1, i2⟩ := hI
    show (∃ x g', fX12_forged_L26B (nI k) (nI d) _ (fX12_forged_L26 (nI k) (nI d) _ m) (nI i) (sA τ 11 0 g) = _ ∧ _) ∨ (i < n ∧ ∃ s', fX12_forged_L26B (nI k) (nI d) _ (fX12_forged_L26 (nI k) (nI d) _ m) (nI i) (sA τ 11 0 g) = _ ∧ _)
    unfold fX12_forged_L26B
    rw [ck_t (in8 hd), nI_clamp (by omega), show gI (sA τ 11 0 g) 12 19 d = nI n from h3]
    by_cases e : i = n
    · subst e
      rw [if_pos (nI_le (Nat.le_refl _) (by omega))]
      exact Or.inl ⟨-4, g, rfl, Or.inl ⟨rfl, i2⟩, i1⟩
    · rw [if_neg (nI_ge (by omega) (by omega)), cell_ix, ck_t (in800 hd (by omega)), nI_clamp (by omega), show gI (sA τ 11 0 g) 12 20 (100 * d + i) = gI τ 12 20 (100 * d + i) from rfl]
      obtain ⟨g', g1, g2, g3⟩ := forces_m hM hO hk (gI τ 12 20 (100 * d + i)) g
      have cl := cfit_le h k (gI τ 12 20 (100 * d + i)) 61
      rw [g1, bd_s]
      dsimp only
      by_cases c : cfit h k (gI τ 12 20 (100 * d + i)) 61 = 0
      · rw [c, if_pos nI_0]
        exact Or.inl ⟨nI i, g', rfl, Or.inr ⟨i, by omega, rfl, c, i2⟩, fr9_of i1 g2⟩
      · rw [if_neg (nI_ne0 (by omega) (by omega)), nmv_s, nI_1]
        refine Or.inr ⟨by omega, g', rfl, fr9_of i1 g2, fun j hj => ?_⟩
        by_cases e2 : j = i
        · subst e2; exact c
        · exact i2 j (by omega)
  rw [sA_self] at q
  exact q
/-- forged -/
theorem case31 : Case31 Inv := by
  intro σ hI a1 a2
  obtain ⟨⟨h, hO, hC, hM⟩, ⟨h1', O1, C1, M1⟩, I3, I4, I5, I6, I7, I8⟩ := id hI
  unfold fX11_forged
  rcases blow_s hC hM hO a1 with ⟨k, hk, rfl, p1, p2⟩ | ⟨-, p1, p2⟩
  rotate_left
  · exact ⟨-1, σ, by rw [p1]; rfl, by unfold fX12_forged; rw [p2]; rfl, hI⟩
  rcases shelf_s I8 a2 with ⟨q1, q2, -⟩ | ⟨d, hd, rfl, ⟨q1, q2, -⟩ | ⟨⟨q1, q2, -⟩, -⟩ | ⟨⟨q1, q2, -⟩, -, -, -, so, n, s1, s2, s3, s4, s5, s6, s7⟩⟩
  · exact ⟨-1, σ, by rw [p1, q1]; rfl, by unfold fX12_forged; rw [p2, q2]; rfl, hI⟩
  · exact ⟨-11, σ, by rw [p1, q1]; rfl, by unfold fX12_forged; rw [p2, q2]; rfl, hI⟩
  · exact ⟨-12, σ, by rw [p1, q1]; rfl, by unfold fX12_forged; rw [p2, q2]; rfl, hI⟩
  · obtain ⟨x, x1, x2⟩ := firstForged_c hC hO hk s2 s5
    obtain ⟨y, g, y1, y2, y3⟩ := forged_m hM hO hk hd s2 s6
    have e := fgd_u x2 y2 s7
    subst e
    refine ⟨x, sA σ 11 0 g, ?_, ?_, inv_fr9 hI y3⟩
    · rw [p1, bd_s, if_neg (by decide), q1, bd_s, if_pos (by decide), ck_t (in8 hd), nI_clamp (by omega), x1, bd_s]
    · unfold fX12_forged
      rw [p2, bd_s, if_neg (by decide), q2, bd_s, if_pos rfl]
      exact y1
