/-- how many of the first cells have one force alone -/
def sgl (h : Hg) (k : Nat) (ce : Nat → Int32) : Nat → Nat
  | 0 => 0
  | i + 1 => sgl h k ce i + (if cfit h k (ce i) 61 = 1 then 1 else 0)
theorem sgl_le (h : Hg) (k : Nat) (ce : Nat → Int32) : ∀ i, sgl h k ce i ≤ i := by
  intro i
  induction i with
  | zero => exact Nat.le_refl _
  | succ i ih =>
    show sgl h k ce i + _ ≤ _
    split <;> omega
theorem sgl_mono (h : Hg) (k : Nat) (ce : Nat → Int32) : ∀ m i, sgl h k ce i ≤ sgl h k ce (i + m) := by
  intro m i
  induction m with
  | zero => exact Nat.le_refl _
  | succ m ih => exact Nat.le_trans ih (Nat.le_add_right _ _)
theorem sgl_e {h : Hg} {k : Nat} {ce cm : Nat → Int32} : ∀ {n : Nat}, (∀ i, i < n → ce i = cm i) → sgl h k ce n = sgl h k cm n := by
  intro n
  induction n with
  | zero => exact fun _ => rfl
  | succ n ih =>
    intro e
    show sgl h k ce n + _ = sgl h k cm n + _
    rw [ih (fun i hi => e i (by omega)), e n (by omega)]
/-- a counter that goes down from n - 1 to -1 -/
def dnn (n i : Nat) : Int32 := if i < n then nI (n - 1 - i) else -1
theorem dnn_0 (n : Nat) : nI n - 1 = dnn n 0 := by
  unfold dnn
  by_cases c : 0 < n
  · rw [if_pos c, show nI n - 1 = nI (n - 1) from pk_sub (b := 1) c]
    rfl
  · rw [if_neg c, show n = 0 by omega]
    rfl
theorem dnn_s {n i : Nat} (h : i < n) : nI (n - 1 - i) + (-1) = dnn n (i + 1) := by
  unfold dnn
  by_cases c : i + 1 < n
  · rw [if_pos c, show n - 1 - i = n - 1 - (i + 1) + 1 by omega, pk_m1]
  · rw [if_neg c, show n - 1 - i = 0 by omega]
    rfl
theorem heapL_c {σ : St} {h : Hg} (hC : RelC σ 0 h) (hO : OkH h) {k d n : Nat} (hk : k < h 0 2) (hd : d < 8) (hn : n ≤ 100) (h3 : gI σ 8 d 3 = nI n) : fX11_heap_L95 σ (nI k) (nI d) (fun y20 => some y20) FU 0 0 = some (nI (sgl h k (gI σ 9 d) n)) := by
  refine loop_a (fun m i s => fX11_heap_L95 σ (nI k) (nI d) (fun y20 => some y20) m s (nI i)) n (fun i => nI (sgl h k (gI σ 9 d) i)) _ (fun m i hi => ?_) (fun m => ?_) FU (FU_gt (by omega))
  · show fX11_heap_L95B σ (nI k) (nI d) _ (fX11_heap_L95 σ (nI k) (nI d) _ m) (nI (sgl h k (gI σ 9 d) i)) (nI i) = _
    unfold fX11_heap_L95B fX11_heap_J125
    rw [nI_clamp (by omega), h3, if_neg (nI_ge hi (by omega)), ck_t (pk_in i 100 (by omega) rfl (by omega)), nI_clamp (by omega), forces_c hC hO hk, bd_s, nI_1, nI_1]
    have cl := cfit_le h k (gI σ 9 d i) 61
    show _ = fX11_heap_L95 σ (nI k) (nI d) _ m (nI (sgl h k (gI σ 9 d) i + (if cfit h k (gI σ 9 d i) 61 = 1 then 1 else 0))) (nI (i + 1))
    by_cases c : cfit h k (gI σ 9 d i) 61 = 1
    · rw [if_pos c, if_pos (show nI (cfit h k (gI σ 9 d i) 61) = (1 : Int32) from congrArg nI c)]
      rfl
    · rw [if_neg c, if_neg (show ¬ nI (cfit h k (gI σ 9 d i) 61) = (1 : Int32) from fun q : _ = nI 1 => c ((nI_eq (by omega) (by omega)).mp q))]
      rfl
  · show fX11_heap_L95B σ (nI k) (nI d) _ (fX11_heap_L95 σ (nI k) (nI d) _ m) (nI (sgl h k (gI σ 9 d) n)) (nI n) = _
    unfold fX11_heap_L95B
    rw [nI_clamp (by omega), h3, if_pos (nI_le (Nat.le_refl _) (by omega))]
theorem heapL_m {τ : St} {h : Hg} (hM : RelM τ 0 h) (hO : OkH h) {k d n : Nat} (hk : k < h 0 2) (hd : d < 8) (hn : n ≤ 100) (cm : Nat → Int32) (hcm : ∀ i, i < n → gI τ 12 20 (100 * d + i) = cm i) (K : Int32 → Int32 → St → Option (Int32 × St)) : ∃ g, Fr9 (gI τ 11 0) g ∧ (((∃ j, j < n ∧ cfit h k (cm j) 61 = 0) ∧ fX12_heap_L52 (nI k) (nI d) K FU 0 (-4) (nI n - 1) τ = some (-4, sA τ 11 0 g)) ∨ ((∀ j, j < n → ¬ cfit h k (cm j) 61 = 0) ∧ ∃ x, fX12_heap_L52 (nI k) (nI d) K FU 0 (-4) (nI n - 1) τ = K (nI (sgl h k cm n)) x (sA τ 11 0 g) ∧ ((n = 0 ∧ x = -4) ∨ (0 < n ∧ lsf h k (cm 0) 0 x)))) := by
  have q := loop_h (S := Int32 × (Nat → Int32)) (fun m i s => fX12_heap_L52 (nI k) (nI d) K m (nI (sgl h k cm n - sgl h k cm (n - i))) s.1 (dnn n i) (sA τ 11 0 s.2)) n (fun i s => Fr9 (gI τ 11 0) s.2 ∧ (∀ j, n - i ≤ j → j < n → ¬ cfit h k (cm j) 61 = 0) ∧ ((i = 0 ∧ s.1 = -4) ∨ (0 < i ∧ lsf h k (cm (n - i)) 0 s.1))) (fun q => ∃ g, Fr9 (gI τ 11 0) g ∧ (((∃ j, j < n ∧ cfit h k (cm j) 61 = 0) ∧ q = some (-4, sA τ 11 0 g)) ∨ ((∀ j, j < n → ¬ cfit h k (cm j) 61 = 0) ∧ ∃ x, q = K (nI (sgl h k cm n)) x (sA τ 11 0 g) ∧ ((n = 0 ∧ x = -4) ∨ (0 < n ∧ lsf h k (cm 0) 0 x))))) (fun m i s hi hI => by
    obtain ⟨x, g⟩ := s
    obtain ⟨i1, i2, i3⟩ := hI
    dsimp only at i1 i2 i3
    show (∃ g', Fr9 (gI τ 11 0) g' ∧ ((_ ∧ fX12_heap_L52B (nI k) (nI d) K (fX12_heap_L52 (nI k) (nI d) K m) (nI (sgl h k cm n - sgl h k cm (n - i))) x (dnn n i) (sA τ 11 0 g) = _) ∨ (_ ∧ ∃ x', fX12_heap_L52B (nI k) (nI d) K (fX12_heap_L52 (nI k) (nI d) K m) (nI (sgl h k cm n - sgl h k cm (n - i))) x (dnn n i) (sA τ 11 0 g) = _ ∧ _))) ∨ (i < n ∧ ∃ s', fX12_heap_L52B (nI k) (nI d) K (fX12_heap_L52 (nI k) (nI d) K m) (nI (sgl h k cm n - sgl h k cm (n - i))) x (dnn n i) (sA τ 11 0 g) = _ ∧ _)
    unfold fX12_heap_L52B fX12_heap_J97
    by_cases e : i = n
    · subst e
      rw [if_pos (show dnn i i < 0 by unfold dnn; rw [if_neg (Nat.lt_irrefl _)]; decide)]
      refine Or.inl ⟨g, i1, Or.inr ⟨fun j hj => i2 j (by omega) hj, x, ?_, ?_⟩⟩
      · rw [Nat.sub_self]
        rfl
      · rw [Nat.sub_self] at i3
        exact i3
    · have hb : i < n := by omega
      have ed : dnn n i = nI (n - 1 - i) := if_pos hb
      rw [ed, if_neg (nI_pos (by omega)), cell_ix, ck_t (in800 hd (by omega)), nI_clamp (by omega), show gI (sA τ 11 0 g) 12 20 (100 * d + (n - 1 - i)) = gI τ 12 20 (100 * d + (n - 1 - i)) from rfl, hcm _ (by omega), dnn_s hb]
      obtain ⟨g', g1, g2, g3⟩ := forces_m hM hO hk (cm (n - 1 - i)) g
      have cl := cfit_le h k (cm (n - 1 - i)) 61
      rw [g1, bd_s]
      dsimp only
      by_cases c : cfit h k (cm (n - 1 - i)) 61 = 0
      · rw [c, if_pos nI_0]
        exact Or.inl ⟨g', fr9_of i1 g2, Or.inl ⟨⟨n - 1 - i, by omega, c⟩, rfl⟩⟩
      · rw [if_neg (nI_ne0 (by omega) (by omega))]
        simp only [nmv_s, gsA_s]
        refine Or.inr ⟨hb, ?_⟩
        have ev : n - (i + 1) = n - 1 - i := by omega
        have es : sgl h k cm (n - i) = sgl h k cm (n - 1 - i) + (if cfit h k (cm (n - 1 - i)) 61 = 1 then 1 else 0) := by
          rw [show n - i = n - 1 - i + 1 by omega]
          rfl
        have sm : sgl h k cm (n - i) ≤ sgl h k cm n := by
          have := sgl_mono h k cm i (n - i)
          rw [show n - i + i = n by omega] at this
          exact this
        have nx : (∀ j, n - 1 - i ≤ j → j < n → ¬ cfit h k (cm j) 61 = 0) := fun j q1 q2 => by
          by_cases e2 : j = n - 1 - i
          · subst e2; exact c
          · exact i2 j (by omega) q2
        rw [ev]
        by_cases c1 : cfit h k (cm (n - 1 - i)) 61 = 1
        · rw [if_pos c1] at es
          rw [if_pos (show nI (cfit h k (cm (n - 1 - i)) 61) = (1 : Int32) from congrArg nI c1), nI_1]
          refine ⟨(g' 11, g'), ?_, fr9_of i1 g2, nx, Or.inr ⟨by omega, g3⟩⟩
          rw [show sgl h k cm n - sgl h k cm (n - i) + 1 = sgl h k cm n - sgl h k cm (n - 1 - i) by omega]
        · rw [if_neg c1] at es
          rw [if_neg (show ¬ nI (cfit h k (cm (n - 1 - i)) 61) = (1 : Int32) from fun q : _ = nI 1 => c1 ((nI_eq (by omega) (by omega)).mp q))]
          refine ⟨(g' 11, g'), ?_, fr9_of i1 g2, nx, Or.inr ⟨by omega, g3⟩⟩
          rw [show nI (sgl h k cm n - sgl h k cm (n - i)) + 0 = nI (sgl h k cm n - sgl h k cm (n - i) + 0) from nI_add _ 0, show sgl h k cm n - sgl h k cm (n - i) + 0 = sgl h k cm n - sgl h k cm (n - 1 - i) by omega]) n 0 (-4, gI τ 11 0) FU (by omega) (FU_gt (by omega)) ⟨fun j _ _ _ => rfl, fun j q1 q2 => by omega, Or.inl ⟨rfl, rfl⟩⟩
  have z : sgl h k cm n - sgl h k cm (n - 0) = 0 := Nat.sub_self _
  rw [z, sA_self, ← dnn_0] at q
  exact q
/-- heap -/
theorem case30 : Case30 Inv := by
  intro σ hI a1 a2 a3
  obtain ⟨⟨h, hO, hC, hM⟩, ⟨h1', O1, C1, M1⟩, I3, I4, I5, I6, I7, I8⟩ := id hI
  unfold fX11_heap
  rcases blow_s hC hM hO a1 with ⟨k, hk, rfl, p1, p2⟩ | ⟨-, p1, p2⟩
  rotate_left
  · exact ⟨-1, σ, by rw [p1]; rfl, by unfold fX12_heap; rw [p2]; rfl, hI⟩
  rcases rng_s (σ := σ) (τ := σ) (M := 1) (n := 1) a3 (by omega) rfl with ⟨w, hw, e3, r1, r2⟩ | ⟨-, r1, r2⟩
  rotate_left
  · exact ⟨-1, σ, by rw [p1, r2]; rfl, by unfold fX12_heap; rw [p2, r1]; rfl, hI⟩
  rcases shelf_s I8 a2 with ⟨q1, q2, -⟩ | ⟨d, hd, rfl, ⟨q1, q2, -⟩ | ⟨⟨q1, q2, -⟩, -⟩ | ⟨⟨q1, q2, -⟩, -, -, -, so, n, s1, s2, s3, s4, s5, s6, s7⟩⟩
  · exact ⟨-1, σ, by rw [p1, r2, q1]; rfl, by unfold fX12_heap; rw [p2, r1, q2]; rfl, hI⟩
  · exact ⟨-11, σ, by rw [p1, r2, q1]; rfl, by unfold fX12_heap; rw [p2, r1, q2]; rfl, hI⟩
  · exact ⟨-12, σ, by rw [p1, r2, q1]; rfl, by unfold fX12_heap; rw [p2, r1, q2]; rfl, hI⟩
  · obtain ⟨x, x1, x2⟩ := firstForged_c hC hO hk s2 s5
    obtain ⟨g, g1, g2⟩ := heapL_m hM hO hk hd s2 (gI σ 9 d) (fun i hi => (s7 i hi).symm) (fun y23 y24 σ25 => if a3 = 0 then some (y23, σ25) else some (y24, σ25))
    have ml : fX12_heap σ (nI k) (nI d) a3 = fX12_heap_L52 (nI k) (nI d) (fun y23 y24 σ25 => if a3 = 0 then some (y23, σ25) else some (y24, σ25)) FU 0 (-4) (nI n - 1) σ := by
      unfold fX12_heap
      rw [p2, bd_s, if_neg (by decide), r1, bd_s, if_neg (by decide), q2, bd_s, if_pos rfl, ck_t (in8 hd), nI_clamp (by omega), s6, nmv_s]
    rw [p1, bd_s, if_neg (by decide), r2, bd_s, if_pos rfl, q1, bd_s, if_pos (by decide), ck_t (in8 hd), nI_clamp (by omega), x1, bd_s, ml]
    rcases g2 with ⟨⟨j, hj, c⟩, g2⟩ | ⟨c, y, g2, g3⟩
    · rw [g2]
      rcases x2 with ⟨y1, y2⟩ | ⟨i, y2, y3, y4⟩
      · exact absurd c (y2 j hj)
      · rw [y3, if_neg (nI_pos (by omega))]
        exact ⟨-4, sA σ 11 0 g, rfl, rfl, inv_fr9 hI g1⟩
    · rw [g2]
      rcases x2 with ⟨y1, y2⟩ | ⟨i, y2, y3, y4, -⟩
      rotate_left
      · exact absurd y4 (c i y2)
      · rw [y1, if_pos (by decide)]
        rcases w with _ | _ | w
        · have e0 : a3 = 0 := e3
          rw [if_neg (show ¬ a3 = 1 by rw [e0]; decide), if_pos e0, heapL_c hC hO hk hd s2 s5]
          exact ⟨_, sA σ 11 0 g, rfl, rfl, inv_fr9 hI g1⟩
        · have e1 : a3 = 1 := e3
          rw [if_pos e1, s5]
          rcases g3 with ⟨n0, z⟩ | ⟨n0, z⟩
          · rw [n0, if_pos nI_0, z]
            exact ⟨-4, sA σ 11 0 g, rfl, if_neg (show ¬ a3 = 0 by rw [e1]; decide), inv_fr9 hI g1⟩
          · obtain ⟨x', x3, x4⟩ := least_c hC hO hk (gI σ 9 d 0)
            rw [if_neg (nI_ne0 n0 (by omega)), ck_t (show vp_in 0 100 from pk_in 0 100 (by omega) rfl (by omega)), show (0 : Int32).toNatClampNeg = 0 from rfl, x3]
            have e := lsf_u x4 z
            subst e
            exact ⟨x', sA σ 11 0 g, rfl, if_neg (show ¬ a3 = 0 by rw [e1]; decide), inv_fr9 hI g1⟩
        · omega
