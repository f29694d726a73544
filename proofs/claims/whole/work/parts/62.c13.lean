/-- what blade, blow can -/
def can1 (h : Hg) (b t k : Nat) : Prop := splN h b = 0 ∧ 0 < prs 3 h b t k
def can2 (h : Hg) (t : Nat) : Prop := ∃ b, b < h 0 0 ∧ ∃ k, k < h 0 2 ∧ can1 h b t k
theorem canIn_c {σ : St} {h : Hg} (hC : RelC σ 0 h) (hO : OkH h) {b t : Nat} (hb : b < h 0 0) (ht : t < h 0 1) (K : St → Option (Int32 × St)) (g0 : Nat → Int32) : (∃ g k, k < h 0 2 ∧ can1 h b t k ∧ fX11_canAny_L15 (nI t) (nI b) K FU 0 (sA σ 7 0 g0) = some (1, sA σ 7 0 g)) ∨ ∃ g, fX11_canAny_L15 (nI t) (nI b) K FU 0 (sA σ 7 0 g0) = K (sA σ 7 0 g) ∧ ∀ k, k < h 0 2 → ¬ can1 h b t k := by
  have o6 := hO.2.2.1
  refine loop_h (S := Nat → Int32) (fun n i s => fX11_canAny_L15 (nI t) (nI b) K n (nI i) (sA σ 7 0 s)) (h 0 2) (fun i s => ∀ k, k < i → ¬ can1 h b t k) (fun q => (∃ g k, k < h 0 2 ∧ can1 h b t k ∧ q = some (1, sA σ 7 0 g)) ∨ ∃ g, q = K (sA σ 7 0 g) ∧ ∀ k, k < h 0 2 → ¬ can1 h b t k) (fun n i g hi hI => ?_) (h 0 2) 0 g0 FU (by omega) (FU_gt (by omega)) (fun k hk => absurd hk (Nat.not_lt_zero k))
  show ((∃ g' k, k < h 0 2 ∧ can1 h b t k ∧ fX11_canAny_L15B (nI t) (nI b) K (fX11_canAny_L15 (nI t) (nI b) K n) (nI i) (sA σ 7 0 g) = some (1, sA σ 7 0 g')) ∨ ∃ g', fX11_canAny_L15B (nI t) (nI b) K (fX11_canAny_L15 (nI t) (nI b) K n) (nI i) (sA σ 7 0 g) = K (sA σ 7 0 g') ∧ ∀ k, k < h 0 2 → ¬ can1 h b t k) ∨ (i < h 0 2 ∧ ∃ g', fX11_canAny_L15B (nI t) (nI b) K (fX11_canAny_L15 (nI t) (nI b) K n) (nI i) (sA σ 7 0 g) = _ ∧ ∀ k, k < i + 1 → ¬ can1 h b t k)
  unfold fX11_canAny_L15B fX11_canAny_J55
  rw [(relC_7 hC (y := 0) (f := g)).2.2.1]
  by_cases e : i = h 0 2
  · subst e
    rw [if_pos (nI_le (Nat.le_refl _) (by omega))]
    exact Or.inl (Or.inr ⟨g, rfl, hI⟩)
  · have hk : i < h 0 2 := by omega
    have ext : ¬ can1 h b t i → ∀ k, k < i + 1 → ¬ can1 h b t k := fun q k hk2 => by
      by_cases e2 : k = i
      · subst e2; exact q
      · exact hI k (by omega)
    rw [if_neg (nI_ge hk (by omega)), splN_c (relC_7 hC (y := 0) (f := g)) hO hb, bd_s]
    rcases splN_01 h b with s0 | s0
    · rw [s0, if_pos nI_0]
      obtain ⟨g', g1, g2⟩ := spanPairs_c hC hO hb ht hk g
      have pl := prs_le (h := h) (hp := 3) (b := b) (t := t) (k := i)
      rw [g1, bd_s, g2, bd_s]
      by_cases c : prs 3 h b t i = 0
      · rw [c, if_pos (by decide), nmv_s, nI_1]
        exact Or.inr ⟨hk, g', rfl, ext (fun q => by have := q.2; omega)⟩
      · rw [if_neg (nI_nle (by omega) (by omega))]
        exact Or.inl (Or.inl ⟨g', i, hk, ⟨s0, by omega⟩, rfl⟩)
    · rw [s0, if_neg (by decide), nmv_s, nI_1]
      exact Or.inr ⟨hk, g, rfl, ext (fun q => by have := q.1; omega)⟩
theorem canAny_c {σ : St} {h : Hg} (hC : RelC σ 0 h) (hO : OkH h) {t : Nat} (ht : t < h 0 1) (g0 : Nat → Int32) : ∃ g, (can2 h t ∧ fX11_canAny (sA σ 7 0 g0) (nI t) = some (1, sA σ 7 0 g)) ∨ (¬ can2 h t ∧ fX11_canAny (sA σ 7 0 g0) (nI t) = some (0, sA σ 7 0 g)) := by
  have o6 := hO.1
  refine loop_h (S := Nat → Int32) (fun n i s => fX11_canAny_L2 (nI t) (fun σ16 => some (0, σ16)) n (nI i) (sA σ 7 0 s)) (h 0 0) (fun i s => ∀ b, b < i → ∀ k, k < h 0 2 → ¬ can1 h b t k) (fun q => ∃ g, (can2 h t ∧ q = some (1, sA σ 7 0 g)) ∨ (¬ can2 h t ∧ q = some (0, sA σ 7 0 g))) (fun n i g hi hI => ?_) (h 0 0) 0 g0 FU (by omega) (FU_gt (by omega)) (fun k hk => absurd hk (Nat.not_lt_zero k))
  show (∃ g', (can2 h t ∧ fX11_canAny_L2B (nI t) _ (fX11_canAny_L2 (nI t) _ n) (nI i) (sA σ 7 0 g) = some (1, sA σ 7 0 g')) ∨ (¬ can2 h t ∧ fX11_canAny_L2B (nI t) _ (fX11_canAny_L2 (nI t) _ n) (nI i) (sA σ 7 0 g) = some (0, sA σ 7 0 g'))) ∨ (i < h 0 0 ∧ ∃ g', fX11_canAny_L2B (nI t) _ (fX11_canAny_L2 (nI t) _ n) (nI i) (sA σ 7 0 g) = _ ∧ ∀ b, b < i + 1 → ∀ k, k < h 0 2 → ¬ can1 h b t k)
  unfold fX11_canAny_L2B
  rw [(relC_7 hC (y := 0) (f := g)).1]
  by_cases e : i = h 0 0
  · subst e
    rw [if_pos (nI_le (Nat.le_refl _) (by omega))]
    exact Or.inl ⟨g, Or.inr ⟨fun ⟨b, hb, k, hk, q⟩ => hI b hb k hk q, rfl⟩⟩
  · have hb : i < h 0 0 := by omega
    rw [if_neg (nI_ge hb (by omega))]
    rcases canIn_c hC hO hb ht (fun σ14 => nmv (nI i + 1) fun v15 => fX11_canAny_L2 (nI t) (fun σ16 => some (0, σ16)) n v15 σ14) g with ⟨g', k, hk, c, e2⟩ | ⟨g', e2, c⟩
    · rw [e2]
      exact Or.inl ⟨g', Or.inl ⟨⟨i, hb, k, hk, c⟩, rfl⟩⟩
    · rw [e2, nmv_s, nI_1]
      refine Or.inr ⟨hb, g', rfl, fun b hb2 => ?_⟩
      by_cases e3 : b = i
      · subst e3; exact c
      · exact hI b (by omega)
/-- bits W of the first t thumbs that can -/
def whoW (h : Hg) (t : Nat) (x : Int32) : Prop := ∃ W : Nat → Int32, W 0 = 0 ∧ W t = x ∧ ∀ i, i < t → (can2 h i ∧ W (i + 1) = W i ||| ((1 : Int32) <<< (nI i &&& 31))) ∨ (¬ can2 h i ∧ W (i + 1) = W i)
theorem whoW_u {h : Hg} {t : Nat} {x y : Int32} (hx : whoW h t x) (hy : whoW h t y) : x = y := by
  obtain ⟨W, w0, w1, w2⟩ := hx
  obtain ⟨V, v0, v1, v2⟩ := hy
  have : ∀ i, i ≤ t → W i = V i := by
    intro i
    induction i with
    | zero => exact fun _ => w0.trans v0.symm
    | succ i ih =>
      intro hi
      have e := ih (by omega)
      rcases w2 i (by omega) with ⟨a, a2⟩ | ⟨a, a2⟩ <;> rcases v2 i (by omega) with ⟨c, c2⟩ | ⟨c, c2⟩
      · rw [a2, c2, e]
      · exact absurd a c
      · exact absurd c a
      · rw [a2, c2, e]
  rw [← w1, ← v1, this t (Nat.le_refl _)]
theorem whoW_0 (h : Hg) : whoW h 0 0 := ⟨fun _ => 0, rfl, rfl, fun i hi => absurd hi (Nat.not_lt_zero i)⟩
theorem whoW_s {h : Hg} {t : Nat} {x y : Int32} (hx : whoW h t x) (hy : (can2 h t ∧ y = x ||| ((1 : Int32) <<< (nI t &&& 31))) ∨ (¬ can2 h t ∧ y = x)) : whoW h (t + 1) y := by
  obtain ⟨W, w0, w1, w2⟩ := hx
  refine ⟨fun i => if i = t + 1 then y else W i, ?_, if_pos rfl, fun i hi => ?_⟩
  · show (if 0 = t + 1 then y else W 0) = 0
    rw [if_neg (by omega), w0]
  · show (can2 h i ∧ (if i + 1 = t + 1 then y else W (i + 1)) = (if i = t + 1 then y else W i) ||| ((1 : Int32) <<< (nI i &&& 31))) ∨ (¬ can2 h i ∧ (if i + 1 = t + 1 then y else W (i + 1)) = if i = t + 1 then y else W i)
    rw [if_neg (show ¬ i = t + 1 by omega)]
    by_cases e : i = t
    · subst e
      rw [if_pos rfl, w1]
      exact hy
    · rw [if_neg (by omega)]
      exact w2 i (by omega)
theorem whoCan_c {σ : St} {h : Hg} (hC : RelC σ 0 h) (hO : OkH h) : ∃ g x, whoW h (h 0 1) x ∧ fX11_whoCan σ = some (x, sA σ 7 0 g) := by
  have o6 := hO.2.1
  have q : (fun q => ∃ g x, whoW h (h 0 1) x ∧ q = some (x, sA σ 7 0 g)) (fX11_whoCan_L4 (fun y11 σ12 => some (y11, σ12)) FU 0 (nI 0) (sA σ 7 0 (gI σ 7 0))) := by
    refine loop_h (S := Int32 × (Nat → Int32)) (fun n i s => fX11_whoCan_L4 (fun y11 σ12 => some (y11, σ12)) n s.1 (nI i) (sA σ 7 0 s.2)) (h 0 1) (fun i s => whoW h i s.1) (fun q => ∃ g x, whoW h (h 0 1) x ∧ q = some (x, sA σ 7 0 g)) (fun n i s hi hI => ?_) (h 0 1) 0 (0, gI σ 7 0) FU (by omega) (FU_gt (by omega)) (whoW_0 h)
    obtain ⟨x, g⟩ := s
    simp only at hI
    show (∃ g' x', whoW h (h 0 1) x' ∧ fX11_whoCan_L4B _ (fX11_whoCan_L4 _ n) x (nI i) (sA σ 7 0 g) = some (x', sA σ 7 0 g')) ∨ (i < h 0 1 ∧ ∃ s', fX11_whoCan_L4B _ (fX11_whoCan_L4 _ n) x (nI i) (sA σ 7 0 g) = _ ∧ _)
    unfold fX11_whoCan_L4B
    rw [(relC_7 hC (y := 0) (f := g)).2.1]
    by_cases e : i = h 0 1
    · subst e
      rw [if_pos (nI_le (Nat.le_refl _) (by omega))]
      exact Or.inl ⟨g, x, hI, rfl⟩
    · have ht : i < h 0 1 := by omega
      rw [if_neg (nI_ge ht (by omega))]
      unfold fX11_whoCan_J29
      obtain ⟨g', c | c⟩ := canAny_c hC hO ht g
      · obtain ⟨c1, c2⟩ := c
        rw [c2, bd_s]
        dsimp only
        rw [if_neg (by decide), nmv_s, nmv_s, nI_1]
        exact Or.inr ⟨ht, (x ||| ((1 : Int32) <<< (nI i &&& 31)), g'), rfl, whoW_s hI (Or.inl ⟨c1, rfl⟩)⟩
      · obtain ⟨c1, c2⟩ := c
        rw [c2, bd_s]
        dsimp only
        rw [if_pos rfl, nmv_s, nI_1]
        exact Or.inr ⟨ht, (x, g'), rfl, whoW_s hI (Or.inr ⟨c1, rfl⟩)⟩
  rw [sA_self] at q
  exact q
theorem or_or {x y : Int32} : (x ||| y) ||| y = x ||| y := by rw [Int32.or_assoc, Int32.or_self]
/-- thumbs t with blow k: the best blade is one -/
theorem bst_can {h : Hg} {t k : Nat} (h6 : h 0 0 ≤ 6) : ((bst h t k (h 0 0)).1 < 0 ∧ ∀ b, b < h 0 0 → ¬ can1 h b t k) ∨ (¬ (bst h t k (h 0 0)).1 < 0 ∧ ∃ b, b < h 0 0 ∧ can1 h b t k) := by
  rcases bst_s h t k (h 0 0) with ⟨q1, q2, q3⟩ | ⟨b, q1, q2, q3, q4⟩
  · exact Or.inl ⟨by rw [q1]; decide, q3⟩
  · exact Or.inr ⟨by rw [q2]; exact nI_pos (by omega), b, q1, q4⟩
theorem whoIn_m {τ : St} {h : Hg} (hM : RelM τ 0 h) (hO : OkH h) (hh : gI τ 11 0 4 = nI 3) {t : Nat} (ht : t < h 0 1) (K : Int32 → St → Option (Int32 × St)) (x : Int32) {g0 : Nat → Int32} (hg0 : Fr9 (gI τ 11 0) g0) : ∃ g y, Fr9 (gI τ 11 0) g ∧ fX12_whoCan_L16 (nI t) K FU x 0 (sA τ 11 0 g0) = K y (sA τ 11 0 g) ∧ ((can2 h t ∧ y = x ||| ((1 : Int32) <<< (nI t &&& 31))) ∨ (¬ can2 h t ∧ y = x)) := by
  have o6 := hO.2.2.1
  have k2 : vp_in 2 47 := in47 (k := 2) (by omega)
  refine loop_h (S := Int32 × (Nat → Int32)) (fun n i s => fX12_whoCan_L16 (nI t) K n s.1 (nI i) (sA τ 11 0 s.2)) (h 0 2) (fun i s => Fr9 (gI τ 11 0) s.2 ∧ (((∃ k, k < i ∧ ∃ b, b < h 0 0 ∧ can1 h b t k) ∧ s.1 = x ||| ((1 : Int32) <<< (nI t &&& 31))) ∨ ((∀ k, k < i → ∀ b, b < h 0 0 → ¬ can1 h b t k) ∧ s.1 = x))) (fun q => ∃ g y, Fr9 (gI τ 11 0) g ∧ q = K y (sA τ 11 0 g) ∧ ((can2 h t ∧ y = x ||| ((1 : Int32) <<< (nI t &&& 31))) ∨ (¬ can2 h t ∧ y = x))) (fun n i s hi hI => ?_) (h 0 2) 0 (x, g0) FU (by omega) (FU_gt (by omega)) ⟨hg0, Or.inr ⟨fun k hk => absurd hk (Nat.not_lt_zero k), rfl⟩⟩
  obtain ⟨y, g⟩ := s
  simp only at hI
  obtain ⟨ig, iy⟩ := hI
  show (∃ g' y', Fr9 (gI τ 11 0) g' ∧ fX12_whoCan_L16B (nI t) K (fX12_whoCan_L16 (nI t) K n) y (nI i) (sA τ 11 0 g) = K y' (sA τ 11 0 g') ∧ _) ∨ (i < h 0 2 ∧ ∃ s', fX12_whoCan_L16B (nI t) K (fX12_whoCan_L16 (nI t) K n) y (nI i) (sA τ 11 0 g) = _ ∧ _)
  unfold fX12_whoCan_L16B
  rw [ck_t k2, show gI (sA τ 11 0 g) 12 0 (2 : Int32).toNatClampNeg = nI (h 0 2) from hM.2.2.1]
  by_cases e : i = h 0 2
  · subst e
    rw [if_pos (nI_le (Nat.le_refl _) (by omega))]
    refine Or.inl ⟨g, y, ig, rfl, ?_⟩
    rcases iy with ⟨⟨k, hk, b, hb, c⟩, e2⟩ | ⟨c, e2⟩
    · exact Or.inl ⟨⟨b, hb, k, hk, c⟩, e2⟩
    · exact Or.inr ⟨fun ⟨b, hb, k, hk, q⟩ => c k hk b hb q, e2⟩
  · have hk : i < h 0 2 := by omega
    rw [if_neg (nI_ge hk (by omega))]
    obtain ⟨g', g1, g2⟩ := best_m hM hO hh ht hk ig
    unfold fX12_whoCan_J41
    rw [g1, bd_s]
    dsimp only
    rcases bst_can (h := h) (t := t) (k := i) hO.1 with ⟨c1, c2⟩ | ⟨c1, c2⟩
    · rw [if_pos c1, nmv_s, nI_1]
      refine Or.inr ⟨hk, (y, g'), rfl, g2, ?_⟩
      rcases iy with ⟨⟨k, hk, q⟩, e2⟩ | ⟨c, e2⟩
      · exact Or.inl ⟨⟨k, by omega, q⟩, e2⟩
      · refine Or.inr ⟨fun k hk2 => ?_, e2⟩
        by_cases e3 : k = i
        · subst e3; exact c2
        · exact c k (by omega)
    · rw [if_neg c1, nmv_s, nmv_s, nI_1]
      refine Or.inr ⟨hk, (y ||| ((1 : Int32) <<< (nI t &&& 31)), g'), rfl, g2, Or.inl ⟨⟨i, by omega, c2⟩, ?_⟩⟩
      show y ||| ((1 : Int32) <<< (nI t &&& 31)) = _
      rcases iy with ⟨-, e2⟩ | ⟨-, e2⟩
      · rw [e2, or_or]
      · rw [e2]
theorem whoCan_m {τ : St} {h : Hg} (hM : RelM τ 0 h) (hO : OkH h) (hh : gI τ 11 0 4 = nI 3) : ∃ g x, Fr9 (gI τ 11 0) g ∧ whoW h (h 0 1) x ∧ fX12_whoCan τ = some (x, sA τ 11 0 g) := by
  have o6 := hO.2.1
  have k1 : vp_in 1 47 := in47 (k := 1) (by omega)
  have q : (fun q => ∃ g x, Fr9 (gI τ 11 0) g ∧ whoW h (h 0 1) x ∧ q = some (x, sA τ 11 0 g)) (fX12_whoCan_L4 (fun y11 σ12 => some (y11, σ12)) FU 0 (nI 0) (sA τ 11 0 (gI τ 11 0))) := by
    refine loop_h (S := Int32 × (Nat → Int32)) (fun n i s => fX12_whoCan_L4 (fun y11 σ12 => some (y11, σ12)) n s.1 (nI i) (sA τ 11 0 s.2)) (h 0 1) (fun i s => Fr9 (gI τ 11 0) s.2 ∧ whoW h i s.1) (fun q => ∃ g x, Fr9 (gI τ 11 0) g ∧ whoW h (h 0 1) x ∧ q = some (x, sA τ 11 0 g)) (fun n i s hi hI => ?_) (h 0 1) 0 (0, gI τ 11 0) FU (by omega) (FU_gt (by omega)) ⟨fun j _ _ _ => rfl, whoW_0 h⟩
    obtain ⟨x, g⟩ := s
    simp only at hI
    obtain ⟨ig, hI⟩ := hI
    show (∃ g' x', Fr9 (gI τ 11 0) g' ∧ whoW h (h 0 1) x' ∧ fX12_whoCan_L4B _ (fX12_whoCan_L4 _ n) x (nI i) (sA τ 11 0 g) = some (x', sA τ 11 0 g')) ∨ (i < h 0 1 ∧ ∃ s', fX12_whoCan_L4B _ (fX12_whoCan_L4 _ n) x (nI i) (sA τ 11 0 g) = _ ∧ _)
    unfold fX12_whoCan_L4B
    rw [ck_t k1, show gI (sA τ 11 0 g) 12 0 (1 : Int32).toNatClampNeg = nI (h 0 1) from hM.2.1]
    by_cases e : i = h 0 1
    · subst e
      rw [if_pos (nI_le (Nat.le_refl _) (by omega))]
      exact Or.inl ⟨g, x, ig, hI, rfl⟩
    · have ht : i < h 0 1 := by omega
      rw [if_neg (nI_ge ht (by omega))]
      obtain ⟨g', y, g1, g2, g3⟩ := whoIn_m hM hO hh ht (fun y17 σ18 => nmv (nI i + 1) fun v19 => fX12_whoCan_L4 (fun y11 σ12 => some (y11, σ12)) n y17 v19 σ18) x ig
      rw [g2, nmv_s, nI_1]
      exact Or.inr ⟨ht, (y, g'), rfl, g1, whoW_s hI g3⟩
  rw [sA_self] at q
  exact q
/-- whoCan -/
theorem case13 : Case13 Inv := by
  intro σ hI
  obtain ⟨⟨h, hO, hC, hM⟩, ⟨h1', O1, C1, M1⟩, I3, I4, I5, I6, I7, I8⟩ := id hI
  obtain ⟨g, x, w1, w2⟩ := whoCan_c hC hO
  obtain ⟨f, y, f1, v1, v2⟩ := whoCan_m (τ := sA σ 7 0 g) (relM_7 hM) hO I4
  have e := whoW_u w1 v1
  subst e
  exact ⟨x, _, _, w2, v2, inv_fr9 (inv_7 hI) f1⟩
