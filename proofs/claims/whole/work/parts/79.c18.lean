theorem waysK_c {σ : St} {h : Hg} (hC : RelC σ 0 h) (hO : OkH h) {b t s : Nat} (hb : b < h 0 0) (ht : t < h 0 1) (note : Int32) (K : Int32 → St → Option (Int32 × St)) (g0 : Nat → Int32) : ∃ g, fX11_ways_L43 (nI t) note (nI b) K FU (nI s) 0 (sA σ 7 0 g0) = K (nI (s + sm (wyN h t note b) (h 0 2))) (sA σ 7 0 g) := by
  have o2 := hO.2.2.1
  refine loop_h (S := Nat → Int32) (fun n i g => fX11_ways_L43 (nI t) note (nI b) K n (nI (s + sm (wyN h t note b) i)) (nI i) (sA σ 7 0 g)) (h 0 2) (fun i _ => True) (fun q => ∃ g, q = K (nI (s + sm (wyN h t note b) (h 0 2))) (sA σ 7 0 g)) (fun n i g hi _ => ?_) (h 0 2) 0 g0 FU (by omega) (FU_gt (by omega)) trivial
  show (∃ g', fX11_ways_L43B (nI t) note (nI b) K (fX11_ways_L43 (nI t) note (nI b) K n) (nI (s + sm (wyN h t note b) i)) (nI i) (sA σ 7 0 g) = _) ∨ (i < h 0 2 ∧ ∃ s', fX11_ways_L43B (nI t) note (nI b) K (fX11_ways_L43 (nI t) note (nI b) K n) (nI (s + sm (wyN h t note b) i)) (nI i) (sA σ 7 0 g) = _ ∧ _)
  unfold fX11_ways_L43B
  rw [(relC_7 hC (y := 0) (f := g)).2.2.1]
  by_cases e : i = h 0 2
  · subst e
    rw [if_pos (nI_le (Nat.le_refl _) (by omega))]
    exact Or.inl ⟨g, rfl⟩
  · have hk : i < h 0 2 := by omega
    obtain ⟨g', g1⟩ := waysBy_c hC hO hb ht hk note g
    rw [if_neg (nI_ge hk (by omega)), g1, bd_s]
    dsimp only
    rw [nI_add, nmv_s, nmv_s, nI_1, Nat.add_assoc]
    exact Or.inr ⟨hk, g', rfl, trivial⟩
/-- ways -/
theorem case18 : Case18 Inv := by
  intro σ hI a1 note
  obtain ⟨⟨h, hO, hC, hM⟩, ⟨h1', O1, C1, M1⟩, I3, I4, I5, I6, I7, I8⟩ := id hI
  have o6 := hO.1
  have k0 : vp_in 0 47 := in47 (k := 0) (by omega)
  unfold fX11_ways
  rcases thumbs_s hC hM hO a1 with ⟨t, ht, rfl, p1, p2⟩ | ⟨-, p1, p2⟩
  rotate_left
  · exact ⟨-1, σ, by rw [p1]; rfl, by unfold fX12_ways; rw [p2]; rfl, hI⟩
  rcases rng_s (σ := σ) (τ := σ) (M := 99) (n := 99) note (by omega) rfl with ⟨w, hw, -, q1, q2⟩ | ⟨-, q1, q2⟩
  rotate_left
  · exact ⟨-1, σ, by rw [p1, q2]; rfl, by unfold fX12_ways; rw [p2, q1]; rfl, hI⟩
  have cl : (fun q => ∃ g, q = some (nI (sm (fun b => sm (wyN h t note b) (h 0 2)) (h 0 0)), sA σ 7 0 g)) (fX11_ways_L28 (nI t) note (fun y19 σ20 => some (y19, σ20)) FU (nI 0) (nI 0) (sA σ 7 0 (gI σ 7 0))) := by
    refine loop_h (S := Nat → Int32) (fun n i g => fX11_ways_L28 (nI t) note (fun y19 σ20 => some (y19, σ20)) n (nI (sm (fun b => sm (wyN h t note b) (h 0 2)) i)) (nI i) (sA σ 7 0 g)) (h 0 0) (fun i _ => True) (fun q => ∃ g, q = some (nI (sm (fun b => sm (wyN h t note b) (h 0 2)) (h 0 0)), sA σ 7 0 g)) (fun n i g hi _ => ?_) (h 0 0) 0 (gI σ 7 0) FU (by omega) (FU_gt (by omega)) trivial
    show (∃ g', fX11_ways_L28B (nI t) note _ (fX11_ways_L28 (nI t) note _ n) (nI (sm (fun b => sm (wyN h t note b) (h 0 2)) i)) (nI i) (sA σ 7 0 g) = _) ∨ (i < h 0 0 ∧ ∃ s', fX11_ways_L28B (nI t) note _ (fX11_ways_L28 (nI t) note _ n) (nI (sm (fun b => sm (wyN h t note b) (h 0 2)) i)) (nI i) (sA σ 7 0 g) = _ ∧ _)
    unfold fX11_ways_L28B
    rw [(relC_7 hC (y := 0) (f := g)).1]
    by_cases e : i = h 0 0
    · subst e
      rw [if_pos (nI_le (Nat.le_refl _) (by omega))]
      exact Or.inl ⟨g, rfl⟩
    · have hb : i < h 0 0 := by omega
      rw [if_neg (nI_ge hb (by omega))]
      obtain ⟨g', g1⟩ := waysK_c hC hO hb ht note (fun y16 σ17 => nmv (nI i + 1) fun v18 => fX11_ways_L28 (nI t) note (fun y19 σ20 => some (y19, σ20)) n y16 v18 σ17) g (s := sm (fun b => sm (wyN h t note b) (h 0 2)) i)
      rw [g1, nmv_s, nI_1]
      exact Or.inr ⟨hb, g', rfl, trivial⟩
  rw [sA_self] at cl
  obtain ⟨g, g1⟩ := cl
  refine ⟨nI (sm (fun b => sm (wyN h t note b) (h 0 2)) (h 0 0)), sA σ 7 0 g, ?_, ?_, inv_7 hI⟩
  · rw [p1, bd_s, if_neg (by decide), q2, bd_s, if_pos rfl]
    exact g1
  · unfold fX12_ways
    rw [show fX12_isThumbs (sA σ 7 0 g) (nI t) = some 1 from p2, bd_s, if_neg (by decide), show fX12_isIn (sA σ 7 0 g) note 0 99 = some 1 from q1, bd_s, if_neg (by decide)]
    refine loop_h (S := Unit) (fun n i _ => fX12_ways_L25 (sA σ 7 0 g) (nI t) note (fun y12 => some y12) n (nI (sm (fun b => sm (wyN h t note b) (h 0 2)) i)) (nI i)) (h 0 0) (fun i _ => True) (fun q => q = some (nI (sm (fun b => sm (wyN h t note b) (h 0 2)) (h 0 0)))) (fun n i _ hi _ => ?_) (h 0 0) 0 () FU (by omega) (FU_gt (by omega)) trivial
    show fX12_ways_L25B (sA σ 7 0 g) (nI t) note _ (fX12_ways_L25 (sA σ 7 0 g) (nI t) note _ n) (nI (sm (fun b => sm (wyN h t note b) (h 0 2)) i)) (nI i) = _ ∨ (i < h 0 0 ∧ ∃ s', fX12_ways_L25B (sA σ 7 0 g) (nI t) note _ (fX12_ways_L25 (sA σ 7 0 g) (nI t) note _ n) (nI (sm (fun b => sm (wyN h t note b) (h 0 2)) i)) (nI i) = _ ∧ _)
    unfold fX12_ways_L25B
    rw [ck_t k0, show gI (sA σ 7 0 g) 12 0 (0 : Int32).toNatClampNeg = nI (h 0 0) from hM.1]
    by_cases e : i = h 0 0
    · subst e
      rw [if_pos (nI_le (Nat.le_refl _) (by omega))]
      exact Or.inl rfl
    · have hb : i < h 0 0 := by omega
      rw [if_neg (nI_ge hb (by omega)), waysBy_m (relM_7 hM) hO I4 hb ht note, bd_s, nI_add, nmv_s, nmv_s, nI_1]
      exact Or.inr ⟨hb, (), rfl, trivial⟩
theorem sm_le {f : Nat → Nat} {c : Nat} (hf : ∀ i, f i ≤ c) : ∀ n, sm f n ≤ c * n := by
  intro n
  induction n with
  | zero => exact Nat.zero_le _
  | succ n ih =>
    have := hf n
    show sm f n + f n ≤ c * (n + 1)
    rw [Nat.mul_succ]
    omega
theorem sm_0 {f : Nat → Nat} : ∀ n, sm f n = 0 ↔ ∀ i, i < n → f i = 0 := by
  intro n
  induction n with
  | zero => exact ⟨fun _ i hi => absurd hi (Nat.not_lt_zero i), fun _ => rfl⟩
  | succ n ih =>
    show sm f n + f n = 0 ↔ _
    constructor
    · intro q i hi
      by_cases e : i = n
      · subst e; omega
      · exact ih.mp (by omega) i (by omega)
    · intro q
      have := ih.mpr (fun i hi => q i (by omega))
      have := q n (by omega)
      omega
/-- the blades by which a note can be, as bits, of the first i -/
def bdN (c : Nat → Nat) : Nat → Nat
  | 0 => 0
  | i + 1 => if 0 < c i then bdN c i + 2 ^ i else bdN c i
theorem bdN_lt (c : Nat → Nat) : ∀ i, bdN c i < 2 ^ i := by
  intro i
  induction i with
  | zero => exact Nat.one_pos
  | succ i ih =>
    have e : 2 ^ (i + 1) = 2 ^ i + 2 ^ i := by rw [Nat.pow_succ]; omega
    show (if 0 < c i then bdN c i + 2 ^ i else bdN c i) < _
    split <;> omega
theorem or_bit : ∀ i, i < 6 → ∀ m, m < 2 ^ i → nI m ||| ((1 : Int32) <<< (nI i &&& 31)) = nI (m + 2 ^ i) := by
  intro i hi
  rcases i with _ | _ | _ | _ | _ | _ | i
  · decide +kernel
  · decide +kernel
  · decide +kernel
  · decide +kernel
  · decide +kernel
  · decide +kernel
  · omega
theorem bfIn_c {σ : St} {h : Hg} (hC : RelC σ 0 h) (hO : OkH h) {b t : Nat} (hb : b < h 0 0) (ht : t < h 0 1) (note : Int32) (K : Int32 → St → Option (Int32 × St)) (x : Int32) (g0 : Nat → Int32) : ∃ g, fX11_bladesFor_L20 (nI t) note (nI b) K FU x 0 (sA σ 7 0 g0) = K (if 0 < sm (wyN h t note b) (h 0 2) then x ||| ((1 : Int32) <<< (nI b &&& 31)) else x) (sA σ 7 0 g) := by
  have o2 := hO.2.2.1
  refine loop_h (S := Int32 × (Nat → Int32)) (fun n i s => fX11_bladesFor_L20 (nI t) note (nI b) K n s.1 (nI i) (sA σ 7 0 s.2)) (h 0 2) (fun i s => s.1 = if 0 < sm (wyN h t note b) i then x ||| ((1 : Int32) <<< (nI b &&& 31)) else x) (fun q => ∃ g, q = K (if 0 < sm (wyN h t note b) (h 0 2) then x ||| ((1 : Int32) <<< (nI b &&& 31)) else x) (sA σ 7 0 g)) (fun n i s hi hI => ?_) (h 0 2) 0 (x, g0) FU (by omega) (FU_gt (by omega)) rfl
  obtain ⟨y, g⟩ := s
  dsimp only at hI
  show (∃ g', fX11_bladesFor_L20B (nI t) note (nI b) K (fX11_bladesFor_L20 (nI t) note (nI b) K n) y (nI i) (sA σ 7 0 g) = _) ∨ (i < h 0 2 ∧ ∃ s', fX11_bladesFor_L20B (nI t) note (nI b) K (fX11_bladesFor_L20 (nI t) note (nI b) K n) y (nI i) (sA σ 7 0 g) = _ ∧ _)
  unfold fX11_bladesFor_L20B fX11_bladesFor_J52
  rw [(relC_7 hC (y := 0) (f := g)).2.2.1]
  by_cases e : i = h 0 2
  · subst e
    rw [if_pos (nI_le (Nat.le_refl _) (by omega)), hI]
    exact Or.inl ⟨g, rfl⟩
  · have hk : i < h 0 2 := by omega
    obtain ⟨g', g1⟩ := waysBy_c hC hO hb ht hk note g
    have wl := wyN_le h t note b i
    rw [if_neg (nI_ge hk (by omega)), g1, bd_s]
    dsimp only
    refine Or.inr ⟨hk, ?_⟩
    by_cases z : wyN h t note b i = 0
    · rw [z, if_pos (by decide), nmv_s, nI_1]
      refine ⟨(y, g'), rfl, ?_⟩
      show y = if 0 < sm (wyN h t note b) i + wyN h t note b i then _ else _
      rw [z, hI]
      rfl
    · rw [if_neg (nI_nle (by omega) (by omega)), nmv_s, nmv_s, nI_1]
      refine ⟨(y ||| ((1 : Int32) <<< (nI b &&& 31)), g'), rfl, ?_⟩
      show y ||| _ = if 0 < sm (wyN h t note b) i + wyN h t note b i then _ else _
      rw [if_pos (by omega), hI]
      by_cases c : 0 < sm (wyN h t note b) i
      · rw [if_pos c, or_or]
      · rw [if_neg c]
theorem bf_c {σ : St} {h : Hg} (hC : RelC σ 0 h) (hO : OkH h) {t : Nat} (ht : t < h 0 1) (note : Int32) (g0 : Nat → Int32) : ∃ g, fX11_bladesFor (sA σ 7 0 g0) (nI t) note = some (nI (bdN (fun b => sm (wyN h t note b) (h 0 2)) (h 0 0)), sA σ 7 0 g) := by
  have o6 := hO.1
  refine loop_h (S := Nat → Int32) (fun n i g => fX11_bladesFor_L5 (nI t) note (fun y18 σ19 => some (y18, σ19)) n (nI (bdN (fun b => sm (wyN h t note b) (h 0 2)) i)) (nI i) (sA σ 7 0 g)) (h 0 0) (fun i _ => True) (fun q => ∃ g, q = some (nI (bdN (fun b => sm (wyN h t note b) (h 0 2)) (h 0 0)), sA σ 7 0 g)) (fun n i g hi _ => ?_) (h 0 0) 0 g0 FU (by omega) (FU_gt (by omega)) trivial
  show (∃ g', fX11_bladesFor_L5B (nI t) note _ (fX11_bladesFor_L5 (nI t) note _ n) (nI (bdN (fun b => sm (wyN h t note b) (h 0 2)) i)) (nI i) (sA σ 7 0 g) = _) ∨ (i < h 0 0 ∧ ∃ s', fX11_bladesFor_L5B (nI t) note _ (fX11_bladesFor_L5 (nI t) note _ n) (nI (bdN (fun b => sm (wyN h t note b) (h 0 2)) i)) (nI i) (sA σ 7 0 g) = _ ∧ _)
  unfold fX11_bladesFor_L5B
  rw [(relC_7 hC (y := 0) (f := g)).1]
  by_cases e : i = h 0 0
  · subst e
    rw [if_pos (nI_le (Nat.le_refl _) (by omega))]
    exact Or.inl ⟨g, rfl⟩
  · have hb : i < h 0 0 := by omega
    rw [if_neg (nI_ge hb (by omega))]
    obtain ⟨g', g1⟩ := bfIn_c hC hO hb ht note (fun y15 σ16 => nmv (nI i + 1) fun v17 => fX11_bladesFor_L5 (nI t) note (fun y18 σ19 => some (y18, σ19)) n y15 v17 σ16) (nI (bdN (fun b => sm (wyN h t note b) (h 0 2)) i)) g
    rw [g1, nmv_s, nI_1]
    refine Or.inr ⟨hb, g', ?_, trivial⟩
    show _ = fX11_bladesFor_L5 (nI t) note _ n (nI (if 0 < sm (wyN h t note i) (h 0 2) then bdN (fun b => sm (wyN h t note b) (h 0 2)) i + 2 ^ i else bdN (fun b => sm (wyN h t note b) (h 0 2)) i)) (nI (i + 1)) (sA σ 7 0 g')
    by_cases c : 0 < sm (wyN h t note i) (h 0 2)
    · rw [if_pos c, if_pos c, or_bit i (by omega) _ (bdN_lt _ i)]
    · rw [if_neg c, if_neg c]
theorem bf_m {τ : St} {h : Hg} (hM : RelM τ 0 h) (hO : OkH h) (hh : gI τ 11 0 4 = nI 3) {t : Nat} (ht : t < h 0 1) (note : Int32) : fX12_bladesFor τ (nI t) note = some (nI (bdN (fun b => sm (wyN h t note b) (h 0 2)) (h 0 0))) := by
  have o6 := hO.1
  have o2 := hO.2.2.1
  have k0 : vp_in 0 47 := in47 (k := 0) (by omega)
  refine loop_h (S := Unit) (fun n i _ => fX12_bladesFor_L5 τ (nI t) note (fun y10 => some y10) n (nI (bdN (fun b => sm (wyN h t note b) (h 0 2)) i)) (nI i)) (h 0 0) (fun i _ => True) (fun q => q = some (nI (bdN (fun b => sm (wyN h t note b) (h 0 2)) (h 0 0)))) (fun n i _ hi _ => ?_) (h 0 0) 0 () FU (by omega) (FU_gt (by omega)) trivial
  show fX12_bladesFor_L5B τ (nI t) note _ (fX12_bladesFor_L5 τ (nI t) note _ n) (nI (bdN (fun b => sm (wyN h t note b) (h 0 2)) i)) (nI i) = _ ∨ (i < h 0 0 ∧ ∃ s', fX12_bladesFor_L5B τ (nI t) note _ (fX12_bladesFor_L5 τ (nI t) note _ n) (nI (bdN (fun b => sm (wyN h t note b) (h 0 2)) i)) (nI i) = _ ∧ _)
  unfold fX12_bladesFor_L5B fX12_bladesFor_J34
  rw [ck_t k0, show gI τ 12 0 (0 : Int32).toNatClampNeg = nI (h 0 0) from hM.1]
  by_cases e : i = h 0 0
  · subst e
    rw [if_pos (nI_le (Nat.le_refl _) (by omega))]
    exact Or.inl rfl
  · have hb : i < h 0 0 := by omega
    have sl := sm_le (fun k => wyN_le h t note i k) (h 0 2)
    rw [if_neg (nI_ge hb (by omega)), waysBy_m hM hO hh hb ht note, bd_s, nI_1, nmv_s, nmv_s, nmv_s]
    refine Or.inr ⟨hb, (), ?_, trivial⟩
    show _ = fX12_bladesFor_L5 τ (nI t) note _ n (nI (if 0 < sm (wyN h t note i) (h 0 2) then bdN (fun b => sm (wyN h t note b) (h 0 2)) i + 2 ^ i else bdN (fun b => sm (wyN h t note b) (h 0 2)) i)) (nI (i + 1))
    by_cases c : 0 < sm (wyN h t note i) (h 0 2)
    · rw [if_pos c, if_neg (nI_nle c (by omega)), or_bit i (by omega) _ (bdN_lt _ i)]
    · rw [if_neg c, show sm (wyN h t note i) (h 0 2) = 0 by omega, if_pos (by decide)]
/-- bits -/
theorem bit_t : ∀ i, i < 6 → ∀ r, r < 64 → ((nI r &&& ((1 : Int32) <<< (nI i &&& 31)) = 0) ↔ ¬ ((nI r >>> (nI i &&& 31)) &&& (1 : Int32)) = 1) := by decide +kernel
theorem bit_e : ∀ i, i < 6 → ∀ j, j < 6 → (((1 : Int32) <<< (nI i &&& 31)) = ((1 : Int32) <<< (nI j &&& 31)) ↔ i = j) := by decide +kernel
theorem bit_d : ∀ i, i < 6 → ((1 : Int32) <<< (nI i &&& 31)) <<< ((1 : Int32) &&& 31) = ((1 : Int32) <<< (nI (i + 1) &&& 31)) ∧ ¬ 64 ≤ ((1 : Int32) <<< (nI i &&& 31)) := by decide +kernel
theorem unlike_s {σ : St} {r7 r8 r9 : Nat} (h7 : r7 < 64) (h8 : r8 < 64) (h9 : r9 < 64) : (fX11_areThreeUnlike σ (nI r7) (nI r8) (nI r9) = some 1 ∧ fX12_tune_L107 (nI r7) (nI r8) (nI r9) (some 0) FU 0 = some 1) ∨ (fX11_areThreeUnlike σ (nI r7) (nI r8) (nI r9) = some 0 ∧ fX12_tune_L107 (nI r7) (nI r8) (nI r9) (some 0) FU 0 = some 0) := by
  have inner : ∀ (i : Nat) (K1 K2 : Option Int32), i < 6 → (fX11_areThreeUnlike_L11 (nI r7) (nI r8) (nI r9) ((1 : Int32) <<< (nI i &&& 31)) K1 FU 1 = some 1 ∧ fX12_tune_L117 (nI r7) (nI r8) (nI r9) (nI i) K2 FU 0 = some 1) ∨ (fX11_areThreeUnlike_L11 (nI r7) (nI r8) (nI r9) ((1 : Int32) <<< (nI i &&& 31)) K1 FU 1 = K1 ∧ fX12_tune_L117 (nI r7) (nI r8) (nI r9) (nI i) K2 FU 0 = K2) := by
    intro i K1 K2 hi
    refine loop_p (S := Unit) (Q := Option Int32 × Option Int32) (fun n j _ => (fX11_areThreeUnlike_L11 (nI r7) (nI r8) (nI r9) ((1 : Int32) <<< (nI i &&& 31)) K1 n ((1 : Int32) <<< (nI j &&& 31)), fX12_tune_L117 (nI r7) (nI r8) (nI r9) (nI i) K2 n (nI j))) 6 (fun _ _ => True) (fun q => (q.1 = some 1 ∧ q.2 = some 1) ∨ (q.1 = K1 ∧ q.2 = K2)) (fun n j _ hj _ => ?_) 6 0 () FU (by omega) (FU_gt (by omega)) trivial
    show ((fX11_areThreeUnlike_L11B (nI r7) (nI r8) (nI r9) ((1 : Int32) <<< (nI i &&& 31)) K1 (fX11_areThreeUnlike_L11 (nI r7) (nI r8) (nI r9) ((1 : Int32) <<< (nI i &&& 31)) K1 n) ((1 : Int32) <<< (nI j &&& 31)) = some 1 ∧ fX12_tune_L117B (nI r7) (nI r8) (nI r9) (nI i) K2 (fX12_tune_L117 (nI r7) (nI r8) (nI r9) (nI i) K2 n) (nI j) = some 1) ∨ (fX11_areThreeUnlike_L11B (nI r7) (nI r8) (nI r9) ((1 : Int32) <<< (nI i &&& 31)) K1 (fX11_areThreeUnlike_L11 (nI r7) (nI r8) (nI r9) ((1 : Int32) <<< (nI i &&& 31)) K1 n) ((1 : Int32) <<< (nI j &&& 31)) = K1 ∧ fX12_tune_L117B (nI r7) (nI r8) (nI r9) (nI i) K2 (fX12_tune_L117 (nI r7) (nI r8) (nI r9) (nI i) K2 n) (nI j) = K2)) ∨ (j < 6 ∧ ∃ s', (fX11_areThreeUnlike_L11B (nI r7) (nI r8) (nI r9) ((1 : Int32) <<< (nI i &&& 31)) K1 (fX11_areThreeUnlike_L11 (nI r7) (nI r8) (nI r9) ((1 : Int32) <<< (nI i &&& 31)) K1 n) ((1 : Int32) <<< (nI j &&& 31)), fX12_tune_L117B (nI r7) (nI r8) (nI r9) (nI i) K2 (fX12_tune_L117 (nI r7) (nI r8) (nI r9) (nI i) K2 n) (nI j)) = _ ∧ _)
    unfold fX11_areThreeUnlike_L11B fX12_tune_L117B fX11_areThreeUnlike_J41 fX11_areThreeUnlike_J42 fX11_areThreeUnlike_J64 fX12_tune_J178
    by_cases e : j = 6
    · subst e
      rw [if_pos (by decide), if_pos (by decide)]
      exact Or.inl (Or.inr ⟨rfl, rfl⟩)
    · have hj6 : j < 6 := by omega
      obtain ⟨d1, d2⟩ := bit_d j hj6
      rw [if_neg d2, if_neg (show ¬ (6 : Int32) ≤ nI j from nI_ge (b := 6) (by omega) (by omega))]
      simp only [nmv_s, d1, nI_1, if_true, if_neg (show ¬ (1 : Int32) = 0 by decide)]
      have b7 := bit_t i hi r7 h7
      have b8 := bit_t j hj6 r8 h8
      have be := bit_e i hi j hj6
      by_cases c1 : i = j
      · have c2 := be.mpr c1
        rw [if_pos (show nI i = nI j from congrArg nI c1)]
        refine Or.inr ⟨hj6, (), ?_, trivial⟩
        simp only [c2, if_true, ite_self]
      · have c2 : ¬ ((1 : Int32) <<< (nI i &&& 31)) = ((1 : Int32) <<< (nI j &&& 31)) := fun q => c1 (be.mp q)
        rw [if_neg (show ¬ nI i = nI j from fun q => c1 ((nI_eq (by omega) (by omega)).mp q)), if_neg c2]
        by_cases c3 : nI r7 &&& ((1 : Int32) <<< (nI i &&& 31)) = 0
        · rw [if_pos c3, if_neg (b7.mp c3)]
          exact Or.inr ⟨hj6, (), rfl, trivial⟩
        · rw [if_neg c3, if_pos (Classical.byContradiction (fun q => c3 (b7.mpr q)))]
          by_cases c4 : nI r8 &&& ((1 : Int32) <<< (nI j &&& 31)) = 0
          · rw [if_pos c4, if_neg (b8.mp c4)]
            exact Or.inr ⟨hj6, (), rfl, trivial⟩
          · rw [if_neg c4, if_pos (Classical.byContradiction (fun q => c4 (b8.mpr q)))]
            by_cases c5 : ((nI r9 &&& (((1 : Int32) <<< (nI i &&& 31)) ^^^ (-1 : Int32))) &&& (((1 : Int32) <<< (nI j &&& 31)) ^^^ (-1 : Int32))) = 0
            · rw [if_pos c5, if_pos c5]
              exact Or.inr ⟨hj6, (), rfl, trivial⟩
            · rw [if_neg c5, if_neg c5]
              exact Or.inl (Or.inl ⟨rfl, rfl⟩)
  refine loop_p (S := Unit) (Q := Option Int32 × Option Int32) (fun n i _ => (fX11_areThreeUnlike_L2 (nI r7) (nI r8) (nI r9) (some 0) n ((1 : Int32) <<< (nI i &&& 31)), fX12_tune_L107 (nI r7) (nI r8) (nI r9) (some 0) n (nI i))) 6 (fun _ _ => True) (fun q => (q.1 = some 1 ∧ q.2 = some 1) ∨ (q.1 = some 0 ∧ q.2 = some 0)) (fun n i _ hi _ => ?_) 6 0 () FU (by omega) (FU_gt (by omega)) trivial
  show ((fX11_areThreeUnlike_L2B (nI r7) (nI r8) (nI r9) (some 0) (fX11_areThreeUnlike_L2 (nI r7) (nI r8) (nI r9) (some 0) n) ((1 : Int32) <<< (nI i &&& 31)) = some 1 ∧ fX12_tune_L107B (nI r7) (nI r8) (nI r9) (some 0) (fX12_tune_L107 (nI r7) (nI r8) (nI r9) (some 0) n) (nI i) = some 1) ∨ (fX11_areThreeUnlike_L2B (nI r7) (nI r8) (nI r9) (some 0) (fX11_areThreeUnlike_L2 (nI r7) (nI r8) (nI r9) (some 0) n) ((1 : Int32) <<< (nI i &&& 31)) = some 0 ∧ fX12_tune_L107B (nI r7) (nI r8) (nI r9) (some 0) (fX12_tune_L107 (nI r7) (nI r8) (nI r9) (some 0) n) (nI i) = some 0)) ∨ (i < 6 ∧ ∃ s', (fX11_areThreeUnlike_L2B (nI r7) (nI r8) (nI r9) (some 0) (fX11_areThreeUnlike_L2 (nI r7) (nI r8) (nI r9) (some 0) n) ((1 : Int32) <<< (nI i &&& 31)), fX12_tune_L107B (nI r7) (nI r8) (nI r9) (some 0) (fX12_tune_L107 (nI r7) (nI r8) (nI r9) (some 0) n) (nI i)) = _ ∧ _)
  unfold fX11_areThreeUnlike_L2B fX12_tune_L107B
  by_cases e : i = 6
  · subst e
    rw [if_pos (by decide), if_pos (by decide)]
    exact Or.inl (Or.inr ⟨rfl, rfl⟩)
  · have hi6 : i < 6 := by omega
    obtain ⟨d1, d2⟩ := bit_d i hi6
    rw [if_neg d2, if_neg (show ¬ (6 : Int32) ≤ nI i from nI_ge (b := 6) (by omega) (by omega)), d1, nI_1, nmv_s, nmv_s]
    rcases inner i (fX11_areThreeUnlike_L2 (nI r7) (nI r8) (nI r9) (some 0) n ((1 : Int32) <<< (nI (i + 1) &&& 31))) (fX12_tune_L107 (nI r7) (nI r8) (nI r9) (some 0) n (nI (i + 1))) hi6 with ⟨q1, q2⟩ | ⟨q1, q2⟩
    · rw [q1, q2]
      exact Or.inl (Or.inl ⟨rfl, rfl⟩)
    · rw [q1, q2]
      exact Or.inr ⟨hi6, (), rfl, trivial⟩
/-- tune -/
theorem case19 : Case19 Inv := by
  intro σ hI a1 a2 a3
  obtain ⟨⟨h, hO, hC, hM⟩, ⟨h1', O1, C1, M1⟩, I3, I4, I5, I6, I7, I8⟩ := id hI
  have o6 := hO.1
  unfold fX11_tune
  rcases thumbs_s hC hM hO a1 with ⟨t, ht, rfl, p1, p2⟩ | ⟨-, p1, p2⟩
  rotate_left
  · exact ⟨-1, σ, by rw [p1]; rfl, by unfold fX12_tune; rw [p2]; rfl, hI⟩
  rcases rng_s (σ := σ) (τ := σ) (M := 999999) (n := 999999) a2 (by omega) rfl with ⟨w, hw, -, q1, q2⟩ | ⟨-, q1, q2⟩
  rotate_left
  · exact ⟨-1, σ, by rw [p1, q2]; rfl, by unfold fX12_tune; rw [p2, q1]; rfl, hI⟩
  rcases rng_s (σ := σ) (τ := σ) (M := 1) (n := 1) a3 (by omega) rfl with ⟨v, hv, e3, r1, r2⟩ | ⟨-, r1, r2⟩
  rotate_left
  · exact ⟨-1, σ, by rw [p1, q2, r2]; rfl, by unfold fX12_tune; rw [p2, q1, r1]; rfl, hI⟩
  have c1 := bf_c hC hO ht (a2 / 10000) (gI σ 7 0)
  rw [sA_self] at c1
  obtain ⟨g1, c1⟩ := c1
  obtain ⟨g2, c2⟩ := bf_c hC hO ht (a2 / 100 - a2 / 100 / 100 * 100) g1
  obtain ⟨g3, c3⟩ := bf_c hC hO ht (a2 - a2 / 100 * 100) g2
  have m1 := bf_m (relM_7 hM (y := 0) (f := g3)) hO I4 ht (a2 / 10000)
  have m2 := bf_m (relM_7 hM (y := 0) (f := g3)) hO I4 ht (a2 / 100 - a2 / 100 / 100 * 100)
  have m3 := bf_m (relM_7 hM (y := 0) (f := g3)) hO I4 ht (a2 - a2 / 100 * 100)
  have p64 : ∀ c, bdN c (h 0 0) < 64 := fun c => Nat.lt_of_lt_of_le (bdN_lt c _) (Nat.le_trans (Nat.pow_le_pow_right (by omega) o6) (by decide))
  have l1 := p64 (fun b => sm (wyN h t (a2 / 10000) b) (h 0 2))
  have l2 := p64 (fun b => sm (wyN h t (a2 / 100 - a2 / 100 / 100 * 100) b) (h 0 2))
  have l3 := p64 (fun b => sm (wyN h t (a2 - a2 / 100 * 100) b) (h 0 2))
  generalize bdN (fun b => sm (wyN h t (a2 / 10000) b) (h 0 2)) (h 0 0) = x1 at c1 m1 l1
  generalize bdN (fun b => sm (wyN h t (a2 / 100 - a2 / 100 / 100 * 100) b) (h 0 2)) (h 0 0) = x2 at c2 m2 l2
  generalize bdN (fun b => sm (wyN h t (a2 - a2 / 100 * 100) b) (h 0 2)) (h 0 0) = x3 at c3 m3 l3
  rw [p1, bd_s, if_neg (by decide), q2, bd_s, if_pos rfl, r2, bd_s, if_pos rfl, c1, bd_s]
  dsimp only
  rw [c2, bd_s]
  dsimp only
  rw [c3, bd_s]
  dsimp only
  have ml : fX12_tune (sA σ 7 0 g3) (nI t) a2 a3 = if a3 = 1 then (if nI x1 ≤ 0 then fX12_tune_J81 (nI x2) (nI x3) 0 else fX12_tune_J81 (nI x2) (nI x3) 1) else fX12_tune_L107 (nI x1) (nI x2) (nI x3) (some 0) FU 0 := by
    unfold fX12_tune
    rw [show fX12_isThumbs (sA σ 7 0 g3) (nI t) = some 1 from p2, bd_s, if_neg (by decide), show fX12_isIn (sA σ 7 0 g3) a2 0 999999 = some 1 from q1, bd_s, if_neg (by decide), show fX12_isIn (sA σ 7 0 g3) a3 0 1 = some 1 from r1, bd_s, if_neg (by decide), m1, bd_s, m2, bd_s, m3, bd_s]
  rcases v with _ | _ | v
  · have e0 : a3 = 0 := e3
    rw [if_pos e0]
    rcases unlike_s (σ := sA σ 7 0 g3) l1 l2 l3 with ⟨u1, u2⟩ | ⟨u1, u2⟩
    · exact ⟨1, sA σ 7 0 g3, by rw [u1]; rfl, by rw [ml, if_neg (by rw [e0]; decide), u2], inv_7 hI⟩
    · exact ⟨0, sA σ 7 0 g3, by rw [u1]; rfl, by rw [ml, if_neg (by rw [e0]; decide), u2], inv_7 hI⟩
  · have e1 : a3 = 1 := e3
    rw [if_neg (show ¬ a3 = 0 by rw [e1]; decide)]
    have z : ∀ (x : Nat), x < 64 → ((nI x = 0) ↔ (nI x ≤ 0)) := fun x hx => by
      by_cases c : x = 0
      · subst c
        exact ⟨fun _ => by decide, fun _ => rfl⟩
      · exact ⟨fun q => absurd q (nI_ne0 (by omega) (by omega)), fun q => absurd q (nI_nle (by omega) (by omega))⟩
    have i91 : ∀ a b : Int32, ∃ r, fX11_tune_J111 (nI x3, sA σ 7 0 g3) a b (sA σ 7 0 g3) = some (r, sA σ 7 0 g3) ∧ fX12_tune_J91 (nI x3) a b = some r := fun a b => by
      unfold fX11_tune_J111 fX12_tune_J91
      dsimp only
      by_cases c : nI x3 = 0
      · rw [if_pos c, if_pos ((z x3 l3).mp c)]
        exact ⟨_, rfl, rfl⟩
      · rw [if_neg c, if_neg (fun q => c ((z x3 l3).mpr q))]
        exact ⟨_, rfl, rfl⟩
    have i81 : ∀ a : Int32, ∃ r, fX11_tune_J101 (nI x2, sA σ 7 0 g2) (nI x3, sA σ 7 0 g3) a (sA σ 7 0 g3) = some (r, sA σ 7 0 g3) ∧ fX12_tune_J81 (nI x2) (nI x3) a = some r := fun a => by
      unfold fX11_tune_J101 fX12_tune_J81
      dsimp only
      by_cases c : nI x2 = 0
      · rw [if_pos c, if_pos ((z x2 l2).mp c)]
        exact i91 a 0
      · rw [if_neg c, if_neg (fun q => c ((z x2 l2).mpr q))]
        exact i91 a 1
    by_cases c : nI x1 = 0
    · obtain ⟨r, s1, s2⟩ := i81 0
      exact ⟨r, sA σ 7 0 g3, by rw [if_pos c]; exact s1, by rw [ml, if_pos e1, if_pos ((z x1 l1).mp c)]; exact s2, inv_7 hI⟩
    · obtain ⟨r, s1, s2⟩ := i81 1
      exact ⟨r, sA σ 7 0 g3, by rw [if_neg c]; exact s1, by rw [ml, if_pos e1, if_neg (fun q => c ((z x1 l1).mpr q))]; exact s2, inv_7 hI⟩
  · omega
