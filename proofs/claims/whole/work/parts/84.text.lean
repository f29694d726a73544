theorem bad28 {σ : St} {d n : Nat} (h : TxtOk σ d n) {a k : Nat} (ha : a < 1000) (hk : k ≤ 7) (K : Option Int32) : ((∀ i, a < i → i ≤ a + k → dgt (txt σ d n i)) ∧ fX11_firstBadByte_L28 σ d (nI (a + k + 1)) K FU (nI (a + 1)) = K) ∨ ∃ p, a < p ∧ p ≤ a + k ∧ (∀ i, a < i → i < p → dgt (txt σ d n i)) ∧ ¬ dgt (txt σ d n p) ∧ fX11_firstBadByte_L28 σ d (nI (a + k + 1)) K FU (nI (a + 1)) = some (nI p) := by
  refine loop_h (S := Unit) (fun m j _ => fX11_firstBadByte_L28 σ d (nI (a + k + 1)) K m (nI (a + 1 + j))) k (fun j _ => ∀ i, a < i → i ≤ a + j → dgt (txt σ d n i)) (fun q => ((∀ i, a < i → i ≤ a + k → dgt (txt σ d n i)) ∧ q = K) ∨ ∃ p, a < p ∧ p ≤ a + k ∧ (∀ i, a < i → i < p → dgt (txt σ d n i)) ∧ ¬ dgt (txt σ d n p) ∧ q = some (nI p)) (fun m j _ hj hI => ?_) k 0 () FU (by omega) (FU_gt (by omega)) (fun i h1 h2 => by omega)
  show ((_ ∧ fX11_firstBadByte_L28B σ d (nI (a + k + 1)) K (fX11_firstBadByte_L28 σ d (nI (a + k + 1)) K m) (nI (a + 1 + j)) = K) ∨ ∃ p, a < p ∧ p ≤ a + k ∧ _ ∧ _ ∧ fX11_firstBadByte_L28B σ d (nI (a + k + 1)) K (fX11_firstBadByte_L28 σ d (nI (a + k + 1)) K m) (nI (a + 1 + j)) = _) ∨ (j < k ∧ ∃ s', fX11_firstBadByte_L28B σ d (nI (a + k + 1)) K (fX11_firstBadByte_L28 σ d (nI (a + k + 1)) K m) (nI (a + 1 + j)) = _ ∧ _)
  unfold fX11_firstBadByte_L28B
  by_cases e : j = k
  · subst e
    rw [if_pos (nI_le (by omega) (by omega))]
    exact Or.inl (Or.inl ⟨hI, rfl⟩)
  · rw [if_neg (nI_ge (by omega) (by omega)), byteAt_c h rfl rfl (by omega), bd_s]
    rcases isOutD (σ := σ) (txt_lt h (a + 1 + j)) with ⟨s1, s2⟩ | ⟨s1, s2⟩
    · rw [s2, bd_s, if_pos rfl, nmv_s, nI_1]
      refine Or.inr ⟨by omega, (), rfl, fun i h1 h2 => ?_⟩
      by_cases c : i = a + 1 + j
      · subst c; exact s1
      · exact hI i h1 (by omega)
    · rw [s2, bd_s, if_neg (by decide)]
      exact Or.inl (Or.inr ⟨a + 1 + j, by omega, by omega, fun i h1 h2 => hI i h1 (by omega), s1, rfl⟩)
/-- a byte is ; -/
theorem semi_c {v : Nat} (hv : v < 257) {α : Type} {x y : α} : (if sgn v = 59 then x else y) = if v = 59 then x else y := by
  have q := (sgn_fin v hv).2.2.2.2.1
  by_cases c : v = 59
  · rw [if_pos c, if_pos (q.mpr c)]
  · rw [if_neg c, if_neg (fun z => c (q.mp z))]
theorem semi_m {v : Nat} (hv : v < 257) {α : Type} {x y : α} : (if uns v = 59 then x else y) = if v = 59 then x else y := by
  have q := (sgn_fin v hv).2.2.2.2.2.2.2.2.2.1
  by_cases c : v = 59
  · rw [if_pos c, if_pos (q.mpr c)]
  · rw [if_neg c, if_neg (fun z => c (q.mp z))]
/-- a ; lies within the row -/
theorem in_row {σ : St} {d n i : Nat} (h : txt σ d n i ≠ 256) : i < n := by
  by_cases c : i < n
  · exact c
  · exact absurd (txt_n c) h
theorem bad_c {σ : St} {d n : Nat} (h : TxtOk σ d n) : (∃ m, GoodT (txt σ d n) n m ∧ fX11_firstBadByte σ d = some (-1)) ∨ ∃ m p, BadT (txt σ d n) n m p ∧ p < 2000 ∧ fX11_firstBadByte σ d = some (nI p) := by
  have n100 := h.2.1
  refine loop_h (S := Unit) (fun f i _ => fX11_firstBadByte_L2 σ d (some (-1)) f (nI (aN (txt σ d n) i))) 50 (fun i _ => (∀ j, j < i → SOK (txt σ d n) (aN (txt σ d n) j)) ∧ (∀ j, 0 < j → j ≤ i → aN (txt σ d n) j < n)) (fun q => (∃ m, GoodT (txt σ d n) n m ∧ q = some (-1)) ∨ ∃ m p, BadT (txt σ d n) n m p ∧ p < 2000 ∧ q = some (nI p)) (fun f i _ hi hI => ?_) 50 0 () FU (by omega) (FU_gt (by omega)) ⟨fun j hj => absurd hj (Nat.not_lt_zero j), fun j h1 h2 => by omega⟩
  obtain ⟨i1, i2⟩ := hI
  have ge := aN_ge (txt σ d n) i
  have lt : aN (txt σ d n) i ≤ 100 := by
    by_cases c : 0 < i
    · have := i2 i c (Nat.le_refl _)
      omega
    · have : i = 0 := by omega
      subst this
      exact Nat.zero_le _
  have i50 : i < 50 := by
    by_cases c : 0 < i
    · have := i2 i c (Nat.le_refl _)
      omega
    · omega
  show ((∃ m, _ ∧ fX11_firstBadByte_L2B σ d _ (fX11_firstBadByte_L2 σ d _ f) (nI (aN (txt σ d n) i)) = _) ∨ ∃ m p, _ ∧ _ ∧ fX11_firstBadByte_L2B σ d _ (fX11_firstBadByte_L2 σ d _ f) (nI (aN (txt σ d n) i)) = _) ∨ (i < 50 ∧ ∃ s', fX11_firstBadByte_L2B σ d _ (fX11_firstBadByte_L2 σ d _ f) (nI (aN (txt σ d n) i)) = _ ∧ _)
  unfold fX11_firstBadByte_L2B
  have eS : aN (txt σ d n) (i + 1) = aN (txt σ d n) i + kd (txt σ d n (aN (txt σ d n) i)) + 2 := rfl
  generalize ea : aN (txt σ d n) i = a at ge lt eS
  rw [byteAt_c h rfl rfl (by omega), bd_s, digits_c (txt_lt h a), bd_s]
  rcases kd_le (txt σ d n a) with k0 | ⟨k1, k2⟩
  · rw [if_pos k0, if_neg (by decide)]
    refine Or.inl (Or.inr ⟨i, a, ⟨i1, fun c => ?_, ?_⟩, by omega, rfl⟩)
    · exact i2 i c (Nat.le_refl _)
    · rw [ea]
      exact Or.inl ⟨k0, rfl⟩
  · have kn : ¬ kd (txt σ d n a) = 0 := by omega
    rw [if_neg kn, if_pos (nI_pos' (by omega)), nI_add, nI_1, nmv_s, nI_1, nmv_s]
    have good : SOK (txt σ d n) a → ∀ j, j < i + 1 → SOK (txt σ d n) (aN (txt σ d n) j) := fun q j hj => by
      by_cases c : j = i
      · subst c; rw [ea]; exact q
      · exact i1 j (by omega)
    rcases bad28 h (a := a) (k := kd (txt σ d n a)) (by omega) k2 (bd (fX4_byteAt σ d (nI (a + kd (txt σ d n a) + 1))) fun r13 => if r13 = 59 then nmv (nI (a + kd (txt σ d n a) + 1) + 1) fun v15 => if v15 < (gI σ 8 d 3) then fX11_firstBadByte_L2 σ d (some (-1)) f v15 else some (-1) else some (nI (a + kd (txt σ d n a) + 1))) with ⟨q1, q2⟩ | ⟨p, p1, p2, p3, p4, p5⟩
    · rw [q2, byteAt_c h rfl rfl (by omega), bd_s, semi_c (txt_lt h _), nI_1, nmv_s, h.2.2.1]
      by_cases c : txt σ d n (a + kd (txt σ d n a) + 1) = 59
      · have ok : SOK (txt σ d n) a := ⟨kn, q1, c⟩
        rw [if_pos c]
        by_cases c2 : a + kd (txt σ d n a) + 1 + 1 < n
        · rw [if_pos (nI_lt c2 (by omega))]
          refine Or.inr ⟨i50, (), ?_, good ok, fun j h1 h2 => ?_⟩
          · rw [eS]
          · by_cases c3 : j = i + 1
            · subst c3; rw [eS]; omega
            · exact i2 j h1 (by omega)
        · rw [if_neg (nI_nlt (by omega) (by omega))]
          refine Or.inl (Or.inl ⟨i + 1, ⟨by omega, good ok, fun j h1 h2 => i2 j h1 (by omega), ?_⟩, rfl⟩)
          rw [eS]
          omega
      · rw [if_neg c]
        refine Or.inl (Or.inr ⟨i, a + kd (txt σ d n a) + 1, ⟨i1, fun c => i2 i c (Nat.le_refl _), ?_⟩, by omega, rfl⟩)
        rw [ea]
        exact Or.inr ⟨kn, by omega, fun j h1 h2 => q1 j h1 (by omega), Or.inr ⟨rfl, c⟩⟩
    · rw [p5]
      refine Or.inl (Or.inr ⟨i, p, ⟨i1, fun c => i2 i c (Nat.le_refl _), ?_⟩, by omega, rfl⟩)
      rw [ea]
      exact Or.inr ⟨kn, p1, p3, Or.inl ⟨p2, p4⟩⟩
