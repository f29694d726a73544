theorem isShelf_s {σ : St} (v : Int32) : (∃ d, d < 8 ∧ v = nI d ∧ fX12_isShelf σ v = some 1 ∧ fX11_isOut σ v 0 7 = some 0) ∨ ((∀ d, d < 8 → v ≠ nI d) ∧ fX12_isShelf σ v = some 0 ∧ fX11_isOut σ v 0 7 = some 1) := by
  unfold fX12_isShelf
  rcases rng_s (σ := σ) (τ := σ) (M := 7) (n := 7) v (by omega) rfl with ⟨j, hj, e, q1, q2⟩ | ⟨e, q1, q2⟩
  · exact Or.inl ⟨j, by omega, e, by rw [q1, bd_s, ck_t (Or.inr rfl)], q2⟩
  · exact Or.inr ⟨fun d hd => e d (by omega), by rw [q1, bd_s, ck_t (Or.inl rfl)], q2⟩
/-- a shelf told: none; nothing on it; a blow; a row -/
theorem shelf_s {σ : St} (hS : ∀ d, d < 8 → Shf σ d) (v : Int32) : (fX11_rowRefusal σ v = some (-1) ∧ fX12_wrongRow σ v (-1) = some (-1) ∧ fX11_blowRefusal σ v = some (-1) ∧ fX12_wrongKept σ v = some (-1)) ∨ ∃ d, d < 8 ∧ v = nI d ∧ ((fX11_rowRefusal σ v = some (-11) ∧ fX12_wrongRow σ v (-1) = some (-11) ∧ fX11_blowRefusal σ v = some (-11) ∧ fX12_wrongKept σ v = some (-11)) ∨
    ((fX11_rowRefusal σ v = some (-12) ∧ fX12_wrongRow σ v (-1) = some (-12) ∧ fX11_blowRefusal σ v = some 0 ∧ fX12_wrongKept σ v = some 0) ∧ ∃ j kd fg, gR σ 1 d 0 = some j ∧ Bl σ j kd fg ∧ kd ≤ 7 ∧ fg ≤ 9 ∧ gI σ 12 16 d = nI kd ∧ gI σ 12 17 d = nI fg) ∨
    ((fX11_rowRefusal σ v = some 0 ∧ fX12_wrongRow σ v (-1) = some 0 ∧ fX11_blowRefusal σ v = some (-12) ∧ fX12_wrongKept σ v = some (-12)) ∧ gI σ 12 15 d = 2 ∧ gI σ 8 d 1 = 1 ∧ gR σ 1 d 0 = none ∧ ∃ so n, so ≤ 2 ∧ n ≤ 100 ∧ gI σ 8 d 2 = nI so ∧ gI σ 12 18 d = nI so ∧ gI σ 8 d 3 = nI n ∧ gI σ 12 19 d = nI n ∧ ∀ i, i < n → gI σ 9 d i = gI σ 12 20 (100 * d + i))) := by
  unfold fX11_rowRefusal fX12_wrongRow fX11_blowRefusal fX12_wrongKept
  rcases isShelf_s (σ := σ) v with ⟨d, hd, rfl, q1, q2⟩ | ⟨-, q1, q2⟩
  · refine Or.inr ⟨d, hd, rfl, ?_⟩
    have i8 : vp_in (nI d) 8 := pk_in d 8 hd rfl (by omega)
    rw [q1, q2]
    simp only [bd_s, ck_t i8, nI_clamp (show d < 2 ^ 31 by omega)]
    unfold fX4_isEmpty
    rcases hS d hd with ⟨k1, k2, k3⟩ | ⟨k1, k2, j, kd, fg, k3, k4⟩ | ⟨k1, k2, k3, k4⟩
    · refine Or.inl ?_
      rw [k1, k2, k3]
      exact ⟨rfl, rfl, rfl, rfl⟩
    · refine Or.inr (Or.inl ⟨?_, j, kd, fg, k3, k4⟩)
      rw [k1, k2, k3]
      exact ⟨rfl, rfl, rfl, rfl⟩
    · refine Or.inr (Or.inr ⟨?_, k1, k2, k3, k4⟩)
      rw [k1, k2, k3]
      exact ⟨rfl, rfl, rfl, rfl⟩
  · rw [q1, q2]
    exact Or.inl ⟨rfl, rfl, rfl, rfl⟩
/-- a place of a row -/
theorem place_s {σ : St} {d n : Nat} (hn : n ≤ 100) (h1 : gI σ 8 d 3 = nI n) (v : Int32) : (∃ i, i < n ∧ v = nI i ∧ fX4_hasPlace σ d v = some 1 ∧ fX12_isIn σ v 0 (nI n - 1) = some 1) ∨ ((∀ i, i < n → v ≠ nI i) ∧ fX4_hasPlace σ d v = some 0 ∧ fX12_isIn σ v 0 (nI n - 1) = some 0) := by
  unfold fX4_hasPlace
  rcases idx_s (σ := σ) (n := n) v (by omega) with ⟨q, q1⟩ | ⟨q, q1⟩ <;> rcases has_s v (by omega) h1 with ⟨p, p1⟩ | ⟨p, p1⟩
  · obtain ⟨i, hi, e⟩ := q
    exact Or.inl ⟨i, hi, e, p1, q1⟩
  · exact ne_of q p
  · exact ne_of p q
  · exact Or.inr ⟨q, p1, q1⟩
theorem cell_ix {d i : Nat} : (100 : Int32) * nI d + nI i = nI (100 * d + i) := by
  show nI 100 * nI d + nI i = _
  rw [pk_mul, nI_add]
theorem in800 {d i : Nat} (hd : d < 8) (hi : i < 100) : vp_in (nI (100 * d + i)) 800 := pk_in (100 * d + i) 800 (by omega) rfl (by omega)
/-- remainder -/
theorem case32 : Case32 Inv := by
  intro σ hI a1 a2 a3
  obtain ⟨-, -, -, -, -, -, -, I8⟩ := hI
  unfold fX11_remainder fX12_remainder
  rcases shelf_s I8 a1 with ⟨p1, p2, -, -⟩ | ⟨d, hd, rfl, ⟨p1, p2, -, -⟩ | ⟨⟨p1, p2, -, -⟩, -⟩ | ⟨⟨p1, p2, -, -⟩, -, -, -, so, n, hso, hn, k1, k2, k3, k4, k5⟩⟩
  · rw [p1, p2]
    exact ⟨1000000001, rfl, rfl⟩
  · rw [p1, p2]
    exact ⟨1000000011, rfl, rfl⟩
  · rw [p1, p2]
    exact ⟨1000000012, rfl, rfl⟩
  · have i8 : vp_in (nI d) 8 := pk_in d 8 hd rfl (by omega)
    simp only [p1, p2, bd_s, if_pos (show (0 : Int32) ≤ 0 by decide), if_pos (show (0 : Int32) = 0 from rfl), ck_t i8, nI_clamp (show d < 2 ^ 31 by omega), k4]
    rcases place_s (σ := σ) hn k3 a2 with ⟨i, hi, rfl, q1, q2⟩ | ⟨-, q1, q2⟩
    · simp only [q1, q2, bd_s, if_neg (show ¬ (1 : Int32) = 0 by decide)]
      rcases place_s (σ := σ) hn k3 a3 with ⟨j, hj, rfl, r1, r2⟩ | ⟨-, r1, r2⟩
      · simp only [r1, r2, bd_s, if_neg (show ¬ (1 : Int32) = 0 by decide)]
        unfold fX12_remainder_J49 fX12_remainder_J72
        rw [cell_ix, cell_ix]
        simp only [if_pos (show (0 : Int32) = 0 from rfl), ck_t (in800 hd (show i < 100 by omega)), ck_t (in800 hd (show j < 100 by omega)), nI_clamp (show 100 * d + i < 2 ^ 31 by omega), nI_clamp (show 100 * d + j < 2 ^ 31 by omega), nI_clamp (show i < 2 ^ 31 by omega), nI_clamp (show j < 2 ^ 31 by omega), ck_t (show vp_in (nI j) 100 from pk_in j 100 (by omega) rfl (by omega)), ck_t (show vp_in (nI i) 100 from pk_in i 100 (by omega) rfl (by omega)), nmv_s, k5 i hi, k5 j hj]
        by_cases hz : gI σ 12 20 (100 * d + j) = 0
        · rw [if_pos hz, if_pos hz]
          exact ⟨1000000016, rfl, rfl⟩
        · rw [if_neg hz, if_neg hz, ck_t hz]
          exact ⟨_, rfl, rfl⟩
      · rw [r1, r2]
        exact ⟨1000000013, rfl, rfl⟩
    · rw [q1, q2]
      exact ⟨1000000013, rfl, rfl⟩
