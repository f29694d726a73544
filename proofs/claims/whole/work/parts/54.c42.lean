theorem sub_I {a b : Nat} (ha : a < 2 ^ 31) (hb : b < 2 ^ 31) : (nI a - nI b).toInt = (a : Int) - b := by
  rw [Int32.toInt_sub, nI_toInt ha, nI_toInt hb]
  exact Int.bmod_eq_of_le (by omega) (by omega)
/-- a shelf told: whether it is one, what it holds on both sides -/
theorem shelf2_s {σ : St} (hS : ∀ d, d < 8 → Shf σ d) (v : Int32) : (fX11_rowRefusal σ v = some (-1) ∧ fX12_isShelf σ v = some 0) ∨ ∃ d, d < 8 ∧ v = nI d ∧ fX12_isShelf σ v = some 1 ∧ ((fX11_rowRefusal σ v = some (-11) ∧ gI σ 12 15 d = 0) ∨
    (fX11_rowRefusal σ v = some (-12) ∧ gI σ 12 15 d = 1) ∨
    (fX11_rowRefusal σ v = some 0 ∧ gI σ 12 15 d = 2 ∧ ∃ so n, so ≤ 2 ∧ n ≤ 100 ∧ gI σ 8 d 2 = nI so ∧ gI σ 12 18 d = nI so ∧ gI σ 8 d 3 = nI n ∧ gI σ 12 19 d = nI n ∧ ∀ i, i < n → gI σ 9 d i = gI σ 12 20 (100 * d + i))) := by
  unfold fX11_rowRefusal
  rcases isShelf_s (σ := σ) v with ⟨d, hd, rfl, q1, q2⟩ | ⟨-, q1, q2⟩
  · refine Or.inr ⟨d, hd, rfl, q1, ?_⟩
    have i8 : vp_in (nI d) 8 := pk_in d 8 hd rfl (by omega)
    rw [q2]
    simp only [bd_s, ck_t i8, nI_clamp (show d < 2 ^ 31 by omega)]
    unfold fX4_isEmpty
    rcases hS d hd with ⟨k1, k2, k3⟩ | ⟨k1, k2, j, kd, fg, k3, k4⟩ | ⟨k1, k2, k3, k4⟩
    · refine Or.inl ⟨?_, k1⟩
      rw [k2, k3]
      rfl
    · refine Or.inr (Or.inl ⟨?_, k1⟩)
      rw [k2, k3]
      rfl
    · refine Or.inr (Or.inr ⟨?_, k1, k4⟩)
      rw [k2, k3]
      rfl
  · rw [q2]
    exact Or.inl ⟨rfl, q1⟩
theorem hp_s {σ : St} {d sz n : Nat} (hs : sz ≤ 100) (hn : n < 2 ^ 31) (h1 : gI σ 8 d 3 = nI sz) (a : Int32) : (∃ i, a = nI i ∧ i + n ≤ sz ∧ fX4_hasPlaces σ d a (nI n) = some 1 ∧ ¬ a < 0 ∧ ¬ (nI sz - a) < nI n) ∨ (fX4_hasPlaces σ d a (nI n) = some 0 ∧ (a < 0 ∨ (¬ a < 0 ∧ (nI sz - a) < nI n))) := by
  unfold fX4_hasPlaces
  rw [h1]
  by_cases h0 : a < 0
  · exact Or.inr ⟨by rw [if_pos h0], Or.inl h0⟩
  · obtain ⟨i, hi, rfl⟩ := nI_of h0
    have e : (nI sz - nI i < nI n) ↔ sz < i + n := by
      rw [Int32.lt_iff_toInt_lt, sub_I (by omega) hi, nI_toInt hn]
      omega
    by_cases h2 : sz < i + n
    · refine Or.inr ⟨?_, Or.inr ⟨h0, e.mpr h2⟩⟩
      rw [if_neg h0]
      by_cases h3 : nI sz < nI i
      · rw [if_pos h3]
      · rw [if_neg h3, if_pos (e.mpr h2)]
    · refine Or.inl ⟨i, rfl, by omega, ?_, h0, fun q => h2 (e.mp q)⟩
      rw [if_neg h0, if_neg (nI_nlt (by omega) (by omega)), if_neg (fun q => h2 (e.mp q))]
theorem copyL_s {σ : St} {d e i j n : Nat} (hd : d < 8) (he : e < 8) (hi : i + n ≤ 100) (hj : j + n ≤ 100) : ∃ g, fX12_copy_L122 (nI d) (nI i) (nI e) (nI j) (nI n) (fun s => some (nI n, s)) FU 0 σ = some (nI n, sA σ 12 20 g) ∧ (∀ s, s < n → g (100 * e + j + s) = gI σ 12 20 (100 * d + i + s)) ∧ ∀ p, (∀ s, s < n → p ≠ 100 * e + j + s) → g p = gI σ 12 20 p := by
  have q : (fun q => ∃ g, q = some (nI n, sA σ 12 20 g) ∧ (∀ s, s < n → g (100 * e + j + s) = gI σ 12 20 (100 * d + i + s)) ∧ ∀ p, (∀ s, s < n → p ≠ 100 * e + j + s) → g p = gI σ 12 20 p) (fX12_copy_L122 (nI d) (nI i) (nI e) (nI j) (nI n) (fun s => some (nI n, s)) FU (nI 0) (sA σ 12 20 (gI σ 12 20))) := by
    refine loop_h (S := Nat → Int32) (fun m x g => fX12_copy_L122 (nI d) (nI i) (nI e) (nI j) (nI n) (fun s => some (nI n, s)) m (nI x) (sA σ 12 20 g)) n (fun x g => (∀ s, s < n → (if i ≤ j then n - x ≤ s else s < x) → g (100 * e + j + s) = gI σ 12 20 (100 * d + i + s)) ∧ ∀ p, (∀ s, s < n → (if i ≤ j then n - x ≤ s else s < x) → p ≠ 100 * e + j + s) → g p = gI σ 12 20 p) (fun q => ∃ g, q = some (nI n, sA σ 12 20 g) ∧ (∀ s, s < n → g (100 * e + j + s) = gI σ 12 20 (100 * d + i + s)) ∧ ∀ p, (∀ s, s < n → p ≠ 100 * e + j + s) → g p = gI σ 12 20 p) (fun m x g hx h => ?_) n 0 (gI σ 12 20) FU (by omega) (FU_gt (by omega)) ⟨fun s hs c => ?_, fun p _ => rfl⟩
    · show (∃ g', fX12_copy_L122B (nI d) (nI i) (nI e) (nI j) (nI n) (fun s => some (nI n, s)) (fX12_copy_L122 (nI d) (nI i) (nI e) (nI j) (nI n) (fun s => some (nI n, s)) m) (nI x) (sA σ 12 20 g) = _ ∧ _) ∨ (_ ∧ ∃ g', fX12_copy_L122B (nI d) (nI i) (nI e) (nI j) (nI n) (fun s => some (nI n, s)) (fX12_copy_L122 (nI d) (nI i) (nI e) (nI j) (nI n) (fun s => some (nI n, s)) m) (nI x) (sA σ 12 20 g) = _ ∧ _)
      unfold fX12_copy_L122B
      by_cases e9 : x = n
      · subst e9
        rw [if_pos (nI_le (Nat.le_refl _) (by omega))]
        refine Or.inl ⟨g, rfl, fun s hs => h.1 s hs ?_, fun p hp => h.2 p (fun s hs _ => hp s hs)⟩
        split <;> omega
      · have step : ∀ z, z < n → (z = if i ≤ j then n - 1 - x else x) → fX12_copy_J147 (nI d) (nI i) (nI e) (nI j) (nI x) (fX12_copy_L122 (nI d) (nI i) (nI e) (nI j) (nI n) (fun s => some (nI n, s)) m) (nI z) (sA σ 12 20 g) = fX12_copy_L122 (nI d) (nI i) (nI e) (nI j) (nI n) (fun s => some (nI n, s)) m (nI (x + 1)) (sA σ 12 20 (upd g (100 * e + j + z) (gI σ 12 20 (100 * d + i + z)))) := by
          intro z hz ez
          unfold fX12_copy_J147
          have e1 : 100 * nI d + nI i + nI z = nI (100 * d + i + z) := by rw [cell_ix, nI_add]
          have e2 : 100 * nI e + nI j + nI z = nI (100 * e + j + z) := by rw [cell_ix, nI_add]
          have i1 : vp_in (nI (100 * d + i + z)) 800 := pk_in _ 800 (by omega) rfl (by omega)
          have i2 : vp_in (nI (100 * e + j + z)) 800 := pk_in _ 800 (by omega) rfl (by omega)
          rw [e1, e2, ck_t i1, ck_t i2, nI_clamp (by omega), nI_clamp (by omega), nmv_s, nmv_s, nI_1]
          show fX12_copy_L122 (nI d) (nI i) (nI e) (nI j) (nI n) (fun s => some (nI n, s)) m (nI (x + 1)) (sA (sA σ 12 20 g) 12 20 (upd (gI (sA σ 12 20 g) 12 20) (100 * e + j + z) (gI (sA σ 12 20 g) 12 20 (100 * d + i + z)))) = _
          rw [sA_sA, gsA_s, h.2 (100 * d + i + z) (fun s hs c => ?_)]
          intro hq
          by_cases hc : i ≤ j
          · rw [if_pos hc] at c ez
            omega
          · rw [if_neg hc] at c ez
            omega
        have inv : ∀ z, z < n → (z = if i ≤ j then n - 1 - x else x) → (∀ s, s < n → (if i ≤ j then n - (x + 1) ≤ s else s < x + 1) → upd g (100 * e + j + z) (gI σ 12 20 (100 * d + i + z)) (100 * e + j + s) = gI σ 12 20 (100 * d + i + s)) ∧ ∀ p, (∀ s, s < n → (if i ≤ j then n - (x + 1) ≤ s else s < x + 1) → p ≠ 100 * e + j + s) → upd g (100 * e + j + z) (gI σ 12 20 (100 * d + i + z)) p = gI σ 12 20 p := by
          intro z hz ez
          refine ⟨fun s hs c => ?_, fun p hp => ?_⟩
          · by_cases e3 : s = z
            · subst e3
              exact pk_us
            · rw [pk_un (by omega)]
              refine h.1 s hs ?_
              by_cases hc : i ≤ j
              · rw [if_pos hc] at c ez ⊢
                omega
              · rw [if_neg hc] at c ez ⊢
                omega
          · rw [pk_un (hp z hz (by by_cases hc : i ≤ j <;> simp only [hc, if_true, if_false] at ez ⊢ <;> omega))]
            refine h.2 p (fun s hs c => hp s hs ?_)
            by_cases hc : i ≤ j
            · rw [if_pos hc] at c ⊢
              omega
            · rw [if_neg hc] at c ⊢
              omega
        refine Or.inr ⟨by omega, ?_⟩
        rw [if_neg (nI_ge (by omega) (by omega))]
        by_cases hc : i ≤ j
        · rw [if_pos (nI_le hc (by omega))]
          have ez : nI n - 1 - nI x = nI (n - 1 - x) := by
            obtain ⟨n', rfl⟩ : ∃ k, n = k + 1 := ⟨n - 1, by omega⟩
            rw [nI_pred, pk_sub (by omega)]
            rfl
          rw [ez]
          exact ⟨_, step (n - 1 - x) (by omega) (if_pos hc).symm, inv (n - 1 - x) (by omega) (if_pos hc).symm⟩
        · rw [if_neg (nI_ge (by omega) (by omega))]
          exact ⟨_, step x (by omega) (if_neg hc).symm, inv x (by omega) (if_neg hc).symm⟩
    · by_cases hc : i ≤ j
      · rw [if_pos hc] at c
        omega
      · rw [if_neg hc] at c
        omega
  rw [sA_self] at q
  exact q
/-- copy -/
theorem case42 : Case42 Inv := by
  intro σ hI a1 a2 a3 a4 a5
  have I8 := hI.2.2.2.2.2.2.2
  have ref : ∀ r : Int32, fX11_copy σ a1 a2 a3 a4 a5 = some (r, σ) → fX12_copy σ a1 a2 a3 a4 a5 = some (r, σ) → ∃ r σ1 σ2, fX11_copy σ a1 a2 a3 a4 a5 = some (r, σ1) ∧ fX12_copy σ1 a1 a2 a3 a4 a5 = some (r, σ2) ∧ Inv σ2 := fun r h1 h2 => ⟨r, σ, σ, h1, h2, hI⟩
  rcases shelf2_s I8 a1 with ⟨p1, p2⟩ | ⟨d, hd, rfl, p2, P⟩
  · rcases shelf2_s I8 a3 with ⟨q1, q2⟩ | ⟨e, he, rfl, q2, ⟨q1, q3⟩ | ⟨q1, q3⟩ | ⟨q1, q3, -⟩⟩
    all_goals
      refine ref (-1) ?_ ?_
      · unfold fX11_copy fX11_rowsRefusal
        rw [p1, q1]
        rfl
      · unfold fX12_copy
        rw [p2]
        rfl
  · have i8 := in8 hd
    rcases shelf2_s I8 a3 with ⟨q1, q2⟩ | ⟨e, he, rfl, q2, Q⟩
    · rcases P with ⟨p1, p3⟩ | ⟨p1, p3⟩ | ⟨p1, p3, -⟩
      all_goals
        refine ref (-1) ?_ ?_
        · unfold fX11_copy fX11_rowsRefusal
          rw [p1, q1]
          rfl
        · unfold fX12_copy
          rw [p2, q2]
          rfl
    · have j8 := in8 he
      have m0 : ∀ w w' : Int32, gI σ 12 15 d = w → gI σ 12 15 e = w' → ¬ (w = 2 ∧ w' = 2) → fX12_copy σ (nI d) a2 (nI e) a4 a5 = if w = 0 then some (-11, σ) else if w' = 0 then some (-11, σ) else some (-12, σ) := by
        intro w w' h1 h2 h3
        unfold fX12_copy
        rw [p2, q2]
        simp only [bd_s, ck_t i8, ck_t j8, nI_clamp (show d < 2 ^ 31 by omega), nI_clamp (show e < 2 ^ 31 by omega), h1, h2, if_neg (show ¬ (1 : Int32) = 0 by decide)]
        by_cases c1 : w = 0
        · simp only [c1, if_true]
        · by_cases c2 : w' = 0
          · simp only [c1, c2, if_true, if_false]
          · by_cases c3 : w = 2
            · by_cases c4 : w' = 2
              · exact absurd ⟨c3, c4⟩ h3
              · simp only [c1, c2, c3, c4, if_true, if_false]
            · simp only [c1, c2, c3, if_true, if_false]
      have c0 : ∀ r r' : Int32, fX11_rowRefusal σ (nI d) = some r → fX11_rowRefusal σ (nI e) = some r' → fX11_rowsRefusal σ (nI d) (nI e) = if r = -1 then some (-1) else if r' = -1 then some (-1) else if r = -11 then some (-11) else if r' = -11 then some (-11) else if 0 ≤ r then some r' else some r := by
        intro r r' h1 h2
        unfold fX11_rowsRefusal
        rw [h1, h2]
        rfl
      rcases P with ⟨p1, p3⟩ | ⟨p1, p3⟩ | ⟨p1, p3, so, sz, s1, s2, s3, s4, s5, s6, s7⟩ <;> rcases Q with ⟨q1, q3⟩ | ⟨q1, q3⟩ | ⟨q1, q3, to, tz, t1, t2, t3, t4, t5, t6, t7⟩
      · exact ref (-11) (by unfold fX11_copy; rw [c0 _ _ p1 q1]; rfl) (by rw [m0 _ _ p3 q3 (by decide)]; rfl)
      · exact ref (-11) (by unfold fX11_copy; rw [c0 _ _ p1 q1]; rfl) (by rw [m0 _ _ p3 q3 (by decide)]; rfl)
      · exact ref (-11) (by unfold fX11_copy; rw [c0 _ _ p1 q1]; rfl) (by rw [m0 _ _ p3 q3 (by decide)]; rfl)
      · exact ref (-11) (by unfold fX11_copy; rw [c0 _ _ p1 q1]; rfl) (by rw [m0 _ _ p3 q3 (by decide)]; rfl)
      · exact ref (-12) (by unfold fX11_copy; rw [c0 _ _ p1 q1]; rfl) (by rw [m0 _ _ p3 q3 (by decide)]; rfl)
      · exact ref (-12) (by unfold fX11_copy; rw [c0 _ _ p1 q1]; rfl) (by rw [m0 _ _ p3 q3 (by decide)]; rfl)
      · exact ref (-11) (by unfold fX11_copy; rw [c0 _ _ p1 q1]; rfl) (by rw [m0 _ _ p3 q3 (by decide)]; rfl)
      · exact ref (-12) (by unfold fX11_copy; rw [c0 _ _ p1 q1]; rfl) (by rw [m0 _ _ p3 q3 (by decide)]; rfl)
      · -- both rows
        have cc : fX11_copy σ (nI d) a2 (nI e) a4 a5 = if nI so = nI to then (if a5 < 0 then some (-13, σ) else bd (fX4_hasPlaces σ d a2 a5) fun r7 => if r7 = 0 then some ((-13), σ) else bd (fX4_hasPlaces σ e a4 a5) fun r9 => if r9 = 0 then some ((-13), σ) else ck (¬ a2 < 0 ∧ ¬ a4 < 0 ∧ ¬ a5 < 0 ∧ a2.toNatClampNeg + a5.toNatClampNeg ≤ 100 ∧ a4.toNatClampNeg + a5.toNatClampNeg ≤ 100) <| some (a5, sA σ 9 e (va_cpy (gI σ 9 d) (gI σ 9 e) a2.toNatClampNeg a4.toNatClampNeg a5.toNatClampNeg))) else some (-12, σ) := by
          unfold fX11_copy
          rw [c0 _ _ p1 q1]
          simp only [bd_s, nmv_s, ck_t i8, ck_t j8, nI_clamp (show d < 2 ^ 31 by omega), nI_clamp (show e < 2 ^ 31 by omega), s3, t3, if_neg (show ¬ (0 : Int32) = -1 by decide), if_neg (show ¬ (0 : Int32) = -11 by decide), if_pos (show (0 : Int32) ≤ 0 by decide)]
        have mm : ∀ τ : St, gI τ 12 = gI σ 12 → fX12_isShelf τ (nI d) = some 1 → fX12_isShelf τ (nI e) = some 1 → fX12_copy τ (nI d) a2 (nI e) a4 a5 = if nI so = nI to then (if a5 < 0 then some (-13, τ) else if a2 < 0 then some (-13, τ) else if a4 < 0 then some (-13, τ) else if nI sz - a2 < a5 then some (-13, τ) else if a5 ≤ nI tz - a4 then fX12_copy_L122 (nI d) a2 (nI e) a4 a5 (fun σ33 => some (a5, σ33)) FU 0 τ else some (-13, τ)) else some (-12, τ) := by
          intro τ h12 k1 k2
          unfold fX12_copy
          rw [k1, k2]
          simp only [bd_s, ck_t i8, ck_t j8, nI_clamp (show d < 2 ^ 31 by omega), nI_clamp (show e < 2 ^ 31 by omega), h12, p3, q3, s4, s6, t4, t6, if_neg (show ¬ (1 : Int32) = 0 by decide), if_neg (show ¬ (2 : Int32) = 0 by decide), if_true]
        by_cases hso : nI so = nI to
        rotate_left
        · exact ref (-12) (by rw [cc, if_neg hso]) (by rw [mm σ rfl p2 q2, if_neg hso])
        by_cases h5 : a5 < 0
        · exact ref (-13) (by rw [cc, if_pos hso, if_pos h5]) (by rw [mm σ rfl p2 q2, if_pos hso, if_pos h5])
        obtain ⟨n, hn, rfl⟩ := nI_of h5
        rcases hp_s (d := d) s2 hn s5 a2 with ⟨i, rfl, hi, u1, u2, u3⟩ | ⟨u1, u2⟩
        rotate_left
        · refine ref (-13) (by rw [cc, if_pos hso, if_neg h5, u1]; rfl) ?_
          rw [mm σ rfl p2 q2, if_pos hso, if_neg h5]
          rcases u2 with u2 | ⟨u2, u3⟩
          · rw [if_pos u2]
          · rw [if_neg u2, if_pos u3]
            by_cases h4 : a4 < 0
            · rw [if_pos h4]
            · rw [if_neg h4]
        rcases hp_s (d := e) t2 hn t5 a4 with ⟨j, rfl, hj, v1, v2, v3⟩ | ⟨v1, v2⟩
        rotate_left
        · refine ref (-13) (by rw [cc, if_pos hso, if_neg h5, u1, v1]; rfl) ?_
          rw [mm σ rfl p2 q2, if_pos hso, if_neg h5, if_neg u2]
          rcases v2 with v2 | ⟨v2, v3⟩
          · rw [if_pos v2]
          · rw [if_neg v2, if_neg u3, if_neg (Int32.not_le.mpr v3)]
        obtain ⟨g, g1, g2, g3⟩ := copyL_s (σ := sA σ 9 e (va_cpy (gI σ 9 d) (gI σ 9 e) i j n)) (n := n) (i := i) (j := j) hd he (by omega) (by omega)
        refine ⟨nI n, sA σ 9 e (va_cpy (gI σ 9 d) (gI σ 9 e) i j n), sA (sA σ 9 e (va_cpy (gI σ 9 d) (gI σ 9 e) i j n)) 12 20 g, ?_, ?_, ?_⟩
        · rw [cc, if_pos hso, if_neg h5, u1, bd_s, if_neg (by decide), v1, bd_s, if_neg (by decide), ck_t ⟨u2, v2, h5, by rw [nI_clamp (by omega), nI_clamp (by omega)]; omega, by rw [nI_clamp (by omega), nI_clamp (by omega)]; omega⟩, nI_clamp (by omega), nI_clamp (by omega), nI_clamp (by omega)]
        · rw [mm (sA σ 9 e (va_cpy (gI σ 9 d) (gI σ 9 e) i j n)) rfl p2 q2, if_pos hso, if_neg h5, if_neg u2, if_neg v2, if_neg u3, if_pos (Int32.not_lt.mp v3)]
          exact g1
        · obtain ⟨⟨h, hO, hC, hM⟩, ⟨h1', O1, C1, M1⟩, I3, I4, I5, I6, I7, -⟩ := id hI
          refine ⟨⟨h, hO, hC, hM⟩, ⟨h1', O1, C1, M1⟩, ⟨I3.1, fun d' hd' b1 b2 i' hi' => ?_⟩, I4, I5, I6, I7, fun d' hd' => ?_⟩
          · show (g (100 * d' + i')).toInt8.toInt32 = g (100 * d' + i')
            have b1' : gI σ 12 15 d' = 2 := b1
            have b2' : gI σ 12 18 d' = 0 := b2
            by_cases e' : d' = e ∧ j ≤ i' ∧ i' < j + n
            · obtain ⟨rfl, c1, c2⟩ := e'
              rw [show 100 * d' + i' = 100 * d' + j + (i' - j) by omega, g2 (i' - j) (by omega)]
              have hs0 : gI σ 12 18 d = 0 := (s4.trans hso).trans (t4.symm.trans b2')
              have := I3.2 d hd p3 hs0 (i + (i' - j)) (by omega)
              rw [← Nat.add_assoc] at this
              exact this
            · rw [g3 _ (fun s hs => by omega)]
              exact I3.2 d' hd' b1' b2' i' hi'
          have I := I8 d' hd'
          have key : ∀ m, m ≤ 100 → gI σ 12 15 d' = 2 → gI σ 8 d' 3 = nI m → (∀ i, i < m → gI σ 9 d' i = gI σ 12 20 (100 * d' + i)) → ∀ i', i' < m → gI (sA σ 9 e (va_cpy (gI σ 9 d) (gI σ 9 e) i j n)) 9 d' i' = g (100 * d' + i') := by
            intro m hm _ em hh i' hi'
            by_cases ee : d' = e
            · subst ee
              have : m = tz := (nI_eq (by omega) (by omega)).mp (em.symm.trans t5)
              subst this
              rw [gsA_s]
              by_cases hr : j ≤ i' ∧ i' < j + n
              · rw [pk_cpy_in hr.1 hr.2, show 100 * d' + i' = 100 * d' + j + (i' - j) by omega, g2 (i' - j) (by omega), s7 _ (by omega)]
                show _ = gI σ 12 20 _
                rw [Nat.add_assoc]
              · rw [pk_cpy_out (by omega), hh i' hi', g3 _ (fun s hs => by omega)]
                rfl
            · rw [gsA_n (fun q => ee q.2), hh i' hi', g3 _ (fun s hs => by omega)]
              rfl
          rcases I with q | q | ⟨i1, i2, i3, so', n', j1, j2, j3, j4, j5, j6, j7⟩
          · exact Or.inl q
          · exact Or.inr (Or.inl q)
          · exact Or.inr (Or.inr ⟨i1, i2, i3, so', n', j1, j2, j3, j4, j5, j6, key n' j2 i1 j5 j7⟩)
