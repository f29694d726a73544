theorem fill_s {σ : St} {d : Nat} : ∃ g, fJ7_fill_53178 σ d 0 = some (sA σ 9 d g) ∧ ∀ k, k < 100 → g k = 0 := by
  have q : (fun q => ∃ g, q = some (sA σ 9 d g) ∧ ∀ k, k < 100 → g k = 0) (fJ7_fill_53178_L5 d 0 (nI 100) (fun s => some s) FU (nI 0) (sA σ 9 d (gI σ 9 d))) := by
    refine loop_h (S := Nat → Int32) (fun n i g => fJ7_fill_53178_L5 d 0 (nI 100) (fun s => some s) n (nI i) (sA σ 9 d g)) 100 (fun i g => ∀ k, k < i → g k = 0) (fun q => ∃ g, q = some (sA σ 9 d g) ∧ ∀ k, k < 100 → g k = 0) (fun n i g hi h => ?_) 100 0 (gI σ 9 d) FU (by omega) (FU_gt (by omega)) (fun k hk => absurd hk (Nat.not_lt_zero k))
    show (∃ g', fJ7_fill_53178_L5B d 0 (nI 100) (fun s => some s) (fJ7_fill_53178_L5 d 0 (nI 100) (fun s => some s) n) (nI i) (sA σ 9 d g) = _ ∧ _) ∨ (_ ∧ ∃ g', fJ7_fill_53178_L5B d 0 (nI 100) (fun s => some s) (fJ7_fill_53178_L5 d 0 (nI 100) (fun s => some s) n) (nI i) (sA σ 9 d g) = _ ∧ _)
    unfold fJ7_fill_53178_L5B
    by_cases e : i = 100
    · subst e
      rw [if_pos (by decide)]
      exact Or.inl ⟨g, rfl, h⟩
    · refine Or.inr ⟨by omega, upd g i 0, ?_, fun k hk => ?_⟩
      · rw [if_neg (nI_ge (b := 100) (by omega) (by omega)), ck_t (pk_in i 100 (by omega) rfl (by omega)), nI_clamp (by omega), nmv_s, nmv_s, nI_1]
        show fJ7_fill_53178_L5 d 0 (nI 100) (fun s => some s) n (nI (i + 1)) (sA (sA σ 9 d g) 9 d (upd (gI (sA σ 9 d g) 9 d) i 0)) = _
        rw [sA_sA, gsA_s]
      · by_cases e2 : k = i
        · subst e2
          exact pk_us
        · exact (pk_un e2).trans (h k (by omega))
  rw [sA_self] at q
  exact q
theorem rowL_s {σ : St} {d : Nat} (hd : d < 8) : ∃ g, fX12_row_L55 (nI d) (fun s => some (0, s)) FU 0 σ = some (0, sA σ 12 20 g) ∧ (∀ k, k < 100 → g (100 * d + k) = 0) ∧ ∀ j, j < 100 * d ∨ 100 * d + 100 ≤ j → g j = gI σ 12 20 j := by
  have q : (fun q => ∃ g, q = some ((0 : Int32), sA σ 12 20 g) ∧ (∀ k, k < 100 → g (100 * d + k) = 0) ∧ ∀ j, j < 100 * d ∨ 100 * d + 100 ≤ j → g j = gI σ 12 20 j) (fX12_row_L55 (nI d) (fun s => some (0, s)) FU (nI 0) (sA σ 12 20 (gI σ 12 20))) := by
    refine loop_h (S := Nat → Int32) (fun n i g => fX12_row_L55 (nI d) (fun s => some (0, s)) n (nI i) (sA σ 12 20 g)) 100 (fun i g => (∀ k, k < i → g (100 * d + k) = 0) ∧ ∀ j, j < 100 * d ∨ 100 * d + 100 ≤ j → g j = gI σ 12 20 j) (fun q => ∃ g, q = some ((0 : Int32), sA σ 12 20 g) ∧ (∀ k, k < 100 → g (100 * d + k) = 0) ∧ ∀ j, j < 100 * d ∨ 100 * d + 100 ≤ j → g j = gI σ 12 20 j) (fun n i g hi h => ?_) 100 0 (gI σ 12 20) FU (by omega) (FU_gt (by omega)) ⟨fun k hk => absurd hk (Nat.not_lt_zero k), fun j _ => rfl⟩
    show (∃ g', fX12_row_L55B (nI d) (fun s => some (0, s)) (fX12_row_L55 (nI d) (fun s => some (0, s)) n) (nI i) (sA σ 12 20 g) = _ ∧ _) ∨ (_ ∧ ∃ g', fX12_row_L55B (nI d) (fun s => some (0, s)) (fX12_row_L55 (nI d) (fun s => some (0, s)) n) (nI i) (sA σ 12 20 g) = _ ∧ _)
    unfold fX12_row_L55B
    by_cases e : i = 100
    · subst e
      rw [if_pos (by decide)]
      exact Or.inl ⟨g, rfl, h⟩
    · refine Or.inr ⟨by omega, upd g (100 * d + i) 0, ?_, fun k hk => ?_, fun j hj => ?_⟩
      · rw [if_neg (show ¬ (100 : Int32) ≤ nI i from nI_ge (b := 100) (by omega) (by omega)), cell_ix, ck_t (in800 hd (by omega)), nI_clamp (by omega), nmv_s, nmv_s, nI_1]
        show fX12_row_L55 (nI d) (fun s => some (0, s)) n (nI (i + 1)) (sA (sA σ 12 20 g) 12 20 (upd (gI (sA σ 12 20 g) 12 20) (100 * d + i) 0)) = _
        rw [sA_sA, gsA_s]
      · by_cases e2 : k = i
        · subst e2
          exact pk_us
        · exact (pk_un (by omega)).trans (h.1 k (by omega))
      · exact (pk_un (by omega)).trans (h.2 j hj)
  rw [sA_self] at q
  exact q
/-- row -/
theorem case39 : Case39 Inv := by
  intro σ hI a1 a2 a3
  unfold fX11_row
  rcases isShelf_s (σ := σ) a1 with ⟨d, hd, rfl, p1, p2⟩ | ⟨-, p1, p2⟩
  rotate_left
  · refine ⟨-1, σ, σ, ?_, ?_, hI⟩
    · rw [p2]; rfl
    · unfold fX12_row
      rw [p1]; rfl
  rcases rng_s (σ := σ) (τ := σ) (M := 2) (n := 2) a2 (by omega) rfl with ⟨so, hso, rfl, q1, q2⟩ | ⟨-, q1, q2⟩
  rotate_left
  · refine ⟨-1, σ, σ, ?_, ?_, hI⟩
    · rw [p2, q2]; rfl
    · unfold fX12_row
      rw [p1, q1]; rfl
  by_cases h1 : a3 ≤ 100
  rotate_left
  · refine ⟨-1, σ, σ, ?_, ?_, hI⟩
    · rw [p2, q2, bd_s, if_pos rfl, bd_s, if_pos rfl, if_neg h1]
    · unfold fX12_row
      rw [p1, q1, bd_s, if_neg (by decide), bd_s, if_neg (by decide), if_neg h1]
  by_cases h2 : 0 ≤ a3
  rotate_left
  · refine ⟨-14, σ, σ, ?_, ?_, hI⟩
    · rw [p2, q2, bd_s, if_pos rfl, bd_s, if_pos rfl, if_pos h1, if_neg h2]
    · unfold fX12_row
      rw [p1, q1, bd_s, if_neg (by decide), bd_s, if_neg (by decide), if_pos h1, if_neg h2]
  obtain ⟨n, hn, rfl⟩ := nI_of2 (M := 100) (n := 100) rfl (fun q => Int32.not_lt.mpr h2 q) h1
  obtain ⟨g, g1, g2⟩ := fill_s (σ := sI (sI (sI (sR σ 1 d 0 none) 8 d 1 1) 8 d 2 (nI so)) 8 d 3 (nI n)) (d := d)
  obtain ⟨f, f1, f2, f3⟩ := rowL_s (σ := sI (sI (sI (sA (sI (sI (sI (sR σ 1 d 0 none) 8 d 1 1) 8 d 2 (nI so)) 8 d 3 (nI n)) 9 d g) 12 15 d 2) 12 18 d (nI so)) 12 19 d (nI n)) hd
  refine ⟨0, sA (sI (sI (sI (sR σ 1 d 0 none) 8 d 1 1) 8 d 2 (nI so)) 8 d 3 (nI n)) 9 d g, sA (sI (sI (sI (sA (sI (sI (sI (sR σ 1 d 0 none) 8 d 1 1) 8 d 2 (nI so)) 8 d 3 (nI n)) 9 d g) 12 15 d 2) 12 18 d (nI so)) 12 19 d (nI n)) 12 20 f, ?_, ?_, ?_⟩
  · rw [p2, q2, bd_s, if_pos rfl, bd_s, if_pos rfl, if_pos h1, if_pos h2, ck_t (in8 hd), nI_clamp (by omega)]
    unfold fX4_holdRow
    rw [nmv_s, nmv_s, nmv_s, nmv_s, g1]
    rfl
  · unfold fX12_row
    rw [show fX12_isShelf (sA (sI (sI (sI (sR σ 1 d 0 none) 8 d 1 1) 8 d 2 (nI so)) 8 d 3 (nI n)) 9 d g) (nI d) = some 1 from p1, show fX12_isIn (sA (sI (sI (sI (sR σ 1 d 0 none) 8 d 1 1) 8 d 2 (nI so)) 8 d 3 (nI n)) 9 d g) (nI so) 0 2 = some 1 from q1, bd_s, if_neg (by decide), bd_s, if_neg (by decide), if_pos h1, if_pos h2, ck_t (in8 hd), nmv_s, ck_t (in8 hd), nmv_s, ck_t (in8 hd), nmv_s, nI_clamp (by omega)]
    exact f1
  · obtain ⟨⟨h, hO, hC, hM⟩, ⟨h1', O1, C1, M1⟩, I3, I4, I5, I6, I7, I8⟩ := id hI
    refine ⟨⟨h, hO, hC, hM⟩, ⟨h1', O1, C1, M1⟩, ⟨I3.1, fun d' hd' b1 b2 i' hi' => ?_⟩, I4, I5, ?_, I7, fun d' hd' => ?_⟩
    · show (f (100 * d' + i')).toInt8.toInt32 = f (100 * d' + i')
      by_cases e : d' = d
      · subst e
        rw [f2 i' hi']
        rfl
      · have b1' : upd (gI σ 12 15) d 2 d' = 2 := b1
        have b2' : upd (gI σ 12 18) d (nI so) d' = 0 := b2
        rw [pk_un e] at b1' b2'
        rw [f3 _ (by omega)]
        exact I3.2 d' hd' b1' b2' i' hi'
    · intro c i k j e
      by_cases q : c = 1 ∧ i = d
      · obtain ⟨rfl, rfl⟩ := q
        have e2 : va_up (gR σ 1 i) 0 none k = some j := by rw [← e]; exact (congrFun gsR_s k).symm
        by_cases hk : k = 0
        · subst hk
          cases e2
        · rw [va_up_n hk] at e2
          exact I6 _ _ _ _ e2
      · have e2 : gR σ c i k = some j := by rw [← e]; exact (congrFun (gsR_n q) k).symm
        exact I6 _ _ _ _ e2
    · generalize eσ : sA (sI (sI (sI (sA (sI (sI (sI (sR σ 1 d 0 none) 8 d 1 1) 8 d 2 (nI so)) 8 d 3 (nI n)) 9 d g) 12 15 d 2) 12 18 d (nI so)) 12 19 d (nI n)) 12 20 f = σ'
      have k15 : gI σ' 12 15 = upd (gI σ 12 15) d 2 := by rw [← eσ]; rfl
      have k16 : gI σ' 12 16 = gI σ 12 16 := by rw [← eσ]; rfl
      have k17 : gI σ' 12 17 = gI σ 12 17 := by rw [← eσ]; rfl
      have k18 : gI σ' 12 18 = upd (gI σ 12 18) d (nI so) := by rw [← eσ]; rfl
      have k19 : gI σ' 12 19 = upd (gI σ 12 19) d (nI n) := by rw [← eσ]; rfl
      have k20 : gI σ' 12 20 = f := by rw [← eσ]; rfl
      have kS : gS σ' = gS σ := by rw [← eσ]; rfl
      have k13 : gI σ' 13 0 = gI σ 13 0 := by rw [← eσ]; rfl
      have k14 : gI σ' 14 0 = gI σ 14 0 := by rw [← eσ]; rfl
      have k8 : gI σ' 8 d = upd (upd (upd (gI σ 8 d) 1 1) 2 (nI so)) 3 (nI n) := by
        rw [← eσ]
        show gI (sI (sI (sI (sR σ 1 d 0 none) 8 d 1 1) 8 d 2 (nI so)) 8 d 3 (nI n)) 8 d = _
        rw [gsI_s, gsI_s, gsI_s]
        rfl
      have k9 : gI σ' 9 d = g := by
        rw [← eσ]
        exact gsA_s
      have kR : gR σ' 1 d 0 = none := by
        rw [← eσ]
        exact congrFun gsR_s 0
      by_cases e : d' = d
      · subst e
        refine Or.inr (Or.inr ⟨by rw [k15]; exact pk_us, by rw [k8]; rfl, kR, so, n, hso, hn, by rw [k8]; rfl, by rw [k18]; exact pk_us, by rw [k8]; rfl, by rw [k19]; exact pk_us, fun i hi => ?_⟩)
        rw [k9, k20, g2 i (by omega), f2 i (by omega)]
      · have m8 : gI σ' 8 d' = gI σ 8 d' := by
          rw [← eσ]
          show gI (sI (sI (sI (sR σ 1 d 0 none) 8 d 1 1) 8 d 2 (nI so)) 8 d 3 (nI n)) 8 d' = _
          rw [gsI_n (fun q => e q.2), gsI_n (fun q => e q.2), gsI_n (fun q => e q.2)]
          rfl
        have m9 : gI σ' 9 d' = gI σ 9 d' := by
          rw [← eσ]
          exact gsA_n (fun q => e q.2)
        have mR : gR σ' 1 d' = gR σ 1 d' := by
          rw [← eσ]
          exact gsR_n (fun q => e q.2)
        have I := I8 d' hd'
        unfold Shf Bl at I ⊢
        rw [m8, m9, mR, kS, k13, k14, k15, k16, k17, k18, k19, k20, pk_un e, pk_un e, pk_un e]
        rcases I with q | q | ⟨i1, i2, i3, so', n', j1, j2, j3, j4, j5, j6, j7⟩
        · exact Or.inl q
        · exact Or.inr (Or.inl q)
        · exact Or.inr (Or.inr ⟨i1, i2, i3, so', n', j1, j2, j3, j4, j5, j6, fun i hi => by rw [j7 i hi, f3 _ (by omega)]; rfl⟩)
