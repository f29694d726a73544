theorem cmp0 {n : Nat} (h : n < 2 ^ 63) : (lg_cmp (lN n) 0 = 0) ↔ n = 0 := by
  rw [lg_cmp_eq, show (0 : Int64) = lN 0 from rfl, pk_lEQ h (by omega)]
/-- Euclid's steps: what a step keeps -/
def eu (G i : Nat) (s : Nat × Nat) : Prop := s.1 < 2 ^ 31 ∧ s.2 < 2 ^ 31 ∧ Nat.gcd s.1 s.2 = G ∧ ((i = 0 ∧ s.1 * s.2 < 2 ^ 60) ∨ (s.2 < s.1 ∧ s.1 * s.2 * 2 ^ i < 2 ^ 61))
theorem eu_0 {a b : Nat} (ha : a < 2 ^ 30) (hb : b < 2 ^ 30) : eu (Nat.gcd a b) 0 (a, b) := by
  refine ⟨by show a < 2 ^ 31; omega, by show b < 2 ^ 31; omega, rfl, Or.inl ⟨rfl, ?_⟩⟩
  show a * b < 2 ^ 60
  have h1 : a * b ≤ a * 2 ^ 30 := Nat.mul_le_mul (Nat.le_refl _) (by omega)
  have h2 : a * 2 ^ 30 < 2 ^ 30 * 2 ^ 30 := Nat.mul_lt_mul_of_pos_right ha (by decide)
  have h3 : (2 : Nat) ^ 30 * 2 ^ 30 = 2 ^ 60 := by decide
  omega
theorem mod_half {x y : Nat} (hy : 0 < y) (h : y ≤ x) : 2 * (x % y) ≤ x := by
  have h1 := Nat.mod_lt x hy
  have h2 := Nat.div_add_mod x y
  have h3 : 1 ≤ x / y := (Nat.one_le_div_iff hy).mpr h
  have h4 : y * 1 ≤ y * (x / y) := Nat.mul_le_mul (Nat.le_refl _) h3
  omega
theorem eu_s {G i a b : Nat} (h : eu G i (a, b)) (hb : 0 < b) : eu G (i + 1) (b, a % b) := by
  obtain ⟨h1, h2, h3, h4⟩ := h
  dsimp only at h1 h2 h3 h4
  have hm := Nat.mod_lt a hb
  refine ⟨h2, by show a % b < 2 ^ 31; omega, ?_, Or.inr ⟨hm, ?_⟩⟩
  · show Nat.gcd b (a % b) = G
    rw [← h3, Nat.gcd_comm a b, Nat.gcd_rec b a]
    exact Nat.gcd_comm _ _
  · show b * (a % b) * 2 ^ (i + 1) < 2 ^ 61
    rcases h4 with ⟨i0, p⟩ | ⟨p, q⟩
    · subst i0
      have : b * (a % b) ≤ b * a := Nat.mul_le_mul (Nat.le_refl _) (Nat.mod_le _ _)
      rw [Nat.mul_comm b a] at this
      omega
    · have m2 := mod_half hb (Nat.le_of_lt p)
      have e : b * (a % b) * 2 ^ (i + 1) = b * (2 * (a % b)) * 2 ^ i := by
        rw [Nat.pow_succ, ← Nat.mul_assoc, Nat.mul_right_comm, Nat.mul_right_comm b, Nat.mul_assoc b, Nat.mul_assoc b]
      rw [e]
      have : b * (2 * (a % b)) ≤ b * a := Nat.mul_le_mul (Nat.le_refl _) m2
      rw [Nat.mul_comm b a] at this
      exact Nat.lt_of_le_of_lt (Nat.mul_le_mul this (Nat.le_refl _)) q
theorem eu_end {G i a b : Nat} (h : eu G i (a, b)) (hi : 61 ≤ i) : b = 0 := by
  obtain ⟨h1, h2, h3, h4⟩ := h
  dsimp only at h1 h2 h3 h4
  rcases h4 with ⟨i0, p⟩ | ⟨p, q⟩
  · omega
  · by_cases c : b = 0
    · exact c
    · have h5 : 1 * 1 ≤ a * b := Nat.mul_le_mul (by omega) (by omega)
      have h6 : 1 * 2 ^ 61 ≤ a * b * 2 ^ i := Nat.mul_le_mul h5 (Nat.pow_le_pow_right (by omega) hi)
      omega
theorem terms_c {σ : St} {a b w : Nat} (ha : a < 2 ^ 30) (hb : b < 2 ^ 30) (hb0 : 0 < b) (hw : w ≤ 1) : fX11_inLeastTerms σ (lN a) (lN b) (nI w) = some (lN ((if w = 0 then a else b) / Nat.gcd a b)) := by
  have g0 : 0 < Nat.gcd a b := Nat.gcd_pos_of_pos_right a hb0
  have gl : Nat.gcd a b ≤ b := Nat.gcd_le_right a hb0
  have J : ∀ z, z < 2 ^ 30 → fX11_inLeastTerms_J54 (lN (Nat.gcd a b)) (lN z) = some (lN (z / Nat.gcd a b)) := by
    intro z hz
    unfold fX11_inLeastTerms_J54
    rw [if_neg (fun q => by have := (cmp0 (by omega)).mp q; omega), ck_t (fun q => by
      rw [show (0 : Int64) = lN 0 from rfl, pk_lEQ (by omega) (by omega)] at q
      omega), pk_lDiv (by omega) g0 (by omega)]
  unfold fX11_inLeastTerms
  refine loop_h (S := Nat × Nat) (fun n i s => fX11_inLeastTerms_L9 (fun y9 => if nI w = 0 then fX11_inLeastTerms_J54 y9 (lN a) else fX11_inLeastTerms_J54 y9 (lN b)) n (lN s.1) (lN s.2) (nI i)) 61 (fun i s => eu (Nat.gcd b a) i s) (fun q => q = some (lN ((if w = 0 then a else b) / Nat.gcd a b))) (fun n i s hi hI => ?_) 61 0 (b, a) FU (by omega) (FU_gt (by omega)) (eu_0 hb ha)
  obtain ⟨x, y⟩ := s
  have e1 := hI.1
  have e2 := hI.2.1
  have e3 := hI.2.2.1
  dsimp only at e1 e2 e3
  show fX11_inLeastTerms_L9B _ (fX11_inLeastTerms_L9 _ n) (lN x) (lN y) (nI i) = _ ∨ (i < 61 ∧ ∃ s', fX11_inLeastTerms_L9B _ (fX11_inLeastTerms_L9 _ n) (lN x) (lN y) (nI i) = _ ∧ _)
  unfold fX11_inLeastTerms_L9B
  rw [if_neg (show ¬ (100 : Int32) ≤ nI i from nI_ge (b := 100) (by omega) (by omega))]
  by_cases c : y = 0
  · subst c
    refine Or.inl ?_
    rw [Nat.gcd_zero_right] at e3
    rw [if_pos ((cmp0 (by omega)).mpr rfl), e3, Nat.gcd_comm b a]
    dsimp only
    rcases w with _ | _ | w
    · rw [if_pos nI_0, if_pos rfl]
      exact J a ha
    · rw [if_neg (by decide), if_neg (by omega)]
      exact J b hb
    · omega
  · have hi2 : i < 61 := by
      by_cases d : i < 61
      · exact d
      · exact absurd (eu_end hI (by omega)) c
    rw [if_neg (fun q => c ((cmp0 (by omega)).mp q)), ck_t (fun q => by
      rw [show (0 : Int64) = lN 0 from rfl, pk_lEQ (by omega) (by omega)] at q
      omega), pk_lRem (by omega) (by omega) (by omega), nmv_s, nmv_s, nI_1]
    exact Or.inr ⟨hi2, (y, x % y), rfl, eu_s hI (by omega)⟩
theorem gcd_m {σ : St} {a b : Nat} (ha : a < 2 ^ 30) (hb : b < 2 ^ 30) : fX12_gcd σ (lN a) (lN b) = some (lN (Nat.gcd a b)) := by
  unfold fX12_gcd
  refine loop_h (S := Nat × Nat) (fun n i s => fX12_gcd_L6 (fun y6 => some y6) n (lN s.1) (lN s.2)) 61 (fun i s => eu (Nat.gcd a b) i s) (fun q => q = some (lN (Nat.gcd a b))) (fun n i s hi hI => ?_) 61 0 (a, b) FU (by omega) (FU_gt (by omega)) (eu_0 ha hb)
  obtain ⟨x, y⟩ := s
  have e1 := hI.1
  have e2 := hI.2.1
  have e3 := hI.2.2.1
  dsimp only at e1 e2 e3
  show fX12_gcd_L6B _ (fX12_gcd_L6 _ n) (lN x) (lN y) = _ ∨ (i < 61 ∧ ∃ s', fX12_gcd_L6B _ (fX12_gcd_L6 _ n) (lN x) (lN y) = _ ∧ _)
  unfold fX12_gcd_L6B
  by_cases c : y = 0
  · subst c
    refine Or.inl ?_
    rw [Nat.gcd_zero_right] at e3
    rw [if_pos ((cmp0 (by omega)).mpr rfl), e3]
  · have hi2 : i < 61 := by
      by_cases d : i < 61
      · exact d
      · exact absurd (eu_end hI (by omega)) c
    rw [if_neg (fun q => c ((cmp0 (by omega)).mp q)), ck_t (fun q => by
      rw [show (0 : Int64) = lN 0 from rfl, pk_lEQ (by omega) (by omega)] at q
      omega), pk_lRem (by omega) (by omega) (by omega), nmv_s]
    exact Or.inr ⟨hi2, (y, x % y), rfl, eu_s hI (by omega)⟩
theorem terms_m {σ : St} {a b w : Nat} (ha : a < 2 ^ 30) (hb : b < 2 ^ 30) (hb0 : 0 < b) (hw : w ≤ 1) : fX12_partOf σ (lN a) (lN b) (nI w) = some (lN ((if w = 0 then a else b) / Nat.gcd a b)) := by
  have g0 : 0 < Nat.gcd a b := Nat.gcd_pos_of_pos_right a hb0
  have gl : Nat.gcd a b ≤ b := Nat.gcd_le_right a hb0
  have gn : ¬ lN (Nat.gcd a b) = 0 := fun q => by
    rw [show (0 : Int64) = lN 0 from rfl, pk_lEQ (by omega) (by omega)] at q
    omega
  unfold fX12_partOf
  by_cases c : a = 0
  · subst c
    rw [if_pos ((cmp0 (by omega)).mpr rfl), nI_l (by omega), Nat.gcd_zero_left]
    rcases w with _ | _ | w
    · rw [if_pos rfl, Nat.zero_div]
    · rw [if_neg (by omega), Nat.div_self hb0]
    · omega
  · rw [if_neg (fun q => c ((cmp0 (by omega)).mp q))]
    rcases w with _ | _ | w
    · rw [if_pos nI_0, if_pos rfl, gcd_m ha hb, bd_s, ck_t gn, pk_lDiv (by omega) g0 (by omega)]
    · rw [if_neg (by decide), if_neg (by omega), gcd_m ha hb, bd_s, ck_t gn, pk_lDiv (by omega) g0 (by omega)]
    · omega
/-- answer -/
theorem case26 : Case26 Inv := by
  intro σ hI a1 a2 a3
  unfold fX11_answer fX12_answer
  rcases rng_s (σ := σ) (τ := σ) (M := 9) (n := 9) a1 (by omega) rfl with ⟨w1, hw1, e1, p1, p2⟩ | ⟨-, p1, p2⟩
  rotate_left
  · rw [p1, p2]
    exact ⟨1000000001, rfl, rfl⟩
  rcases rng_s (σ := σ) (τ := σ) (M := 9) (n := 9) a2 (by omega) rfl with ⟨w2, hw2, e2, q1, q2⟩ | ⟨-, q1, q2⟩
  rotate_left
  · rw [p1, p2, q1, q2]
    exact ⟨1000000001, rfl, rfl⟩
  rcases rng_s (σ := σ) (τ := σ) (M := 1) (n := 1) a3 (by omega) rfl with ⟨w3, hw3, rfl, r1, r2⟩ | ⟨-, r1, r2⟩
  rotate_left
  · rw [p1, p2, q1, q2, r1, r2]
    exact ⟨1000000001, rfl, rfl⟩
  rw [p1, p2, q1, q2, r1, r2]
  have Z : ∀ x y : Nat, x ≤ 10 → y ≤ 10 → ∃ r, fX11_answer_J69 σ (nI w3) (nI x) (nI y) = some r ∧ fX12_answer_J73 σ (nI w3) (lN x) (lN y) = some r := by
    intro x y hx hy
    unfold fX11_answer_J69 fX12_answer_J73
    have e3 : nI x + nI y + 3 = nI (x + y + 3) := by
      show nI x + nI y + nI 3 = _
      rw [nI_add, nI_add]
    have e4 : lN x + lN y + 3 = lN (x + y + 3) := by
      show lN x + lN y + lN 3 = _
      rw [lN_add, lN_add]
    rw [e3, e4, nI_l (by omega), nI_l (by omega), terms_c (by omega) (by omega) (by omega) hw3, terms_m (by omega) (by omega) (by omega) hw3]
    exact ⟨_, rfl, rfl⟩
  have Y : ∀ x : Nat, x ≤ 10 → ∃ r, fX11_answer_J48 σ a2 (nI w3) (nI x) = some r ∧ fX12_answer_J49 σ a2 (nI w3) (lN x) = some r := by
    intro x hx
    unfold fX11_answer_J48 fX12_answer_J49
    by_cases c1 : a2 = 1
    · rw [if_pos c1, if_pos c1]
      exact Z x 10 hx (by omega)
    · rw [if_neg c1, if_neg c1]
      by_cases c2 : a2 = 0
      · rw [if_pos c2, if_pos c2]
        exact Z x 5 hx (by omega)
      · rw [if_neg c2, if_neg c2]
        exact Z x 0 hx (by omega)
  simp only [bd_s, if_true, if_neg (show ¬ (1 : Int32) = 0 by decide)]
  by_cases c1 : a2 = 0
  · rw [if_pos c1, if_pos c1]
    by_cases c2 : a1 = 2
    · rw [if_pos c2, if_pos c2]
      exact Y 10 (by omega)
    · rw [if_neg c2, if_neg c2]
      exact Y 0 (by omega)
  · rw [if_neg c1, if_neg c1]
    exact Y 0 (by omega)
/-- odds -/
theorem case28 : Case28 Inv := by
  intro σ hI a1 a2 a3 a4
  obtain ⟨⟨h, hO, hC, hM⟩, ⟨h1', O1, C1, M1⟩, I3, I4, I5, I6, I7, I8⟩ := id hI
  unfold fX11_odds
  rcases all_s hC hM hO a1 a2 a3 with ⟨b, t, k, hb, ht, hk, rfl, rfl, rfl, p1, p2⟩ | ⟨p1, p2⟩
  rotate_left
  · exact ⟨1000000001, σ, σ, by rw [p1]; rfl, by unfold fX12_odds; rw [p2]; rfl, hI⟩
  rcases rng_s (σ := σ) (τ := σ) (M := 1) (n := 1) a4 (by omega) rfl with ⟨w, hw, rfl, q1, q2⟩ | ⟨-, q1, q2⟩
  rotate_left
  · exact ⟨1000000001, σ, σ, by rw [p1, q2]; rfl, by unfold fX12_odds; rw [p2, q1]; rfl, hI⟩
  have l5 : zGR 3 h t ≤ 60 := (okS (hp := 3) hO hb ht hk).2.2.2.2.1
  have hM' : RelM (zSPN σ 0 h b t k) 0 h := relM_spn hM
  have hC' : RelC (zSPN σ 0 h b t k) 0 h := relC_spn hC
  have hh : gI (zSPN σ 0 h b t k) 11 0 4 = nI 3 := I4
  have pl := prs_le (h := h) (hp := 3) (b := b) (t := t) (k := k)
  obtain ⟨g, g1, g2, g3⟩ := looks0_m hM' hO hh hb ht hk
  have hh2 : gI (sA (zSPN σ 0 h b t k) 11 0 g) 11 0 4 = nI 3 := by rw [gsA_s, g2 4 (by omega) (by omega) (by omega)]; exact hh
  have q61 : (zGR 3 h t + 1) * 61 ≤ 61 * 61 := Nat.mul_le_mul (by omega) (Nat.le_refl _)
  refine ⟨lN ((if w = 0 then prs 3 h b t k else (zGR 3 h t + 1) * 61) / Nat.gcd (prs 3 h b t k) ((zGR 3 h t + 1) * 61)), zSPN σ 0 h b t k, sA (zSPN σ 0 h b t k) 11 0 g, ?_, ?_, inv_fr9 (inv_spn hI) g2⟩
  · rw [p1, bd_s, if_neg (by decide), q2, bd_s, if_pos rfl, spanOf_c hC hO hb ht hk, bd_s, pairs_c hO hb ht hk, bd_s, grip_c hC' hO ht, bd_s, nI_l (by omega), nI_l (by omega), terms_c (by omega) (by omega) (by omega) hw]
    rfl
  · unfold fX12_odds
    rw [show fX12_areAll (zSPN σ 0 h b t k) (nI b) (nI t) (nI k) = some 1 from p2, bd_s, if_neg (by decide), show fX12_isIn (zSPN σ 0 h b t k) (nI w) 0 1 = some 1 from q1, bd_s, if_neg (by decide), g1, bd_s, allP_m (relM_11 hM') hO hh2 ht, bd_s, gsA_s, g3, nI_l (by omega), nI_l (by omega), terms_m (by omega) (by omega) (by omega) hw]
    rfl
