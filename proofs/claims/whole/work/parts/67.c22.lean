theorem size_g {σ : St} (x : Int32) : fX12_size σ x = some (if 0 ≤ x then x else -x) := by
  unfold fX12_size
  by_cases c : 0 ≤ x
  · rw [if_pos c, if_pos c]
  · rw [if_neg c, if_neg c]
theorem in12 {σ : St} (v : Int32) : ((v = 1 ∨ v = 2) ∧ fX12_isIn σ v 1 2 = some 1) ∨ (¬ v = 1 ∧ ¬ v = 2 ∧ fX12_isIn σ v 1 2 = some 0) := by
  unfold fX12_isIn
  by_cases c1 : v < 1
  · rw [if_pos c1]
    refine Or.inr ⟨fun q => ?_, fun q => ?_, rfl⟩
    · rw [q] at c1; exact absurd c1 (by decide)
    · rw [q] at c1; exact absurd c1 (by decide)
  · rw [if_neg c1]
    by_cases c2 : 2 < v
    · rw [if_pos c2]
      refine Or.inr ⟨fun q => ?_, fun q => ?_, rfl⟩
      · rw [q] at c2; exact absurd c2 (by decide)
      · rw [q] at c2; exact absurd c2 (by decide)
    · rw [if_neg c2]
      refine Or.inl ⟨?_, rfl⟩
      rw [Int32.lt_iff_toInt_lt, show (1 : Int32).toInt = 1 from rfl] at c1
      rw [Int32.lt_iff_toInt_lt, show (2 : Int32).toInt = 2 from rfl] at c2
      rw [← Int32.toInt_inj, ← Int32.toInt_inj, show (1 : Int32).toInt = 1 from rfl, show (2 : Int32).toInt = 2 from rfl]
      omega
/-- the distance of two pitches, on both sides -/
theorem clash_s {σ : St} {h : Hg} (hC : RelC σ 0 h) (hM : RelM σ 0 h) (hO : OkH h) {k a b : Nat} (hk : k < h 0 2) (ha : a < h 0 0) (hb : b < h 0 0) (T : Int32) : ∃ p1 p2 d, fX12_pitchOf σ (nI a) (nI k) T 0 = some p1 ∧ fX12_pitchOf σ (nI b) (nI k) T 0 = some p2 ∧ fX12_size σ (p1 - p2) = some d ∧ ((fX11_doClash σ (nI a) (nI b) (nI k) T = some 1 ∧ fX12_isIn σ d 1 2 = some 1) ∨ (fX11_doClash σ (nI a) (nI b) (nI k) T = some 0 ∧ fX12_isIn σ d 1 2 = some 0)) := by
  obtain ⟨j, c1, hj⟩ := hC.2.2.2.2.2 k hk
  have o6 := hO.1
  have o2 := hO.2.2.1
  have okj : j < gS σ 2 0 ∧ okc (gS σ 1 j) := ⟨hj.1, okc_of hj⟩
  have k6 := in6 (show k < 6 by omega)
  have a6 := in6 (show a < 6 by omega)
  have b6 := in6 (show b < 6 by omega)
  refine ⟨_, _, _, pitch_m hM hO ha hk T 0, pitch_m hM hO hb hk T 0, size_g _, ?_⟩
  unfold fX11_doClash
  rw [ck_t k6, nI_clamp (by omega), c1, bd_s, ck_t okj, ck_t a6, nI_clamp (by omega), (hC.2.2.2.1 a ha).1, pitch_c hj (hO.2.2.2.2.2 k hk).1, bd_s, ck_t k6, bd_s, ck_t okj, ck_t b6, nI_clamp (by omega), (hC.2.2.2.1 b hb).1, pitch_c hj (hO.2.2.2.2.2 k hk).1, bd_s, nmv_s, Int32.zero_sub]
  generalize psp (h 7 k) (nI (h 8 k)) (nI (h 1 a)) T 0 - psp (h 7 k) (nI (h 8 k)) (nI (h 1 b)) T 0 = d
  generalize (if 0 ≤ d then d else -d) = v
  rcases in12 (σ := σ) v with ⟨q1, q2⟩ | ⟨q1, q2, q3⟩
  · refine Or.inl ⟨?_, q2⟩
    rcases q1 with q1 | q1
    · rw [if_pos q1]
    · rw [if_neg (by rw [q1]; decide), if_pos q1]
  · exact Or.inr ⟨by rw [if_neg q1, if_neg q2], q3⟩
theorem clashIn {σ : St} {h : Hg} (hC : RelC σ 0 h) (hM : RelM σ 0 h) (hO : OkH h) {k a : Nat} (hk : k < h 0 2) (ha : a < h 0 0) (T : Int32) (K1 K2 : Int32 → Int32 → Option Int32) (c0 : Nat) (y0 : Int32) (hc : c0 ≤ 6 * a) : ∃ c y, c ≤ 6 * (a + 1) ∧ fX11_clash_L60 σ (nI k) T (nI a) K1 FU (nI c0) y0 (nI (a + 1)) = K1 (nI c) y ∧ fX12_clash_L53 σ (nI k) T (nI a) K2 FU (nI c0) y0 (nI (a + 1)) = K2 (nI c) y := by
  have o6 := hO.1
  have k0 : vp_in 0 47 := in47 (k := 0) (by omega)
  refine loop_p (S := Nat × Int32) (Q := Option Int32 × Option Int32) (fun n i s => (fX11_clash_L60 σ (nI k) T (nI a) K1 n (nI s.1) s.2 (nI i), fX12_clash_L53 σ (nI k) T (nI a) K2 n (nI s.1) s.2 (nI i))) (h 0 0) (fun i s => s.1 + a + 1 ≤ 6 * a + i) (fun q => ∃ c y, c ≤ 6 * (a + 1) ∧ q.1 = K1 (nI c) y ∧ q.2 = K2 (nI c) y) (fun n i s hi hI => ?_) (h 0 0 - (a + 1)) (a + 1) (c0, y0) FU (by omega) (FU_gt (by omega)) (by show c0 + a + 1 ≤ 6 * a + (a + 1); omega)
  obtain ⟨c, y⟩ := s
  dsimp only at hI
  show (∃ c' y', c' ≤ 6 * (a + 1) ∧ fX11_clash_L60B σ (nI k) T (nI a) K1 (fX11_clash_L60 σ (nI k) T (nI a) K1 n) (nI c) y (nI i) = K1 (nI c') y' ∧ fX12_clash_L53B σ (nI k) T (nI a) K2 (fX12_clash_L53 σ (nI k) T (nI a) K2 n) (nI c) y (nI i) = K2 (nI c') y') ∨ (i < h 0 0 ∧ ∃ s', (fX11_clash_L60B σ (nI k) T (nI a) K1 (fX11_clash_L60 σ (nI k) T (nI a) K1 n) (nI c) y (nI i), fX12_clash_L53B σ (nI k) T (nI a) K2 (fX12_clash_L53 σ (nI k) T (nI a) K2 n) (nI c) y (nI i)) = _ ∧ _)
  unfold fX11_clash_L60B fX12_clash_L53B fX11_clash_J107 fX11_clash_J109 fX12_clash_J115 fX12_clash_J120
  rw [hC.1, ck_t k0, show gI σ 12 0 (0 : Int32).toNatClampNeg = nI (h 0 0) from hM.1]
  by_cases e : i = h 0 0
  · subst e
    rw [if_pos (nI_le (Nat.le_refl _) (by omega)), if_pos (nI_le (Nat.le_refl _) (by omega))]
    exact Or.inl ⟨c, y, by omega, rfl, rfl⟩
  · have hb : i < h 0 0 := by omega
    rw [if_neg (nI_ge hb (by omega)), if_neg (nI_ge hb (by omega)), nI_1, nI_1]
    refine Or.inr ⟨hb, ?_⟩
    obtain ⟨p1, p2, d, q1, q2, q3, q4⟩ := clash_s hC hM hO hk ha hb T
    have ec : (10 : Int32) * nI a + nI i = nI (10 * a + i) := by
      show nI 10 * nI a + nI i = _
      rw [pk_mul, nI_add]
    rw [q1, bd_s, q2, bd_s, q3, bd_s]
    rcases q4 with ⟨q4, q5⟩ | ⟨q4, q5⟩
    · rw [q4, q5, bd_s, bd_s, if_neg (by decide), if_neg (by decide)]
      simp only [nmv_s, ec]
      by_cases z : c = 0
      · subst z
        rw [if_pos (show nI (0 + 1) = (1 : Int32) from rfl), if_pos nI_0]
        exact ⟨(1, nI (10 * a + i)), rfl, by show 1 + a + 1 ≤ 6 * a + (i + 1); omega⟩
      · rw [if_neg (show ¬ nI (c + 1) = (1 : Int32) from fun q : nI (c + 1) = nI 1 => z (by have := (nI_eq (by omega) (by omega)).mp q; omega)), if_neg (nI_ne0 (by omega) (by omega))]
        exact ⟨(c + 1, y), rfl, by show c + 1 + a + 1 ≤ 6 * a + (i + 1); omega⟩
    · rw [q4, q5, bd_s, bd_s, if_pos rfl, if_pos rfl]
      simp only [nmv_s]
      exact ⟨(c, y), rfl, by show c + a + 1 ≤ 6 * a + (i + 1); omega⟩
/-- clash -/
theorem case22 : Case22 Inv := by
  intro σ hI a1 a2 a3
  obtain ⟨⟨h, hO, hC, hM⟩, -⟩ := hI
  have o6 := hO.1
  have k0 : vp_in 0 47 := in47 (k := 0) (by omega)
  unfold fX11_clash fX12_clash
  rcases blow_s hC hM hO a1 with ⟨k, hk, rfl, p1, p2⟩ | ⟨-, p1, p2⟩
  · rcases force_s (σ := σ) (τ := σ) a2 with ⟨f, hf, -, r1, r2⟩ | ⟨-, r1, r2⟩
    · rcases rng_s (σ := σ) (τ := σ) (M := 1) (n := 1) a3 (by omega) rfl with ⟨w, hw, -, q1, q2⟩ | ⟨-, q1, q2⟩
      · rw [p1, p2, r1, r2, q1, q2]
        have key : ∀ K : Int32 → Int32 → Option Int32, (∀ x y, ∃ r, K x y = some r) → ∃ r, fX11_clash_L42 σ (nI k) a2 K FU 0 (-4) 0 = some r ∧ fX12_clash_L36 σ (nI k) a2 K FU 0 (-4) 0 = some r := by
          intro K hK
          refine loop_p (S := Nat × Int32) (Q := Option Int32 × Option Int32) (fun n i s => (fX11_clash_L42 σ (nI k) a2 K n (nI s.1) s.2 (nI i), fX12_clash_L36 σ (nI k) a2 K n (nI s.1) s.2 (nI i))) (h 0 0) (fun i s => s.1 ≤ 6 * i) (fun q => ∃ r, q.1 = some r ∧ q.2 = some r) (fun n i s hi hI => ?_) (h 0 0) 0 (0, -4) FU (by omega) (FU_gt (by omega)) (Nat.zero_le _)
          obtain ⟨c, y⟩ := s
          dsimp only at hI
          show (∃ r, fX11_clash_L42B σ (nI k) a2 K (fX11_clash_L42 σ (nI k) a2 K n) (nI c) y (nI i) = some r ∧ fX12_clash_L36B σ (nI k) a2 K (fX12_clash_L36 σ (nI k) a2 K n) (nI c) y (nI i) = some r) ∨ (i < h 0 0 ∧ ∃ s', (fX11_clash_L42B σ (nI k) a2 K (fX11_clash_L42 σ (nI k) a2 K n) (nI c) y (nI i), fX12_clash_L36B σ (nI k) a2 K (fX12_clash_L36 σ (nI k) a2 K n) (nI c) y (nI i)) = _ ∧ _)
          unfold fX11_clash_L42B fX12_clash_L36B
          rw [hC.1, ck_t k0, show gI σ 12 0 (0 : Int32).toNatClampNeg = nI (h 0 0) from hM.1]
          by_cases e : i = h 0 0
          · subst e
            rw [if_pos (nI_le (Nat.le_refl _) (by omega)), if_pos (nI_le (Nat.le_refl _) (by omega))]
            obtain ⟨r, hr⟩ := hK (nI c) y
            exact Or.inl ⟨r, hr, hr⟩
          · have hb : i < h 0 0 := by omega
            rw [if_neg (nI_ge hb (by omega)), if_neg (nI_ge hb (by omega)), nI_1, nmv_s, nmv_s]
            obtain ⟨c', y', b1, b2, b3⟩ := clashIn hC hM hO hk hb a2 (fun y24 y25 => nmv (nI (i + 1)) fun v26 => fX11_clash_L42 σ (nI k) a2 K n y24 y25 v26) (fun y29 y30 => nmv (nI (i + 1)) fun v31 => fX12_clash_L36 σ (nI k) a2 K n y29 y30 v31) c y hI
            rw [b2, b3]
            exact Or.inr ⟨hb, (c', y'), rfl, b1⟩
        exact key _ (fun x y => by by_cases z : a3 = 0 <;> simp only [z, if_true, if_false] <;> exact ⟨_, rfl⟩)
      · rw [p1, p2, r1, r2, q1, q2]
        exact ⟨-1, rfl, rfl⟩
    · rw [p1, p2, r1, r2]
      exact ⟨-1, rfl, rfl⟩
  · rw [p1, p2]
    exact ⟨-1, rfl, rfl⟩
