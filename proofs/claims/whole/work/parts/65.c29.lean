/-- loops of one counter, any answers -/
theorem loop_p {S Q : Type} (F : Nat → Nat → S → Q) (N : Nat) (I : Nat → S → Prop) (Post : Q → Prop) (hs : ∀ n i s, i ≤ N → I i s → Post (F (n + 1) i s) ∨ (i < N ∧ ∃ s', F (n + 1) i s = F n (i + 1) s' ∧ I (i + 1) s')) : ∀ (m i : Nat) (s : S) (fuel : Nat), i + m = N → m < fuel → I i s → Post (F fuel i s) := by
  intro m
  induction m with
  | zero =>
    intro i s fuel hi hf h
    obtain ⟨n, rfl⟩ : ∃ k, fuel = k + 1 := ⟨fuel - 1, by omega⟩
    rcases hs n i s (by omega) h with q | ⟨q, -⟩
    · exact q
    · omega
  | succ m ih =>
    intro i s fuel hi hf h
    obtain ⟨n, rfl⟩ : ∃ k, fuel = k + 1 := ⟨fuel - 1, by omega⟩
    rcases hs n i s (by omega) h with q | ⟨q, s', e, h'⟩
    · exact q
    · rw [e]
      exact ih (i + 1) s' n (by omega) (by omega) h'
/-- the first n of m with n times p at least q -/
def enN (p q : Nat) : Nat → Nat → Int32
  | 0, _ => -4
  | m + 1, i => if i * p < q then enN p q m (i + 1) else nI i
theorem enoughL_c {τ : St} {A : Int32} {p q : Nat} (hp : p ≤ 61 * 61) (hq : q ≤ 61 * 61) (hA : fX11_pairsInGrip τ A = some (nI q)) : fX11_enough_L33 A (nI p) (fun σ11 => some ((-4), σ11)) FU 1 τ = some (enN p q 50 1, τ) := by
  refine loop_h (S := Unit) (fun n i s => fX11_enough_L33 A (nI p) (fun σ11 => some ((-4), σ11)) n (nI (i + 1)) τ) 50 (fun i s => enN p q (50 - i) (i + 1) = enN p q 50 1) (fun r => r = some (enN p q 50 1, τ)) (fun n i s hi' i4 => ?_) 50 0 () FU (by omega) (FU_gt (by omega)) rfl
  show fX11_enough_L33B A (nI p) _ (fX11_enough_L33 A (nI p) _ n) (nI (i + 1)) τ = _ ∨ (i < 50 ∧ ∃ s', fX11_enough_L33B A (nI p) _ (fX11_enough_L33 A (nI p) _ n) (nI (i + 1)) τ = _ ∧ _)
  unfold fX11_enough_L33B
  by_cases e : i = 50
  · subst e
    rw [← i4, if_pos (by decide)]
    exact Or.inl rfl
  · obtain ⟨m, hm⟩ : ∃ m, 50 - i = m + 1 := ⟨49 - i, by omega⟩
    have hm2 : 50 - (i + 1) = m := by omega
    have ml : (i + 1) * p ≤ 50 * (61 * 61) := Nat.mul_le_mul (by omega) hp
    rw [hm] at i4
    rw [if_neg (show ¬ (50 : Int32) < nI (i + 1) from nI_nlt (a := 50) (by omega) (by omega)), hA, bd_s, pk_mul, ← i4]
    by_cases c : (i + 1) * p < q
    · rw [if_pos (nI_lt c (by omega)), nmv_s, nI_1]
      refine Or.inr ⟨by omega, (), rfl, ?_⟩
      rw [hm2]
      exact (if_pos c).symm
    · rw [if_neg (nI_nlt (by omega) (by omega))]
      refine Or.inl ?_
      rw [show enN p q (m + 1) (i + 1) = nI (i + 1) from if_neg c]
theorem enoughL_m {τ : St} {A : Int32} {p q : Nat} (hp : p ≤ 61 * 61) (hq : q ≤ 61 * 61) (h9 : gI τ 11 0 9 = nI p) (hA : fX12_allPairs τ A = some (nI q)) : fX12_enough_L22 A (fun σ11 => some ((-4), σ11)) FU 1 τ = some (enN p q 50 1, τ) := by
  refine loop_h (S := Unit) (fun n i s => fX12_enough_L22 A (fun σ11 => some ((-4), σ11)) n (nI (i + 1)) τ) 50 (fun i s => enN p q (50 - i) (i + 1) = enN p q 50 1) (fun r => r = some (enN p q 50 1, τ)) (fun n i s hi' i4 => ?_) 50 0 () FU (by omega) (FU_gt (by omega)) rfl
  show fX12_enough_L22B A _ (fX12_enough_L22 A _ n) (nI (i + 1)) τ = _ ∨ (i < 50 ∧ ∃ s', fX12_enough_L22B A _ (fX12_enough_L22 A _ n) (nI (i + 1)) τ = _ ∧ _)
  unfold fX12_enough_L22B
  by_cases e : i = 50
  · subst e
    rw [← i4, if_pos (by decide)]
    exact Or.inl rfl
  · obtain ⟨m, hm⟩ : ∃ m, 50 - i = m + 1 := ⟨49 - i, by omega⟩
    have hm2 : 50 - (i + 1) = m := by omega
    have ml : (i + 1) * p ≤ 50 * (61 * 61) := Nat.mul_le_mul (by omega) hp
    rw [hm] at i4
    rw [if_neg (show ¬ (50 : Int32) < nI (i + 1) from nI_nlt (a := 50) (by omega) (by omega)), hA, bd_s, h9, pk_mul, ← i4]
    by_cases c : (i + 1) * p < q
    · rw [if_pos (nI_lt c (by omega)), nmv_s, nI_1]
      refine Or.inr ⟨by omega, (), rfl, ?_⟩
      rw [hm2]
      exact (if_pos c).symm
    · rw [if_neg (nI_nlt (by omega) (by omega))]
      refine Or.inl ?_
      rw [show enN p q (m + 1) (i + 1) = nI (i + 1) from if_neg c]
theorem grip_c {τ : St} {h : Hg} (hC : RelC τ 0 h) (hO : OkH h) {t : Nat} (ht : t < h 0 1) : fX11_pairsInGrip τ (nI t) = some (nI ((zGR 3 h t + 1) * 61)) := by
  have o4 := hO.2.1
  have q := (hO.2.2.2.2.1 t ht).2
  unfold fX11_pairsInGrip
  rw [ck_t (in4 (by omega)), nI_clamp (by omega), (hC.2.2.2.2.1 t ht).2, nI_1]
  show some (nI (h 6 t + 1) * nI 61) = _
  rw [pk_mul, show zGR 3 h t = h 6 t by unfold zGR; rw [if_neg (by decide)]; omega]
theorem allP_m {τ : St} {h : Hg} (hM : RelM τ 0 h) (hO : OkH h) (hh : gI τ 11 0 4 = nI 3) {t : Nat} (ht : t < h 0 1) : fX12_allPairs τ (nI t) = some (nI ((zGR 3 h t + 1) * 61)) := by
  unfold fX12_allPairs
  rw [grip_m hM hO hh (by omega) ht, bd_s, nI_1]
  show some (nI (zGR 3 h t + 1) * nI 61) = _
  rw [pk_mul]
/-- looks from a state as it is -/
theorem looks0_m {τ : St} {h : Hg} (hM : RelM τ 0 h) (hO : OkH h) (hh : gI τ 11 0 4 = nI 3) {b t k : Nat} (hb : b < h 0 0) (ht : t < h 0 1) (hk : k < h 0 2) : ∃ g', fX12_looks τ (nI b) (nI t) (nI k) = some (sA τ 11 0 g') ∧ Fr9 (gI τ 11 0) g' ∧ g' 9 = nI (prs 3 h b t k) := by
  obtain ⟨g, g1, g2, g3, -, -⟩ := looks_m hM hO hh (by omega) hb ht hk
  exact ⟨g, g1, g2, g3⟩
/-- enough -/
theorem case29 : Case29 Inv := by
  intro σ hI a1 a2 a3
  obtain ⟨⟨h, hO, hC, hM⟩, ⟨h1', O1, C1, M1⟩, I3, I4, I5, I6, I7, I8⟩ := id hI
  unfold fX11_enough
  rcases all_s hC hM hO a1 a2 a3 with ⟨b, t, k, hb, ht, hk, rfl, rfl, rfl, p1, p2⟩ | ⟨p1, p2⟩
  · have l5 : zGR 3 h t ≤ 60 := (okS (hp := 3) hO hb ht hk).2.2.2.2.1
    have hM' : RelM (zSPN σ 0 h b t k) 0 h := relM_spn hM
    have hC' : RelC (zSPN σ 0 h b t k) 0 h := relC_spn hC
    have hh : gI (zSPN σ 0 h b t k) 11 0 4 = nI 3 := I4
    have pl := prs_le (h := h) (hp := 3) (b := b) (t := t) (k := k)
    obtain ⟨g, g1, g2, g3⟩ := looks0_m hM' hO hh hb ht hk
    have hh2 : gI (sA (zSPN σ 0 h b t k) 11 0 g) 11 0 4 = nI 3 := by rw [gsA_s, g2 4 (by omega) (by omega) (by omega)]; exact hh
    have q61 : (zGR 3 h t + 1) * 61 ≤ 61 * 61 := Nat.mul_le_mul (by omega) (Nat.le_refl _)
    refine ⟨enN (prs 3 h b t k) ((zGR 3 h t + 1) * 61) 50 1, zSPN σ 0 h b t k, sA (zSPN σ 0 h b t k) 11 0 g, ?_, ?_, inv_fr9 (inv_spn hI) g2⟩
    · rw [p1, bd_s, if_neg (by decide), spanOf_c hC hO hb ht hk, bd_s, pairs_c hO hb ht hk, bd_s]
      exact enoughL_c pl q61 (grip_c hC' hO ht)
    · unfold fX12_enough
      rw [show fX12_areAll (zSPN σ 0 h b t k) (nI b) (nI t) (nI k) = some 1 from p2, bd_s, if_neg (by decide), g1, bd_s]
      exact enoughL_m pl q61 (by rw [gsA_s]; exact g3) (allP_m (relM_11 hM') hO hh2 ht)
  · exact ⟨-1, σ, σ, by rw [p1]; rfl, by unfold fX12_enough; rw [p2]; rfl, hI⟩
/-- how many tries a blade bears -/
def lstN (h : Hg) (b k f : Nat) : Nat := if wsp (h 7 k) (h 8 k) f = 0 then 99 else min 99 ((h 2 b + h 3 b - h 4 b) / wsp (h 7 k) (h 8 k) f + 1)
theorem tries_c {τ : St} {h : Hg} (hC : RelC τ 0 h) (hO : OkH h) {b k f : Nat} (hb : b < h 0 0) (hk : k < h 0 2) (hf : f ≤ 60) (hs : h 4 b ≤ h 2 b + h 3 b) : fX11_triesLeft τ (nI b) (nI k) (nI f) = some (nI (lstN h b k f)) := by
  obtain ⟨j, c1, hj⟩ := hC.2.2.2.2.2 k hk
  have o6 := hO.1
  have o2 := hO.2.2.1
  have b6 := in6 (show b < 6 by omega)
  have k6 := in6 (show k < 6 by omega)
  have okj : j < gS τ 2 0 ∧ okc (gS τ 1 j) := ⟨hj.1, okc_of hj⟩
  have wl : wsp (h 7 k) (h 8 k) f ≤ 15 := wsp_le (hO.2.2.2.2.2 k hk).2 hf
  obtain ⟨-, ⟨-, q1⟩, q2, -⟩ := hO.2.2.2.1 b hb
  obtain ⟨-, d2, d3, d4⟩ := hC.2.2.2.1 b hb
  unfold fX11_triesLeft
  rw [ck_t k6, nI_clamp (by omega), c1, bd_s, ck_t okj, wear_c hj (hO.2.2.2.2.2 k hk).1 hf, bd_s]
  unfold lstN
  generalize wsp (h 7 k) (h 8 k) f = w at wl ⊢
  by_cases z : w = 0
  · subst z
    rw [if_neg (by decide), if_pos rfl]
    rfl
  · rw [if_pos (show (0 : Int32) < nI w from nI_lt (a := 0) (by omega) (by omega)), ck_t b6, ck_t b6, ck_t b6, nI_clamp (by omega), d2, d3, d4, nI_add, pk_sub hs, nmv_s, ck_t (nI_ne0 (by omega) (by omega)), pk_div (by omega) (by omega) (by omega), nI_1, if_neg z]
    have : (h 2 b + h 3 b - h 4 b) / w ≤ h 2 b + h 3 b - h 4 b := Nat.div_le_self _ _
    rw [show (if nI ((h 2 b + h 3 b - h 4 b) / w + 1) < (99 : Int32) then nI ((h 2 b + h 3 b - h 4 b) / w + 1) else 99) = nI (min 99 ((h 2 b + h 3 b - h 4 b) / w + 1)) from min_if (a := (h 2 b + h 3 b - h 4 b) / w + 1) (b := 99) (by omega) (by omega)]
    rfl
theorem lasts_m {τ : St} {h : Hg} (hM : RelM τ 0 h) (hO : OkH h) {b k f : Nat} (hb : b < h 0 0) (hk : k < h 0 2) (hf : f ≤ 60) (hs : h 4 b ≤ h 2 b + h 3 b) : fX12_lastsOf τ (nI b) (nI k) (nI f) = some (nI (lstN h b k f)) := by
  have wl : wsp (h 7 k) (h 8 k) f ≤ 15 := wsp_le (hO.2.2.2.2.2 k hk).2 hf
  have hw := wear_m hM hO hk hf
  obtain ⟨-, ⟨-, q1⟩, q2, -⟩ := hO.2.2.2.1 b hb
  have r1 : fX12_bladeOf τ (nI b) 1 = some (nI (h 2 b)) := at_bl hM hO (w := 1) hb (by omega)
  have r2 : fX12_bladeOf τ (nI b) 2 = some (nI (h 3 b)) := at_bl hM hO (w := 2) hb (by omega)
  have r3 : fX12_bladeOf τ (nI b) 3 = some (nI (h 4 b)) := at_bl hM hO (w := 3) hb (by omega)
  unfold fX12_lastsOf lstN
  rw [r3, bd_s]
  generalize wsp (h 7 k) (h 8 k) f = w at wl hw ⊢
  have start : h 4 b = h 4 b + 0 * w := by omega
  rw [show nI (h 4 b) = nI (h 4 b + 0 * w) from congrArg nI start]
  refine loop_h (S := Unit) (fun n i s => fX12_lastsOf_L11 τ (nI b) (nI k) (nI f) (some 99) n (nI (h 4 b + i * w)) (nI (i + 1))) 98 (fun i s => i * w ≤ h 2 b + h 3 b - h 4 b) (fun r => r = some (nI (if w = 0 then 99 else min 99 ((h 2 b + h 3 b - h 4 b) / w + 1)))) (fun n i s hi' i4 => ?_) 98 0 () FU (by omega) (FU_gt (by omega)) (by omega)
  show fX12_lastsOf_L11B τ (nI b) (nI k) (nI f) _ (fX12_lastsOf_L11 τ (nI b) (nI k) (nI f) _ n) (nI (h 4 b + i * w)) (nI (i + 1)) = _ ∨ (i < 98 ∧ ∃ s', fX12_lastsOf_L11B τ (nI b) (nI k) (nI f) _ (fX12_lastsOf_L11 τ (nI b) (nI k) (nI f) _ n) (nI (h 4 b + i * w)) (nI (i + 1)) = _ ∧ _)
  unfold fX12_lastsOf_L11B
  by_cases e : i = 98
  · subst e
    rw [if_pos (by decide)]
    refine Or.inl ?_
    by_cases z : w = 0
    · rw [if_pos z]; rfl
    · have : 98 * 1 ≤ 98 * w := Nat.mul_le_mul (Nat.le_refl _) (by omega)
      omega
  · have step : (i + 1) * w = i * w + w := Nat.succ_mul i w
    rw [if_neg (show ¬ (99 : Int32) ≤ nI (i + 1) from nI_ge (b := 99) (by omega) (by omega)), hw, bd_s, nI_add, nmv_s, r1, bd_s, r2, bd_s, nI_add]
    by_cases c : h 4 b + i * w + w ≤ h 2 b + h 3 b
    · rw [if_pos (nI_le c (by omega)), nmv_s, nI_1]
      refine Or.inr ⟨by omega, (), ?_, by rw [step]; omega⟩
      rw [step, Nat.add_assoc]
    · rw [if_neg (nI_ge (by omega) (by omega))]
      refine Or.inl ?_
      by_cases z : w = 0
      · omega
      · have d : (h 2 b + h 3 b - h 4 b) / w = i := Nat.div_eq_of_lt_le i4 (by rw [step]; omega)
        rw [if_neg z, d]
        exact congrArg (fun v => some (nI v)) (by omega)
theorem lstN_le (h : Hg) (b k f : Nat) : 1 ≤ lstN h b k f ∧ lstN h b k f ≤ 99 := by
  unfold lstN
  generalize (h 2 b + h 3 b - h 4 b) / wsp (h 7 k) (h 8 k) f = x
  split <;> omega
/-- lasts -/
theorem case20 : Case20 Inv := by
  intro σ hI a1 a2 a3
  obtain ⟨⟨h, hO, hC, hM⟩, -⟩ := hI
  unfold fX11_lasts fX12_lasts
  rcases blade_s hC hM hO a1 with ⟨b, hb, rfl, p1, p2⟩ | ⟨-, p1, p2⟩
  · rcases blow_s hC hM hO a2 with ⟨k, hk, rfl, q1, q2⟩ | ⟨-, q1, q2⟩
    · rcases force_s (σ := σ) (τ := σ) a3 with ⟨f, hf, rfl, r1, r2⟩ | ⟨-, r1, r2⟩
      · rw [p1, p2, q1, q2, r1, r2, splN_c hC hO hb, splN_m hM hO hb]
        by_cases hs : h 4 b ≤ h 2 b + h 3 b
        · have s0 : splN h b = 0 := if_neg (by omega)
          rw [s0, tries_c hC hO hb hk hf hs, lasts_m hM hO hb hk hf hs]
          exact ⟨nI (lstN h b k f), rfl, rfl⟩
        · have s1 : splN h b = 1 := if_pos (by omega)
          rw [s1]
          exact ⟨-3, rfl, rfl⟩
      · rw [p1, p2, q1, q2, r1, r2]
        exact ⟨-1, rfl, rfl⟩
    · rw [p1, p2, q1, q2]
      exact ⟨-1, rfl, rfl⟩
  · rw [p1, p2]
    exact ⟨-1, rfl, rfl⟩
