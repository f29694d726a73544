theorem odds_s {σ τ : St} (a1 a2 : Int32) : (∃ n c g, n ≤ 12 ∧ c + g ≤ 10 ∧ a1 = nI n ∧ a2 / 100 = nI c ∧ a2 - a2 / 100 * 100 = nI g ∧ fX11_isOut σ a1 0 12 = some 0 ∧ fX11_areTenths σ a2 = some 1 ∧ fX12_areOdds τ a1 a2 = some 1) ∨ ((fX11_isOut σ a1 0 12 = some 1 ∨ (fX11_isOut σ a1 0 12 = some 0 ∧ fX11_areTenths σ a2 = some 0)) ∧ fX12_areOdds τ a1 a2 = some 0) := by
  unfold fX12_areOdds fX11_areTenths
  rcases rng_s (σ := σ) (τ := τ) (M := 12) (n := 12) a1 (by omega) rfl with ⟨n, hn, rfl, p1, p2⟩ | ⟨-, p1, p2⟩
  rotate_left
  · exact Or.inr ⟨Or.inl p2, by rw [p1]; rfl⟩
  rw [p1, bd_s, if_neg (show ¬ (1 : Int32) = 0 by decide)]
  by_cases c0 : a2 < 0
  · exact Or.inr ⟨Or.inr ⟨p2, by rw [if_pos c0]⟩, by rw [if_pos c0]⟩
  obtain ⟨n0, hn0, rfl⟩ := nI_of c0
  have e1 : nI n0 / 100 = nI (n0 / 100) := pk_div (d := 100) hn0 (by omega) (by omega)
  have e2 : nI n0 - nI n0 / 100 * 100 = nI (n0 % 100) := pk_rem (d := 100) hn0 (by omega) (by omega)
  rw [if_neg c0, if_neg c0, e2, e1, nI_add]
  by_cases c1 : n0 / 100 + n0 % 100 ≤ 10
  · refine Or.inl ⟨n, n0 / 100, n0 % 100, hn, c1, rfl, rfl, rfl, p2, ?_, ?_⟩
    · rw [if_neg (show ¬ (10 : Int32) < nI (n0 / 100 + n0 % 100) from nI_nlt (a := 10) (by omega) (by omega))]
    · rw [if_neg (show ¬ (10 : Int32) < nI (n0 / 100) from nI_nlt (a := 10) (by omega) (by omega)), if_neg (show ¬ (10 : Int32) < nI (n0 / 100 + n0 % 100) from nI_nlt (a := 10) (by omega) (by omega))]
  · have q : (10 : Int32) < nI (n0 / 100 + n0 % 100) := nI_lt (a := 10) (by omega) (by omega)
    refine Or.inr ⟨Or.inr ⟨p2, by rw [if_pos q]⟩, ?_⟩
    by_cases c2 : 10 < nI (n0 / 100)
    · rw [if_pos c2]
    · rw [if_neg c2, if_pos q]
theorem arrivals_c {σ τ : St} (hq : Lq σ τ) {n c g m : Nat} (hn : n ≤ 12) (hc : c + g ≤ 10) (hm : m ≤ 9) {a2 : Int32} (e1 : a2 / 100 = nI c) (e2 : a2 - a2 / 100 * 100 = nI g) : ∃ τ', fX11_arrivals τ (nI n) a2 (nI m) = some (lN (dpN n c g m 0), τ') ∧ Lq σ τ' := by
  obtain ⟨z, z1, z2⟩ := fillL_s (τ := τ) (r := gS τ 0 0)
  have A2 : gS τ 0 0 < 2 := by have := hq.2.2.2; omega
  have gS_A : ∀ (i : Nat) (f : Nat → Int64), gS (sLA τ i f) = gS τ := fun i f => rfl
  unfold fX11_arrivals
  rw [ck_t A2, z1, bd_s, gS_A, ck_t A2, ck_t (in13 (by omega)), nI_clamp (by omega), sL_A, nmv_s]
  have w0 : hold (vp_updL z n 1) (dpN n c g 0) := by
    intro k hk
    show _ = lN (if k = n then 1 else 0)
    by_cases e : k = n
    · subst e
      rw [pk_uLs, if_pos rfl]
      rfl
    · rw [pk_uLn e, if_neg e]
      exact z2 k hk
  refine loop_h (S := St) (fun p i s => fX11_arrivals_L18 a2 (nI m) (fun σ11 => ck (gS σ11 0 0 < 2) <| ck (vp_in 0 13) <| some (gL σ11 (gS σ11 0 0) (0 : Int32).toNatClampNeg, σ11)) p (nI i) s) m (fun i s => Lq σ s ∧ hold (gL s (gS s 0 0)) (dpN n c g i)) (fun q => ∃ τ', q = some (lN (dpN n c g m 0), τ') ∧ Lq σ τ') (fun p i s hi h => ?_) m 0 (sLA τ (gS τ 0 0) (vp_updL z n 1)) FU (by omega) (FU_gt (by omega)) ⟨hq, by show hold (gL (sLA τ (gS τ 0 0) (vp_updL z n 1)) (gS τ 0 0)) _; rw [gLA_s]; exact w0⟩
  show (∃ τ', fX11_arrivals_L18B a2 (nI m) _ (fX11_arrivals_L18 a2 (nI m) _ p) (nI i) s = _ ∧ _) ∨ (_ ∧ ∃ g', fX11_arrivals_L18B a2 (nI m) _ (fX11_arrivals_L18 a2 (nI m) _ p) (nI i) s = _ ∧ _)
  unfold fX11_arrivals_L18B
  by_cases e : i = m
  · subst e
    rw [if_pos (nI_le (Nat.le_refl _) (by omega))]
    dsimp only
    rw [ck_t (by have := h.1.2.2.2; omega), ck_t (show vp_in 0 13 from in13 (k := 0) (by omega)), show (0 : Int32).toNatClampNeg = 0 from rfl, h.2 0 (by omega)]
    exact Or.inl ⟨s, rfl, h.1⟩
  · obtain ⟨τ', t1, t2, t3⟩ := callOnce_c h.1 h.2 hc
    rw [if_neg (nI_ge (by omega) (by omega)), e2, e1, t1, bd_s, nmv_s, nI_1]
    exact Or.inr ⟨by omega, τ', rfl, t2, t3⟩
theorem pow_c {σ : St} {m : Nat} (hm : m ≤ 9) : fX11_powerOf10 σ (nI m) = some (lN (10 ^ m)) := by
  refine loop_a (fun n i s => fX11_powerOf10_L4 (nI m) (fun y6 => some y6) n s (nI i)) m (fun i => lN (10 ^ i)) _ (fun n i hi => ?_) (fun n => ?_) FU (FU_gt (by omega))
  · show fX11_powerOf10_L4B (nI m) _ (fX11_powerOf10_L4 (nI m) _ n) (lN (10 ^ i)) (nI i) = _
    unfold fX11_powerOf10_L4B
    rw [if_neg (nI_ge hi (by omega)), nmv_s, nmv_s, nI_1, show lN (10 ^ i) * 10 = lN (10 ^ i * 10) from lN_mul _ 10]
    rfl
  · show fX11_powerOf10_L4B (nI m) _ (fX11_powerOf10_L4 (nI m) _ n) (lN (10 ^ m)) (nI m) = _
    unfold fX11_powerOf10_L4B
    rw [if_pos (nI_le (Nat.le_refl _) (by omega))]
theorem pow_m {σ : St} {m : Nat} (hm : m ≤ 9) : fX12_tens σ (nI m) = some (lN (10 ^ m)) := by
  refine loop_a (fun n i s => fX12_tens_L4 (nI m) (fun y6 => some y6) n s (nI i)) m (fun i => lN (10 ^ i)) _ (fun n i hi => ?_) (fun n => ?_) FU (FU_gt (by omega))
  · show fX12_tens_L4B (nI m) _ (fX12_tens_L4 (nI m) _ n) (lN (10 ^ i)) (nI i) = _
    unfold fX12_tens_L4B
    rw [if_neg (nI_ge hi (by omega)), nmv_s, nmv_s, nI_1, show lN (10 ^ i) * 10 = lN (10 ^ i * 10) from lN_mul _ 10]
    rfl
  · show fX12_tens_L4B (nI m) _ (fX12_tens_L4 (nI m) _ n) (lN (10 ^ m)) (nI m) = _
    unfold fX12_tens_L4B
    rw [if_pos (nI_le (Nat.le_refl _) (by omega))]
/-- the model's rows 12 and 13 apart -/
def Mq (σ τ : St) : Prop := gI τ = gI σ ∧ gR τ = gR σ ∧ gS τ = gS σ
theorem Mq_A {σ τ : St} {i : Nat} {f : Nat → Int64} (h : Mq σ τ) : Mq σ (sLA τ i f) := h
theorem np15 {τ : St} {n : Nat} (hn : n ≤ 12) (K : St → Option (Int64 × St)) : ∃ w, fX12_nearParts_L15 (nI n) K FU 0 τ = K (sLA τ 12 w) ∧ hold w (dpN n 0 0 0) := by
  have q : (fun q => ∃ z, q = K (sLA τ 12 z) ∧ hold z (dpN n 0 0 0)) (fX12_nearParts_L15 (nI n) K FU (nI 0) (sLA τ 12 (gL τ 12))) := by
    refine loop_h (S := Nat → Int64) (fun p i w => fX12_nearParts_L15 (nI n) K p (nI i) (sLA τ 12 w)) 13 (fun i w => ∀ k, k < i → w k = lN (if k = n then 1 else 0)) (fun q => ∃ z, q = K (sLA τ 12 z) ∧ hold z (dpN n 0 0 0)) (fun p i w hi h => ?_) 13 0 (gL τ 12) FU (by omega) (FU_gt (by omega)) (fun k hk => absurd hk (Nat.not_lt_zero k))
    show (∃ g', fX12_nearParts_L15B (nI n) K (fX12_nearParts_L15 (nI n) K p) (nI i) (sLA τ 12 w) = _ ∧ _) ∨ (_ ∧ ∃ g', fX12_nearParts_L15B (nI n) K (fX12_nearParts_L15 (nI n) K p) (nI i) (sLA τ 12 w) = _ ∧ _)
    unfold fX12_nearParts_L15B fX12_nearParts_J39
    by_cases e : i = 13
    · subst e
      rw [if_pos (by decide)]
      exact Or.inl ⟨w, rfl, h⟩
    · have nx : ∀ v : Nat, v = (if i = n then 1 else 0) → ∀ k, k < i + 1 → vp_updL w i (lN v) k = lN (if k = n then 1 else 0) := fun v hv k hk => by
        by_cases e2 : k = i
        · subst e2
          rw [pk_uLs, hv]
        · exact (pk_uLn e2).trans (h k (by omega))
      rw [if_neg (show ¬ (13 : Int32) ≤ nI i from nI_ge (b := 13) (by omega) (by omega)), ck_t (in13 (by omega)), nI_clamp (by omega), nmv_s, nmv_s, nI_1, sL_A, ck_t (in13 (by omega)), nmv_s, nmv_s, sL_A]
      refine Or.inr ⟨by omega, ?_⟩
      by_cases e3 : i = n
      · rw [if_pos (congrArg nI e3)]
        exact ⟨vp_updL w i 1, rfl, nx 1 (if_pos e3).symm⟩
      · rw [if_neg (fun q => e3 ((nI_eq (by omega) (by omega)).mp q))]
        exact ⟨vp_updL w i 0, rfl, nx 0 (if_neg e3).symm⟩
  rw [sLA_self] at q
  exact q
theorem np58 {τ : St} (K : St → Option (Int64 × St)) : ∃ w, fX12_nearParts_L58 K FU 0 τ = K (sLA τ 13 w) ∧ hold w (fun _ => 0) := by
  have q : (fun q => ∃ z, q = K (sLA τ 13 z) ∧ hold z (fun _ => 0)) (fX12_nearParts_L58 K FU (nI 0) (sLA τ 13 (gL τ 13))) := by
    refine loop_h (S := Nat → Int64) (fun p i w => fX12_nearParts_L58 K p (nI i) (sLA τ 13 w)) 13 (fun i w => ∀ k, k < i → w k = lN 0) (fun q => ∃ z, q = K (sLA τ 13 z) ∧ hold z (fun _ => 0)) (fun p i w hi h => ?_) 13 0 (gL τ 13) FU (by omega) (FU_gt (by omega)) (fun k hk => absurd hk (Nat.not_lt_zero k))
    show (∃ g', fX12_nearParts_L58B K (fX12_nearParts_L58 K p) (nI i) (sLA τ 13 w) = _ ∧ _) ∨ (_ ∧ ∃ g', fX12_nearParts_L58B K (fX12_nearParts_L58 K p) (nI i) (sLA τ 13 w) = _ ∧ _)
    unfold fX12_nearParts_L58B
    by_cases e : i = 13
    · subst e
      rw [if_pos (by decide)]
      exact Or.inl ⟨w, rfl, h⟩
    · rw [if_neg (show ¬ (13 : Int32) ≤ nI i from nI_ge (b := 13) (by omega) (by omega)), ck_t (in13 (by omega)), nI_clamp (by omega), nmv_s, nmv_s, nI_1, sL_A]
      refine Or.inr ⟨by omega, vp_updL w i 0, rfl, fun k hk => ?_⟩
      by_cases e2 : k = i
      · subst e2
        exact pk_uLs
      · exact (pk_uLn e2).trans (h k (by omega))
  rw [sLA_self] at q
  exact q
theorem np203 {τ : St} {V : Nat → Nat} (hV : hold (gL τ 13) V) (K : St → Option (Int64 × St)) : ∃ w, fX12_nearParts_L203 K FU 0 τ = K (sLA τ 12 w) ∧ hold w V := by
  have q : (fun q => ∃ z, q = K (sLA τ 12 z) ∧ hold z V) (fX12_nearParts_L203 K FU (nI 0) (sLA τ 12 (gL τ 12))) := by
    refine loop_h (S := Nat → Int64) (fun p i w => fX12_nearParts_L203 K p (nI i) (sLA τ 12 w)) 13 (fun i w => ∀ k, k < i → w k = lN (V k)) (fun q => ∃ z, q = K (sLA τ 12 z) ∧ hold z V) (fun p i w hi h => ?_) 13 0 (gL τ 12) FU (by omega) (FU_gt (by omega)) (fun k hk => absurd hk (Nat.not_lt_zero k))
    show (∃ g', fX12_nearParts_L203B K (fX12_nearParts_L203 K p) (nI i) (sLA τ 12 w) = _ ∧ _) ∨ (_ ∧ ∃ g', fX12_nearParts_L203B K (fX12_nearParts_L203 K p) (nI i) (sLA τ 12 w) = _ ∧ _)
    unfold fX12_nearParts_L203B
    by_cases e : i = 13
    · subst e
      rw [if_pos (by decide)]
      exact Or.inl ⟨w, rfl, h⟩
    · rw [if_neg (show ¬ (13 : Int32) ≤ nI i from nI_ge (b := 13) (by omega) (by omega)), ck_t (in13 (by omega)), ck_t (in13 (by omega)), nI_clamp (by omega), gLA_n (by omega), hV i (by omega), nmv_s, nmv_s, nI_1, sL_A]
      refine Or.inr ⟨by omega, vp_updL w i (lN (V i)), rfl, fun k hk => ?_⟩
      by_cases e2 : k = i
      · subst e2
        exact pk_uLs
      · exact (pk_uLn e2).trans (h k (by omega))
  rw [sLA_self] at q
  exact q
theorem np98 {τ : St} {V : Nat → Nat} (hV : hold (gL τ 12) V) {c g : Nat} (hc : c + g ≤ 10) {w0 : Nat → Int64} (hw0 : hold w0 (accN c g V 0)) (K : St → Option (Int64 × St)) : ∃ w, fX12_nearParts_L98 (nI c) (nI g) K FU 1 (sLA τ 13 w0) = K (sLA τ 13 w) ∧ hold w (accN c g V 12) := by
  refine loop_h (S := Nat → Int64) (fun p i w => fX12_nearParts_L98 (nI c) (nI g) K p (nI (i + 1)) (sLA τ 13 w)) 12 (fun i w => hold w (accN c g V i)) (fun q => ∃ z, q = K (sLA τ 13 z) ∧ hold z (accN c g V 12)) (fun p i w hi h => ?_) 12 0 w0 FU (by omega) (FU_gt (by omega)) hw0
  show (∃ g', fX12_nearParts_L98B (nI c) (nI g) K (fX12_nearParts_L98 (nI c) (nI g) K p) (nI (i + 1)) (sLA τ 13 w) = _ ∧ _) ∨ (_ ∧ ∃ g', fX12_nearParts_L98B (nI c) (nI g) K (fX12_nearParts_L98 (nI c) (nI g) K p) (nI (i + 1)) (sLA τ 13 w) = _ ∧ _)
  unfold fX12_nearParts_L98B
  by_cases e : i = 12
  · subst e
    rw [if_pos (by decide)]
    exact Or.inl ⟨w, rfl, h⟩
  · have j13 : vp_in (nI (i + 1)) 13 := in13 (by omega)
    have p13 : vp_in (nI (i + 1) - 1) 13 := by rw [nI_pred]; exact in13 (by omega)
    have ev : (if nI (i + 1) = 12 then fX12_nearParts_J121 (nI c) (nI g) (nI (i + 1)) (fX12_nearParts_L98 (nI c) (nI g) K p) 12 (sLA τ 13 w) else fX12_nearParts_J121 (nI c) (nI g) (nI (i + 1)) (fX12_nearParts_L98 (nI c) (nI g) K p) (nI (i + 1) + 1) (sLA τ 13 w)) = fX12_nearParts_J121 (nI c) (nI g) (nI (i + 1)) (fX12_nearParts_L98 (nI c) (nI g) K p) (nI (min 12 (i + 1 + 1))) (sLA τ 13 w) := by
      by_cases q : i + 1 = 12
      · rw [if_pos (show nI (i + 1) = (12 : Int32) from congrArg nI q), Nat.min_eq_left (by omega)]
        rfl
      · rw [if_neg (show ¬ nI (i + 1) = (12 : Int32) from fun z : _ = nI 12 => q ((nI_eq (by omega) (by omega)).mp z)), Nat.min_eq_right (by omega), nI_1]
    have m13 : vp_in (nI (min 12 (i + 1 + 1))) 13 := in13 (by omega)
    have e1 : (nI c).toInt64 = lN c := nI_l (by omega)
    have e2 : (nI g).toInt64 = lN g := nI_l (by omega)
    have e3 : (10 - nI c - nI g).toInt64 = lN (10 - c - g) := by
      rw [show (10 : Int32) - nI c = nI (10 - c) from pk_sub (a := 10) (by omega), pk_sub (by omega), nI_l (by omega)]
    have c1 : (nI (i + 1) - 1).toNatClampNeg = i + 1 - 1 := by rw [nI_pred, nI_clamp (by omega)]; omega
    have c2 : (nI (i + 1)).toNatClampNeg = i + 1 := nI_clamp (by omega)
    have c3 : (nI (min 12 (i + 1 + 1))).toNatClampNeg = min 12 (i + 1 + 1) := nI_clamp (by omega)
    rw [if_neg (show ¬ (13 : Int32) ≤ nI (i + 1) from nI_ge (b := 13) (by omega) (by omega)), ev]
    unfold fX12_nearParts_J121
    simp only [ck_t p13, ck_t j13, gLA_s, gLA_n (show 12 ≠ 13 by decide), sL_A, nmv_s, ck_t m13, e1, e2, e3, c1, c2, c3, nI_1]
    exact Or.inr ⟨by omega, _, rfl, hold_3 hV h (by omega) (by omega)⟩
theorem nearParts_m {τ : St} {n c g m : Nat} (hn : n ≤ 12) (hc : c + g ≤ 10) (hm : m ≤ 9) {a2 : Int32} (e1 : a2 / 100 = nI c) (e2 : a2 - a2 / 100 * 100 = nI g) : ∃ τ', fX12_nearParts τ (nI n) a2 (nI m) = some (lN (dpN n c g m 0), τ') ∧ Mq τ τ' := by
  unfold fX12_nearParts
  rw [nmv_s, nmv_s, e2, e1]
  obtain ⟨w, w1, w2⟩ := np15 (τ := τ) hn (fun σ12 => fX12_nearParts_L49 (nI m) (nI c) (nI g) (fun σ55 => ck (vp_in 0 13) <| some (gL σ55 12 (0 : Int32).toNatClampNeg, σ55)) FU 0 σ12)
  rw [w1]
  refine loop_h (S := St) (fun p i s => fX12_nearParts_L49 (nI m) (nI c) (nI g) (fun σ55 => ck (vp_in 0 13) <| some (gL σ55 12 (0 : Int32).toNatClampNeg, σ55)) p (nI i) s) m (fun i s => Mq τ s ∧ hold (gL s 12) (dpN n c g i)) (fun q => ∃ τ', q = some (lN (dpN n c g m 0), τ') ∧ Mq τ τ') (fun p i s hi h => ?_) m 0 (sLA τ 12 w) FU (by omega) (FU_gt (by omega)) ⟨⟨rfl, rfl, rfl⟩, by rw [gLA_s]; exact w2⟩
  show (∃ τ', fX12_nearParts_L49B (nI m) (nI c) (nI g) _ (fX12_nearParts_L49 (nI m) (nI c) (nI g) _ p) (nI i) s = _ ∧ _) ∨ (_ ∧ ∃ g', fX12_nearParts_L49B (nI m) (nI c) (nI g) _ (fX12_nearParts_L49 (nI m) (nI c) (nI g) _ p) (nI i) s = _ ∧ _)
  unfold fX12_nearParts_L49B
  have k0 : vp_in 0 13 := in13 (k := 0) (by omega)
  by_cases e : i = m
  · subst e
    rw [if_pos (nI_le (Nat.le_refl _) (by omega))]
    dsimp only
    rw [ck_t k0, show (0 : Int32).toNatClampNeg = 0 from rfl, h.2 0 (by omega)]
    exact Or.inl ⟨s, rfl, h.1⟩
  · rw [if_neg (nI_ge (by omega) (by omega))]
    refine Or.inr ⟨by omega, ?_⟩
    obtain ⟨x, x1, x2⟩ := np58 (τ := s) (fun σ22 => ck (vp_in 0 13) <| ck (vp_in 0 13) <| nmv (sL σ22 13 (0 : Int32).toNatClampNeg (10 * (gL σ22 12 (0 : Int32).toNatClampNeg))) fun σ25 => fX12_nearParts_L98 (nI c) (nI g) (fun σ45 => fX12_nearParts_L203 (fun σ53 => nmv (nI i + 1) fun v54 => fX12_nearParts_L49 (nI m) (nI c) (nI g) (fun σ55 => ck (vp_in 0 13) <| some (gL σ55 12 (0 : Int32).toNatClampNeg, σ55)) p v54 σ53) FU 0 σ45) FU 1 σ25)
    rw [x1, ck_t k0, ck_t k0, show (0 : Int32).toNatClampNeg = 0 from rfl, gLA_n (by omega), h.2 0 (by omega), sL_A, nmv_s, show (10 : Int64) * lN (dpN n c g i 0) = lN (10 * dpN n c g i 0) from lN_mul 10 _]
    have w0 : hold (vp_updL x 0 (lN (10 * dpN n c g i 0))) (accN c g (dpN n c g i) 0) := hold_u x2 (i := 0) (v := 10 * dpN n c g i 0)
    obtain ⟨y, y1, y2⟩ := np98 h.2 hc w0 (fun σ45 => fX12_nearParts_L203 (fun σ53 => nmv (nI i + 1) fun v54 => fX12_nearParts_L49 (nI m) (nI c) (nI g) (fun σ55 => ck (vp_in 0 13) <| some (gL σ55 12 0, σ55)) p v54 σ53) FU 0 σ45)
    rw [y1]
    obtain ⟨u, u1, u2⟩ := np203 (τ := sLA s 13 y) (V := accN c g (dpN n c g i) 12) (by rw [gLA_s]; exact y2) (fun σ53 => nmv (nI i + 1) fun v54 => fX12_nearParts_L49 (nI m) (nI c) (nI g) (fun σ55 => ck (vp_in 0 13) <| some (gL σ55 12 0, σ55)) p v54 σ53)
    rw [u1, nmv_s, nI_1]
    exact ⟨sLA (sLA s 13 y) 12 u, rfl, h.1, by rw [gLA_s]; exact u2⟩
theorem Lq_inv {σ τ : St} (h : Lq σ τ) (hI : Inv σ) : Inv τ := by
  obtain ⟨⟨h0, hO, hC, hM⟩, ⟨h1, O1, C1, M1⟩, I3, I4, I5, I6, I7, I8⟩ := hI
  obtain ⟨e1, e2, ⟨e3, e4⟩, e5⟩ := h
  have s2 : gS τ 2 0 = gS σ 2 0 := congrFun e4 0
  have f1 : ∀ c i, gI τ c i = gI σ c i := fun c i => by rw [e1]
  refine ⟨⟨h0, hO, relC_fr hC (fun c _ => f1 c 0) (by rw [e2]) s2 e3 (f1 13 0) (f1 14 0), relM_row hM hO (fun j _ => by rw [f1])⟩, ⟨h1, O1, relC_fr C1 (fun c _ => f1 c 1) (by rw [e2]) s2 e3 (f1 13 0) (f1 14 0), relM_row M1 O1 (fun j _ => by rw [f1])⟩, ?_, ?_, e5, ?_, ?_, fun d hd => ?_⟩
  · rw [f1, f1]; exact ⟨I3.1, byOk_fr I3.2 (fun r _ => f1 12 r)⟩
  · rw [f1]; exact I4
  · intro c i k j q
    rw [s2]
    rw [e2] at q
    exact I6 c i k j q
  · rw [s2, e3]
    exact I7
  · exact shf_fr (I8 d hd) (f1 8 d) (f1 9 d) (fun r _ => f1 12 r) (by rw [e2]) s2 e3 (f1 13 0) (f1 14 0)
theorem Mq_Lq {σ τ : St} (h : Mq σ τ) (hI : Inv σ) : Lq σ τ := ⟨h.1, h.2.1, ⟨by rw [h.2.2], by rw [h.2.2]⟩, by rw [h.2.2]; exact hI.2.2.2.2.1⟩
theorem p10 {m : Nat} (hm : m ≤ 9) : 0 < 10 ^ m ∧ 10 ^ m ≤ 1000000000 := by
  refine ⟨Nat.pow_pos (by omega), ?_⟩
  have : (10 : Nat) ^ m ≤ 10 ^ 9 := Nat.pow_le_pow_right (by omega) hm
  omega
/-- nearer -/
theorem case24 : Case24 Inv := by
  intro σ hI a1 a2 a3 a4
  unfold fX11_nearer
  rcases odds_s (σ := σ) (τ := σ) a1 a2 with ⟨n, c, g, hn, hc, rfl, e1, e2, p1, p2, p3⟩ | ⟨p1, p3⟩
  rotate_left
  · refine ⟨1000000001, σ, σ, ?_, by unfold fX12_nearer; rw [p3]; rfl, hI⟩
    rcases p1 with p1 | ⟨p1, p2⟩
    · rw [p1]; rfl
    · rw [p1, p2]; rfl
  rcases rng_s (σ := σ) (τ := σ) (M := 9) (n := 9) a3 (by omega) rfl with ⟨m, hm, rfl, q1, q2⟩ | ⟨-, q1, q2⟩
  rotate_left
  · exact ⟨1000000001, σ, σ, by rw [p1, p2, q2]; rfl, by unfold fX12_nearer; rw [p3, q1]; rfl, hI⟩
  rcases rng_s (σ := σ) (τ := σ) (M := 1) (n := 1) a4 (by omega) rfl with ⟨w, hw, rfl, r1, r2⟩ | ⟨-, r1, r2⟩
  rotate_left
  · exact ⟨1000000001, σ, σ, by rw [p1, p2, q2, r2]; rfl, by unfold fX12_nearer; rw [p3, q1, r1]; rfl, hI⟩
  obtain ⟨τ, t1, t2⟩ := arrivals_c (σ := σ) (τ := σ) ⟨rfl, rfl, ⟨rfl, rfl⟩, hI.2.2.2.2.1⟩ hn hc hm e1 e2
  obtain ⟨υ, u1, u2⟩ := nearParts_m (τ := τ) hn hc hm e1 e2
  have hIτ := Lq_inv t2 hI
  have dl := dp_le hc hn m
  obtain ⟨l1, l2⟩ := p10 hm
  refine ⟨lN ((if w = 0 then dpN n c g m 0 else 10 ^ m) / Nat.gcd (dpN n c g m 0) (10 ^ m)), τ, υ, ?_, ?_, Lq_inv (Mq_Lq u2 hIτ) hIτ⟩
  · rw [p1, bd_s, if_pos rfl, p2, bd_s, if_neg (by decide), q2, bd_s, if_pos rfl, r2, bd_s, if_pos rfl, t1, bd_s]
    dsimp only
    rw [pow_c hm, bd_s, terms_c (by omega) (by omega) l1 hw]
    rfl
  · unfold fX12_nearer
    rw [show fX12_areOdds τ (nI n) a2 = some 1 from p3, bd_s, if_neg (by decide), show fX12_isIn τ (nI m) 0 9 = some 1 from q1, bd_s, if_neg (by decide), show fX12_isIn τ (nI w) 0 1 = some 1 from r1, bd_s, if_neg (by decide), u1, bd_s]
    dsimp only
    rw [pow_m hm, bd_s, terms_m (by omega) (by omega) l1 hw]
    rfl
/-- how often, from i calls on, k left -/
def ofN (n c g : Nat) : Nat → Nat → Int32
  | 0, _ => -4
  | k + 1, i => if 2 * dpN n c g i 0 < 10 ^ i then ofN n c g k (i + 1) else nI i
theorem often_c {σ : St} (hq : Lq σ σ) {n c g : Nat} (hn : n ≤ 12) (hc : c + g ≤ 10) {a2 : Int32} (e1 : a2 / 100 = nI c) (e2 : a2 - a2 / 100 * 100 = nI g) : ∃ τ, fX11_often_L21 (nI n) a2 (fun σ12 => some ((-4), σ12)) FU 0 σ = some (ofN n c g 10 0, τ) ∧ Lq σ τ := by
  refine loop_h (S := St) (fun p i s => fX11_often_L21 (nI n) a2 (fun σ12 => some ((-4), σ12)) p (nI i) s) 10 (fun i s => Lq σ s ∧ ofN n c g (10 - i) i = ofN n c g 10 0) (fun q => ∃ τ, q = some (ofN n c g 10 0, τ) ∧ Lq σ τ) (fun p i s hi h => ?_) 10 0 σ FU (by omega) (FU_gt (by omega)) ⟨hq, rfl⟩
  obtain ⟨i1, i4⟩ := h
  show (∃ τ', fX11_often_L21B (nI n) a2 _ (fX11_often_L21 (nI n) a2 _ p) (nI i) s = _ ∧ _) ∨ (_ ∧ ∃ g', fX11_often_L21B (nI n) a2 _ (fX11_often_L21 (nI n) a2 _ p) (nI i) s = _ ∧ _)
  unfold fX11_often_L21B
  by_cases e : i = 10
  · subst e
    rw [if_pos (by decide), ← i4]
    exact Or.inl ⟨s, rfl, i1⟩
  · obtain ⟨m, hm⟩ : ∃ m, 10 - i = m + 1 := ⟨9 - i, by omega⟩
    have hm2 : 10 - (i + 1) = m := by omega
    rw [hm] at i4
    obtain ⟨τ, t1, t2⟩ := arrivals_c i1 hn hc (show i ≤ 9 by omega) e1 e2
    have dl := dp_le hc hn i
    obtain ⟨l1, l2⟩ := p10 (show i ≤ 9 by omega)
    rw [if_neg (show ¬ (9 : Int32) < nI i from nI_nlt (a := 9) (by omega) (by omega)), t1, bd_s]
    dsimp only
    rw [pow_c (by omega), bd_s, show (2 : Int64) * lN (dpN n c g i 0) = lN (2 * dpN n c g i 0) from lN_mul 2 _, ← i4, hm2]
    by_cases q : 2 * dpN n c g i 0 < 10 ^ i
    · rw [if_pos ((lg_cmp_lt _ _).mpr ((pk_lLT (by omega) (by omega)).mpr q)), nmv_s, nI_1]
      exact Or.inr ⟨by omega, τ, rfl, t2, (if_pos q).symm⟩
    · rw [if_neg (fun z => q ((pk_lLT (by omega) (by omega)).mp ((lg_cmp_lt _ _).mp z)))]
      refine Or.inl ⟨τ, ?_, t2⟩
      rw [show ofN n c g (m + 1) i = nI i from if_neg q]
theorem often_m {τ : St} {n c g : Nat} (hn : n ≤ 12) (hc : c + g ≤ 10) {a2 : Int32} (e1 : a2 / 100 = nI c) (e2 : a2 - a2 / 100 * 100 = nI g) : ∃ υ, fX12_often_L12 (nI n) a2 (fun σ12 => some ((-4), σ12)) FU 0 τ = some (ofN n c g 10 0, υ) ∧ Mq τ υ := by
  refine loop_h (S := St) (fun p i s => fX12_often_L12 (nI n) a2 (fun σ12 => some ((-4), σ12)) p (nI i) s) 10 (fun i s => Mq τ s ∧ ofN n c g (10 - i) i = ofN n c g 10 0) (fun q => ∃ υ, q = some (ofN n c g 10 0, υ) ∧ Mq τ υ) (fun p i s hi h => ?_) 10 0 τ FU (by omega) (FU_gt (by omega)) ⟨⟨rfl, rfl, rfl⟩, rfl⟩
  obtain ⟨i1, i4⟩ := h
  show (∃ τ', fX12_often_L12B (nI n) a2 _ (fX12_often_L12 (nI n) a2 _ p) (nI i) s = _ ∧ _) ∨ (_ ∧ ∃ g', fX12_often_L12B (nI n) a2 _ (fX12_often_L12 (nI n) a2 _ p) (nI i) s = _ ∧ _)
  unfold fX12_often_L12B
  by_cases e : i = 10
  · subst e
    rw [if_pos (by decide), ← i4]
    exact Or.inl ⟨s, rfl, i1⟩
  · obtain ⟨m, hm⟩ : ∃ m, 10 - i = m + 1 := ⟨9 - i, by omega⟩
    have hm2 : 10 - (i + 1) = m := by omega
    rw [hm] at i4
    obtain ⟨υ, t1, t2⟩ := nearParts_m (τ := s) hn hc (show i ≤ 9 by omega) e1 e2
    have t3 : Mq τ υ := ⟨t2.1.trans i1.1, t2.2.1.trans i1.2.1, t2.2.2.trans i1.2.2⟩
    have dl := dp_le hc hn i
    obtain ⟨l1, l2⟩ := p10 (show i ≤ 9 by omega)
    rw [if_neg (show ¬ (10 : Int32) ≤ nI i from nI_ge (b := 10) (by omega) (by omega)), t1, bd_s]
    dsimp only
    rw [pow_m (by omega), bd_s, show (2 : Int64) * lN (dpN n c g i 0) = lN (2 * dpN n c g i 0) from lN_mul 2 _, ← i4, hm2]
    by_cases q : 2 * dpN n c g i 0 < 10 ^ i
    · rw [if_pos ((lg_cmp_lt _ _).mpr ((pk_lLT (by omega) (by omega)).mpr q)), nmv_s, nI_1]
      exact Or.inr ⟨by omega, υ, rfl, t3, (if_pos q).symm⟩
    · rw [if_neg (fun z => q ((pk_lLT (by omega) (by omega)).mp ((lg_cmp_lt _ _).mp z)))]
      refine Or.inl ⟨υ, ?_, t3⟩
      rw [show ofN n c g (m + 1) i = nI i from if_neg q]
/-- often -/
theorem case25 : Case25 Inv := by
  intro σ hI a1 a2
  unfold fX11_often
  rcases odds_s (σ := σ) (τ := σ) a1 a2 with ⟨n, c, g, hn, hc, rfl, e1, e2, p1, p2, p3⟩ | ⟨p1, p3⟩
  rotate_left
  · refine ⟨-1, σ, σ, ?_, by unfold fX12_often; rw [p3]; rfl, hI⟩
    rcases p1 with p1 | ⟨p1, p2⟩
    · rw [p1]; rfl
    · rw [p1, p2]; rfl
  obtain ⟨τ, t1, t2⟩ := often_c (σ := σ) ⟨rfl, rfl, ⟨rfl, rfl⟩, hI.2.2.2.2.1⟩ hn hc e1 e2
  obtain ⟨υ, u1, u2⟩ := often_m (τ := τ) hn hc e1 e2
  have hIτ := Lq_inv t2 hI
  refine ⟨ofN n c g 10 0, τ, υ, ?_, ?_, Lq_inv (Mq_Lq u2 hIτ) hIτ⟩
  · rw [p1, bd_s, if_pos rfl, p2, bd_s, if_neg (by decide)]
    exact t1
  · unfold fX12_often
    rw [show fX12_areOdds τ (nI n) a2 = some 1 from p3, bd_s, if_neg (by decide)]
    exact u1
