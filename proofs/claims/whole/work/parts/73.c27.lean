/-- which telling helps most, of the first i -/
def btl (h : Hg) (b t k : Nat) : Nat → Int32 × Nat
  | 0 => (-4, 0)
  | i + 1 => if (btl h b t k i).2 < prs i h b t k then (nI i, prs i h b t k) else btl h b t k i
theorem btl_le (h : Hg) (b t k i : Nat) : (btl h b t k i).2 ≤ 61 * 61 := by
  induction i with
  | zero => exact Nat.zero_le _
  | succ i ih =>
    by_cases c : (btl h b t k i).2 < prs i h b t k
    · rw [show btl h b t k (i + 1) = (nI i, prs i h b t k) from if_pos c]
      exact prs_le
    · rw [show btl h b t k (i + 1) = btl h b t k i from if_neg c]
      exact ih
theorem tellL_c {σ : St} {h : Hg} (hC : RelC σ 0 h) (hO : OkH h) (hR : RefsOk σ) (hK : ∀ j, j < gS σ 2 0 → okc (gS σ 1 j)) {b t k : Nat} (hb : b < h 0 0) (ht : t < h 0 1) (hk : k < h 0 2) : ∃ τ, fX11_telling_L51 (nI b) (nI t) (nI k) (fun y17 σ18 => some (y17, σ18)) FU (-4) 0 0 σ = some ((btl h b t k 3).1, τ) ∧ Sp2 σ τ := by
  refine loop_h (S := Int32 × Nat × St) (fun n i s => fX11_telling_L51 (nI b) (nI t) (nI k) (fun y17 σ18 => some (y17, σ18)) n s.1 (nI s.2.1) (nI i) s.2.2) 3 (fun i s => s.1 = (btl h b t k i).1 ∧ s.2.1 = (btl h b t k i).2 ∧ Sp2 σ s.2.2) (fun q => ∃ τ, q = some ((btl h b t k 3).1, τ) ∧ Sp2 σ τ) (fun n i s hi hI => ?_) 3 0 (-4, 0, σ) FU (by omega) (FU_gt (by omega)) ⟨rfl, rfl, Sp2_refl hR⟩
  obtain ⟨x, m, τ⟩ := s
  obtain ⟨i5, i6, ig⟩ := hI
  dsimp only at i5 i6 ig
  subst i5 i6
  have bl := btl_le h b t k i
  show (∃ τ', fX11_telling_L51B (nI b) (nI t) (nI k) _ (fX11_telling_L51 (nI b) (nI t) (nI k) _ n) (btl h b t k i).1 (nI (btl h b t k i).2) (nI i) τ = _ ∧ _) ∨ (i < 3 ∧ ∃ s', fX11_telling_L51B (nI b) (nI t) (nI k) _ (fX11_telling_L51 (nI b) (nI t) (nI k) _ n) (btl h b t k i).1 (nI (btl h b t k i).2) (nI i) τ = _ ∧ _)
  unfold fX11_telling_L51B fX11_telling_J83
  by_cases e : i = 3
  · subst e
    rw [if_pos (by decide)]
    exact Or.inl ⟨τ, rfl, ig⟩
  · obtain ⟨τ', t1, t2⟩ := told_c (Sp2_relC ig hC (by decide)) hO ig.2.2.2 (Sp2_okc ig hK) (i := i) hb ht hk (by omega)
    have pl := prs_le (h := h) (hp := i) (b := b) (t := t) (k := k)
    rw [if_neg (show ¬ (3 : Int32) ≤ nI i from nI_ge (b := 3) (by omega) (by omega)), t1, bd_s]
    dsimp only
    refine Or.inr ⟨by omega, ?_⟩
    by_cases c : (btl h b t k i).2 < prs i h b t k
    · rw [if_neg (nI_ge c (by omega)), nmv_s, nI_1]
      refine ⟨(nI i, prs i h b t k, τ'), rfl, ?_⟩
      rw [show btl h b t k (i + 1) = (nI i, prs i h b t k) from if_pos c]
      exact ⟨rfl, rfl, Sp2_trans ig t2⟩
    · rw [if_pos (nI_le (by omega) (by omega)), nmv_s, nI_1]
      refine ⟨((btl h b t k i).1, (btl h b t k i).2, τ'), rfl, ?_⟩
      rw [show btl h b t k (i + 1) = btl h b t k i from if_neg c]
      exact ⟨rfl, rfl, Sp2_trans ig t2⟩
theorem whereBy_m {τ : St} {h : Hg} (hM : RelM τ 0 h) (hO : OkH h) (hh : gI τ 11 0 4 = nI 3) {b t k i : Nat} (hb : b < h 0 0) (ht : t < h 0 1) (hk : k < h 0 2) (hi : i < 3) {g : Nat → Int32} (hg : Fr9 (gI τ 11 0) g) : ∃ g', fX12_whereBy (sA τ 11 0 g) (nI b) (nI t) (nI k) (nI i) = some (nI (prs i h b t k), sA τ 11 0 g') ∧ Fr9 (gI τ 11 0) g' ∧ g' 9 = nI (prs i h b t k) := by
  have e9 : ∀ (g : Nat → Int32) (j : Nat) (v : Int32), sI (sA τ 11 0 g) 11 0 j v = sA τ 11 0 (upd g j v) := fun g j v => by
    show sA (sA τ 11 0 g) 11 0 (upd (gI (sA τ 11 0 g) 11 0) j v) = _
    rw [sA_sA, gsA_s]
  obtain ⟨g1, q1, q2, q3, -, -⟩ := looks_m (hp := i) (relM_11 hM (f := upd g 4 (nI i))) hO (by rw [gsA_s, pk_us]) (by omega) hb ht hk
  unfold fX12_whereBy
  rw [e9, nmv_s, q1, bd_s, sA_sA, e9, nmv_s, gsA_s, pk_un (by omega), q3]
  refine ⟨upd g1 4 3, rfl, fun j j9 j10 j11 => ?_, (pk_un (by omega)).trans q3⟩
  by_cases c : j = 4
  · subst c
    rw [pk_us]
    exact hh.symm
  · rw [pk_un c, q2 j j9 j10 j11, gsA_s, pk_un c]
    exact hg j j9 j10 j11
theorem tellL_m {τ : St} {h : Hg} (hM : RelM τ 0 h) (hO : OkH h) (hh : gI τ 11 0 4 = nI 3) {b t k : Nat} (hb : b < h 0 0) (ht : t < h 0 1) (hk : k < h 0 2) : ∃ g, fX12_telling_L48 (nI b) (nI t) (nI k) (fun y18 σ19 => some (y18, σ19)) FU (-4) 0 0 τ = some ((btl h b t k 3).1, sA τ 11 0 g) ∧ Fr9 (gI τ 11 0) g := by
  have q := loop_h (S := Int32 × Nat × (Nat → Int32)) (fun n i s => fX12_telling_L48 (nI b) (nI t) (nI k) (fun y17 σ18 => some (y17, σ18)) n s.1 (nI s.2.1) (nI i) (sA τ 11 0 s.2.2)) 3 (fun i s => s.1 = (btl h b t k i).1 ∧ s.2.1 = (btl h b t k i).2 ∧ Fr9 (gI τ 11 0) s.2.2) (fun q => ∃ g, q = some ((btl h b t k 3).1, sA τ 11 0 g) ∧ Fr9 (gI τ 11 0) g) (fun n i s hi hI => by
    obtain ⟨x, m, g⟩ := s
    obtain ⟨i5, i6, ig⟩ := hI
    dsimp only at i5 i6 ig
    subst i5 i6
    have bl := btl_le h b t k i
    show (∃ g', fX12_telling_L48B (nI b) (nI t) (nI k) _ (fX12_telling_L48 (nI b) (nI t) (nI k) _ n) (btl h b t k i).1 (nI (btl h b t k i).2) (nI i) (sA τ 11 0 g) = _ ∧ _) ∨ (i < 3 ∧ ∃ s', fX12_telling_L48B (nI b) (nI t) (nI k) _ (fX12_telling_L48 (nI b) (nI t) (nI k) _ n) (btl h b t k i).1 (nI (btl h b t k i).2) (nI i) (sA τ 11 0 g) = _ ∧ _)
    unfold fX12_telling_L48B fX12_telling_J81
    by_cases e : i = 3
    · subst e
      rw [if_pos (by decide)]
      exact Or.inl ⟨g, rfl, ig⟩
    · obtain ⟨g', t1, t2, t3⟩ := whereBy_m hM hO hh (i := i) hb ht hk (by omega) ig
      have pl := prs_le (h := h) (hp := i) (b := b) (t := t) (k := k)
      rw [if_neg (show ¬ (3 : Int32) ≤ nI i from nI_ge (b := 3) (by omega) (by omega)), t1, bd_s]
      dsimp only
      refine Or.inr ⟨by omega, ?_⟩
      by_cases c : (btl h b t k i).2 < prs i h b t k
      · rw [if_pos (nI_lt c (by omega)), gsA_s, t3, nmv_s, nmv_s, nI_1]
        refine ⟨(nI i, prs i h b t k, g'), rfl, ?_⟩
        rw [show btl h b t k (i + 1) = (nI i, prs i h b t k) from if_pos c]
        exact ⟨rfl, rfl, t2⟩
      · rw [if_neg (nI_nlt (by omega) (by omega)), nmv_s, nI_1]
        refine ⟨((btl h b t k i).1, (btl h b t k i).2, g'), rfl, ?_⟩
        rw [show btl h b t k (i + 1) = btl h b t k i from if_neg c]
        exact ⟨rfl, rfl, t2⟩) 3 0 (-4, 0, gI τ 11 0) FU (by omega) (FU_gt (by omega)) ⟨rfl, rfl, fun j _ _ _ => rfl⟩
  rw [sA_self] at q
  exact q
/-- telling -/
theorem case27 : Case27 Inv := by
  intro σ hI a1 a2 a3 a4
  obtain ⟨⟨h, hO, hC, hM⟩, ⟨h1', O1, C1, M1⟩, I3, I4, I5, I6, I7, I8⟩ := id hI
  unfold fX11_telling
  rcases all_s hC hM hO a1 a2 a3 with ⟨b, t, k, hb, ht, hk, rfl, rfl, rfl, p1, p2⟩ | ⟨p1, p2⟩
  rotate_left
  · exact ⟨-1, σ, σ, by rw [p1]; rfl, by unfold fX12_telling; rw [p2]; rfl, hI⟩
  rcases rng_s (σ := σ) (τ := σ) (M := 3) (n := 3) a4 (by omega) rfl with ⟨i, hi, rfl, q1, q2⟩ | ⟨-, q1, q2⟩
  rotate_left
  · exact ⟨-1, σ, σ, by rw [p1, q2]; rfl, by unfold fX12_telling; rw [p2, q1]; rfl, hI⟩
  rw [p1, bd_s, if_neg (by decide), q2, bd_s, if_pos rfl]
  have all : ∀ τ, Sp2 σ τ → fX12_areAll τ (nI b) (nI t) (nI k) = some 1 := fun τ hs => by
    rcases all_s (Sp2_relC hs hC (by decide)) (Sp2_relM hs hM hO) hO (nI b) (nI t) (nI k) with ⟨b', t', k', hb', ht', hk', e1, e2, e3, p1, p2⟩ | ⟨p3, p4⟩
    · exact p2
    · unfold fX12_areAll fX12_isBlade fX12_isThumbs fX12_isBlow at p2 ⊢
      rw [hs.1 12 0 (by omega)]
      exact p2
  by_cases c : i = 3
  · subst c
    obtain ⟨τ, t1, t2⟩ := tellL_c hC hO I6 I7 hb ht hk
    obtain ⟨g, g1, g2⟩ := tellL_m (Sp2_relM t2 hM hO) hO ((congrFun (t2.1 11 0 (by omega)) 4).trans I4) hb ht hk
    refine ⟨(btl h b t k 3).1, τ, sA τ 11 0 g, ?_, ?_, inv_fr9 (Sp2_inv t2 hI) g2⟩
    · rw [if_pos (by decide)]
      exact t1
    · unfold fX12_telling
      rw [all τ t2, bd_s, if_neg (by decide), show fX12_isIn τ (nI 3) 0 3 = some 1 from q1, bd_s, if_neg (by decide), if_pos (by decide)]
      exact g1
  · obtain ⟨τ, t1, t2⟩ := told_c hC hO I6 I7 (i := i) hb ht hk (by omega)
    have wb := whereBy_m (Sp2_relM t2 hM hO) hO ((congrFun (t2.1 11 0 (by omega)) 4).trans I4) (i := i) hb ht hk (by omega) (g := gI τ 11 0) (fun j _ _ _ => rfl)
    rw [sA_self] at wb
    obtain ⟨g, g1, g2, -⟩ := wb
    refine ⟨nI (prs i h b t k), τ, sA τ 11 0 g, ?_, ?_, inv_fr9 (Sp2_inv t2 hI) g2⟩
    · rw [if_neg (show ¬ (3 : Int32) ≤ nI i from nI_ge (b := 3) (by omega) (by omega)), t1]
      rfl
    · unfold fX12_telling
      rw [all τ t2, bd_s, if_neg (by decide), show fX12_isIn τ (nI i) 0 3 = some 1 from q1, bd_s, if_neg (by decide), if_neg (show ¬ (3 : Int32) ≤ nI i from nI_ge (b := 3) (by omega) (by omega)), g1]
      rfl
