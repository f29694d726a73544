theorem relC_spn {σ : St} {x' : Nat} {h : Hg} (hC : RelC σ x' h) {x lo hi gr so ha : Nat} : RelC (spn σ x lo hi gr so ha) x' h := hC
theorem relM_spn {σ : St} {h : Hg} (hM : RelM σ 0 h) {x lo hi gr so ha : Nat} : RelM (spn σ x lo hi gr so ha) 0 h := hM
def zTop (hp : Nat) (h : Hg) (b t k : Nat) : Nat := min 60 (min (zHI hp h b t k) (zGR hp h t))
def zFt (hp : Nat) (h : Hg) (t k : Nat) : Nat := min 60 (zHA hp h t k)
/-- with how many pairs it sounds -/
def prs (hp : Nat) (h : Hg) (b t k : Nat) : Nat := (zTop hp h b t k + 1 - zLO hp h b t k) * (zFt hp h t k + 1 - zSO hp h t k)
theorem min_if {a b : Nat} (ha : a < 1000) (hb : b < 1000) : (if nI a < nI b then nI a else nI b) = nI (min b a) := by
  by_cases h : a < b
  · rw [if_pos (nI_lt h (by omega)), Nat.min_eq_right (by omega)]
  · rw [if_neg (nI_nlt (by omega) (by omega)), Nat.min_eq_left (by omega)]
theorem diff_if {a b : Nat} (ha : a < 1000) (hb : b < 1000) : (if (0 : Int32) < nI a - nI b + 1 then nI a - nI b + 1 else 0) = nI (a + 1 - b) := by
  by_cases h : b ≤ a
  · have e : nI a - nI b + 1 = nI (a + 1 - b) := by
      rw [pk_sub h, nI_1, show a - b + 1 = a + 1 - b by omega]
    rw [e, if_pos (show (0 : Int32) < nI (a + 1 - b) from nI_lt (a := 0) (by omega) (by omega))]
  · rw [if_neg ?_, show a + 1 - b = 0 by omega]
    · rfl
    · rw [Int32.lt_iff_toInt_lt, Int32.toInt_add, sub_I (by omega) (by omega), show (0 : Int32).toInt = 0 from rfl, show (1 : Int32).toInt = 1 from rfl, Int.bmod_eq_of_le (by omega) (by omega)]
      omega
theorem topT_c {σ : St} {x lo hi gr so ha : Nat} (h2 : hi < 1000) (h3 : gr < 1000) : fX9_topTight (spn σ x lo hi gr so ha) x = some (nI (min 60 (min hi gr))) := by
  obtain ⟨e0, e1, e2, e3, e4⟩ := spn_v (σ := σ) (x := x) (lo := lo) (hi := hi) (gr := gr) (so := so) (ha := ha)
  unfold fX9_topTight
  rw [e1, e2, min_if h3 h2, nmv_s, show (if nI (min hi gr) < (60 : Int32) then nI (min hi gr) else 60) = nI (min 60 (min hi gr)) from min_if (a := min hi gr) (b := 60) (by omega) (by omega)]
  rfl
theorem topF_c {σ : St} {x lo hi gr so ha : Nat} (h2 : ha < 1000) : fX9_topForce (spn σ x lo hi gr so ha) x = some (nI (min 60 ha)) := by
  obtain ⟨e0, e1, e2, e3, e4⟩ := spn_v (σ := σ) (x := x) (lo := lo) (hi := hi) (gr := gr) (so := so) (ha := ha)
  unfold fX9_topForce
  rw [e4, show (if nI ha < (60 : Int32) then nI ha else 60) = nI (min 60 ha) from min_if (a := ha) (b := 60) (by omega) (by omega)]
  rfl
theorem pairsG_c {σ : St} {x lo hi gr so ha : Nat} (h1 : lo < 1000) (h2 : hi < 1000) (h3 : gr < 1000) (h4 : so < 1000) (h5 : ha < 1000) : fX9_pairs (spn σ x lo hi gr so ha) x = some (nI ((min 60 (min hi gr) + 1 - lo) * (min 60 ha + 1 - so))) := by
  obtain ⟨e0, e1, e2, e3, e4⟩ := spn_v (σ := σ) (x := x) (lo := lo) (hi := hi) (gr := gr) (so := so) (ha := ha)
  unfold fX9_pairs
  rw [topT_c h2 h3, bd_s, e0, e3, diff_if (by omega) h1, nmv_s, topF_c h5, bd_s, diff_if (by omega) h4, nmv_s, pk_mul]
theorem pairs_c {σ : St} {x : Nat} {h : Hg} (hO : OkH h) {b t k : Nat} (hb : b < h 0 0) (ht : t < h 0 1) (hk : k < h 0 2) : fX9_pairs (zSPN σ x h b t k) x = some (nI (prs 3 h b t k)) := by
  obtain ⟨l1, l2, l3, l4, l5, l6, l7, l8, l9⟩ := okS (hp := 3) hO hb ht hk
  exact pairsG_c (by omega) (by omega) (by omega) (by omega) (by omega)
theorem prs_le {h : Hg} {hp b t k : Nat} : prs hp h b t k ≤ 61 * 61 := by
  unfold prs zTop zFt
  exact Nat.mul_le_mul (by omega) (by omega)
/-- the counter that goes down from 60 to -1 -/
def dn (i : Nat) : Int32 := if i ≤ 60 then nI (60 - i) else -1
theorem dn_s {i : Nat} (h : i ≤ 60) : nI (60 - i) + (-1) = dn (i + 1) := by
  unfold dn
  by_cases e : i = 60
  · subst e
    rfl
  · rw [if_pos (by omega), show 60 - i = 60 - (i + 1) + 1 by omega, pk_m1]
/-- what looks leaves -/
def lk (hp : Nat) (h : Hg) (b t k : Nat) (o g : Nat → Int32) : Prop := (∀ j, j ≠ 9 → j ≠ 10 → j ≠ 11 → g j = o j) ∧ g 9 = nI (prs hp h b t k) ∧ g 10 = (if prs hp h b t k = 0 then -4 else nI (zLO hp h b t k)) ∧ g 11 = (if prs hp h b t k = 0 then -4 else nI (zSO hp h t k))
theorem relM_11 {σ : St} {h : Hg} {r : Nat} (hM : RelM σ r h) {f : Nat → Int32} : RelM (sA σ 11 0 f) r h := hM
theorem looks_m {τ : St} {h : Hg} {hp b t k : Nat} (hM : RelM τ 0 h) (hO : OkH h) (hh : gI τ 11 0 4 = nI hp) (h3 : hp ≤ 3) (hb : b < h 0 0) (ht : t < h 0 1) (hk : k < h 0 2) : ∃ g, fX12_looks τ (nI b) (nI t) (nI k) = some (sA τ 11 0 g) ∧ lk hp h b t k (gI τ 11 0) g := by
  obtain ⟨l1, l2, l3, l4, l5, l6, l7, l8, l9⟩ := okS (hp := hp) hO hb ht hk
  unfold fX12_looks
  rw [nmv_s, nmv_s, show sI (sI τ 11 0 10 (-4)) 11 0 11 (-4) = sA τ 11 0 (upd (upd (gI τ 11 0) 10 (-4)) 11 (-4)) from by
    show sA (sA τ 11 0 _) 11 0 (upd (gI (sA τ 11 0 _) 11 0) 11 (-4)) = _
    rw [sA_sA, gsA_s]]
  refine loop_h (S := Nat × Nat × (Nat → Int32)) (fun n i s => fX12_looks_L22 (nI b) (nI t) (nI k) (fun y21 y22 σ23 => nmv (sI σ23 11 0 9 (y21 * y22)) fun σ24 =>
    if (gI σ24 11 0 9) ≤ 0 then
    nmv (sI σ24 11 0 10 (-4)) fun σ26 =>
    nmv (sI σ26 11 0 11 (-4)) fun σ27 =>
    some σ27
    else
    some σ24) n (nI s.1) (nI s.2.1) (dn i) (sA τ 11 0 s.2.2)) 61 (fun i s => s.1 = zTop hp h b t k + 1 - max (zLO hp h b t k) (61 - i) ∧ s.2.1 = zFt hp h t k + 1 - max (zSO hp h t k) (61 - i) ∧ (∀ j, j ≠ 9 → j ≠ 10 → j ≠ 11 → s.2.2 j = gI τ 11 0 j) ∧ s.2.2 10 = (if s.1 = 0 then -4 else nI (max (zLO hp h b t k) (61 - i))) ∧ s.2.2 11 = (if s.2.1 = 0 then -4 else nI (max (zSO hp h t k) (61 - i)))) (fun q => ∃ g, q = some (sA τ 11 0 g) ∧ lk hp h b t k (gI τ 11 0) g) (fun n i s hi hI => ?_) 61 0 (0, 0, upd (upd (gI τ 11 0) 10 (-4)) 11 (-4)) FU (by omega) (FU_gt (by omega)) ⟨?_, ?_, fun j j9 j10 j11 => ?_, rfl, rfl⟩
  · obtain ⟨x3, x4, g⟩ := s
    obtain ⟨i3, i4, ig, i10, i11⟩ := hI
    simp only at i3 i4 ig i10 i11
    have hM' : RelM (sA τ 11 0 g) 0 h := relM_11 hM
    have hh' : gI (sA τ 11 0 g) 11 0 4 = nI hp := by rw [gsA_s, ig 4 (by omega) (by omega) (by omega)]; exact hh
    by_cases e : i = 61
    · subst e
      refine Or.inl ?_
      show ∃ g', fX12_looks_L22B (nI b) (nI t) (nI k) _ (fX12_looks_L22 (nI b) (nI t) (nI k) _ n) (nI x3) (nI x4) (dn 61) (sA τ 11 0 g) = _ ∧ _
      unfold fX12_looks_L22B
      rw [if_pos (show dn 61 < 0 by decide)]
      dsimp only
      rw [nmv_s, pk_mul]
      have ex : x3 * x4 = prs hp h b t k := by
        rw [i3, i4]
        unfold prs
        rw [show max (zLO hp h b t k) (61 - 61) = zLO hp h b t k by omega, show max (zSO hp h t k) (61 - 61) = zSO hp h t k by omega]
      have pl := prs_le (h := h) (hp := hp) (b := b) (t := t) (k := k)
      rw [ex, show sI (sA τ 11 0 g) 11 0 9 (nI (prs hp h b t k)) = sA τ 11 0 (upd g 9 (nI (prs hp h b t k))) from by
        show sA (sA τ 11 0 _) 11 0 (upd (gI (sA τ 11 0 _) 11 0) 9 _) = _
        rw [sA_sA, gsA_s], gsA_s, pk_us]
      by_cases ep : prs hp h b t k = 0
      · rw [ep, if_pos (by decide), nmv_s, nmv_s]
        refine ⟨upd (upd (upd g 9 (nI 0)) 10 (-4)) 11 (-4), ?_, fun j j9 j10 j11 => ?_, ?_, ?_, ?_⟩
        · show some (sA (sA (sA τ 11 0 _) 11 0 (upd (gI (sA τ 11 0 _) 11 0) 10 (-4))) 11 0 (upd (gI (sA (sA τ 11 0 _) 11 0 (upd (gI (sA τ 11 0 _) 11 0) 10 (-4))) 11 0) 11 (-4))) = _
          rw [sA_sA, gsA_s, sA_sA, gsA_s]
        · rw [pk_un j11, pk_un j10, pk_un j9]
          exact ig j j9 j10 j11
        · rw [ep]; rfl
        · rw [if_pos ep]; rfl
        · rw [if_pos ep]; rfl
      · rw [if_neg (nI_nle (by omega) (by omega))]
        have x30 : ¬ x3 = 0 := fun q => ep (by rw [← ex, q, Nat.zero_mul])
        have x40 : ¬ x4 = 0 := fun q => ep (by rw [← ex, q, Nat.mul_zero])
        rw [if_neg x30] at i10
        rw [if_neg x40] at i11
        refine ⟨upd g 9 (nI (prs hp h b t k)), rfl, fun j j9 j10 j11 => ?_, rfl, ?_, ?_⟩
        · rw [pk_un j9]
          exact ig j j9 j10 j11
        · rw [if_neg ep, pk_un (by omega), i10]
          exact congrArg nI (by omega)
        · rw [if_neg ep, pk_un (by omega), i11]
          exact congrArg nI (by omega)
    · refine Or.inr ⟨by omega, ?_⟩
      show ∃ s', fX12_looks_L22B (nI b) (nI t) (nI k) _ (fX12_looks_L22 (nI b) (nI t) (nI k) _ n) (nI x3) (nI x4) (dn i) (sA τ 11 0 g) = _ ∧ _
      unfold fX12_looks_L22B
      have ed : dn i = nI (60 - i) := if_pos (by omega)
      rw [ed, if_neg (nI_pos (by omega))]
      generalize hv : 60 - i = v
      have ev : 61 - i = v + 1 := by omega
      have ev2 : 61 - (i + 1) = v := by omega
      rw [ev] at i3 i4 i10 i11
      have J68 : ∀ (a c : Nat) (f : Nat → Int32) (L : Int32 → Int32 → Int32 → St → Option St), fX12_looks_J68 (nI v) L (nI a) (nI c) (sA τ 11 0 f) = L (nI a) (nI c) (dn (i + 1)) (sA τ 11 0 f) := by
        intro a c f L
        unfold fX12_looks_J68
        rw [nmv_s, ← hv, dn_s (by omega)]
      have J48 : ∀ (a : Nat) (f : Nat → Int32) (L : Int32 → Int32 → Int32 → St → Option St), f 4 = g 4 → fX12_looks_J48 (nI t) (nI k) (nI x4) (nI v) L (nI a) (sA τ 11 0 f) = if zSO hp h t k ≤ v ∧ v ≤ zHA hp h t k then L (nI a) (nI (x4 + 1)) (dn (i + 1)) (sA τ 11 0 (upd f 11 (nI v))) else L (nI a) (nI x4) (dn (i + 1)) (sA τ 11 0 f) := by
        intro a f L hf
        have hf' : gI (sA τ 11 0 f) 11 0 4 = nI hp := by rw [gsA_s, hf, ← hh', gsA_s]
        unfold fX12_looks_J48
        rcases isHard_m (v := v) (relM_11 hM (f := f)) hO hf' h3 ht hk (by omega) with ⟨s1, s2⟩ | ⟨s1, s2⟩
        · rw [s2, bd_s, if_neg (by decide), if_pos (show zSO hp h t k ≤ v ∧ v ≤ zHA hp h t k from s1), nI_1, nmv_s, nmv_s, show sI (sA τ 11 0 f) 11 0 11 (nI v) = sA τ 11 0 (upd f 11 (nI v)) from by
            show sA (sA τ 11 0 _) 11 0 (upd (gI (sA τ 11 0 _) 11 0) 11 _) = _
            rw [sA_sA, gsA_s]]
          exact J68 a (x4 + 1) _ L
        · rw [s2, bd_s, if_pos rfl, if_neg (show ¬ (zSO hp h t k ≤ v ∧ v ≤ zHA hp h t k) from s1)]
          exact J68 a x4 f L
      have T : (zLO hp h b t k ≤ v ∧ v ≤ zTop hp h b t k) ↔ tI hp h b t k v := by
        unfold tI zTop
        omega
      have Hd : (zSO hp h t k ≤ v ∧ v ≤ zFt hp h t k) ↔ (zSO hp h t k ≤ v ∧ v ≤ zHA hp h t k) := by
        unfold zFt
        omega
      generalize zTop hp h b t k = tp at i3 i10 T ⊢
      generalize zFt hp h t k = ft at i4 i11 Hd ⊢
      rcases tight_m (v := v) hM' hO hh' h3 hb ht hk (by omega) with ⟨s1, s2⟩ | ⟨s1, s2⟩
      · have t1 := T.mpr s1
        rw [s2, bd_s, if_neg (by decide), nI_1, nmv_s, nmv_s, show sI (sA τ 11 0 g) 11 0 10 (nI v) = sA τ 11 0 (upd g 10 (nI v)) from by
            show sA (sA τ 11 0 _) 11 0 (upd (gI (sA τ 11 0 _) 11 0) 10 _) = _
            rw [sA_sA, gsA_s], J48 (x3 + 1) (upd g 10 (nI v)) _ rfl]
        by_cases c : zSO hp h t k ≤ v ∧ v ≤ zHA hp h t k
        · have c1 := Hd.mpr c
          rw [if_pos c]
          refine ⟨(x3 + 1, x4 + 1, upd (upd g 10 (nI v)) 11 (nI v)), rfl, ?_, ?_, fun j j9 j10 j11 => ?_, ?_, ?_⟩
          · show x3 + 1 = _
            rw [ev2]; omega
          · show x4 + 1 = _
            rw [ev2]; omega
          · show upd (upd g 10 (nI v)) 11 (nI v) j = _
            rw [pk_un j11, pk_un j10]
            exact ig j j9 j10 j11
          · show nI v = if x3 + 1 = 0 then _ else _
            rw [if_neg (by omega), ev2]
            exact congrArg nI (by omega)
          · show nI v = if x4 + 1 = 0 then _ else _
            rw [if_neg (by omega), ev2]
            exact congrArg nI (by omega)
        · have c1 : ¬ (zSO hp h t k ≤ v ∧ v ≤ ft) := fun q => c (Hd.mp q)
          rw [if_neg c]
          refine ⟨(x3 + 1, x4, upd g 10 (nI v)), rfl, ?_, ?_, fun j j9 j10 j11 => ?_, ?_, ?_⟩
          · show x3 + 1 = _
            rw [ev2]; omega
          · show x4 = _
            rw [ev2]; omega
          · show upd g 10 (nI v) j = _
            rw [pk_un j10]
            exact ig j j9 j10 j11
          · show nI v = if x3 + 1 = 0 then _ else _
            rw [if_neg (by omega), ev2]
            exact congrArg nI (by omega)
          · show upd g 10 (nI v) 11 = if x4 = 0 then _ else _
            rw [pk_un (by omega), i11, ev2]
            by_cases z : x4 = 0
            · rw [if_pos z, if_pos z]
            · rw [if_neg z, if_neg z]
              exact congrArg nI (by omega)
      · have t1 : ¬ (zLO hp h b t k ≤ v ∧ v ≤ tp) := fun q => s1 (T.mp q)
        rw [s2, bd_s, if_pos rfl, J48 x3 g _ rfl]
        by_cases c : zSO hp h t k ≤ v ∧ v ≤ zHA hp h t k
        · have c1 := Hd.mpr c
          rw [if_pos c]
          refine ⟨(x3, x4 + 1, upd g 11 (nI v)), rfl, ?_, ?_, fun j j9 j10 j11 => ?_, ?_, ?_⟩
          · show x3 = _
            rw [ev2]; omega
          · show x4 + 1 = _
            rw [ev2]; omega
          · show upd g 11 (nI v) j = _
            rw [pk_un j11]
            exact ig j j9 j10 j11
          · show upd g 11 (nI v) 10 = if x3 = 0 then _ else _
            rw [pk_un (by omega), i10, ev2]
            by_cases z : x3 = 0
            · rw [if_pos z, if_pos z]
            · rw [if_neg z, if_neg z]
              exact congrArg nI (by omega)
          · show nI v = if x4 + 1 = 0 then _ else _
            rw [if_neg (by omega), ev2]
            exact congrArg nI (by omega)
        · have c1 : ¬ (zSO hp h t k ≤ v ∧ v ≤ ft) := fun q => c (Hd.mp q)
          rw [if_neg c]
          refine ⟨(x3, x4, g), rfl, ?_, ?_, ig, ?_, ?_⟩
          · show x3 = _
            rw [ev2]; omega
          · show x4 = _
            rw [ev2]; omega
          · show g 10 = if x3 = 0 then _ else _
            rw [i10, ev2]
            by_cases z : x3 = 0
            · rw [if_pos z, if_pos z]
            · rw [if_neg z, if_neg z]
              exact congrArg nI (by omega)
          · show g 11 = if x4 = 0 then _ else _
            rw [i11, ev2]
            by_cases z : x4 = 0
            · rw [if_pos z, if_pos z]
            · rw [if_neg z, if_neg z]
              exact congrArg nI (by omega)
  · show 0 = _
    unfold zTop
    omega
  · show 0 = _
    unfold zFt
    omega
  · show upd (upd (gI τ 11 0) 10 (-4)) 11 (-4) j = _
    rw [pk_un j11, pk_un j10]
theorem inv_11 {σ : St} (hI : Inv σ) {f : Nat → Int32} (h3 : f 3 = gI σ 11 0 3) (h4 : f 4 = gI σ 11 0 4) : Inv (sA σ 11 0 f) := by
  obtain ⟨I1, I2, I3, I4, I5, I6, I7, I8⟩ := hI
  refine ⟨I1, I2, ?_, ?_, I5, I6, I7, I8⟩
  · rw [gsA_s, h3]
    exact ⟨I3.1, I3.2⟩
  · rw [gsA_s, h4]
    exact I4
/-- where -/
theorem case12 : Case12 Inv := by
  intro σ hI a1 a2 a3 a4
  obtain ⟨⟨h, hO, hC, hM⟩, ⟨h1', O1, C1, M1⟩, I3, I4, I5, I6, I7, I8⟩ := id hI
  unfold fX11_where
  rcases all_s hC hM hO a1 a2 a3 with ⟨b, t, k, hb, ht, hk, rfl, rfl, rfl, p1, p2⟩ | ⟨p1, p2⟩
  · obtain ⟨l1, l2, l3, l4, l5, l6, l7, l8, l9⟩ := okS (hp := 3) hO hb ht hk
    rcases rng_s (σ := σ) (τ := zSPN σ 0 h b t k) (M := 2) (n := 2) a4 (by omega) rfl with ⟨w, hw, rfl, q1, q2⟩ | ⟨-, q1, q2⟩
    · have hM' : RelM (zSPN σ 0 h b t k) 0 h := relM_spn hM
      have p2' : fX12_areAll (zSPN σ 0 h b t k) (nI b) (nI t) (nI k) = some 1 := p2
      obtain ⟨g, g1, g2, g3, g4, g5⟩ := looks_m hM' hO (hp := 3) I4 (by omega) hb ht hk
      obtain ⟨e0, e1, e2, e3, e4⟩ := spn_v (σ := σ) (x := 0) (lo := zLO 3 h b t k) (hi := zHI 3 h b t k) (gr := zGR 3 h t) (so := zSO 3 h t k) (ha := zHA 3 h t k)
      have hI2 : Inv (sA (zSPN σ 0 h b t k) 11 0 g) := inv_11 (inv_spn hI) (g2 3 (by omega) (by omega) (by omega)) (g2 4 (by omega) (by omega) (by omega))
      have pl := prs_le (h := h) (hp := 3) (b := b) (t := t) (k := k)
      have cl : fX11_where σ (nI b) (nI t) (nI k) (nI w) = if nI w = 0 then some (nI (prs 3 h b t k), zSPN σ 0 h b t k) else if nI (prs 3 h b t k) = 0 then some (-4, zSPN σ 0 h b t k) else if nI w = 1 then some (gI (zSPN σ 0 h b t k) 7 0 0, zSPN σ 0 h b t k) else some (gI (zSPN σ 0 h b t k) 7 0 3, zSPN σ 0 h b t k) := by
        unfold fX11_where
        rw [p1, bd_s, if_neg (by decide), q2, bd_s, if_pos rfl, spanOf_c hC hO hb ht hk, bd_s, pairs_c hO hb ht hk, bd_s]
      have ml : fX12_where (zSPN σ 0 h b t k) (nI b) (nI t) (nI k) (nI w) = if nI w = 0 then some (g 9, sA (zSPN σ 0 h b t k) 11 0 g) else if nI w = 1 then some (g 10, sA (zSPN σ 0 h b t k) 11 0 g) else some (g 11, sA (zSPN σ 0 h b t k) 11 0 g) := by
        unfold fX12_where
        rw [p2', bd_s, if_neg (by decide), q1, bd_s, if_neg (by decide), g1, bd_s, gsA_s]
      have cl' := cl
      unfold fX11_where at cl'
      rcases w with _ | _ | _ | w
      · exact ⟨nI (prs 3 h b t k), _, _, by rw [cl', if_pos nI_0], by rw [ml, if_pos nI_0, g3], hI2⟩
      · by_cases z : prs 3 h b t k = 0
        · exact ⟨-4, _, _, by rw [cl', if_neg (by decide), if_pos (by rw [z]; rfl)], by rw [ml, if_neg (by decide), if_pos (by decide), g4, if_pos z], hI2⟩
        · exact ⟨nI (zLO 3 h b t k), _, _, by rw [cl', if_neg (by decide), if_neg (nI_ne0 (by omega) (by omega)), if_pos (by decide)]; exact congrArg (fun v => some (v, zSPN σ 0 h b t k)) e0, by rw [ml, if_neg (by decide), if_pos (by decide), g4, if_neg z], hI2⟩
      · by_cases z : prs 3 h b t k = 0
        · exact ⟨-4, _, _, by rw [cl', if_neg (by decide), if_pos (by rw [z]; rfl)], by rw [ml, if_neg (by decide), if_neg (by decide), g5, if_pos z], hI2⟩
        · exact ⟨nI (zSO 3 h t k), _, _, by rw [cl', if_neg (by decide), if_neg (nI_ne0 (by omega) (by omega)), if_neg (by decide)]; exact congrArg (fun v => some (v, zSPN σ 0 h b t k)) e3, by rw [ml, if_neg (by decide), if_neg (by decide), g5, if_neg z], hI2⟩
      · omega
    · exact ⟨-1, σ, σ, by rw [p1, bd_s, if_neg (by decide), q2]; rfl, by unfold fX12_where; rw [p2, bd_s, if_neg (by decide), show fX12_isIn σ a4 0 2 = some 0 from q1]; rfl, hI⟩
  · exact ⟨-1, σ, σ, by rw [p1]; rfl, by unfold fX12_where; rw [p2]; rfl, hI⟩
