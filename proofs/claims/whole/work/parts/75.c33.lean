theorem judgeL_m {τ : St} {h : Hg} (hM : RelM τ 0 h) (hO : OkH h) (hh : gI τ 11 0 4 = nI 3) {b t k T d e so n m : Nat} (hb : b < h 0 0) (ht : t < h 0 1) (hk : k < h 0 2) (hT : T ≤ 60) (hd : d < 8) (he : e < 8) (hs : so ≤ 2) (hn : n ≤ 100) (hm : m ≤ 100) (d8 : gI τ 8 d 2 = nI so) (d2 : gI τ 12 18 d = nI so) (d3 : gI τ 12 19 d = nI n) (e3 : gI τ 12 19 e = nI m) (to : Nat → Int32) (hto : ∀ i, i < n → gI τ 12 20 (100 * d + i) = to i) (fo : Nat → Nat) (hfo : ∀ i, i < m → fo i ≤ 60 ∧ gI τ 12 20 (100 * e + i) = nI (fo i)) : fX12_judge_L163 τ (nI T) (nI d) (nI e) (nI b) (nI t) (nI k) (some (-4)) FU (nI (h 4 b)) 0 = some (jdg h b t k T (lstS so) to fo m n 0 (h 4 b)) := by
  obtain ⟨-, ⟨-, b1⟩, b2, v48⟩ := hO.2.2.2.1 b hb
  have r1 : fX12_bladeOf τ (nI b) 1 = some (nI (h 2 b)) := at_bl hM hO (w := 1) hb (by omega)
  have r2 : fX12_bladeOf τ (nI b) 2 = some (nI (h 3 b)) := at_bl hM hO (w := 2) hb (by omega)
  refine loop_h (S := Nat) (fun p i s => fX12_judge_L163 τ (nI T) (nI d) (nI e) (nI b) (nI t) (nI k) (some (-4)) p (nI s) (nI i)) n (fun i s => s ≤ 48 ∧ jdg h b t k T (lstS so) to fo m (n - i) i s = jdg h b t k T (lstS so) to fo m n 0 (h 4 b)) (fun q => q = some (jdg h b t k T (lstS so) to fo m n 0 (h 4 b))) (fun p i v hi hI => ?_) n 0 (h 4 b) FU (by omega) (FU_gt (by omega)) ⟨v48, rfl⟩
  obtain ⟨i3, i4⟩ := hI
  show fX12_judge_L163B τ (nI T) (nI d) (nI e) (nI b) (nI t) (nI k) _ (fX12_judge_L163 τ (nI T) (nI d) (nI e) (nI b) (nI t) (nI k) _ p) (nI v) (nI i) = _ ∨ (i < n ∧ ∃ s', fX12_judge_L163B τ (nI T) (nI d) (nI e) (nI b) (nI t) (nI k) _ (fX12_judge_L163 τ (nI T) (nI d) (nI e) (nI b) (nI t) (nI k) _ p) (nI v) (nI i) = _ ∧ _)
  unfold fX12_judge_L163B
  rw [ck_t (in8 hd), ck_t (in8 he), nI_clamp (by omega), nI_clamp (by omega), d3, e3]
  by_cases en : i = n
  · subst en
    rw [if_pos (nI_le (Nat.le_refl _) (by omega)), ← i4, Nat.sub_self]
    exact Or.inl rfl
  · have hin : i < n := by omega
    obtain ⟨q, hq⟩ : ∃ q, n - i = q + 1 := ⟨n - i - 1, by omega⟩
    have hq2 : n - (i + 1) = q := by omega
    rw [hq] at i4
    rw [if_neg (nI_ge hin (by omega)), cell_ix, ck_t (in800 hd (by omega)), ck_t (in8 hd), nI_clamp (by omega), d2, (least_cm hs d8).2, bd_s, hto i hin]
    have J368 : ∀ z : Nat, fX12_judge_J368 (nI i) (fX12_judge_L163 τ (nI T) (nI d) (nI e) (nI b) (nI t) (nI k) (some (-4)) p) (nI z) = fX12_judge_L163 τ (nI T) (nI d) (nI e) (nI b) (nI t) (nI k) (some (-4)) p (nI z) (nI (i + 1)) := by
      intro z
      unfold fX12_judge_J368
      rw [nmv_s, nI_1]
    by_cases c : i < m
    · obtain ⟨f60, fe⟩ := hfo i c
      have J321 : ∀ (D w : Nat), fX12_judge_J321 τ (nI d) (nI v) (nI i) (fX12_judge_L163 τ (nI T) (nI d) (nI e) (nI b) (nI t) (nI k) (some (-4)) p) (nI D) (nI w) = if to i = lstS so then fX12_judge_L163 τ (nI T) (nI d) (nI e) (nI b) (nI t) (nI k) (some (-4)) p (nI (v + w)) (nI (i + 1)) else if to i = nI D then fX12_judge_L163 τ (nI T) (nI d) (nI e) (nI b) (nI t) (nI k) (some (-4)) p (nI (v + w)) (nI (i + 1)) else some (nI i) := by
        intro D w
        unfold fX12_judge_J321
        rw [nI_add, nmv_s, cell_ix, ck_t (in800 hd (by omega)), ck_t (in8 hd), nI_clamp (by omega), nI_clamp (by omega), d2, (least_cm hs d8).2, bd_s, hto i hin, ck_t (in800 hd (by omega)), J368]
      rw [if_pos (nI_lt c (by omega))]
      unfold fX12_judge_J213
      rw [ck_t (in8 he), nI_clamp (by omega), e3, if_pos (nI_lt c (by omega)), cell_ix, ck_t (in800 he (by omega)), nI_clamp (by omega), fe, nmv_s, r1, bd_s, r2, bd_s, nI_add]
      have fin : ∃ w, fX12_judge_J300 τ (nI d) (nI k) (nI v) (nI i) (fX12_judge_L163 τ (nI T) (nI d) (nI e) (nI b) (nI t) (nI k) (some (-4)) p) (nI (fo i)) (if h 2 b + h 3 b < v then 1 else 0) (nI (didN h b t k T v (fo i))) = fX12_judge_J321 τ (nI d) (nI v) (nI i) (fX12_judge_L163 τ (nI T) (nI d) (nI e) (nI b) (nI t) (nI k) (some (-4)) p) (nI (didN h b t k T v (fo i))) (nI w) ∧ v + w = aftN h b k v (fo i) := by
        unfold fX12_judge_J300 aftN
        by_cases gone : h 2 b + h 3 b < v
        · refine ⟨0, ?_, by rw [if_pos gone]; omega⟩
          rw [if_pos gone, if_neg (by decide)]
          rfl
        · refine ⟨wsp (h 7 k) (h 8 k) (fo i), ?_, by rw [if_neg gone]⟩
          rw [if_neg gone, if_pos rfl, wear_m hM hO hk f60, bd_s]
      obtain ⟨w, w1, w2⟩ := fin
      have all : (if nI v ≤ nI (h 2 b + h 3 b) then fX12_judge_J268 τ (nI T) (nI d) (nI b) (nI t) (nI k) (nI v) (nI i) (fX12_judge_L163 τ (nI T) (nI d) (nI e) (nI b) (nI t) (nI k) (some (-4)) p) (nI (fo i)) 0 else fX12_judge_J268 τ (nI T) (nI d) (nI b) (nI t) (nI k) (nI v) (nI i) (fX12_judge_L163 τ (nI T) (nI d) (nI e) (nI b) (nI t) (nI k) (some (-4)) p) (nI (fo i)) 1) = fX12_judge_J321 τ (nI d) (nI v) (nI i) (fX12_judge_L163 τ (nI T) (nI d) (nI e) (nI b) (nI t) (nI k) (some (-4)) p) (nI (didN h b t k T v (fo i))) (nI w) := by
        rw [← w1]
        unfold fX12_judge_J268
        by_cases gone : h 2 b + h 3 b < v
        · rw [if_neg (nI_ge gone (by omega)), if_neg (by decide), if_pos gone]
          rw [show didN h b t k T v (fo i) = 2 from if_pos gone]
          rfl
        · rw [if_pos (nI_le (by omega) (by omega)), if_pos rfl, if_neg gone, show didN h b t k T v (fo i) = sndN h b t k T (fo i) from if_neg gone, sndN_m hM hO hh hb ht hk hT f60, bd_s]
          rcases sndN_01 h b t k T (fo i) with z | z
          · rw [z, if_pos nI_0]
            rfl
          · rw [z, if_neg (by decide)]
            rfl
      have a48 := aftN_le hO hb hk f60 i3
      rw [all, J321, w2, hq2, ← i4, show jdg h b t k T (lstS so) to fo m (q + 1) i v = (if to i = lstS so then jdg h b t k T (lstS so) to fo m q (i + 1) (aftN h b k v (fo i)) else if to i = nI (didN h b t k T v (fo i)) then jdg h b t k T (lstS so) to fo m q (i + 1) (aftN h b k v (fo i)) else nI i) from if_pos c]
      by_cases c1 : to i = lstS so
      · rw [if_pos c1, if_pos c1]
        exact Or.inr ⟨hin, aftN h b k v (fo i), rfl, a48, rfl⟩
      · rw [if_neg c1, if_neg c1]
        by_cases c2 : to i = nI (didN h b t k T v (fo i))
        · rw [if_pos c2, if_pos c2]
          exact Or.inr ⟨hin, aftN h b k v (fo i), rfl, a48, rfl⟩
        · rw [if_neg c2, if_neg c2]
          exact Or.inl rfl
    · rw [if_neg (nI_nlt (by omega) (by omega)), J368, hq2, ← i4, show jdg h b t k T (lstS so) to fo m (q + 1) i v = (if to i = lstS so then jdg h b t k T (lstS so) to fo m q (i + 1) v else nI i) from if_neg c]
      by_cases c1 : to i = lstS so
      · rw [if_pos c1, if_pos c1]
        exact Or.inr ⟨hin, v, rfl, i3, rfl⟩
      · rw [if_neg c1, if_neg c1]
        unfold fX12_judge_J213
        rw [ck_t (in8 he), nI_clamp (by omega), e3, if_neg (nI_nlt (by omega) (by omega))]
        exact Or.inl rfl
/-- the forces told: all of them forces, or refused, on both sides -/
theorem judgeF_c {σ : St} {e m : Nat} (he : e < 8) (hm : m ≤ 100) (e3 : gI σ 8 e 3 = nI m) (K : St → Option (Int32 × St)) : ((∀ i, i < m → ∃ f, f ≤ 60 ∧ gI σ 9 e i = nI f) ∧ fX11_judge_L82 (nI e) K FU 0 σ = K σ) ∨ ((∃ i, i < m ∧ ∀ f, f ≤ 60 → gI σ 9 e i ≠ nI f) ∧ fX11_judge_L82 (nI e) K FU 0 σ = some (-13, σ)) := by
  refine loop_h (S := Unit) (fun p i s => fX11_judge_L82 (nI e) K p (nI i) σ) m (fun i s => ∀ j, j < i → ∃ f, f ≤ 60 ∧ gI σ 9 e j = nI f) (fun q => ((∀ i, i < m → ∃ f, f ≤ 60 ∧ gI σ 9 e i = nI f) ∧ q = K σ) ∨ ((∃ i, i < m ∧ ∀ f, f ≤ 60 → gI σ 9 e i ≠ nI f) ∧ q = some (-13, σ))) (fun p i s hi hI => ?_) m 0 () FU (by omega) (FU_gt (by omega)) (fun j hj => absurd hj (Nat.not_lt_zero j))
  show ((_ ∧ fX11_judge_L82B (nI e) K (fX11_judge_L82 (nI e) K p) (nI i) σ = _) ∨ (_ ∧ fX11_judge_L82B (nI e) K (fX11_judge_L82 (nI e) K p) (nI i) σ = _)) ∨ (i < m ∧ ∃ s', fX11_judge_L82B (nI e) K (fX11_judge_L82 (nI e) K p) (nI i) σ = _ ∧ _)
  unfold fX11_judge_L82B
  rw [nI_clamp (by omega), e3]
  by_cases en : i = m
  · subst en
    rw [if_pos (nI_le (Nat.le_refl _) (by omega))]
    exact Or.inl (Or.inl ⟨hI, rfl⟩)
  · rw [if_neg (nI_ge (by omega) (by omega)), ck_t (pk_in i 100 (by omega) rfl (by omega)), nI_clamp (by omega)]
    rcases force_s (σ := σ) (τ := σ) (gI σ 9 e i) with ⟨f, hf, ef, q1, q2⟩ | ⟨hne, q1, q2⟩
    · rw [q2, bd_s, if_pos rfl, nmv_s, nI_1]
      refine Or.inr ⟨by omega, (), rfl, fun j hj => ?_⟩
      by_cases e2 : j = i
      · subst e2; exact ⟨f, hf, ef⟩
      · exact hI j (by omega)
    · rw [q2, bd_s, if_neg (by decide)]
      exact Or.inl (Or.inr ⟨⟨i, by omega, hne⟩, rfl⟩)
theorem judgeF_m {σ : St} {e m : Nat} (he : e < 8) (hm : m ≤ 100) (e3 : gI σ 12 19 e = nI m) (K : Option Int32) : ((∀ i, i < m → ∃ f, f ≤ 60 ∧ gI σ 12 20 (100 * e + i) = nI f) ∧ fX12_judge_L111 σ (nI e) K FU 0 = K) ∨ ((∃ i, i < m ∧ ∀ f, f ≤ 60 → gI σ 12 20 (100 * e + i) ≠ nI f) ∧ fX12_judge_L111 σ (nI e) K FU 0 = some (-13)) := by
  refine loop_h (S := Unit) (fun p i s => fX12_judge_L111 σ (nI e) K p (nI i)) m (fun i s => ∀ j, j < i → ∃ f, f ≤ 60 ∧ gI σ 12 20 (100 * e + j) = nI f) (fun q => ((∀ i, i < m → ∃ f, f ≤ 60 ∧ gI σ 12 20 (100 * e + i) = nI f) ∧ q = K) ∨ ((∃ i, i < m ∧ ∀ f, f ≤ 60 → gI σ 12 20 (100 * e + i) ≠ nI f) ∧ q = some (-13))) (fun p i s hi hI => ?_) m 0 () FU (by omega) (FU_gt (by omega)) (fun j hj => absurd hj (Nat.not_lt_zero j))
  show ((_ ∧ fX12_judge_L111B σ (nI e) K (fX12_judge_L111 σ (nI e) K p) (nI i) = _) ∨ (_ ∧ fX12_judge_L111B σ (nI e) K (fX12_judge_L111 σ (nI e) K p) (nI i) = _)) ∨ (i < m ∧ ∃ s', fX12_judge_L111B σ (nI e) K (fX12_judge_L111 σ (nI e) K p) (nI i) = _ ∧ _)
  unfold fX12_judge_L111B
  rw [ck_t (in8 he), nI_clamp (by omega), e3]
  by_cases en : i = m
  · subst en
    rw [if_pos (nI_le (Nat.le_refl _) (by omega))]
    exact Or.inl (Or.inl ⟨hI, rfl⟩)
  · rw [if_neg (nI_ge (by omega) (by omega)), cell_ix, ck_t (in800 he (by omega)), nI_clamp (by omega)]
    rcases force_s (σ := σ) (τ := σ) (gI σ 12 20 (100 * e + i)) with ⟨f, hf, ef, q1, q2⟩ | ⟨hne, q1, q2⟩
    · rw [q1, bd_s, if_neg (by decide), nmv_s, nI_1]
      refine Or.inr ⟨by omega, (), rfl, fun j hj => ?_⟩
      by_cases e2 : j = i
      · subst e2; exact ⟨f, hf, ef⟩
      · exact hI j (by omega)
    · rw [q1, bd_s, if_pos rfl]
      exact Or.inl (Or.inr ⟨⟨i, by omega, hne⟩, rfl⟩)
theorem Sp2_isShelf {σ τ : St} {v : Int32} : fX12_isShelf τ v = fX12_isShelf σ v := rfl
/-- judge -/
theorem case33 : Case33 Inv := by
  intro σ hI a1 a2 a3 a4
  obtain ⟨⟨h, hO, hC, hM⟩, ⟨h1', O1, C1, M1⟩, I3, I4, I5, I6, I7, I8⟩ := id hI
  unfold fX11_judge
  simp only [nmv_s]
  by_cases c0 : a1 < 0
  · exact ⟨-1, σ, by rw [if_pos c0], by unfold fX12_judge; simp only [nmv_s]; rw [if_pos c0], hI⟩
  rw [if_neg c0]
  have ml : ∀ τ, fX12_judge τ a1 a2 a3 a4 = bd (fX12_areAll τ (a1 / 100) (a1 / 10 - a1 / 10 / 10 * 10) (a1 - a1 / 10 * 10)) fun r5 => if r5 = 0 then some (-1) else bd (fX12_isForce τ a2) fun r7 => if r7 = 0 then some (-1) else (bd (fX12_isShelf τ a3) fun r9 =>
    if r9 = 0 then
    some (-1)
    else
    bd (fX12_isShelf τ a4) fun r11 =>
    if r11 = 0 then
    some (-1)
    else
    ck (vp_in a3 8) <|
    if (gI τ 12 15 a3.toNatClampNeg) = 0 then
    some (-11)
    else
    ck (vp_in a4 8) <|
    if (gI τ 12 15 a4.toNatClampNeg) = 0 then
    some (-11)
    else
    ck (vp_in a3 8) <|
    if (gI τ 12 15 a3.toNatClampNeg) = 2 then
    ck (vp_in a4 8) <|
    if (gI τ 12 15 a4.toNatClampNeg) = 2 then
    (fX12_judge_L111 τ a4 (bd (fX12_bladeOf τ (a1 / 100) 3) fun r28 => fX12_judge_L163 τ a2 a3 a4 (a1 / 100) (a1 / 10 - a1 / 10 / 10 * 10) (a1 - a1 / 10 * 10) (some (-4)) FU r28 0) FU 0)
    else
    some (-12)
    else
    some (-12)) := fun τ => by
      unfold fX12_judge
      simp only [nmv_s]
      rw [if_neg c0]
  rcases all_s hC hM hO (a1 / 100) (a1 / 10 - a1 / 10 / 10 * 10) (a1 - a1 / 10 * 10) with ⟨b, t, k, hb, ht, hk, e1, e2, e3, p1, p2⟩ | ⟨p1, p2⟩
  rotate_left
  · exact ⟨-1, σ, by rw [p1]; rfl, by rw [ml, p2]; rfl, hI⟩
  rw [e1, e2, e3] at ml p1 p2 ⊢
  rw [p1, bd_s, if_neg (by decide)]
  rcases force_s (σ := σ) (τ := σ) a2 with ⟨T, hT, rfl, q1, q2⟩ | ⟨-, q1, q2⟩
  rotate_left
  · exact ⟨-1, σ, by rw [q2]; rfl, by rw [ml, p2, bd_s, if_neg (by decide), q1]; rfl, hI⟩
  rw [q2, bd_s, if_pos rfl]
  rcases rows2_s I8 a3 a4 with ⟨r, r0, r1, r2⟩ | ⟨d, e, so, n, to, m, rfl, rfl, ⟨hd, D0, D1, D2, D3, D4, D5, D6, D7⟩, ⟨he, E0, E1, E2, E3, E4, E5, E6, E7⟩, r1, s1, s2⟩
  · exact ⟨r, σ, by rw [r1, bd_s, if_neg r0], by rw [ml, p2, bd_s, if_neg (by decide), q1, bd_s, if_neg (by decide)]; exact r2 _, hI⟩
  rw [r1, bd_s, if_pos (by decide), ck_t (in8 he)]
  have ml2 : ∀ τ, Sp2 σ τ → fX12_judge τ a1 (nI T) (nI d) (nI e) = fX12_judge_L111 τ (nI e) (bd (fX12_bladeOf τ (nI b) 3) fun r28 => fX12_judge_L163 τ (nI T) (nI d) (nI e) (nI b) (nI t) (nI k) (some (-4)) FU r28 0) FU 0 := fun τ hs => by
    have e12 : gI τ 12 = gI σ 12 := by
      funext c
      exact hs.1 12 c (by omega)
    have a : fX12_areAll τ (nI b) (nI t) (nI k) = some 1 := by
      unfold fX12_areAll fX12_isBlade fX12_isThumbs fX12_isBlow at p2 ⊢
      rw [e12]
      exact p2
    rw [ml, a, bd_s, if_neg (by decide), show fX12_isForce τ (nI T) = some 1 from q1, bd_s, if_neg (by decide), show fX12_isShelf τ (nI d) = some 1 from s1, bd_s, if_neg (by decide), show fX12_isShelf τ (nI e) = some 1 from s2, bd_s, if_neg (by decide), e12, ck_t (in8 hd), nI_clamp (by omega), D0, if_neg (by decide), ck_t (in8 he), nI_clamp (by omega), E0, if_neg (by decide), ck_t (in8 hd), if_pos rfl, ck_t (in8 he), if_pos rfl]
  rcases judgeF_c (σ := σ) he E2 E5 (fun σ19 => ck (vp_in (nI d) 8) <| bd (fX11_firstNotSo σ19 (nI b) (nI t) (nI k) (nI T) (nI d).toNatClampNeg (nI e).toNatClampNeg) fun r21 => some (r21.1, r21.2)) with ⟨f1, f2⟩ | ⟨⟨i, hi, f1⟩, f2⟩
  · rw [f2, ck_t (in8 hd), nI_clamp (by omega), nI_clamp (by omega)]
    have hfo : ∀ i, i < m → (gI σ 9 e i).toNatClampNeg ≤ 60 ∧ gI σ 9 e i = nI ((gI σ 9 e i).toNatClampNeg) := fun i hi => by
      obtain ⟨f, hf, ef⟩ := f1 i hi
      rw [ef, nI_clamp (by omega)]
      exact ⟨hf, rfl⟩
    obtain ⟨τ0, t1, t2, t3⟩ := become2 hC hO I6 I7
    obtain ⟨τ, u1, u2⟩ := judgeL_c (T := T) hO hb ht hk hT D1 D2 E2 D3 D5 E5 (fun i => (gI σ 9 e i).toNatClampNeg) hfo t2 t3
    have e12 : ∀ r j, gI τ 12 r j = gI σ 12 r j := fun r j => congrFun (u2.1 12 r (by omega)) j
    refine ⟨jdg h b t k T (lstS so) (gI σ 9 d) (fun i => (gI σ 9 e i).toNatClampNeg) m n 0 (h 4 b), τ, ?_, ?_, Sp2_inv u2 hI⟩
    · unfold fX11_firstNotSo
      rw [t1, bd_s, u1]
      rfl
    · rw [ml2 τ u2]
      rcases judgeF_m (σ := τ) he E2 ((e12 19 e).trans E6) (bd (fX12_bladeOf τ (nI b) 3) fun r28 => fX12_judge_L163 τ (nI T) (nI d) (nI e) (nI b) (nI t) (nI k) (some (-4)) FU r28 0) with ⟨g1, g2⟩ | ⟨⟨i, hi, g1⟩, g2⟩
      · rw [g2, show fX12_bladeOf τ (nI b) 3 = some (nI (h 4 b)) from at_bl (Sp2_relM u2 hM hO) hO (w := 3) hb (by omega), bd_s]
        exact judgeL_m (Sp2_relM u2 hM hO) hO ((congrFun (u2.1 11 0 (by omega)) 4).trans I4) hb ht hk hT hd he D1 D2 E2 ((congrFun (u2.1 8 d (by omega)) 2).trans D3) ((e12 18 d).trans D4) ((e12 19 d).trans D6) ((e12 19 e).trans E6) (gI σ 9 d) (fun i hi => (e12 20 _).trans (D7 i hi).symm) (fun i => (gI σ 9 e i).toNatClampNeg) (fun i hi => ⟨(hfo i hi).1, ((e12 20 _).trans (E7 i hi).symm).trans (hfo i hi).2⟩)
      · obtain ⟨f, hf, ef⟩ := f1 i hi
        exact absurd (((e12 20 _).trans (E7 i hi).symm).trans ef) (g1 f hf)
  · rw [f2]
    refine ⟨-13, σ, rfl, ?_, hI⟩
    rw [ml2 σ (Sp2_refl I6)]
    rcases judgeF_m (σ := σ) he E2 E6 (bd (fX12_bladeOf σ (nI b) 3) fun r28 => fX12_judge_L163 σ (nI T) (nI d) (nI e) (nI b) (nI t) (nI k) (some (-4)) FU r28 0) with ⟨g1, g2⟩ | ⟨⟨i, hi, g1⟩, g2⟩
    · obtain ⟨f, hf, ef⟩ := g1 i hi
      exact absurd ((E7 i hi).trans ef) (f1 f hf)
    · exact g2
