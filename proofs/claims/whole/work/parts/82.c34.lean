theorem relM_seed {τ : St} {r : Nat} {h : Hg} (hM : RelM τ r h) {v : Int32} : RelM (sI τ 11 0 14 v) r h := hM
theorem relM_we2 {τ : St} {h : Hg} (hM : RelM τ 2 h) {j : Nat} {v : Int32} : RelM (sI τ 12 0 j v) 2 h := hM
theorem fin_m {R : Type} (L : Int32 → R) (x : Nat) {s w : Nat} (hs : s = 0 ∨ s = 1) (hw : w = 0 ∨ w = 1) : (if nI (s + 2 * w) ≤ 0 then L (nI x + 0) else if nI (s + 2 * w) - nI (s + 2 * w) / 2 * 2 = 1 then L (nI x + 1) else L (nI x + 0)) = L (nI (x + s)) := by
  have e0 : nI x + 0 = nI (x + 0) := nI_add x 0
  have e1 : nI x + 1 = nI (x + 1) := nI_add x 1
  rw [e0, e1]
  rcases hs with u | u <;> rcases hw with w' | w' <;> subst u <;> subst w'
  · rw [if_pos (by decide)]
  · rw [if_neg (by decide), if_neg (by decide)]
  · rw [if_neg (by decide), if_pos (by decide)]
  · rw [if_neg (by decide), if_pos (by decide)]
/-- the five draws of a try -/
theorem five_m {s : St} {h p : Hg} (hw : OkW h p) (hM : RelM s 0 p) {α : Type} (G : Int32 → Int32 → Int32 → Int32 → Int32 → St → Option α) : (ck (vp_in 0 47) <|
  bd (fX12_drawn s (gI s 12 0 (0 : Int32).toNatClampNeg)) fun r24 =>
  ck (vp_in 1 47) <|
  bd (fX12_drawn r24.2 (gI r24.2 12 0 (1 : Int32).toNatClampNeg)) fun r26 =>
  ck (vp_in 2 47) <|
  bd (fX12_drawn r26.2 (gI r26.2 12 0 (2 : Int32).toNatClampNeg)) fun r28 =>
  bd (fX12_drawn r28.2 61) fun r29 =>
  bd (fX12_drawn r29.2 61) fun r30 =>
  G r24.1 r26.1 r28.1 r29.1 r30.1 r30.2) = G (nI (trB (gI s 11 0 14) p)) (nI (trT (gI s 11 0 14) p)) (nI (trK (gI s 11 0 14) p)) (nI (trV (gI s 11 0 14))) (nI (trF (gI s 11 0 14))) (sI s 11 0 14 (nx (nx (nx (nx (nx (gI s 11 0 14))))))) := by
  obtain ⟨hO, e1, e2, e3, h1, h2, h3⟩ := hw
  have p6 := hO.1
  have p4 := hO.2.1
  have p2 := hO.2.2.1
  have k0 : vp_in 0 47 := in47 (k := 0) (by omega)
  have k1 : vp_in 1 47 := in47 (k := 1) (by omega)
  have k2 : vp_in 2 47 := in47 (k := 2) (by omega)
  have rt : ∀ v : Int32, gI (sI s 11 0 14 v) 12 0 (1 : Int32).toNatClampNeg = nI (p 0 1) := fun v => (relM_seed hM).2.1
  have rk : ∀ v : Int32, gI (sI s 11 0 14 v) 12 0 (2 : Int32).toNatClampNeg = nI (p 0 2) := fun v => (relM_seed hM).2.2.1
  have sd : ∀ v : Int32, gI (sI s 11 0 14 v) 11 0 14 = v := fun v => by rw [gsI_s, pk_us]
  have d61 : ∀ τ : St, fX12_drawn τ 61 = some (nI (vN (nx (gI τ 11 0 14)) % 61), sI τ 11 0 14 (nx (gI τ 11 0 14))) := fun τ => drawn_m (n := 61) (by omega) (by omega)
  rw [ck_t k0, show gI s 12 0 (0 : Int32).toNatClampNeg = nI (p 0 0) from hM.1, drawn_m h1 (by omega), bd_s, ck_t k1]
  dsimp only
  rw [rt, drawn_m h2 (by omega), bd_s, sd, sI_sI, ck_t k2]
  dsimp only
  rw [rk, drawn_m h3 (by omega), bd_s, sd, sI_sI]
  dsimp only
  rw [d61, bd_s, sd, sI_sI]
  dsimp only
  rw [d61, bd_s, sd, sI_sI]
  rfl
theorem walk_m {τ υ0 : St} (hS0 : M3 τ υ0) (hh : gI τ 11 0 4 = nI 3) {h : Hg} (hw : OkW h h) (hM0 : RelM υ0 0 h) (hM2 : RelM υ0 2 h) (K : Int32 → St → Option (Int32 × St)) (x : Nat) : ∃ υ, fX12_walks_L96 K FU (nI x) 0 υ0 = K (nI (x + (wkS (gI υ0 11 0 14) h 10).2.2)) υ ∧ M3 τ υ ∧ RelM υ 0 (wkS (gI υ0 11 0 14) h 10).2.1 ∧ RelM υ 2 h ∧ gI υ 11 0 14 = (wkS (gI υ0 11 0 14) h 10).1 := by
  have o6 := hw.1.1
  have o4 := hw.1.2.1
  have o2 := hw.1.2.2.1
  have k0 : vp_in 0 47 := in47 (k := 0) (by omega)
  have k1 : vp_in 1 47 := in47 (k := 1) (by omega)
  have k2 : vp_in 2 47 := in47 (k := 2) (by omega)
  refine loop_h (S := St) (fun n i s => fX12_walks_L96 K n (nI (x + (wkS (gI υ0 11 0 14) h i).2.2)) (nI i) s) 10 (fun i s => M3 τ s ∧ RelM s 0 (wkS (gI υ0 11 0 14) h i).2.1 ∧ RelM s 2 h ∧ gI s 11 0 14 = (wkS (gI υ0 11 0 14) h i).1) (fun q => ∃ υ, q = K (nI (x + (wkS (gI υ0 11 0 14) h 10).2.2)) υ ∧ M3 τ υ ∧ RelM υ 0 (wkS (gI υ0 11 0 14) h 10).2.1 ∧ RelM υ 2 h ∧ gI υ 11 0 14 = (wkS (gI υ0 11 0 14) h 10).1) (fun n i s hi hI => ?_) 10 0 υ0 FU (by omega) (FU_gt (by omega)) ⟨hS0, hM0, hM2, rfl⟩
  obtain ⟨i1, i2, i4, i3⟩ := hI
  show (∃ τ', fX12_walks_L96B K (fX12_walks_L96 K n) (nI (x + (wkS (gI υ0 11 0 14) h i).2.2)) (nI i) s = _ ∧ _) ∨ (i < 10 ∧ ∃ s', fX12_walks_L96B K (fX12_walks_L96 K n) (nI (x + (wkS (gI υ0 11 0 14) h i).2.2)) (nI i) s = _ ∧ _)
  unfold fX12_walks_L96B fX12_walks_J186 fX12_walks_J187
  by_cases e : i = 10
  · subst e
    rw [if_pos (by decide)]
    exact Or.inl ⟨s, rfl, i1, i2, i4, i3⟩
  · have hwi := wkS_ok hw (gI υ0 11 0 14) i
    have eS : ∀ (a : Int32) (p : Hg) (c : Nat), wkS (gI υ0 11 0 14) h i = (a, p, c) → wkS (gI υ0 11 0 14) h (i + 1) = (nx (nx (nx (nx (nx a)))), trH a p, c + trN a p) := fun a p c q => by
      show (nx (nx (nx (nx (nx (wkS (gI υ0 11 0 14) h i).1)))), trH (wkS (gI υ0 11 0 14) h i).1 (wkS (gI υ0 11 0 14) h i).2.1, (wkS (gI υ0 11 0 14) h i).2.2 + trN (wkS (gI υ0 11 0 14) h i).1 (wkS (gI υ0 11 0 14) h i).2.1) = _
      rw [q]
    rcases hq : wkS (gI υ0 11 0 14) h i with ⟨a, p, c⟩
    rw [hq] at i2 i3 hwi
    have eS2 := eS a p c hq
    dsimp only at i2 i3 hwi
    obtain ⟨l1, l2, l3, l4, l5⟩ := tr_lt hwi a
    obtain ⟨hO, e1, e2, e3, h1, h2, h3⟩ := id hwi
    have hM5 : RelM (sI s 11 0 14 (nx (nx (nx (nx (nx (gI s 11 0 14))))))) 0 p := relM_seed i2
    have hM52 : RelM (sI s 11 0 14 (nx (nx (nx (nx (nx (gI s 11 0 14))))))) 2 h := relM_seed i4
    have i15 : M3 τ (sI s 11 0 14 (nx (nx (nx (nx (nx (gI s 11 0 14))))))) := M3_seed i1
    have hh5 : gI (sI s 11 0 14 (nx (nx (nx (nx (nx (gI s 11 0 14))))))) 11 0 4 = nI 3 := (i15.2.1 4 (by omega)).trans hh
    have s5 : gI (sI s 11 0 14 (nx (nx (nx (nx (nx (gI s 11 0 14))))))) 11 0 14 = nx (nx (nx (nx (nx (gI s 11 0 14))))) := by rw [gsI_s, pk_us]
    have fv := five_m (α := Int32 × St) hwi i2 (fun b t k v f σ30 => bd (fX12_tries σ30 b t k v f) fun r31 =>
      if r31.1 ≤ 0 then
      fX12_walks_J187 (nI (x + c)) (nI i) (fX12_walks_L96 K n) 0 r31.2
      else
      if (r31.1 - r31.1 / 2 * 2) = 1 then
      fX12_walks_J187 (nI (x + c)) (nI i) (fX12_walks_L96 K n) 1 r31.2
      else
      fX12_walks_J187 (nI (x + c)) (nI i) (fX12_walks_L96 K n) 0 r31.2)
    rw [if_neg (show ¬ (10 : Int32) ≤ nI i from nI_ge (b := 10) (by omega) (by omega))]
    refine Or.inr ⟨by omega, ?_⟩
    suffices hz : ∃ s2, (bd (fX12_tries (sI s 11 0 14 (nx (nx (nx (nx (nx (gI s 11 0 14))))))) (nI (trB (gI s 11 0 14) p)) (nI (trT (gI s 11 0 14) p)) (nI (trK (gI s 11 0 14) p)) (nI (trV (gI s 11 0 14))) (nI (trF (gI s 11 0 14)))) fun r31 =>
      if r31.1 ≤ 0 then
      fX12_walks_J187 (nI (x + c)) (nI i) (fX12_walks_L96 K n) 0 r31.2
      else
      if (r31.1 - r31.1 / 2 * 2) = 1 then
      fX12_walks_J187 (nI (x + c)) (nI i) (fX12_walks_L96 K n) 1 r31.2
      else
      fX12_walks_J187 (nI (x + c)) (nI i) (fX12_walks_L96 K n) 0 r31.2) = fX12_walks_L96 K n (nI (x + (c + trN a p))) (nI (i + 1)) s2 ∧ M3 τ s2 ∧ RelM s2 0 (trH a p) ∧ RelM s2 2 h ∧ gI s2 11 0 14 = nx (nx (nx (nx (nx a)))) by
      obtain ⟨s2, z1, z2, z3, z4, z5⟩ := hz
      refine ⟨s2, ?_, z2, ?_, z4, ?_⟩
      · rw [eS2]
        exact fv.trans z1
      · rw [eS2]
        exact z3
      · rw [eS2]
        exact z5
    generalize sI s 11 0 14 (nx (nx (nx (nx (nx (gI s 11 0 14)))))) = s' at hM5 hM52 i15 hh5 s5 ⊢
    rw [i3] at s5 ⊢
    have tt := told_m hM5 hO l1 l2 l3 l4 l5
    have J : ∀ (z : Int32) (τ' : St), fX12_walks_J187 (nI (x + c)) (nI i) (fX12_walks_L96 K n) z τ' = fX12_walks_L96 K n (nI (x + c) + z) (nI (i + 1)) τ' := fun z τ' => by
      unfold fX12_walks_J187
      rw [nmv_s, nmv_s, nI_1]
    simp only [J]
    rcases splN_01 p (trB a p) with s0 | s0
    · have hs := spl_le s0
      rw [tries_m hM5 hO hh5 l1 l2 l3 l4 l5 tt hs, bd_s]
      dsimp only
      rw [fin_m (fun v => fX12_walks_L96 K n v (nI (i + 1)) (sI s' 12 0 (3 + 4 * trB a p + 3) (nI (p 4 (trB a p) + wsp (p 7 (trK a p)) (p 8 (trK a p)) (trF a))))) (x + c) (sndN_01 _ _ _ _ _ _) (splN_01 _ _)]
      refine ⟨sI s' 12 0 (3 + 4 * trB a p + 3) (nI (p 4 (trB a p) + wsp (p 7 (trK a p)) (p 8 (trK a p)) (trF a))), ?_, M3_row i15 (Or.inl rfl), ?_, relM_we2 hM52, ?_⟩
      · rw [show trN a p = sndN p (trB a p) (trT a p) (trK a p) (trV a) (trF a) from if_pos s0, Nat.add_assoc]
      · rw [show trH a p = weN p (trB a p) (wsp (p 7 (trK a p)) (p 8 (trK a p)) (trF a)) from if_pos s0]
        exact we_m hM5 hO l1
      · rw [gsI_n (by omega)]
        exact s5
    · have ts : fX12_tries s' (nI (trB a p)) (nI (trT a p)) (nI (trK a p)) (nI (trV a)) (nI (trF a)) = some (-3, s') := by
        unfold fX12_tries
        rw [tt, bd_s, if_neg (by decide), splN_m hM5 hO l1, s0, bd_s, if_neg (by decide)]
      rw [ts, bd_s]
      dsimp only
      rw [if_pos (by decide), show nI (x + c) + 0 = nI (x + c + 0) from nI_add _ 0]
      refine ⟨s', ?_, i15, ?_, hM52, s5⟩
      · rw [show trN a p = 0 from if_neg (by omega)]
        rfl
      · rw [show trH a p = p from if_neg (by omega)]
        exact hM5
theorem cntS_m {υ : St} {p : Hg} (hM : RelM υ 0 p) (hO : OkH p) (K : Int32 → St → Option (Int32 × St)) (y : Nat) : fX12_walks_L199 K FU (nI y) 0 υ = K (nI (y + sm (splN p) (p 0 0))) υ := by
  have o6 := hO.1
  have k0 : vp_in 0 47 := in47 (k := 0) (by omega)
  refine loop_h (S := Unit) (fun n i _ => fX12_walks_L199 K n (nI (y + sm (splN p) i)) (nI i) υ) (p 0 0) (fun i _ => True) (fun q => q = K (nI (y + sm (splN p) (p 0 0))) υ) (fun n i _ hi _ => ?_) (p 0 0) 0 () FU (by omega) (FU_gt (by omega)) trivial
  show fX12_walks_L199B K (fX12_walks_L199 K n) (nI (y + sm (splN p) i)) (nI i) υ = _ ∨ (i < p 0 0 ∧ ∃ s', fX12_walks_L199B K (fX12_walks_L199 K n) (nI (y + sm (splN p) i)) (nI i) υ = _ ∧ _)
  unfold fX12_walks_L199B fX12_walks_J226
  rw [ck_t k0, show gI υ 12 0 (0 : Int32).toNatClampNeg = nI (p 0 0) from hM.1]
  by_cases e : i = p 0 0
  · subst e
    rw [if_pos (nI_le (Nat.le_refl _) (by omega))]
    exact Or.inl rfl
  · have hb : i < p 0 0 := by omega
    rw [if_neg (nI_ge hb (by omega)), splN_m hM hO hb, bd_s, nmv_s, nmv_s, nmv_s, nmv_s, nI_1]
    refine Or.inr ⟨hb, (), ?_, trivial⟩
    show _ = fX12_walks_L199 K n (nI (y + (sm (splN p) i + splN p i))) (nI (i + 1)) υ
    rcases splN_01 p i with s0 | s0
    · rw [s0, if_pos nI_0, show nI (y + sm (splN p) i) + 0 = nI (y + sm (splN p) i + 0) from nI_add _ 0]
      rfl
    · rw [s0, if_neg (by decide), nI_1]
      rfl
theorem walksL_m {τ υ0 : St} (hS0 : M3 τ υ0) (hh : gI τ 11 0 4 = nI 3) {h : Hg} (hw : OkW h h) (hM2 : RelM υ0 2 h) {n : Nat} (hn : n ≤ 20) (K : Int32 → Int32 → St → Option (Int32 × St)) : ∃ υ, fX12_walks_L76 (nI n) K FU 0 0 0 υ0 = K (nI (wlS (gI υ0 11 0 14) h n).2.1) (nI (wlS (gI υ0 11 0 14) h n).2.2) υ ∧ M3 τ υ ∧ RelM υ 2 h := by
  refine loop_h (S := St) (fun m i s => fX12_walks_L76 (nI n) K m (nI (wlS (gI υ0 11 0 14) h i).2.1) (nI (wlS (gI υ0 11 0 14) h i).2.2) (nI i) s) n (fun i s => M3 τ s ∧ RelM s 2 h ∧ gI s 11 0 14 = (wlS (gI υ0 11 0 14) h i).1) (fun q => ∃ υ, q = K (nI (wlS (gI υ0 11 0 14) h n).2.1) (nI (wlS (gI υ0 11 0 14) h n).2.2) υ ∧ M3 τ υ ∧ RelM υ 2 h) (fun m i s hi hI => ?_) n 0 υ0 FU (by omega) (FU_gt (by omega)) ⟨hS0, hM2, rfl⟩
  obtain ⟨i1, i3, i2⟩ := hI
  show (∃ τ', fX12_walks_L76B (nI n) K (fX12_walks_L76 (nI n) K m) (nI (wlS (gI υ0 11 0 14) h i).2.1) (nI (wlS (gI υ0 11 0 14) h i).2.2) (nI i) s = _ ∧ _) ∨ (i < n ∧ ∃ s', fX12_walks_L76B (nI n) K (fX12_walks_L76 (nI n) K m) (nI (wlS (gI υ0 11 0 14) h i).2.1) (nI (wlS (gI υ0 11 0 14) h i).2.2) (nI i) s = _ ∧ _)
  unfold fX12_walks_L76B
  by_cases e : i = n
  · subst e
    rw [if_pos (nI_le (Nat.le_refl _) (by omega))]
    exact Or.inl ⟨s, rfl, i1, i3⟩
  · obtain ⟨f, p1, p2⟩ := copies_s (σ := s) (a1 := 2) (a2 := 0) (by decide)
    have hMs : RelM (sA s 12 0 f) 0 h := relM_row i3 hw.1 (fun j hj => by rw [gsA_s, p2 j hj])
    have hM2s : RelM (sA s 12 0 f) 2 h := i3
    obtain ⟨υ, u1, u2, u3, u4, u5⟩ := walk_m (M3_row (f := f) i1 (Or.inl rfl)) hh hw hMs hM2s (fun y39 σ40 => fX12_walks_L199 (fun y52 σ53 => nmv (nI i + 1) fun v54 => fX12_walks_L76 (nI n) K m y39 y52 v54 σ53) FU (nI (wlS (gI υ0 11 0 14) h i).2.2) 0 σ40) (wlS (gI υ0 11 0 14) h i).2.1
    have ex : gI (sA s 12 0 f) 11 0 14 = (wlS (gI υ0 11 0 14) h i).1 := i2
    rw [ex] at u1 u3 u5
    have ok := wkS_ok hw (wlS (gI υ0 11 0 14) h i).1 10
    rw [if_neg (nI_ge (by omega) (by omega)), p1, bd_s, u1, cntS_m u3 ok.1, nmv_s, nI_1, ok.2.1]
    exact Or.inr ⟨by omega, υ, rfl, u2, u4, u5⟩
/-- walks -/
theorem case34 : Case34 Inv := by
  intro σ hI a1 z a3
  obtain ⟨⟨h, hO, hC, hM⟩, ⟨h1', O1, C1, M1⟩, I3, I4, I5, I6, I7, I8⟩ := id hI
  have o6 := hO.1
  have o4 := hO.2.1
  have o2 := hO.2.2.1
  unfold fX11_walks
  rcases rng1_s (σ := σ) (τ := σ) (M := 20) (n := 20) a1 (by omega) rfl with ⟨n, hn1, hn, rfl, p1, p2⟩ | ⟨p1, p2⟩
  rotate_left
  · exact ⟨-1, σ, σ, by rw [p2]; rfl, by unfold fX12_walks; rw [p1]; rfl, hI⟩
  rcases rng_s (σ := σ) (τ := σ) (M := 1) (n := 1) a3 (by omega) rfl with ⟨w, hw, e3, q1, q2⟩ | ⟨-, q1, q2⟩
  rotate_left
  · exact ⟨-1, σ, σ, by rw [p2, q2]; rfl, by unfold fX12_walks; rw [p1, q1]; rfl, hI⟩
  have k0 : vp_in 0 47 := in47 (k := 0) (by omega)
  have k1 : vp_in 1 47 := in47 (k := 1) (by omega)
  have k2 : vp_in 2 47 := in47 (k := 2) (by omega)
  rw [p2, bd_s, if_pos rfl, q2, bd_s, if_pos rfl, hC.1, hC.2.1, hC.2.2.1]
  have ml : ∀ τ, fX12_isIn τ (nI n) 1 20 = some 1 → fX12_isIn τ a3 0 1 = some 1 → RelM τ 0 h → fX12_walks τ (nI n) z a3 = if nI (h 0 0) = 0 then some (-3, τ) else if nI (h 0 1) = 0 then some (-3, τ) else if nI (h 0 2) = 0 then some (-3, τ) else bd (fX12_copies (sI τ 11 0 14 z) 0 2) fun r12 => fX12_walks_L76 (nI n) (fun y55 y56 σ57 => bd (fX12_copies σ57 2 0) fun r58 => if a3 = 0 then some (y55, r58) else some (y56, r58)) FU 0 0 0 r12 := fun τ h1 h2 h3 => by
    unfold fX12_walks
    rw [h1, bd_s, if_neg (by decide), h2, bd_s, if_neg (by decide), ck_t k0, ck_t k1, ck_t k2, show gI τ 12 0 (0 : Int32).toNatClampNeg = nI (h 0 0) from h3.1, show gI τ 12 0 (1 : Int32).toNatClampNeg = nI (h 0 1) from h3.2.1, show gI τ 12 0 (2 : Int32).toNatClampNeg = nI (h 0 2) from h3.2.2.1]
    rfl
  by_cases z0 : h 0 0 = 0
  · exact ⟨-3, σ, σ, by rw [z0, if_pos nI_0], by rw [ml σ p1 q1 hM, z0, if_pos nI_0], hI⟩
  have n0 : ¬ nI (h 0 0) = 0 := nI_ne0 (by omega) (by omega)
  by_cases z1 : h 0 1 = 0
  · exact ⟨-3, σ, σ, by rw [if_neg n0, z1, if_pos nI_0], by rw [ml σ p1 q1 hM, if_neg n0, z1, if_pos nI_0], hI⟩
  have n1 : ¬ nI (h 0 1) = 0 := nI_ne0 (by omega) (by omega)
  by_cases z2 : h 0 2 = 0
  · exact ⟨-3, σ, σ, by rw [if_neg n0, if_neg n1, z2, if_pos nI_0], by rw [ml σ p1 q1 hM, if_neg n0, if_neg n1, z2, if_pos nI_0], hI⟩
  have n2 : ¬ nI (h 0 2) = 0 := nI_ne0 (by omega) (by omega)
  have hw' : OkW h h := ⟨hO, rfl, rfl, rfl, by omega, by omega, by omega⟩
  obtain ⟨τ, t1, t2⟩ := walksL_c (Sp3_seed (v := z) (Sp3_refl I6)) hw' hC I7 hn (fun y21 y22 σ23 => if a3 = 0 then some (y21, σ23) else some (y22, σ23))
  have ez : gI (sI σ 10 0 7 z) 10 0 7 = z := by rw [gsI_s, pk_us]
  rw [ez] at t1
  have hIτ := Sp3_inv t2 hI
  have hMτ := Sp3_relM t2 hM hO
  have hCτ := Sp3_relC t2 hC (by decide)
  obtain ⟨f, c1, c2⟩ := copies_s (σ := sI τ 11 0 14 z) (a1 := 0) (a2 := 2) (by decide)
  have hM2 : RelM (sA (sI τ 11 0 14 z) 12 2 f) 2 h := relM_row hMτ hO (fun j hj => by rw [gsA_s, c2 j hj]; rfl)
  have hh : gI τ 11 0 4 = nI 3 := by rw [t2.1 11 0 (by omega) (by omega)]; exact I4
  obtain ⟨υ, u1, u2, u3⟩ := walksL_m (M3_row (f := f) (M3_seed (v := z) (M3_refl (τ := τ))) (Or.inr rfl)) hh hw' hM2 hn (fun y55 y56 σ57 => bd (fX12_copies σ57 2 0) fun r58 => if a3 = 0 then some (y55, r58) else some (y56, r58))
  have ez2 : gI (sA (sI τ 11 0 14 z) 12 2 f) 11 0 14 = z := by rw [gsA_n (by omega), gsI_s, pk_us]
  rw [ez2] at u1
  obtain ⟨f2, d1, d2⟩ := copies_s (σ := υ) (a1 := 2) (a2 := 0) (by decide)
  have hMf : RelM (sA υ 12 0 f2) 0 h := relM_row u3 hO (fun j hj => by rw [gsA_s, d2 j hj])
  have hIf : Inv (sA υ 12 0 f2) := M3_inv (M3_row (f := f2) u2 (Or.inl rfl)) hIτ hO hCτ hMf
  have mm : fX12_walks τ (nI n) z a3 = if a3 = 0 then some (nI (wlS z h n).2.1, sA υ 12 0 f2) else some (nI (wlS z h n).2.2, sA υ 12 0 f2) := by
    rw [ml τ p1 q1 hMτ, if_neg n0, if_neg n1, if_neg n2, c1, bd_s, u1, d1, bd_s]
  rw [if_neg n0, if_neg n1, if_neg n2, nmv_s]
  by_cases c : a3 = 0
  · refine ⟨nI (wlS z h n).2.1, τ, sA υ 12 0 f2, ?_, by rw [mm, if_pos c], hIf⟩
    rw [t1, if_pos c]
  · refine ⟨nI (wlS z h n).2.2, τ, sA υ 12 0 f2, ?_, by rw [mm, if_neg c], hIf⟩
    rw [t1, if_neg c]
