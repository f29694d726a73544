/-- can the statement at a be done on h; the hedge after -/
def canD (h : Hg) (X : Nat → Nat) (a : Nat) : Prop := (X a = 98 ∧ (1 ≤ numN X (a + 1) 2 ∧ numN X (a + 1) 2 ≤ 24) ∧ (1 ≤ numN X (a + 3) 2 ∧ numN X (a + 3) 2 ≤ 24) ∧ h 0 0 < 6) ∨ (X a = 107 ∧ numN X (a + 1) 1 < 8 ∧ h 0 2 < 6) ∨ (X a = 116 ∧ numN X (a + 2) 2 ≤ 60 ∧ h 0 1 < 4) ∨ (X a = 121 ∧ numN X (a + 1) 1 < h 0 0 ∧ numN X (a + 2) 1 < h 0 1 ∧ numN X (a + 3) 1 < h 0 2 ∧ numN X (a + 4) 2 ≤ 60 ∧ numN X (a + 6) 2 ≤ 60 ∧ splN h (numN X (a + 1) 1) = 0)
def aftD (h : Hg) (X : Nat → Nat) (a : Nat) : Hg := if X a = 98 then addB h (numN X (a + 1) 2) (numN X (a + 3) 2) (numN X (a + 5) 1) else if X a = 107 then addK h (numN X (a + 1) 1) (numN X (a + 2) 1) else if X a = 116 then addT h (numN X (a + 1) 1) (numN X (a + 2) 2) else weN h (numN X (a + 1) 1) (wsp (h 7 (numN X (a + 3) 1)) (h 8 (numN X (a + 3) 1)) (numN X (a + 6) 2))
theorem num1 {X : Nat → Nat} {a : Nat} (h : dgt (X a)) : numN X a 1 = X a - 48 ∧ numN X a 1 ≤ 9 := by
  obtain ⟨h1, h2⟩ := h
  have e : numN X a 1 = 10 * 0 + (X (a + 0) - 48) := rfl
  rw [Nat.add_zero] at e
  rw [e]
  omega
theorem num2 {X : Nat → Nat} {a : Nat} (h : dgt (X a)) (h' : dgt (X (a + 1))) : numN X a 2 = 10 * (X a - 48) + (X (a + 1) - 48) ∧ numN X a 2 ≤ 99 := by
  obtain ⟨h1, h2⟩ := h
  obtain ⟨h3, h4⟩ := h'
  have e : numN X a 2 = 10 * (10 * 0 + (X (a + 0) - 48)) + (X (a + 1) - 48) := rfl
  rw [Nat.add_zero] at e
  rw [e]
  omega
theorem isOut_n {σ : St} {a b v : Nat} (ha : a < 1000) (hb : b < 1000) (hv : v < 1000) : fX11_isOut σ (nI v) (nI a) (nI b) = some (if a ≤ v ∧ v ≤ b then 0 else 1) := by
  unfold fX11_isOut
  by_cases h1 : a ≤ v
  · rw [if_neg (nI_nlt h1 (by omega))]
    by_cases h2 : v ≤ b
    · rw [if_pos (nI_le h2 (by omega)), if_pos ⟨h1, h2⟩]
    · rw [if_neg (nI_ge (by omega) (by omega)), if_neg (fun q => h2 q.2)]
  · rw [if_pos (nI_lt (by omega) (by omega)), if_neg (fun q => h1 q.1)]
/-- σ' is σ but for hedge 2 and blows made since -/
def Sp4 (σ σ' : St) : Prop := (∀ c i, ¬ (c ≤ 7 ∧ i = 2) → c ≠ 13 → c ≠ 14 → gI σ' c i = gI σ c i) ∧ (∀ c i, ¬ (c = 0 ∧ i = 2) → gR σ' c i = gR σ c i) ∧ gS σ 2 0 ≤ gS σ' 2 0 ∧ gS σ' 0 = gS σ 0 ∧ (∀ j kd fg, Bl σ j kd fg → Bl σ' j kd fg) ∧ RefsOk σ' ∧ ∀ j, j < gS σ' 2 0 → okc (gS σ' 1 j)
theorem Sp4_of2 {σ τ υ : St} (h1 : Sp4 σ τ) (h2 : Sp2 τ υ) : Sp4 σ υ := by
  obtain ⟨a1, a2, a3, a4, a5, a6, a7⟩ := h1
  refine ⟨fun c i q q2 q3 => (h2.1 c i q).trans (a1 c i q q2 q3), fun c i q => (h2.2.1 c i q).trans (a2 c i q), by rw [h2.2.2.1]; exact a3, by rw [h2.2.2.1]; exact a4, fun j kd fg q => ?_, h2.2.2.2, by rw [h2.2.2.1]; exact a7⟩
  exact bl_fr (a5 j kd fg q) (by rw [h2.2.2.1]) (by rw [h2.2.2.1]) (h2.1 13 0 (by omega)) (h2.1 14 0 (by omega))
theorem Sp4_refl {σ : St} (hR : RefsOk σ) (hK : ∀ j, j < gS σ 2 0 → okc (gS σ 1 j)) : Sp4 σ σ := ⟨fun _ _ _ _ _ => rfl, fun _ _ _ => rfl, Nat.le_refl _, rfl, fun _ _ _ q => q, hR, hK⟩
theorem Sp4_sB {σ τ : St} (h : Sp4 σ τ) {k : Nat} {a b : Int32} : Sp4 σ (sB τ (clsOf k) a b) := by
  obtain ⟨a1, a2, a3, a4, a5, a6, a7⟩ := h
  refine ⟨fun c i q q2 q3 => ?_, a2, Nat.le_succ_of_le a3, ?_, fun j kd fg q => bl_sB (a5 j kd fg q), fun c i k j q => Nat.lt_succ_of_lt (a6 c i k j q), okc_sB a7 (okc_cls k)⟩
  · show gI (sI (sI τ 13 0 (gS τ 2 0) a) 14 0 (gS τ 2 0) b) c i = _
    rw [gsI_n (by omega), gsI_n (by omega)]
    exact a1 c i q q2 q3
  · funext i
    exact congrFun a4 i
theorem Sp4_relC {σ τ : St} {x : Nat} {h : Hg} (hs : Sp4 σ τ) (hC : RelC σ x h) (hx : x ≠ 2) : RelC τ x h := relC_bl hC (fun c hc => hs.1 c x (by omega) (by omega) (by omega)) (hs.2.1 0 x (by omega)) hs.2.2.2.2.1
theorem Sp4_relM {σ τ : St} {r : Nat} {h : Hg} (hs : Sp4 σ τ) (hM : RelM σ r h) (hO : OkH h) : RelM τ r h := relM_row hM hO (fun j _ => by rw [hs.1 12 r (by omega) (by omega) (by omega)])
theorem shf_bl {σ σ' : St} {d : Nat} (hS : Shf σ d) (e8 : gI σ' 8 d = gI σ 8 d) (e9 : gI σ' 9 d = gI σ 9 d) (e12 : ∀ r, 15 ≤ r → gI σ' 12 r = gI σ 12 r) (eR : gR σ' 1 d = gR σ 1 d) (hb : ∀ j kd fg, Bl σ j kd fg → Bl σ' j kd fg) : Shf σ' d := by
  unfold Shf
  rw [e8, e9, e12 15 (by omega), e12 16 (by omega), e12 17 (by omega), e12 18 (by omega), e12 19 (by omega), e12 20 (by omega), eR]
  rcases hS with q | ⟨q1, q2, j, kd, fg, q3, q4, q5⟩ | q
  · exact Or.inl q
  · exact Or.inr (Or.inl ⟨q1, q2, j, kd, fg, q3, hb _ _ _ q4, q5⟩)
  · exact Or.inr (Or.inr q)
theorem Sp4_inv {σ τ : St} (hs : Sp4 σ τ) (hI : Inv σ) : Inv τ := by
  obtain ⟨⟨h, hO, hC, hM⟩, ⟨h1, O1, C1, M1⟩, I3, I4, I5, I6, I7, I8⟩ := hI
  refine ⟨⟨h, hO, Sp4_relC hs hC (by decide), Sp4_relM hs hM hO⟩, ⟨h1, O1, Sp4_relC hs C1 (by decide), Sp4_relM hs M1 O1⟩, ?_, ?_, ?_, hs.2.2.2.2.2.1, hs.2.2.2.2.2.2, fun d hd => ?_⟩
  · rw [hs.1 10 0 (by omega) (by omega) (by omega), hs.1 11 0 (by omega) (by omega) (by omega)]
    exact ⟨I3.1, byOk_fr I3.2 (fun r _ => hs.1 12 r (by omega) (by omega) (by omega))⟩
  · rw [hs.1 11 0 (by omega) (by omega) (by omega)]
    exact I4
  · rw [hs.2.2.2.1]
    exact I5
  · exact shf_bl (I8 d hd) (hs.1 8 d (by omega) (by omega) (by omega)) (hs.1 9 d (by omega) (by omega) (by omega)) (fun r _ => hs.1 12 r (by omega) (by omega) (by omega)) (hs.2.1 1 d (by omega)) hs.2.2.2.2.1
theorem Sp2_own {τ : St} (h : RefsOk τ) : Sp2 τ τ := Sp2_refl h
/-- a blade, thumbs, a blow more on hedge 2 -/
theorem addB2_c {τ : St} {h : Hg} (hC : RelC τ 2 h) (hO : OkH h) (hR : RefsOk τ) {br ln wt : Nat} (hbr : br < 1000) (hln : ln < 1000) (hwt : wt ≤ 9) : (((1 ≤ br ∧ br ≤ 24) ∧ (1 ≤ ln ∧ ln ≤ 24) ∧ h 0 0 < 6) ∧ ∃ τ' r, fX3_addBlade τ 2 (nI br) (nI ln) (nI wt) = some (nI r, τ') ∧ r < 6 ∧ Sp2 τ τ' ∧ RelC τ' 2 (addB h br ln wt)) ∨ (¬ ((1 ≤ br ∧ br ≤ 24) ∧ (1 ≤ ln ∧ ln ≤ 24) ∧ h 0 0 < 6) ∧ ∃ r : Int32, r < 0 ∧ fX3_addBlade τ 2 (nI br) (nI ln) (nI wt) = some (r, τ)) := by
  have q1 : fX11_isOut τ (nI br) 1 24 = some (if 1 ≤ br ∧ br ≤ 24 then 0 else 1) := isOut_n (a := 1) (b := 24) (by omega) (by omega) hbr
  have q2 : fX11_isOut τ (nI ln) 1 24 = some (if 1 ≤ ln ∧ ln ≤ 24 then 0 else 1) := isOut_n (a := 1) (b := 24) (by omega) (by omega) hln
  have q3 : fX11_isOut τ (nI wt) 0 9 = some (if 0 ≤ wt ∧ wt ≤ 9 then 0 else 1) := isOut_n (a := 0) (b := 9) (by omega) (by omega) (by omega)
  rw [if_pos ⟨Nat.zero_le _, hwt⟩] at q3
  have o6 := hO.1
  unfold fX3_addBlade
  rw [q1, q2, q3, bd_s]
  by_cases c1 : 1 ≤ br ∧ br ≤ 24
  · rw [if_pos c1, if_pos rfl, bd_s]
    by_cases c2 : 1 ≤ ln ∧ ln ≤ 24
    · rw [if_pos c2, if_pos rfl, bd_s, if_pos rfl, hC.1]
      by_cases c3 : h 0 0 < 6
      · have i6 : vp_in (nI (h 0 0)) 6 := in6 c3
        refine Or.inl ⟨⟨c1, c2, c3⟩, sI (sI (sI (sI (sI τ 1 2 (h 0 0) (nI br)) 2 2 (h 0 0) (nI ln)) 3 2 (h 0 0) (nI wt)) 4 2 (h 0 0) (nI 0)) 0 2 0 (nI (h 0 0 + 1)), h 0 0, ?_, c3, ?_, ?_⟩
        · rw [if_pos (show nI (h 0 0) < (6 : Int32) from nI_lt (b := 6) c3 (by omega)), ck_t i6, nI_clamp (by omega), nmv_s]
          rw [show gI (sI τ 1 2 (h 0 0) (nI br)) 0 2 0 = nI (h 0 0) from hC.1, ck_t i6, nI_clamp (by omega), nmv_s]
          rw [show gI (sI (sI τ 1 2 (h 0 0) (nI br)) 2 2 (h 0 0) (nI ln)) 0 2 0 = nI (h 0 0) from hC.1, ck_t i6, nI_clamp (by omega), nmv_s]
          rw [show gI (sI (sI (sI τ 1 2 (h 0 0) (nI br)) 2 2 (h 0 0) (nI ln)) 3 2 (h 0 0) (nI wt)) 0 2 0 = nI (h 0 0) from hC.1, ck_t i6, nI_clamp (by omega), nmv_s]
          rw [show gI (sI (sI (sI (sI τ 1 2 (h 0 0) (nI br)) 2 2 (h 0 0) (nI ln)) 3 2 (h 0 0) (nI wt)) 4 2 (h 0 0) 0) 0 2 0 = nI (h 0 0) from hC.1, nI_1, nmv_s]
          rfl
        · exact Sp2_sI (Sp2_sI (Sp2_sI (Sp2_sI (Sp2_sI (Sp2_refl hR) (by omega)) (by omega)) (by omega)) (by omega)) (by omega)
        · exact addB_c hC rfl rfl rfl rfl rfl rfl rfl rfl (fun _ _ _ q => q)
      · rw [if_neg (show ¬ nI (h 0 0) < (6 : Int32) from nI_nlt (b := 6) (by omega) (by omega))]
        exact Or.inr ⟨fun q => c3 q.2.2, -2, by decide, rfl⟩
    · rw [if_neg c2, if_neg (by decide)]
      exact Or.inr ⟨fun q => c2 q.2.1, -1, by decide, rfl⟩
  · rw [if_neg c1, if_neg (by decide)]
    exact Or.inr ⟨fun q => c1 q.1, -1, by decide, rfl⟩
theorem addT2_c {τ : St} {h : Hg} (hC : RelC τ 2 h) (hO : OkH h) (hR : RefsOk τ) {sl gr : Nat} (hsl : sl ≤ 9) (hgr : gr < 1000) : ((gr ≤ 60 ∧ h 0 1 < 4) ∧ ∃ τ' r, fX3_addThumbs τ 2 (nI sl) (nI gr) = some (nI r, τ') ∧ r < 6 ∧ Sp2 τ τ' ∧ RelC τ' 2 (addT h sl gr)) ∨ (¬ (gr ≤ 60 ∧ h 0 1 < 4) ∧ ∃ r : Int32, r < 0 ∧ fX3_addThumbs τ 2 (nI sl) (nI gr) = some (r, τ)) := by
  have q1 : fX11_isOut τ (nI sl) 0 9 = some (if 0 ≤ sl ∧ sl ≤ 9 then 0 else 1) := isOut_n (a := 0) (b := 9) (by omega) (by omega) (by omega)
  have q2 : fX11_isOut τ (nI gr) 0 60 = some (if 0 ≤ gr ∧ gr ≤ 60 then 0 else 1) := isOut_n (a := 0) (b := 60) (by omega) (by omega) hgr
  rw [if_pos ⟨Nat.zero_le _, hsl⟩] at q1
  have o4 := hO.2.1
  unfold fX3_addThumbs
  by_cases c2 : gr ≤ 60
  · rw [if_pos ⟨Nat.zero_le _, c2⟩] at q2
    rw [q1, q2, bd_s, if_pos rfl, bd_s, if_pos rfl, hC.2.1]
    by_cases c3 : h 0 1 < 4
    · have i4 : vp_in (nI (h 0 1)) 4 := in4 c3
      refine Or.inl ⟨⟨c2, c3⟩, sI (sI (sI τ 5 2 (h 0 1) (nI sl)) 6 2 (h 0 1) (nI gr)) 0 2 5 (nI (h 0 1 + 1)), h 0 1, ?_, by omega, ?_, ?_⟩
      · rw [if_pos (show nI (h 0 1) < (4 : Int32) from nI_lt (b := 4) c3 (by omega)), ck_t i4, nI_clamp (by omega), nmv_s]
        rw [show gI (sI τ 5 2 (h 0 1) (nI sl)) 0 2 5 = nI (h 0 1) from hC.2.1, ck_t i4, nI_clamp (by omega), nmv_s]
        rw [show gI (sI (sI τ 5 2 (h 0 1) (nI sl)) 6 2 (h 0 1) (nI gr)) 0 2 5 = nI (h 0 1) from hC.2.1, nI_1, nmv_s]
      · exact Sp2_sI (Sp2_sI (Sp2_sI (Sp2_refl hR) (by omega)) (by omega)) (by omega)
      · exact addT_c hC rfl rfl rfl rfl rfl rfl rfl rfl (fun _ _ _ q => q)
    · rw [if_neg (show ¬ nI (h 0 1) < (4 : Int32) from nI_nlt (b := 4) (by omega) (by omega))]
      exact Or.inr ⟨fun q => c3 q.2, -2, by decide, rfl⟩
  · rw [if_neg (fun q => c2 q.2)] at q2
    rw [q1, q2, bd_s, if_pos rfl, bd_s, if_neg (by decide)]
    exact Or.inr ⟨fun q => c2 q.1, -1, by decide, rfl⟩
theorem refs_sR {τ : St} (hR : RefsOk τ) {c i k j : Nat} (hj : j < gS τ 2 0) : RefsOk (sR τ c i k (some j)) := by
  intro c' i' k' j' q
  by_cases e : c' = c ∧ i' = i
  · obtain ⟨rfl, rfl⟩ := e
    have q2 : va_up (gR τ c' i') k (some j) k' = some j' := by rw [← q]; exact (congrFun gsR_s k').symm
    unfold va_up at q2
    by_cases e2 : k' = k
    · rw [if_pos e2] at q2
      cases q2
      exact hj
    · rw [if_neg e2] at q2
      exact hR _ _ _ _ q2
  · have q2 : gR τ c' i' k' = some j' := by rw [← q]; exact (congrFun (gsR_n e) k').symm
    exact hR _ _ _ _ q2
theorem addK2_c {τ : St} {h : Hg} (hC : RelC τ 2 h) (hO : OkH h) (hR : RefsOk τ) {j kd fg : Nat} (hb : Bl τ j kd fg) : (h 0 2 < 6 ∧ ∃ τ' r, fX3_addBlow τ 2 (some j) = some (nI r, τ') ∧ r < 6 ∧ Sp2 τ τ' ∧ RelC τ' 2 (addK h kd fg)) ∨ (¬ h 0 2 < 6 ∧ ∃ r : Int32, r < 0 ∧ fX3_addBlow τ 2 (some j) = some (r, τ)) := by
  have o2 := hO.2.2.1
  have okj : j < gS τ 2 0 ∧ okc (gS τ 1 j) := ⟨hb.1, okc_of hb⟩
  unfold fX3_addBlow
  show (_ ∧ ∃ τ' r, (if gI τ 0 2 8 < 6 then _ else _) = _ ∧ _) ∨ (_ ∧ ∃ r, _ ∧ (if gI τ 0 2 8 < 6 then _ else _) = _)
  rw [hC.2.2.1]
  by_cases c3 : h 0 2 < 6
  · have i6 : vp_in (nI (h 0 2)) 6 := in6 c3
    refine Or.inl ⟨c3, sI (sR τ 0 2 (h 0 2) (some j)) 0 2 8 (nI (h 0 2 + 1)), h 0 2, ?_, c3, ?_, ?_⟩
    · rw [if_pos (show nI (h 0 2) < (6 : Int32) from nI_lt (b := 6) c3 (by omega)), ck_t i6, ck_t (fun j' e => by cases e; exact okj), nI_clamp (by omega), nmv_s, show gI (sR τ 0 2 (h 0 2) (some j)) 0 2 8 = nI (h 0 2) from hC.2.2.1, nI_1, nmv_s]
    · exact ⟨fun c i q => by rw [gsI_n (by omega)]; rfl, fun c i q => gsR_n q, rfl, refs_sR hR hb.1⟩
    · exact addK_c hC hb rfl rfl rfl rfl rfl rfl rfl rfl (fun _ _ _ q => q)
  · rw [if_neg (show ¬ nI (h 0 2) < (6 : Int32) from nI_nlt (b := 6) (by omega) (by omega))]
    exact Or.inr ⟨c3, -2, by decide, rfl⟩
