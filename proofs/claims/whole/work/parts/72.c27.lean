/-- σ' is σ but for hedge 2 -/
def Sp2 (σ σ' : St) : Prop := (∀ c i, ¬ (c ≤ 7 ∧ i = 2) → gI σ' c i = gI σ c i) ∧ (∀ c i, ¬ (c = 0 ∧ i = 2) → gR σ' c i = gR σ c i) ∧ gS σ' = gS σ ∧ RefsOk σ'
theorem Sp2_refl {σ : St} (hR : RefsOk σ) : Sp2 σ σ := ⟨fun _ _ _ => rfl, fun _ _ _ => rfl, rfl, hR⟩
theorem Sp2_trans {σ τ υ : St} (h1 : Sp2 σ τ) (h2 : Sp2 τ υ) : Sp2 σ υ := ⟨fun c i q => (h2.1 c i q).trans (h1.1 c i q), fun c i q => (h2.2.1 c i q).trans (h1.2.1 c i q), h2.2.2.1.trans h1.2.2.1, h2.2.2.2⟩
theorem Sp2_relC {σ τ : St} {x : Nat} {h : Hg} (hs : Sp2 σ τ) (hC : RelC σ x h) (hx : x ≠ 2) : RelC τ x h := relC_fr hC (fun c _ => hs.1 c x (by omega)) (hs.2.1 0 x (by omega)) (congrFun (congrFun hs.2.2.1 2) 0) (congrFun hs.2.2.1 1) (hs.1 13 0 (by omega)) (hs.1 14 0 (by omega))
theorem Sp2_relM {σ τ : St} {r : Nat} {h : Hg} (hs : Sp2 σ τ) (hM : RelM σ r h) (hO : OkH h) : RelM τ r h := relM_row hM hO (fun j _ => by rw [hs.1 12 r (by omega)])
theorem Sp2_okc {σ τ : St} (hs : Sp2 σ τ) (hK : ∀ j, j < gS σ 2 0 → okc (gS σ 1 j)) : ∀ j, j < gS τ 2 0 → okc (gS τ 1 j) := by
  rw [hs.2.2.1]
  exact hK
theorem Sp2_inv {σ τ : St} (hs : Sp2 σ τ) (hI : Inv σ) : Inv τ := by
  obtain ⟨⟨h, hO, hC, hM⟩, ⟨h1, O1, C1, M1⟩, I3, I4, I5, I6, I7, I8⟩ := hI
  refine ⟨⟨h, hO, Sp2_relC hs hC (by decide), Sp2_relM hs hM hO⟩, ⟨h1, O1, Sp2_relC hs C1 (by decide), Sp2_relM hs M1 O1⟩, ?_, ?_, ?_, hs.2.2.2, Sp2_okc hs I7, fun d hd => ?_⟩
  · rw [hs.1 10 0 (by omega), hs.1 11 0 (by omega)]
    exact ⟨I3.1, byOk_fr I3.2 (fun r _ => hs.1 12 r (by omega))⟩
  · rw [hs.1 11 0 (by omega)]
    exact I4
  · rw [hs.2.2.1]
    exact I5
  · exact shf_fr (I8 d hd) (hs.1 8 d (by omega)) (hs.1 9 d (by omega)) (fun r _ => hs.1 12 r (by omega)) (hs.2.1 1 d (by omega)) (congrFun (congrFun hs.2.2.1 2) 0) (congrFun hs.2.2.1 1) (hs.1 13 0 (by omega)) (hs.1 14 0 (by omega))
theorem Sp2_sI {σ τ : St} {c j : Nat} {v : Int32} (hs : Sp2 σ τ) (hc : c ≤ 7) : Sp2 σ (sI τ c 2 j v) := ⟨fun c' i q => by rw [gsI_n (by omega)]; exact hs.1 c' i q, hs.2.1, hs.2.2.1, hs.2.2.2⟩
theorem Sp2_spn {σ τ : St} {lo hi gr so ha : Nat} (hs : Sp2 σ τ) : Sp2 σ (spn τ 2 lo hi gr so ha) := by
  unfold spn
  exact Sp2_sI (Sp2_sI (Sp2_sI (Sp2_sI (Sp2_sI hs (by omega)) (by omega)) (by omega)) (by omega)) (by omega)
/-- hedge 2 becomes hedge 0 -/
theorem become2 {σ : St} {h : Hg} (hC : RelC σ 0 h) (hO : OkH h) (hR : RefsOk σ) (hK : ∀ j, j < gS σ 2 0 → okc (gS σ 1 j)) : ∃ τ, fX3_become σ 2 0 = some τ ∧ Sp2 σ τ ∧ RelC τ 2 h := by
  obtain ⟨g, b1, b2, b3⟩ := become_f (σ := σ) (x := 2) (y := 0) (by decide) hR hK
  exact ⟨bcm σ 2 0 g, b1, ⟨fun c i q => bcm_n (by omega), fun c i q => gsRA_n q, rfl, refs_bcm hR b3⟩, relC_bcm hO hC b2⟩
theorem relC_5 {σ : St} {x : Nat} {h : Hg} (hC : RelC σ x h) {c t v : Nat} (hc : c = 5 ∨ c = 6) : RelC (sI σ c x t (nI v)) x (up2 h c t v) := by
  obtain ⟨c0, c1, c2, c3, c4, c5⟩ := hC
  have h0 : ∀ c' i, c' ≠ c → up2 h c t v c' i = h c' i := fun c' i q => up2_n (fun q2 => q q2.1)
  refine ⟨?_, ?_, ?_, fun b hb => ?_, fun t' ht => ?_, fun k hk => ?_⟩
  · rw [gsI_n (by omega), h0 _ _ (by omega)]; exact c0
  · rw [gsI_n (by omega), h0 _ _ (by omega)]; exact c1
  · rw [gsI_n (by omega), h0 _ _ (by omega)]; exact c2
  · rw [h0 _ _ (by omega)] at hb
    rw [gsI_n (by omega), gsI_n (by omega), gsI_n (by omega), gsI_n (by omega), h0 _ _ (by omega), h0 _ _ (by omega), h0 _ _ (by omega), h0 _ _ (by omega)]
    exact c3 b hb
  · rw [h0 _ _ (by omega)] at ht
    obtain ⟨q1, q2⟩ := c4 t' ht
    rcases hc with hc | hc
    · subst hc
      rw [gsI_s, gsI_n (by omega), h0 6 _ (by omega)]
      refine ⟨?_, q2⟩
      by_cases e : t' = t
      · subst e; rw [pk_us, up2_s]
      · rw [pk_un e, up2_n (fun q => e q.2)]; exact q1
    · subst hc
      rw [gsI_s, gsI_n (by omega), h0 5 _ (by omega)]
      refine ⟨q1, ?_⟩
      by_cases e : t' = t
      · subst e; rw [pk_us, up2_s]
      · rw [pk_un e, up2_n (fun q => e q.2)]; exact q2
  · rw [h0 _ _ (by omega)] at hk
    obtain ⟨j, k1, k2⟩ := c5 k hk
    refine ⟨j, k1, ?_⟩
    rw [h0 _ _ (by omega), h0 _ _ (by omega)]
    exact bl_fr k2 rfl rfl (gsI_n (by omega)) (gsI_n (by omega))
theorem ok_5 {h : Hg} (hO : OkH h) {c t v : Nat} (hc : (c = 5 ∧ v ≤ 9) ∨ (c = 6 ∧ v ≤ 60)) : OkH (up2 h c t v) := by
  obtain ⟨o0, o1, o2, o3, o4, o5⟩ := hO
  have h0 : ∀ c' i, c' ≠ c → up2 h c t v c' i = h c' i := fun c' i q => up2_n (fun q2 => q q2.1)
  refine ⟨by rw [h0 _ _ (by omega)]; exact o0, by rw [h0 _ _ (by omega)]; exact o1, by rw [h0 _ _ (by omega)]; exact o2, fun b hb => ?_, fun t' ht => ?_, fun k hk => ?_⟩
  · rw [h0 _ _ (by omega)] at hb
    rw [h0 _ _ (by omega), h0 _ _ (by omega), h0 _ _ (by omega), h0 _ _ (by omega)]
    exact o3 b hb
  · rw [h0 _ _ (by omega)] at ht
    obtain ⟨q1, q2⟩ := o4 t' ht
    rcases hc with ⟨hc, hv⟩ | ⟨hc, hv⟩
    · subst hc
      rw [h0 6 _ (by omega)]
      refine ⟨?_, q2⟩
      by_cases e : t' = t
      · subst e; rw [up2_s]; exact hv
      · rw [up2_n (fun q => e q.2)]; exact q1
    · subst hc
      rw [h0 5 _ (by omega)]
      refine ⟨q1, ?_⟩
      by_cases e : t' = t
      · subst e; rw [up2_s]; exact hv
      · rw [up2_n (fun q => e q.2)]; exact q2
  · rw [h0 _ _ (by omega)] at hk
    rw [h0 _ _ (by omega), h0 _ _ (by omega)]
    exact o5 k hk
theorem told_c {σ : St} {h : Hg} (hC : RelC σ 0 h) (hO : OkH h) (hR : RefsOk σ) (hK : ∀ j, j < gS σ 2 0 → okc (gS σ 1 j)) {b t k i : Nat} (hb : b < h 0 0) (ht : t < h 0 1) (hk : k < h 0 2) (hi : i < 3) : ∃ τ, fX11_pairsWhenTold σ (nI b) (nI t) (nI k) (nI i) = some (nI (prs i h b t k), τ) ∧ Sp2 σ τ := by
  obtain ⟨τ, t1, t2, t3⟩ := become2 hC hO hR hK
  have o4 := hO.2.1
  obtain ⟨s9, g60⟩ := hO.2.2.2.2.1 t ht
  have t4 := in4 (show t < 4 by omega)
  unfold fX11_pairsWhenTold
  rw [t1, bd_s]
  have J : ∀ (σ2 : St) (h' : Hg), RelC σ2 2 h' → OkH h' → b < h' 0 0 → t < h' 0 1 → k < h' 0 2 → ¬ i = 0 → fX11_pairsWhenTold_J75 (nI b) (nI t) (nI k) (nI i) σ2 = some (nI (prs 3 h' b t k), zSPN σ2 2 h' b t k) := by
    intro σ2 h' hC' hO' hb' ht' hk' h0
    unfold fX11_pairsWhenTold_J75
    rw [spanOf_c hC' hO' hb' ht' hk', bd_s, if_neg (nI_ne0 (by omega) (by omega)), pairs_c hO' hb' ht' hk', bd_s]
  rcases i with _ | _ | _ | i
  · rw [if_neg (show ¬ nI 0 = (1 : Int32) by decide), if_neg (show ¬ nI 0 = (2 : Int32) by decide)]
    unfold fX11_pairsWhenTold_J75
    obtain ⟨l1, l2, l3, l4, l5, l6, l7, l8, l9⟩ := okS (hp := 3) hO hb ht hk
    rw [spanOf_c t3 hO hb ht hk, bd_s, if_pos nI_0, show gI (zSPN τ 2 h b t k) 7 2 0 = nI (zLO 3 h b t k) from spn_v.1, less2 (by omega), nmv_s, nmv_s]
    have e : sI (zSPN τ 2 h b t k) 7 2 0 (nI (zLO 3 h b t k - 2)) = spn (zSPN τ 2 h b t k) 2 (zLO 3 h b t k - 2) (zHI 3 h b t k) (zGR 3 h t) (zSO 3 h t k) (zHA 3 h t k) := by
      unfold zSPN
      rw [spn_A0, spn_A]
      show sA (sA τ 7 2 _) 7 2 (upd (gI (sA τ 7 2 _) 7 2) 0 _) = _
      rw [sA_sA, gsA_s]
      congr 1
      funext j
      unfold sp5 upd
      by_cases j0 : j = 0
      · subst j0; rfl
      · by_cases j1 : j = 1
        · subst j1; rfl
        · by_cases j2 : j = 2
          · subst j2; rfl
          · by_cases j3 : j = 3
            · subst j3; rfl
            · by_cases j4 : j = 4
              · subst j4; rfl
              · simp only [j0, j1, j2, j3, j4, if_false]
    rw [e, pairsG_c (by omega) (by omega) (by omega) (by omega) (by omega), bd_s]
    exact ⟨_, rfl, Sp2_spn (Sp2_spn t2)⟩
  · rw [if_pos (show nI (0 + 1) = (1 : Int32) by decide), ck_t t4, nI_clamp (by omega), (t3.2.2.2.2.1 t ht).2, show nI (h 6 t) + 5 = nI (h 6 t + 5) from nI_add _ 5, show (if nI (h 6 t + 5) < (60 : Int32) then nI (h 6 t + 5) else 60) = nI (min 60 (h 6 t + 5)) from min_if (a := h 6 t + 5) (b := 60) (by omega) (by omega), nmv_s, ck_t t4, nmv_s]
    have hC' := relC_5 t3 (c := 6) (t := t) (v := min 60 (h 6 t + 5)) (Or.inr rfl)
    have hO' := ok_5 hO (c := 6) (t := t) (v := min 60 (h 6 t + 5)) (Or.inr ⟨rfl, by omega⟩)
    rw [J _ _ hC' hO' hb ht hk (by omega)]
    have e : prs 3 (up2 h 6 t (min 60 (h 6 t + 5))) b t k = prs 1 h b t k := by
      have : zGR 3 (up2 h 6 t (min 60 (h 6 t + 5))) t = zGR 1 h t := by
        unfold zGR
        rw [if_neg (by decide), if_pos rfl, up2_s]
        omega
      unfold prs zTop
      rw [this]
      rfl
    rw [e]
    exact ⟨_, rfl, Sp2_spn (Sp2_sI t2 (by omega))⟩
  · rw [if_neg (show ¬ nI (0 + 1 + 1) = (1 : Int32) by decide), if_pos (show nI (0 + 1 + 1) = (2 : Int32) by decide), ck_t t4, nI_clamp (by omega), (t3.2.2.2.2.1 t ht).1]
    have l1 : (if 0 < nI (h 5 t) - 1 then nI (h 5 t) - 1 else (0 : Int32)) = nI (h 5 t - 1) := by
      by_cases c : 1 < h 5 t
      · have e : nI (h 5 t) - 1 = nI (h 5 t - 1) := pk_sub (b := 1) (by omega)
        rw [e, if_pos (show (0 : Int32) < nI (h 5 t - 1) from nI_lt (a := 0) (by omega) (by omega))]
      · rw [if_neg ?_, show h 5 t - 1 = 0 by omega]
        · rfl
        · rw [Int32.lt_iff_toInt_lt, show (nI (h 5 t) - 1).toInt = (h 5 t : Int) - (1 : Nat) from sub_I (b := 1) (by omega) (by omega), show (0 : Int32).toInt = 0 from rfl]
          omega
    rw [l1, nmv_s, ck_t t4, nmv_s]
    have hC' := relC_5 t3 (c := 5) (t := t) (v := h 5 t - 1) (Or.inl rfl)
    have hO' := ok_5 hO (c := 5) (t := t) (v := h 5 t - 1) (Or.inl ⟨rfl, by omega⟩)
    rw [J _ _ hC' hO' hb ht hk (by omega)]
    have e : prs 3 (up2 h 5 t (h 5 t - 1)) b t k = prs 2 h b t k := by
      have : slE 3 (up2 h 5 t (h 5 t - 1)) t = slE 2 h t := by
        unfold slE
        rw [if_neg (by decide), if_pos rfl, up2_s]
      unfold prs zTop zFt zLO zHI zHA zSO zLP
      rw [this]
      rfl
    rw [e]
    exact ⟨_, rfl, Sp2_spn (Sp2_sI t2 (by omega))⟩
  · omega
