theorem keep_inv {τ σ2 : St} (hI : Inv τ) {d : Nat} (hd : d < 8) {w a3 a4 : Int32} {o : Option Nat} (hcase : (w = 0 ∧ o = none) ∨ (w = 1 ∧ ∃ j kd fg, o = some j ∧ Bl τ j kd fg ∧ kd ≤ 7 ∧ fg ≤ 9 ∧ a3 = nI kd ∧ a4 = nI fg))
    (hg : ∀ c x, ¬ (c = 8 ∧ x = d) → ¬ (c = 12 ∧ 15 ≤ x ∧ x ≤ 17) → gI σ2 c x = gI τ c x) (h8 : gI σ2 8 d 1 = 0) (h15 : gI σ2 12 15 = upd (gI τ 12 15) d w) (h16 : gI σ2 12 16 = upd (gI τ 12 16) d a3) (h17 : gI σ2 12 17 = upd (gI τ 12 17) d a4) (hr : ∀ c x, ¬ (c = 1 ∧ x = d) → gR σ2 c x = gR τ c x) (hr1 : gR σ2 1 d 0 = o) (hrk : ∀ k, k ≠ 0 → gR σ2 1 d k = gR τ 1 d k) (hs : gS σ2 = gS τ) : Inv σ2 := by
  obtain ⟨⟨h, hO, hC, hM⟩, ⟨h1, O1, C1, M1⟩, I3, I4, I5, I6, I7, I8⟩ := hI
  have hB : ∀ j kd fg, Bl τ j kd fg → Bl σ2 j kd fg := by
    intro j kd fg q
    unfold Bl
    rw [hs, hg 13 0 (by omega) (by omega), hg 14 0 (by omega) (by omega)]
    exact q
  have rc : ∀ x h, RelC τ x h → RelC σ2 x h := fun x h q => relC_bl q (fun c hc => hg c x (by omega) (by omega)) (hr 0 x (by omega)) hB
  have rm : ∀ r h, r ≤ 2 → RelM τ r h → RelM σ2 r h := by
    intro r h hr q
    unfold RelM
    rw [hg 12 r (by omega) (by omega)]
    exact q
  refine ⟨⟨h, hO, rc 0 h hC, rm 0 h (by omega) hM⟩, ⟨h1, O1, rc 1 h1 C1, rm 1 h1 (by omega) M1⟩, ?_, ?_, ?_, ?_, ?_, ?_⟩
  · rw [hg 10 0 (by omega) (by omega), hg 11 0 (by omega) (by omega)]
    refine ⟨I3.1, fun d' hd' b1 b2 => ?_⟩
    rw [h15] at b1
    rw [hg 12 18 (by omega) (by omega)] at b2
    rw [hg 12 20 (by omega) (by omega)]
    by_cases e : d' = d
    · subst e
      rw [pk_us] at b1
      rcases hcase with ⟨e1, -⟩ | ⟨e1, -⟩
      · rw [e1] at b1
        exact absurd b1 (by decide)
      · rw [e1] at b1
        exact absurd b1 (by decide)
    · rw [pk_un e] at b1
      exact I3.2 d' hd' b1 b2
  · rw [hg 11 0 (by omega) (by omega)]
    exact I4
  · rw [hs]
    exact I5
  · intro c i k j q
    rw [hs]
    by_cases e : c = 1 ∧ i = d
    · obtain ⟨rfl, rfl⟩ := e
      by_cases hk : k = 0
      · subst hk
        rw [hr1] at q
        rcases hcase with ⟨-, e⟩ | ⟨-, j', kd, fg, e, hb, -⟩
        · rw [e] at q
          cases q
        · rw [e] at q
          cases q
          exact hb.1
      · rw [hrk k hk] at q
        exact I6 _ _ _ _ q
    · rw [hr c i e] at q
      exact I6 _ _ _ _ q
  · rw [hs]
    exact I7
  · intro d' hd'
    unfold Shf
    rw [h15, h16, h17, hg 12 18 (by omega) (by omega), hg 12 19 (by omega) (by omega), hg 12 20 (by omega) (by omega), hg 9 d' (by omega) (by omega)]
    by_cases e : d' = d
    · subst e
      rw [pk_us, pk_us, pk_us, h8, hr1]
      rcases hcase with ⟨e1, e2⟩ | ⟨e1, j, kd, fg, e2, hb, b1, b2, b3, b4⟩
      · exact Or.inl ⟨e1, rfl, e2⟩
      · exact Or.inr (Or.inl ⟨e1, rfl, j, kd, fg, e2, hB _ _ _ hb, b1, b2, b3, b4⟩)
    · rw [pk_un e, pk_un e, pk_un e, hg 8 d' (by omega) (by omega), hr 1 d' (by omega)]
      rcases I8 d' hd' with q | ⟨q1, q2, j, kd, fg, q3, q4, q5⟩ | q
      · exact Or.inl q
      · exact Or.inr (Or.inl ⟨q1, q2, j, kd, fg, q3, hB _ _ _ q4, q5⟩)
      · exact Or.inr (Or.inr q)
theorem inv_sB {σ : St} (hI : Inv σ) {kd : Nat} {k f : Int32} : Inv (sB σ (clsOf kd) k f) := by
  obtain ⟨⟨h, hO, hC, hM⟩, ⟨h1, O1, C1, M1⟩, I3, I4, I5, I6, I7, I8⟩ := hI
  have g : ∀ c x, c ≤ 6 → gI (sB σ (clsOf kd) k f) c x = gI σ c x := by
    intro c x hc
    show (if c = 14 ∧ x = 0 then _ else if c = 13 ∧ x = 0 then _ else gI σ c x) = gI σ c x
    rw [if_neg (by omega), if_neg (by omega)]
  refine ⟨⟨h, hO, relC_bl hC (fun c hc => g c 0 hc) rfl (fun _ _ _ q => bl_sB q), hM⟩, ⟨h1, O1, relC_bl C1 (fun c hc => g c 1 hc) rfl (fun _ _ _ q => bl_sB q), M1⟩, I3, I4, I5, fun c i k j q => Nat.lt_succ_of_lt (I6 c i k j q), okc_sB I7 (okc_cls kd), fun d hd => ?_⟩
  rcases I8 d hd with q | ⟨q1, q2, j, kd', fg, q3, q4, q5⟩ | q
  · exact Or.inl q
  · exact Or.inr (Or.inl ⟨q1, q2, j, kd', fg, q3, bl_sB q4, q5⟩)
  · exact Or.inr (Or.inr q)
theorem keepJ_m {τ : St} {d : Nat} {a2 a3 a4 : Int32} (hd : d < 8) : fX12_keep_J44 (nI d) a2 a3 a4 τ = some (0, sI (sI (sI τ 12 15 d a2) 12 16 d a3) 12 17 d a4) := by
  have i8 : vp_in (nI d) 8 := pk_in d 8 hd rfl (by omega)
  unfold fX12_keep_J44
  rw [ck_t i8, nmv_s, ck_t i8, nmv_s, ck_t i8, nmv_s, nI_clamp (by omega)]
