/-- hedges through a change that leaves their rows and keeps the blows -/
theorem relC_bl {σ σ' : St} {x : Nat} {h : Hg} (hC : RelC σ x h) (e0 : ∀ c, c ≤ 6 → gI σ' c x = gI σ c x) (e7 : gR σ' 0 x = gR σ 0 x) (e8 : ∀ j kd fg, Bl σ j kd fg → Bl σ' j kd fg) : RelC σ' x h := by
  obtain ⟨c0, c1, c2, c3, c4, c5⟩ := hC
  unfold RelC
  rw [e0 0 (by omega), e0 1 (by omega), e0 2 (by omega), e0 3 (by omega), e0 4 (by omega), e0 5 (by omega), e0 6 (by omega), e7]
  refine ⟨c0, c1, c2, c3, c4, fun k hk => ?_⟩
  obtain ⟨j, q1, q2⟩ := c5 k hk
  exact ⟨j, q1, e8 _ _ _ q2⟩
/-- a new blow -/
theorem bl_sB {σ : St} {ci : Nat} {k f : Int32} {j kd fg : Nat} (h : Bl σ j kd fg) : Bl (sB σ ci k f) j kd fg := by
  obtain ⟨h1, h2, h3, h4⟩ := h
  have hne : j ≠ gS σ 2 0 := by omega
  refine ⟨?_, ?_, ?_, ?_⟩
  · show j < gS σ 2 0 + 1
    omega
  · show (if (1 : Nat) = 1 ∧ j = gS σ 2 0 then ci else gS σ 1 j) = _
    rw [if_neg (fun q => hne q.2)]
    exact h2
  · show upd (gI σ 13 0) (gS σ 2 0) k j = _
    rw [pk_un hne]
    exact h3
  · show upd (gI σ 14 0) (gS σ 2 0) f j = _
    rw [pk_un hne]
    exact h4
theorem bl_new {σ : St} {kd fg : Nat} : Bl (sB σ (clsOf kd) (nI kd) (nI fg)) (gS σ 2 0) kd fg := by
  refine ⟨?_, ?_, ?_, ?_⟩
  · show gS σ 2 0 < gS σ 2 0 + 1
    omega
  · show (if (1 : Nat) = 1 ∧ gS σ 2 0 = gS σ 2 0 then clsOf kd else gS σ 1 (gS σ 2 0)) = _
    rw [if_pos ⟨rfl, rfl⟩]
  · show upd (gI σ 13 0) (gS σ 2 0) (nI kd) (gS σ 2 0) = _
    rw [pk_us]
  · show upd (gI σ 14 0) (gS σ 2 0) (nI fg) (gS σ 2 0) = _
    rw [pk_us]
theorem okc_cls (kd : Nat) : okc (clsOf kd) := by
  unfold clsOf okc
  split <;> omega
theorem okc_sB {σ : St} {ci : Nat} {k f : Int32} (h : ∀ j, j < gS σ 2 0 → okc (gS σ 1 j)) (hc : okc ci) : ∀ j, j < gS (sB σ ci k f) 2 0 → okc (gS (sB σ ci k f) 1 j) := by
  intro j hj
  have hj : j < gS σ 2 0 + 1 := hj
  show okc (if (1 : Nat) = 1 ∧ j = gS σ 2 0 then ci else gS σ 1 j)
  by_cases e : j = gS σ 2 0
  · rw [if_pos ⟨rfl, e⟩]
    exact hc
  · rw [if_neg (fun q => e q.2)]
    exact h j (by omega)
theorem newBlow_s {σ : St} (hR : RefsOk σ) {k f : Nat} (hk : k ≤ 7) (hf : fX11_isOut σ (nI f) 0 9 = some 0) : fX11_newBlow σ (nI k) (nI f) = some (some (gS σ 2 0), sB σ (clsOf k) (nI k) (nI f)) := by
  unfold fX11_newBlow
  rw [hf, bd_s, if_pos rfl]
  rcases k with _ | _ | _ | _ | _ | _ | _ | _ | k
  · rw [if_pos (show nI 0 = 0 from rfl), ck_t hR]; rfl
  · rw [if_neg (by decide), if_pos (show nI (0 + 1) = 1 from rfl), ck_t hR]; rfl
  · rw [if_neg (by decide), if_neg (by decide), if_pos (show nI (0 + 1 + 1) = 2 from rfl), ck_t hR]; rfl
  · rw [if_neg (by decide), if_neg (by decide), if_neg (by decide), if_pos (show nI (0 + 1 + 1 + 1) = 3 from rfl), ck_t hR]; rfl
  · rw [if_neg (by decide), if_neg (by decide), if_neg (by decide), if_neg (by decide), if_pos (show nI (0 + 1 + 1 + 1 + 1) = 4 from rfl), ck_t hR]; rfl
  · rw [if_neg (by decide), if_neg (by decide), if_neg (by decide), if_neg (by decide), if_neg (by decide), if_pos (show nI (0 + 1 + 1 + 1 + 1 + 1) = 5 from rfl), ck_t hR]; rfl
  · rw [if_neg (by decide), if_neg (by decide), if_neg (by decide), if_neg (by decide), if_neg (by decide), if_neg (by decide), if_pos (show nI (0 + 1 + 1 + 1 + 1 + 1 + 1) = 6 from rfl), ck_t hR]; rfl
  · rw [if_neg (by decide), if_neg (by decide), if_neg (by decide), if_neg (by decide), if_neg (by decide), if_neg (by decide), if_neg (by decide), if_pos (show nI (0 + 1 + 1 + 1 + 1 + 1 + 1 + 1) = 7 from rfl), ck_t hR]; rfl
  · omega
theorem newBlow_n {σ : St} {a b : Int32} (h : (∀ k, k ≤ 7 → a ≠ nI k) ∨ fX11_isOut σ b 0 9 = some 1) : fX11_newBlow σ a b = some (none, σ) ∨ fX11_isOut σ b 0 9 = none := by
  unfold fX11_newBlow
  rcases h with h | h
  · cases hb : fX11_isOut σ b 0 9 with
    | none => exact Or.inr rfl
    | some r =>
      refine Or.inl ?_
      rw [bd_s]
      by_cases hr : r = 0
      · rw [if_pos hr, if_neg (show ¬ a = 0 from h 0 (by omega)), if_neg (show ¬ a = 1 from h 1 (by omega)), if_neg (show ¬ a = 2 from h 2 (by omega)), if_neg (show ¬ a = 3 from h 3 (by omega)), if_neg (show ¬ a = 4 from h 4 (by omega)), if_neg (show ¬ a = 5 from h 5 (by omega)), if_neg (show ¬ a = 6 from h 6 (by omega)), if_neg (show ¬ a = 7 from h 7 (by omega))]
      · rw [if_neg hr]
  · refine Or.inl ?_
    rw [h]
    rfl
