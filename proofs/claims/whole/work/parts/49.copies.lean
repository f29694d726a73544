theorem up2_up2 {α : Type} {f : Nat → Nat → α} {c i : Nat} {v w : α} : up2 (up2 f c i v) c i w = up2 f c i w := by
  funext a b
  unfold up2
  by_cases h : a = c ∧ b = i
  · rw [if_pos h, if_pos h]
  · rw [if_neg h, if_neg h, if_neg h]
theorem up2_self {α : Type} {f : Nat → Nat → α} {c i : Nat} : up2 f c i (f c i) = f := by
  funext a b
  unfold up2
  by_cases h : a = c ∧ b = i
  · rw [if_pos h, h.1, h.2]
  · rw [if_neg h]
theorem sA_sA {σ : St} {c i : Nat} {f g : Nat → Int32} : sA (sA σ c i f) c i g = sA σ c i g := by
  show (up2 (up2 σ.1 c i f) c i g, σ.2) = (up2 σ.1 c i g, σ.2)
  rw [up2_up2]
theorem sA_self {σ : St} {c i : Nat} : sA σ c i (gI σ c i) = σ := by
  show (up2 σ.1 c i (σ.1 c i), σ.2) = σ
  rw [up2_self]
theorem gsA_s {σ : St} {c i : Nat} {f : Nat → Int32} : gI (sA σ c i f) c i = f := if_pos ⟨rfl, rfl⟩
theorem gsA_n {σ : St} {c i c' i' : Nat} {f : Nat → Int32} (h : ¬ (c' = c ∧ i' = i)) : gI (sA σ c i f) c' i' = gI σ c' i' := if_neg h
/-- the model's copies: row a2 becomes row a1 -/
theorem copies_l {σ : St} {a1 a2 : Nat} (hne : a1 ≠ a2) : ∀ (m i n : Nat) (g : Nat → Int32), i + m = 47 → m < n → ∃ f, fX12_copies_L2 a1 a2 (fun s => some s) n (nI i) (sA σ 12 a2 g) = some (sA σ 12 a2 f) ∧ ∀ j, j < 47 → f j = if i ≤ j then gI σ 12 a1 j else g j := by
  intro m
  induction m with
  | zero =>
    intro i n g hi hn
    obtain ⟨n, rfl⟩ : ∃ k, n = k + 1 := ⟨n - 1, by omega⟩
    have e : i = 47 := by omega
    subst e
    refine ⟨g, ?_, fun j hj => by rw [if_neg (by omega)]⟩
    show fX12_copies_L2B a1 a2 (fun s => some s) (fX12_copies_L2 a1 a2 (fun s => some s) n) (nI 47) (sA σ 12 a2 g) = _
    unfold fX12_copies_L2B
    rw [if_pos (by decide)]
  | succ m ih =>
    intro i n g hi hn
    obtain ⟨n, rfl⟩ : ∃ k, n = k + 1 := ⟨n - 1, by omega⟩
    have i47 : vp_in (nI i) 47 := in47 (by omega)
    obtain ⟨f, h1, h2⟩ := ih (i + 1) n (upd g i (gI σ 12 a1 i)) (by omega) (by omega)
    refine ⟨f, ?_, fun j hj => ?_⟩
    · show fX12_copies_L2B a1 a2 (fun s => some s) (fX12_copies_L2 a1 a2 (fun s => some s) n) (nI i) (sA σ 12 a2 g) = _
      unfold fX12_copies_L2B
      rw [if_neg (show ¬ (47 : Int32) ≤ nI i from nI_ge (b := 47) (by omega) (by omega)), ck_t i47, ck_t i47, nI_clamp (by omega), nmv_s, nmv_s, nI_1, gsA_n (fun q => hne q.2)]
      show fX12_copies_L2 a1 a2 (fun s => some s) n (nI (i + 1)) (sA (sA σ 12 a2 g) 12 a2 (upd (gI (sA σ 12 a2 g) 12 a2) i (gI σ 12 a1 i))) = _
      rw [gsA_s, sA_sA]
      exact h1
    · rw [h2 j hj]
      by_cases e : j = i
      · subst e
        rw [if_neg (by omega), if_pos (Nat.le_refl _), pk_us]
      · by_cases e2 : i ≤ j
        · rw [if_pos (by omega), if_pos e2]
        · rw [if_neg (by omega), if_neg e2, pk_un e]
theorem copies_s {σ : St} {a1 a2 : Nat} (hne : a1 ≠ a2) : ∃ f, fX12_copies σ a1 a2 = some (sA σ 12 a2 f) ∧ ∀ j, j < 47 → f j = gI σ 12 a1 j := by
  obtain ⟨f, h1, h2⟩ := copies_l (σ := σ) hne 47 0 FU (gI σ 12 a2) (by omega) (by unfold FU; omega)
  rw [sA_self] at h1
  exact ⟨f, h1, fun j hj => by rw [h2 j hj, if_pos (by omega)]⟩
theorem relM_row {σ σ' : St} {r r' : Nat} {h : Hg} (hM : RelM σ r h) (hO : OkH h) (e : ∀ j, j < 47 → gI σ' 12 r' j = gI σ 12 r j) : RelM σ' r' h := by
  obtain ⟨o0, o1, o2, -⟩ := hO
  obtain ⟨c0, c1, c2, c3, c4, c5⟩ := hM
  refine ⟨(e _ (by omega)).trans c0, (e _ (by omega)).trans c1, (e _ (by omega)).trans c2, fun b hb => ?_, fun t ht => ?_, fun k hk => ?_⟩
  · obtain ⟨q1, q2, q3, q4⟩ := c3 b hb
    exact ⟨(e _ (by omega)).trans q1, (e _ (by omega)).trans q2, (e _ (by omega)).trans q3, (e _ (by omega)).trans q4⟩
  · obtain ⟨q1, q2⟩ := c4 t ht
    exact ⟨(e _ (by omega)).trans q1, (e _ (by omega)).trans q2⟩
  · obtain ⟨q1, q2⟩ := c5 k hk
    exact ⟨(e _ (by omega)).trans q1, (e _ (by omega)).trans q2⟩
