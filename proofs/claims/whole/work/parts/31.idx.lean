/-- a value told within 0 to n: model's isIn and class's isOut of it -/
theorem rng_s {σ τ : St} {M : Int32} {n : Nat} (v : Int32) (hn : n < 2 ^ 30) (hM : M = nI n) : (∃ j, j ≤ n ∧ v = nI j ∧ fX12_isIn τ v 0 M = some 1 ∧ fX11_isOut σ v 0 M = some 0) ∨ ((∀ j, j ≤ n → v ≠ nI j) ∧ fX12_isIn τ v 0 M = some 0 ∧ fX11_isOut σ v 0 M = some 1) := by
  subst hM
  unfold fX12_isIn fX11_isOut
  rcases ix3 v (n := n + 1) (by omega) with q | ⟨q, q2⟩ | ⟨j, hj, rfl⟩
  · refine Or.inr ⟨fun j hj e => ?_, by rw [if_pos q], by rw [if_pos q]⟩
    rw [e] at q
    exact nI_pos (by omega) q
  · have h1 : nI n < v := Int32.lt_of_lt_of_le (nI_lt (by omega) (by omega)) q2
    refine Or.inr ⟨fun j hj e => ?_, by rw [if_neg q, if_pos h1], by rw [if_neg q, if_neg (Int32.not_le.mpr h1)]⟩
    rw [e] at q2
    exact nI_ge (by omega) (by omega) q2
  · refine Or.inl ⟨j, by omega, rfl, ?_, ?_⟩
    · rw [if_neg (nI_pos (by omega)), if_neg (nI_nlt (by omega) (by omega))]
    · rw [if_neg (nI_pos (by omega)), if_pos (nI_le (by omega) (by omega))]
theorem sub1_lt {v : Int32} {n : Nat} (hn : n < 2 ^ 29) (h0 : ¬ v < 0) : (nI n - 1 < v) ↔ nI n ≤ v := by
  have e1 : (nI n - nI 1).toInt = (n : Int) - (1 : Nat) := pk_sub_toInt (by omega) (by omega)
  have e2 : (nI n).toInt = (n : Int) := nI_toInt (by omega)
  show (nI n - nI 1 < v) ↔ _
  rw [Int32.lt_iff_toInt_lt, Int32.le_iff_toInt_le, e1, e2]
  omega
theorem idx_s {σ : St} {n : Nat} (v : Int32) (hn : n < 2 ^ 29) : ((∃ j, j < n ∧ v = nI j) ∧ fX12_isIn σ v 0 (nI n - 1) = some 1) ∨ ((∀ j, j < n → v ≠ nI j) ∧ fX12_isIn σ v 0 (nI n - 1) = some 0) := by
  unfold fX12_isIn
  rcases ix3 v (n := n) (by omega) with q | ⟨q, q2⟩ | ⟨j, hj, rfl⟩
  · refine Or.inr ⟨fun j hj e => ?_, by rw [if_pos q]⟩
    rw [e] at q
    exact nI_pos (by omega) q
  · refine Or.inr ⟨fun j hj e => ?_, by rw [if_neg q, if_pos ((sub1_lt hn q).mpr q2)]⟩
    rw [e] at q2
    exact nI_ge (by omega) (by omega) q2
  · refine Or.inl ⟨⟨j, hj, rfl⟩, ?_⟩
    rw [if_neg (nI_pos (by omega)), if_neg (fun q => nI_ge hj (by omega) ((sub1_lt hn (nI_pos (by omega))).mp q))]
theorem has_s {n : Nat} {g : Int32} (v : Int32) (hn : n < 2 ^ 29) (hg : g = nI n) : ((∃ j, j < n ∧ v = nI j) ∧ (if v < 0 then some (0 : Int32) else if g ≤ v then some 0 else some 1) = some 1) ∨ ((∀ j, j < n → v ≠ nI j) ∧ (if v < 0 then some (0 : Int32) else if g ≤ v then some 0 else some 1) = some 0) := by
  subst hg
  rcases ix3 v (n := n) (by omega) with q | ⟨q, q2⟩ | ⟨j, hj, rfl⟩
  · refine Or.inr ⟨fun j hj e => ?_, by rw [if_pos q]⟩
    rw [e] at q
    exact nI_pos (by omega) q
  · refine Or.inr ⟨fun j hj e => ?_, by rw [if_neg q, if_pos q2]⟩
    rw [e] at q2
    exact nI_ge (by omega) (by omega) q2
  · exact Or.inl ⟨⟨j, hj, rfl⟩, by rw [if_neg (nI_pos (by omega)), if_neg (nI_ge hj (by omega))]⟩
theorem ne_of {n : Nat} {v : Int32} {P : Prop} (h1 : ∃ j, j < n ∧ v = nI j) (h2 : ∀ j, j < n → v ≠ nI j) : P := by
  obtain ⟨j, hj, e⟩ := h1
  exact absurd e (h2 j hj)
theorem in47 {k : Nat} (h : k < 47) : vp_in (nI k) 47 := pk_in k 47 h rfl (by omega)
/-- both classes of a blade's, thumbs', a blow's number -/
theorem blade_s {σ τ : St} {x : Nat} {h : Hg} (hC : RelC σ x h) (hM : RelM τ 0 h) (hO : OkH h) (a : Int32) : (∃ b, b < h 0 0 ∧ a = nI b ∧ fX3_hasBlade σ x a = some 1 ∧ fX12_isBlade τ a = some 1) ∨ ((∀ b, b < h 0 0 → a ≠ nI b) ∧ fX3_hasBlade σ x a = some 0 ∧ fX12_isBlade τ a = some 0) := by
  have h6 := hO.1
  unfold fX3_hasBlade fX12_isBlade
  rw [ck_t (show vp_in 0 47 from in47 (k := 0) (by omega)), show gI τ 12 0 (0 : Int32).toNatClampNeg = nI (h 0 0) from hM.1]
  rcases idx_s (σ := τ) (n := h 0 0) a (by omega) with ⟨q, q1⟩ | ⟨q, q1⟩ <;> rcases has_s a (by omega) hC.1 with ⟨p, p1⟩ | ⟨p, p1⟩
  · obtain ⟨b, hb, e⟩ := q
    exact Or.inl ⟨b, hb, e, p1, by rw [q1, bd_s, ck_t (Or.inr rfl)]⟩
  · exact ne_of q p
  · exact ne_of p q
  · exact Or.inr ⟨q, p1, by rw [q1, bd_s, ck_t (Or.inl rfl)]⟩
theorem thumbs_s {σ τ : St} {x : Nat} {h : Hg} (hC : RelC σ x h) (hM : RelM τ 0 h) (hO : OkH h) (a : Int32) : (∃ b, b < h 0 1 ∧ a = nI b ∧ fX3_hasThumbs σ x a = some 1 ∧ fX12_isThumbs τ a = some 1) ∨ ((∀ b, b < h 0 1 → a ≠ nI b) ∧ fX3_hasThumbs σ x a = some 0 ∧ fX12_isThumbs τ a = some 0) := by
  have h6 := hO.2.1
  unfold fX3_hasThumbs fX12_isThumbs
  rw [ck_t (show vp_in 1 47 from in47 (k := 1) (by omega)), show gI τ 12 0 (1 : Int32).toNatClampNeg = nI (h 0 1) from hM.2.1]
  rcases idx_s (σ := τ) (n := h 0 1) a (by omega) with ⟨q, q1⟩ | ⟨q, q1⟩ <;> rcases has_s a (by omega) hC.2.1 with ⟨p, p1⟩ | ⟨p, p1⟩
  · obtain ⟨b, hb, e⟩ := q
    exact Or.inl ⟨b, hb, e, p1, by rw [q1, bd_s, ck_t (Or.inr rfl)]⟩
  · exact ne_of q p
  · exact ne_of p q
  · exact Or.inr ⟨q, p1, by rw [q1, bd_s, ck_t (Or.inl rfl)]⟩
theorem blow_s {σ τ : St} {x : Nat} {h : Hg} (hC : RelC σ x h) (hM : RelM τ 0 h) (hO : OkH h) (a : Int32) : (∃ b, b < h 0 2 ∧ a = nI b ∧ fX3_hasBlow σ x a = some 1 ∧ fX12_isBlow τ a = some 1) ∨ ((∀ b, b < h 0 2 → a ≠ nI b) ∧ fX3_hasBlow σ x a = some 0 ∧ fX12_isBlow τ a = some 0) := by
  have h6 := hO.2.2.1
  unfold fX3_hasBlow fX12_isBlow
  rw [ck_t (show vp_in 2 47 from in47 (k := 2) (by omega)), show gI τ 12 0 (2 : Int32).toNatClampNeg = nI (h 0 2) from hM.2.2.1]
  rcases idx_s (σ := τ) (n := h 0 2) a (by omega) with ⟨q, q1⟩ | ⟨q, q1⟩ <;> rcases has_s a (by omega) hC.2.2.1 with ⟨p, p1⟩ | ⟨p, p1⟩
  · obtain ⟨b, hb, e⟩ := q
    exact Or.inl ⟨b, hb, e, p1, by rw [q1, bd_s, ck_t (Or.inr rfl)]⟩
  · exact ne_of q p
  · exact ne_of p q
  · exact Or.inr ⟨q, p1, by rw [q1, bd_s, ck_t (Or.inl rfl)]⟩
/-- all three -/
theorem all_s {σ τ : St} {x : Nat} {h : Hg} (hC : RelC σ x h) (hM : RelM τ 0 h) (hO : OkH h) (a1 a2 a3 : Int32) : (∃ b t k, b < h 0 0 ∧ t < h 0 1 ∧ k < h 0 2 ∧ a1 = nI b ∧ a2 = nI t ∧ a3 = nI k ∧ fX3_hasAll σ x a1 a2 a3 = some 1 ∧ fX12_areAll τ a1 a2 a3 = some 1) ∨ (fX3_hasAll σ x a1 a2 a3 = some 0 ∧ fX12_areAll τ a1 a2 a3 = some 0) := by
  unfold fX3_hasAll fX12_areAll
  rcases blade_s hC hM hO a1 with ⟨b, hb, e1, p1, p2⟩ | ⟨-, p1, p2⟩
  · rw [p1, p2, bd_s, bd_s, if_neg (by decide), if_neg (by decide)]
    rcases thumbs_s hC hM hO a2 with ⟨t, ht, e2, q1, q2⟩ | ⟨-, q1, q2⟩
    · rw [q1, q2, bd_s, bd_s, if_neg (by decide), if_neg (by decide)]
      rcases blow_s hC hM hO a3 with ⟨k, hk, e3, r1, r2⟩ | ⟨-, r1, r2⟩
      · rw [r1, r2]
        exact Or.inl ⟨b, t, k, hb, ht, hk, e1, e2, e3, rfl, rfl⟩
      · rw [r1, r2]
        exact Or.inr ⟨rfl, rfl⟩
    · rw [q1, q2, bd_s, bd_s, if_pos rfl, if_pos rfl]
      exact Or.inr ⟨rfl, rfl⟩
  · rw [p1, p2, bd_s, bd_s, if_pos rfl, if_pos rfl]
    exact Or.inr ⟨rfl, rfl⟩
