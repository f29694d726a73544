/-- what is wrong, as bits -/
def wb (lo hi gr so ha v f : Nat) : Int32 := ((((if lo ≤ v then (0 : Int32) else 1) ||| (if v ≤ hi then (0 : Int32) else 2)) ||| (if v ≤ gr then (0 : Int32) else 4)) ||| (if so ≤ f then (0 : Int32) else 8)) ||| (if f ≤ ha then (0 : Int32) else 16)
theorem wb_0 {lo hi gr so ha v f : Nat} : wb lo hi gr so ha v f = 0 ↔ ((lo ≤ v ∧ v ≤ hi ∧ v ≤ gr) ∧ so ≤ f ∧ f ≤ ha) := by
  unfold wb
  by_cases h1 : lo ≤ v <;> by_cases h2 : v ≤ hi <;> by_cases h3 : v ≤ gr <;> by_cases h4 : so ≤ f <;> by_cases h5 : f ≤ ha <;> simp only [h1, h2, h3, h4, h5, if_true, if_false] <;> decide
theorem le_if {α : Type} {a b : Nat} (ha : a < 1000) (hb : b < 1000) {x y : α} : (if nI a ≤ nI b then x else y) = if a ≤ b then x else y := by
  by_cases h : a ≤ b
  · rw [if_pos h, if_pos (nI_le h (by omega))]
  · rw [if_neg h, if_neg (nI_ge (by omega) (by omega))]
theorem spn_v {σ : St} {x lo hi gr so ha : Nat} : gI (spn σ x lo hi gr so ha) 7 x 0 = nI lo ∧ gI (spn σ x lo hi gr so ha) 7 x 1 = nI hi ∧ gI (spn σ x lo hi gr so ha) 7 x 2 = nI gr ∧ gI (spn σ x lo hi gr so ha) 7 x 3 = nI so ∧ gI (spn σ x lo hi gr so ha) 7 x 4 = nI ha := by
  rw [spn_r]
  exact ⟨rfl, rfl, rfl, rfl, rfl⟩
theorem wrong_c {σ : St} {x lo hi gr so ha v f : Nat} (h1 : lo < 1000) (h2 : hi < 1000) (h3 : gr < 1000) (h4 : so < 1000) (h5 : ha < 1000) (hv : v < 1000) (hf : f < 1000) : fX9_wrongBits (spn σ x lo hi gr so ha) x (nI v) (nI f) = some (wb lo hi gr so ha v f) := by
  obtain ⟨e0, e1, e2, e3, e4⟩ := spn_v (σ := σ) (x := x) (lo := lo) (hi := hi) (gr := gr) (so := so) (ha := ha)
  simp only [fX9_wrongBits, fX9_wrongBits_J13, fX9_wrongBits_J28, fX9_wrongBits_J44, fX9_wrongBits_J61, e0, e1, e2, e3, e4, le_if h1 hv, le_if hv h2, le_if hv h3, le_if h4 hf, le_if hf h5, nmv_s]
  unfold wb
  by_cases h1 : lo ≤ v <;> by_cases h2 : v ≤ hi <;> by_cases h3 : v ≤ gr <;> by_cases h4 : so ≤ f <;> by_cases h5 : f ≤ ha <;> simp only [h1, h2, h3, h4, h5, if_true, if_false]
theorem inv_spn {σ : St} (hI : Inv σ) {x lo hi gr so ha : Nat} : Inv (spn σ x lo hi gr so ha) := hI
/-- span -/
theorem case8 : Case8 Inv := by
  intro σ hI a1 a2 a3 a4
  obtain ⟨⟨h, hO, hC, hM⟩, ⟨h1', O1, C1, M1⟩, I3, I4, I5, I6, I7, I8⟩ := id hI
  unfold fX11_span fX12_span
  rcases all_s hC hM hO a1 a2 a3 with ⟨b, t, k, hb, ht, hk, rfl, rfl, rfl, p1, p2⟩ | ⟨p1, p2⟩
  · have hM' : RelM (zSPN σ 0 h b t k) 0 h := hM
    have hh : gI (zSPN σ 0 h b t k) 11 0 4 = nI 3 := I4
    have p2' : fX12_areAll (zSPN σ 0 h b t k) (nI b) (nI t) (nI k) = some 1 := p2
    obtain ⟨e0, e1, e2, e3, e4⟩ := spn_v (σ := σ) (x := 0) (lo := zLO 3 h b t k) (hi := zHI 3 h b t k) (gr := zGR 3 h t) (so := zSO 3 h t k) (ha := zHA 3 h t k)
    rw [p1, bd_s, if_neg (by decide), spanOf_c hC hO hb ht hk, bd_s]
    rcases rng_s (σ := σ) (τ := zSPN σ 0 h b t k) (M := 3) (n := 3) a4 (by omega) rfl with ⟨j, hj, rfl, q1, -⟩ | ⟨hne, q1, -⟩
    · rcases j with _ | _ | _ | _ | j
      · refine ⟨nI (zLO 3 h b t k), zSPN σ 0 h b t k, ?_, ?_, inv_spn hI⟩
        · exact congrArg (fun v => some (v, zSPN σ 0 h b t k)) e0
        · rw [p2', bd_s, if_neg (by decide), q1, bd_s, if_neg (by decide), if_pos (by decide), low_m hM' hO hh (by omega) hb ht hk, bd_s]
      · refine ⟨nI (zHI 3 h b t k), zSPN σ 0 h b t k, ?_, ?_, inv_spn hI⟩
        · exact congrArg (fun v => some (v, zSPN σ 0 h b t k)) e1
        · rw [p2', bd_s, if_neg (by decide), q1, bd_s, if_neg (by decide), if_neg (by decide), if_pos (by decide), high_m hM' hO hh (by omega) hb ht hk, bd_s]
      · refine ⟨nI (zSO 3 h t k), zSPN σ 0 h b t k, ?_, ?_, inv_spn hI⟩
        · exact congrArg (fun v => some (v, zSPN σ 0 h b t k)) e3
        · rw [p2', bd_s, if_neg (by decide), q1, bd_s, if_neg (by decide), if_neg (by decide), if_neg (by decide), if_pos (by decide), soft_m hM' hO hh (by omega) ht hk, bd_s]
      · refine ⟨nI (zHA 3 h t k), zSPN σ 0 h b t k, ?_, ?_, inv_spn hI⟩
        · exact congrArg (fun v => some (v, zSPN σ 0 h b t k)) e4
        · rw [p2', bd_s, if_neg (by decide), q1, bd_s, if_neg (by decide), if_neg (by decide), if_neg (by decide), if_neg (by decide), hard_m hM' hO hh (by omega) ht hk, bd_s]
      · omega
    · refine ⟨-1, zSPN σ 0 h b t k, ?_, ?_, inv_spn hI⟩
      · rw [if_neg (show ¬ a4 = 0 from hne 0 (by omega)), if_neg (show ¬ a4 = 1 from hne 1 (by omega)), if_neg (show ¬ a4 = 2 from hne 2 (by omega)), if_neg (show ¬ a4 = 3 from hne 3 (by omega))]
      · rw [p2', bd_s, if_neg (by decide), q1, bd_s, if_pos rfl]
  · exact ⟨-1, σ, by rw [p1]; rfl, by rw [p2]; rfl, hI⟩
/-- sounds and wrong: what is told, on both sides -/
theorem told_s {σ τ : St} {x : Nat} {h : Hg} (hC : RelC σ x h) (hM : RelM τ 0 h) (hO : OkH h) (a1 a2 a3 a4 a5 : Int32) : (∃ b t k v f, b < h 0 0 ∧ t < h 0 1 ∧ k < h 0 2 ∧ v ≤ 60 ∧ f ≤ 60 ∧ a1 = nI b ∧ a2 = nI t ∧ a3 = nI k ∧ a4 = nI v ∧ a5 = nI f ∧ fX3_hasAll σ x a1 a2 a3 = some 1 ∧ fX11_isOut σ a4 0 60 = some 0 ∧ fX11_isOut σ a5 0 60 = some 0 ∧ fX12_isTold τ a1 a2 a3 a4 a5 = some 1) ∨ ((fX3_hasAll σ x a1 a2 a3 = some 0 ∨ (fX3_hasAll σ x a1 a2 a3 = some 1 ∧ (fX11_isOut σ a4 0 60 = some 1 ∨ (fX11_isOut σ a4 0 60 = some 0 ∧ fX11_isOut σ a5 0 60 = some 1)))) ∧ fX12_isTold τ a1 a2 a3 a4 a5 = some 0) := by
  unfold fX12_isTold
  rcases all_s hC hM hO a1 a2 a3 with ⟨b, t, k, hb, ht, hk, e1, e2, e3, p1, p2⟩ | ⟨p1, p2⟩
  · rcases force_s (σ := σ) (τ := τ) a4 with ⟨v, hv, e4, q1, q2⟩ | ⟨-, q1, q2⟩
    · rcases force_s (σ := σ) (τ := τ) a5 with ⟨f, hf, e5, r1, r2⟩ | ⟨-, r1, r2⟩
      · exact Or.inl ⟨b, t, k, v, f, hb, ht, hk, hv, hf, e1, e2, e3, e4, e5, p1, q2, r2, by rw [p2, q1, r1]; rfl⟩
      · exact Or.inr ⟨Or.inr ⟨p1, Or.inr ⟨q2, r2⟩⟩, by rw [p2, q1, r1]; rfl⟩
    · exact Or.inr ⟨Or.inr ⟨p1, Or.inl q2⟩, by rw [p2, q1]; rfl⟩
  · exact Or.inr ⟨Or.inl p1, by rw [p2]; rfl⟩
theorem case15 : Case15 Inv := by
  intro σ hI a1 a2 a3 a4 a5
  obtain ⟨⟨h, hO, hC, hM⟩, ⟨h1', O1, C1, M1⟩, I3, I4, I5, I6, I7, I8⟩ := id hI
  unfold fX11_wrong
  rcases told_s hC hM hO a1 a2 a3 a4 a5 with ⟨b, t, k, v, f, hb, ht, hk, hv, hf, rfl, rfl, rfl, rfl, rfl, p1, p2, p3, p4⟩ | ⟨p1, p4⟩
  · obtain ⟨l1, l2, l3, l4, l5, l6, l7, l8, l9⟩ := okS (hp := 3) hO hb ht hk
    have hM' : RelM (zSPN σ 0 h b t k) 0 h := hM
    have hh : gI (zSPN σ 0 h b t k) 11 0 4 = nI 3 := I4
    have p4' : fX12_isTold (zSPN σ 0 h b t k) (nI b) (nI t) (nI k) (nI v) (nI f) = some 1 := p4
    refine ⟨wb (zLO 3 h b t k) (zHI 3 h b t k) (zGR 3 h t) (zSO 3 h t k) (zHA 3 h t k) v f, zSPN σ 0 h b t k, ?_, ?_, inv_spn hI⟩
    · rw [p1, bd_s, if_neg (by decide), p2, bd_s, if_pos rfl, p3, bd_s, if_pos rfl, spanOf_c hC hO hb ht hk, bd_s]
      unfold zSPN
      rw [wrong_c (by omega) (by omega) (by omega) (by omega) (by omega) (by omega) (by omega), bd_s]
    · unfold fX12_wrong
      rw [p4', bd_s, if_neg (by decide)]
      simp only [fX12_wrong_J33, fX12_wrong_J54, fX12_wrong_J74, fX12_wrong_J96, low_m hM' hO hh (by omega) hb ht hk, high_m hM' hO hh (by omega) hb ht hk, soft_m hM' hO hh (by omega) ht hk, hard_m hM' hO hh (by omega) ht hk, grip_m hM' hO hh (by omega) ht, bd_s, nmv_s, le_if (show zLO 3 h b t k < 1000 by omega) (show v < 1000 by omega), le_if (show v < 1000 by omega) (show zHI 3 h b t k < 1000 by omega), le_if (show v < 1000 by omega) (show zGR 3 h t < 1000 by omega), le_if (show zSO 3 h t k < 1000 by omega) (show f < 1000 by omega), le_if (show f < 1000 by omega) (show zHA 3 h t k < 1000 by omega)]
      unfold wb
      by_cases h1 : zLO 3 h b t k ≤ v <;> by_cases h2 : v ≤ zHI 3 h b t k <;> by_cases h3 : v ≤ zGR 3 h t <;> by_cases h4 : zSO 3 h t k ≤ f <;> by_cases h5 : f ≤ zHA 3 h t k <;> simp only [h1, h2, h3, h4, h5, if_true, if_false]
  · refine ⟨-1, σ, ?_, by unfold fX12_wrong; rw [p4]; rfl, hI⟩
    rcases p1 with p1 | ⟨p1, p2 | ⟨p2, p3⟩⟩
    · rw [p1]; rfl
    · rw [p1, p2]; rfl
    · rw [p1, p2, p3]; rfl
/-- sounds -/
theorem case9 : Case9 Inv := by
  intro σ hI a1 a2 a3 a4 a5
  obtain ⟨⟨h, hO, hC, hM⟩, ⟨h1', O1, C1, M1⟩, I3, I4, I5, I6, I7, I8⟩ := id hI
  unfold fX11_sounds
  rcases told_s hC hM hO a1 a2 a3 a4 a5 with ⟨b, t, k, v, f, hb, ht, hk, hv, hf, rfl, rfl, rfl, rfl, rfl, p1, p2, p3, p4⟩ | ⟨p1, p4⟩
  · obtain ⟨l1, l2, l3, l4, l5, l6, l7, l8, l9⟩ := okS (hp := 3) hO hb ht hk
    have hM' : RelM (zSPN σ 0 h b t k) 0 h := hM
    have hh : gI (zSPN σ 0 h b t k) 11 0 4 = nI 3 := I4
    have p4' : fX12_isTold (zSPN σ 0 h b t k) (nI b) (nI t) (nI k) (nI v) (nI f) = some 1 := p4
    have hw : fX9_wrongBits (zSPN σ 0 h b t k) 0 (nI v) (nI f) = some (wb (zLO 3 h b t k) (zHI 3 h b t k) (zGR 3 h t) (zSO 3 h t k) (zHA 3 h t k) v f) := wrong_c (by omega) (by omega) (by omega) (by omega) (by omega) (by omega) (by omega)
    unfold fX12_sounds
    rw [p1, bd_s, if_neg (by decide), p2, bd_s, if_pos rfl, p3, bd_s, if_pos rfl, spanOf_c hC hO hb ht hk, bd_s, hw, bd_s]
    rcases sound_m (v := v) (f := f) hM' hO hh (by omega) hb ht hk (by omega) (by omega) with ⟨s1, s2⟩ | ⟨s1, s2⟩
    · refine ⟨1, zSPN σ 0 h b t k, ?_, ?_, inv_spn hI⟩
      · rw [if_pos (wb_0.mpr s1)]
      · rw [p4', s2]
        rfl
    · refine ⟨0, zSPN σ 0 h b t k, ?_, ?_, inv_spn hI⟩
      · rw [if_neg (fun q => s1 (wb_0.mp q))]
      · rw [p4', s2]
        rfl
  · refine ⟨-1, σ, ?_, by unfold fX12_sounds; rw [p4]; rfl, hI⟩
    rcases p1 with p1 | ⟨p1, p2 | ⟨p2, p3⟩⟩
    · rw [p1]; rfl
    · rw [p1, p2]; rfl
    · rw [p1, p2, p3]; rfl
