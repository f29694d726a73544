theorem force_s {σ τ : St} (v : Int32) : (∃ j, j ≤ 60 ∧ v = nI j ∧ fX12_isForce τ v = some 1 ∧ fX11_isOut σ v 0 60 = some 0) ∨ ((∀ j, j ≤ 60 → v ≠ nI j) ∧ fX12_isForce τ v = some 0 ∧ fX11_isOut σ v 0 60 = some 1) := by
  unfold fX12_isForce
  rcases rng_s (σ := σ) (τ := τ) (M := 60) (n := 60) v (by omega) rfl with ⟨j, hj, e, q1, q2⟩ | ⟨e, q1, q2⟩
  · exact Or.inl ⟨j, hj, e, by rw [q1, bd_s, ck_t (Or.inr rfl)], q2⟩
  · exact Or.inr ⟨e, by rw [q1, bd_s, ck_t (Or.inl rfl)], q2⟩
theorem nmv_s {α β : Type} {v : α} {k : α → Option β} : nmv v k = k v := rfl
theorem gt_le (a b : Int32) : (b < a) = ¬ a ≤ b := propext Int32.not_le.symm
set_option maxHeartbeats 4000000 in
/-- heard -/
theorem case23 : Case23 Inv := by
  intro σ hI a1 a2
  unfold fX11_heard fX12_heard
  rcases rng_s (σ := σ) (τ := σ) (M := 99) (n := 99) a1 (by omega) rfl with ⟨i, hi, -, p1, p2⟩ | ⟨-, p1, p2⟩
  · rcases force_s (σ := σ) (τ := σ) a2 with ⟨j, hj, -, q1, q2⟩ | ⟨-, q1, q2⟩
    · rw [p1, p2, q1, q2]
      simp only [bd_s, if_pos (show (0 : Int32) = 0 from rfl), if_neg (show ¬ (1 : Int32) = 0 by decide), fX11_heard_J33, fX11_heard_J56, fX11_heard_J57, fX11_heard_J75, fX11_heard_J76, fX11_heard_J92, fX12_heard_J30, fX12_heard_J53, fX12_heard_J54, fX12_heard_J73, fX12_heard_J74, nmv, fX12_isIn, gt_le a1 70, gt_le a2 20]
      by_cases h1 : a1 ≤ 70 <;> by_cases h2 : a1 < 50 <;> by_cases h3 : a1 ≤ 60 <;> by_cases h4 : a2 ≤ 20 <;> by_cases h5 : a1 - a1 / 7 * 7 = 3 <;> simp only [h1, h2, h3, h4, h5, bd_s, if_true, if_false, not_true, not_false_iff] <;> exact ⟨_, rfl, rfl⟩
    · rw [p1, p2, q1, q2]
      exact ⟨-1, rfl, rfl⟩
  · rw [p1, p2]
    exact ⟨-1, rfl, rfl⟩
/-- a place of the hedge gets a number, on both sides -/
theorem up2_s {h : Hg} {c i v : Nat} : up2 h c i v c i = v := by
  unfold up2
  exact if_pos ⟨rfl, rfl⟩
theorem up2_n {h : Hg} {c i v c' i' : Nat} (hn : ¬ (c' = c ∧ i' = i)) : up2 h c i v c' i' = h c' i' := by
  unfold up2
  exact if_neg hn
theorem wet_ok {h : Hg} (hO : OkH h) {b v : Nat} (hv : v ≤ 9) : OkH (up2 h 3 b v) := by
  obtain ⟨o0, o1, o2, o3, o4, o5⟩ := hO
  refine ⟨o0, o1, o2, fun b' hb' => ?_, o4, o5⟩
  obtain ⟨q1, q2, q3, q4⟩ := o3 b' hb'
  refine ⟨q1, q2, ?_, q4⟩
  by_cases e : b' = b
  · subst e
    rw [up2_s]
    exact hv
  · rw [up2_n (fun q => e q.2)]
    exact q3
theorem wet_c {σ : St} {h : Hg} (hC : RelC σ 0 h) {b v : Nat} : RelC (sI σ 3 0 b (nI v)) 0 (up2 h 3 b v) := by
  obtain ⟨c0, c1, c2, c3, c4, c5⟩ := hC
  refine ⟨c0, c1, c2, fun b' hb' => ?_, c4, c5⟩
  obtain ⟨q1, q2, q3, q4⟩ := c3 b' hb'
  refine ⟨q1, q2, ?_, q4⟩
  show upd (gI σ 3 0) b (nI v) b' = _
  by_cases e : b' = b
  · subst e
    rw [up2_s, pk_us]
  · rw [up2_n (fun q => e q.2), pk_un e]
    exact q3
theorem wet_m {σ : St} {h : Hg} (hM : RelM σ 0 h) {b v : Nat} (hb : b < 6) : RelM (sI σ 12 0 (3 + 4 * b + 2) (nI v)) 0 (up2 h 3 b v) := by
  obtain ⟨c0, c1, c2, c3, c4, c5⟩ := hM
  have g : ∀ j, gI (sI σ 12 0 (3 + 4 * b + 2) (nI v)) 12 0 j = upd (gI σ 12 0) (3 + 4 * b + 2) (nI v) j := fun j => rfl
  refine ⟨?_, ?_, ?_, fun b' hb' => ?_, fun t ht => ⟨?_, ?_⟩, fun k hk => ⟨?_, ?_⟩⟩
  · rw [g, pk_un (by omega)]; exact c0
  · rw [g, pk_un (by omega)]; exact c1
  · rw [g, pk_un (by omega)]; exact c2
  · obtain ⟨q1, q2, q3, q4⟩ := c3 b' hb'
    refine ⟨?_, ?_, ?_, ?_⟩
    · rw [g, pk_un (by omega)]; exact q1
    · rw [g, pk_un (by omega)]; exact q2
    · rw [g]
      by_cases e : b' = b
      · subst e
        rw [up2_s, pk_us]
      · rw [up2_n (fun q => e q.2), pk_un (by omega)]
        exact q3
    · rw [g, pk_un (by omega)]; exact q4
  · rw [g, pk_un (by omega)]; exact (c4 t ht).1
  · rw [g, pk_un (by omega)]; exact (c4 t ht).2
  · rw [g, pk_un (by omega)]; exact (c5 k hk).1
  · rw [g, pk_un (by omega)]; exact (c5 k hk).2
/-- wets -/
theorem case7 : Case7 Inv := by
  intro σ hI a1 a2
  obtain ⟨⟨h, hO, hC, hM⟩, ⟨h1, O1, C1, M1⟩, I3, I4, I5, I6, I7, I8⟩ := id hI
  have h6 := hO.1
  unfold fX11_wets
  rcases blade_s hC hM hO a1 with ⟨b, hb, rfl, p1, p2⟩ | ⟨hne, p1, p2⟩
  · have i6 : vp_in (nI b) 6 := pk_in b 6 (by omega) rfl (by omega)
    rcases rng_s (σ := σ) (τ := sI σ 3 0 b a2) (M := 9) (n := 9) a2 (by omega) rfl with ⟨v, hv, rfl, q1, q2⟩ | ⟨-, -, q2⟩
    · have hM2 : RelM (sI σ 3 0 b (nI v)) 0 h := hM
      refine ⟨nI (h 3 b), sI σ 3 0 b (nI v), sI (sI σ 3 0 b (nI v)) 12 0 (3 + 4 * b + 2) (nI v), ?_, ?_, ?_⟩
      · rw [p1, bd_s, if_neg (by decide), q2, bd_s, if_pos rfl, ck_t i6, nmv_s, ck_t i6, nmv_s, nI_clamp (by omega), (hC.2.2.2.1 b hb).2.2.1]
      · unfold fX12_wets
        rw [show fX12_isBlade (sI σ 3 0 b (nI v)) (nI b) = some 1 from p2, bd_s, if_neg (by decide), q1, bd_s, if_neg (by decide), show fX12_bladeOf (sI σ 3 0 b (nI v)) (nI b) 2 = some (nI (h 3 b)) from at_bl hM2 hO (w := 2) hb (by omega), bd_s]
        unfold fX12_atBlade
        have e : (3 : Int32) + 4 * nI b + 2 = nI (3 + 4 * b + 2) := by
          show nI 3 + nI 4 * nI b + nI 2 = _
          rw [pk_mul, nI_add, nI_add]
        rw [bd_s, e, ck_t (in47 (by omega)), nI_clamp (by omega)]
        rfl
      · exact ⟨⟨up2 h 3 b v, wet_ok hO hv, wet_c hC, wet_m (σ := sI σ 3 0 b (nI v)) hM2 (by omega)⟩, ⟨h1, O1, C1, M1⟩, I3, I4, I5, I6, I7, I8⟩
    · refine ⟨-1, σ, σ, ?_, ?_, hI⟩
      · rw [p1, bd_s, if_neg (by decide), q2, bd_s, if_neg (by decide)]
      · unfold fX12_wets
        rcases rng_s (σ := σ) (τ := σ) (M := 9) (n := 9) a2 (by omega) rfl with ⟨v, hv, rfl, q3, q4⟩ | ⟨-, q3, -⟩
        · rw [q2] at q4
          exact absurd q4 (by decide)
        · rw [p2, q3]
          rfl
  · refine ⟨-1, σ, σ, ?_, ?_, hI⟩
    · rw [p1]
      rfl
    · unfold fX12_wets
      rw [p2]
      rfl
