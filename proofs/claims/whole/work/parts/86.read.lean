theorem num_s {σ τ : St} {d n : Nat} (h : TxtOk σ d n) (e20 : gI τ 12 20 = gI σ 12 20) {g f : Nat → Int32} (hf : Fld σ d n f) {a k m : Nat} (ha : a < 900) (hk : k < 5) (hm : m ≤ 2) : (∃ g', fX12_readsNumber (Zt τ g (upd f 5 (nI a))) (nI k) (nI m) = some (1, Zt τ g' (upd f 5 (nI (a + m)))) ∧ (∀ i, a ≤ i → i < a + m → dgt (txt σ d n i)) ∧ g' k = nI (numN (txt σ d n) a m) ∧ ∀ k', k' ≠ k → g' k' = g k') ∨ ∃ p g', fX12_readsNumber (Zt τ g (upd f 5 (nI a))) (nI k) (nI m) = some (0, Zt τ g' (upd f 5 (nI p))) ∧ a ≤ p ∧ p < a + m ∧ (∀ i, a ≤ i → i < p → dgt (txt σ d n i)) ∧ ¬ dgt (txt σ d n p) := by
  rcases num_m h e20 hf ha hk hm (g := g) with ⟨g', q1, q2, q3, q4⟩ | q
  · refine Or.inl ⟨g', q1, fun i h1 h2 => ?_, q3, q4⟩
    have := q2 (i - a) (by omega)
    rw [show a + (i - a) = i by omega] at this
    exact this
  · exact Or.inr q
theorem read_m {σ τ : St} {d n : Nat} (h : TxtOk σ d n) (e20 : gI τ 12 20 = gI σ 12 20) {g f : Nat → Int32} (hf : Fld σ d n f) {a : Nat} (ha : a < 800) : (SOK (txt σ d n) a ∧ ∃ g', fX12_readsStatement (Zt τ g (upd f 5 (nI a))) = some (1, Zt τ g' (upd f 5 (nI (a + kd (txt σ d n a) + 2)))) ∧ stN (txt σ d n) a g') ∨ ∃ p g', SBad (txt σ d n) a p ∧ p < 900 ∧ fX12_readsStatement (Zt τ g (upd f 5 (nI a))) = some (0, Zt τ g' (upd f 5 (nI p))) := by
  have hh : fX12_here (Zt τ g (upd f 5 (nI a))) = some (uns (txt σ d n a)) := here_m h (by rw [Zt_n (by omega) (by omega)]; exact e20) (by rw [Zt_f, pk_un (by omega)]; exact hf.1) (by rw [Zt_f, pk_un (by omega)]; exact hf.2) (by rw [Zt_f, pk_us]) (by omega)
  obtain ⟨-, -, -, -, -, u1, u2, u3, u4, -⟩ := sgn_fin _ (txt_lt h a)
  have J : ∀ (e : Nat) (g1 : Nat → Int32), e < 900 → (txt σ d n e = 59 ∧ fX12_readsStatement_J216 1 (Zt τ g1 (upd f 5 (nI e))) = some (1, Zt τ g1 (upd f 5 (nI (e + 1))))) ∨ (txt σ d n e ≠ 59 ∧ fX12_readsStatement_J216 1 (Zt τ g1 (upd f 5 (nI e))) = some (0, Zt τ g1 (upd f 5 (nI e)))) := fun e g1 he => by
    rw [J216_m h e20 hf he]
    by_cases c : txt σ d n e = 59
    · rw [if_pos c]; exact Or.inl ⟨c, rfl⟩
    · rw [if_neg c]; exact Or.inr ⟨c, rfl⟩
  unfold fX12_readsStatement fX12_readsStatement_J91 fX12_readsStatement_J92 fX12_readsStatement_J118 fX12_readsStatement_J119 fX12_readsStatement_J145 fX12_readsStatement_J146 fX12_readsStatement_J199 fX12_readsStatement_J200
  rw [hh, bd_s, Zt_f, pk_us, Zt_sf, nI_1, upd_upd, nmv_s]
  have hn : ∀ (g1 : Nat → Int32) (e k m : Nat), e < 900 → k < 5 → m ≤ 2 → (∃ g', fX12_readsNumber (Zt τ g1 (upd f 5 (nI e))) (nI k) (nI m) = some (1, Zt τ g' (upd f 5 (nI (e + m)))) ∧ (∀ i, e ≤ i → i < e + m → dgt (txt σ d n i)) ∧ g' k = nI (numN (txt σ d n) e m) ∧ ∀ k', k' ≠ k → g' k' = g1 k') ∨ ∃ p g', fX12_readsNumber (Zt τ g1 (upd f 5 (nI e))) (nI k) (nI m) = some (0, Zt τ g' (upd f 5 (nI p))) ∧ e ≤ p ∧ p < e + m ∧ (∀ i, e ≤ i → i < p → dgt (txt σ d n i)) ∧ ¬ dgt (txt σ d n p) := fun g1 e k m he hk hm => num_s h e20 hf he hk hm
  by_cases c1 : txt σ d n a = 98
  · have kk : kd (txt σ d n a) = 5 := if_pos c1
    have bad : ∀ p, a < p → (∀ i, a < i → i < p → dgt (txt σ d n i)) → (p ≤ a + 5 ∧ ¬ dgt (txt σ d n p)) ∨ (p = a + 5 + 1 ∧ txt σ d n p ≠ 59) → SBad (txt σ d n) a p := fun p q1 q2 q3 => Or.inr ⟨by omega, q1, q2, by rw [kk]; exact q3⟩
    rw [if_pos (u1.mpr c1), kk]
    rcases hn g (a + 1) 0 2 (by omega) (by omega) (by omega) with ⟨g1, a1, a2, a3, a4⟩ | ⟨p, g1, a1, a2, a3, a4, a5⟩
    rotate_left
    · rw [show fX12_readsNumber (Zt τ g (upd f 5 (nI (a + 1)))) 0 2 = _ from a1, bd_s]
      exact Or.inr ⟨p, g1, bad p (by omega) (fun i i1 i2 => a4 i (by omega) i2) (Or.inl ⟨by omega, a5⟩), by omega, rfl⟩
    rw [show fX12_readsNumber (Zt τ g (upd f 5 (nI (a + 1)))) 0 2 = _ from a1, bd_s]
    dsimp only
    rw [if_neg (show ¬ (1 : Int32) = 0 by decide)]
    rcases hn g1 (a + 1 + 2) 1 2 (by omega) (by omega) (by omega) with ⟨g2, b1, b2, b3, b4⟩ | ⟨p, g2, b1, b2, b3, b4, b5⟩
    rotate_left
    · rw [show fX12_readsNumber (Zt τ g1 (upd f 5 (nI (a + 1 + 2)))) 1 2 = _ from b1, bd_s]
      refine Or.inr ⟨p, g2, bad p (by omega) (fun i i1 i2 => ?_) (Or.inl ⟨by omega, b5⟩), by omega, rfl⟩
      by_cases c : i < a + 1 + 2
      · exact a2 i (by omega) c
      · exact b4 i (by omega) i2
    rw [show fX12_readsNumber (Zt τ g1 (upd f 5 (nI (a + 1 + 2)))) 1 2 = _ from b1, bd_s]
    dsimp only
    rw [if_neg (show ¬ (1 : Int32) = 0 by decide)]
    have d12 : ∀ i, a < i → i < a + 1 + 2 + 2 → dgt (txt σ d n i) := fun i i1 i2 => by
      by_cases c : i < a + 1 + 2
      · exact a2 i (by omega) c
      · exact b2 i (by omega) i2
    rcases hn g2 (a + 1 + 2 + 2) 2 1 (by omega) (by omega) (by omega) with ⟨g3, e1, e2, e3, e4⟩ | ⟨p, g3, e1, e2, e3, e4, e5⟩
    rotate_left
    · rw [show fX12_readsNumber (Zt τ g2 (upd f 5 (nI (a + 1 + 2 + 2)))) 2 1 = _ from e1, bd_s]
      refine Or.inr ⟨p, g3, bad p (by omega) (fun i i1 i2 => ?_) (Or.inl ⟨by omega, e5⟩), by omega, rfl⟩
      by_cases c : i < a + 1 + 2 + 2
      · exact d12 i i1 c
      · exact e4 i (by omega) i2
    rw [show fX12_readsNumber (Zt τ g2 (upd f 5 (nI (a + 1 + 2 + 2)))) 2 1 = _ from e1, bd_s]
    dsimp only
    rw [if_neg (show ¬ (1 : Int32) = 0 by decide)]
    have d13 : ∀ i, a < i → i ≤ a + 5 → dgt (txt σ d n i) := fun i i1 i2 => by
      by_cases c : i < a + 1 + 2 + 2
      · exact d12 i i1 c
      · exact e2 i (by omega) (by omega)
    rcases J (a + 1 + 2 + 2 + 1) g3 (by omega) with ⟨j1, j2⟩ | ⟨j1, j2⟩
    · rw [j2]
      refine Or.inl ⟨⟨by omega, by rw [kk]; exact d13, by rw [kk]; exact j1⟩, g3, rfl, fun _ => ⟨?_, ?_, e3⟩, fun q => by omega, fun q => by omega, fun q => by omega⟩
      · rw [e4 0 (by omega), b4 0 (by omega)]; exact a3
      · rw [e4 1 (by omega)]; exact b3
    · rw [j2]
      exact Or.inr ⟨a + 5 + 1, g3, bad _ (by omega) (fun i i1 i2 => d13 i i1 (by omega)) (Or.inr ⟨rfl, j1⟩), by omega, rfl⟩
  rw [if_neg (fun q => c1 (u1.mp q))]
  by_cases c2 : txt σ d n a = 107
  · have kk : kd (txt σ d n a) = 2 := by unfold kd; rw [if_neg c1, if_pos c2]
    have bad : ∀ p, a < p → (∀ i, a < i → i < p → dgt (txt σ d n i)) → (p ≤ a + 2 ∧ ¬ dgt (txt σ d n p)) ∨ (p = a + 2 + 1 ∧ txt σ d n p ≠ 59) → SBad (txt σ d n) a p := fun p q1 q2 q3 => Or.inr ⟨by omega, q1, q2, by rw [kk]; exact q3⟩
    rw [if_pos (u2.mpr c2), kk]
    rcases hn g (a + 1) 0 1 (by omega) (by omega) (by omega) with ⟨g1, a1, a2, a3, a4⟩ | ⟨p, g1, a1, a2, a3, a4, a5⟩
    rotate_left
    · rw [show fX12_readsNumber (Zt τ g (upd f 5 (nI (a + 1)))) 0 1 = _ from a1, bd_s]
      exact Or.inr ⟨p, g1, bad p (by omega) (fun i i1 i2 => a4 i (by omega) i2) (Or.inl ⟨by omega, a5⟩), by omega, rfl⟩
    rw [show fX12_readsNumber (Zt τ g (upd f 5 (nI (a + 1)))) 0 1 = _ from a1, bd_s]
    dsimp only
    rw [if_neg (show ¬ (1 : Int32) = 0 by decide)]
    rcases hn g1 (a + 1 + 1) 1 1 (by omega) (by omega) (by omega) with ⟨g2, b1, b2, b3, b4⟩ | ⟨p, g2, b1, b2, b3, b4, b5⟩
    rotate_left
    · rw [show fX12_readsNumber (Zt τ g1 (upd f 5 (nI (a + 1 + 1)))) 1 1 = _ from b1, bd_s]
      refine Or.inr ⟨p, g2, bad p (by omega) (fun i i1 i2 => ?_) (Or.inl ⟨by omega, b5⟩), by omega, rfl⟩
      by_cases c : i < a + 1 + 1
      · exact a2 i (by omega) c
      · exact b4 i (by omega) i2
    rw [show fX12_readsNumber (Zt τ g1 (upd f 5 (nI (a + 1 + 1)))) 1 1 = _ from b1, bd_s]
    dsimp only
    rw [if_neg (show ¬ (1 : Int32) = 0 by decide)]
    have d12 : ∀ i, a < i → i ≤ a + 2 → dgt (txt σ d n i) := fun i i1 i2 => by
      by_cases c : i < a + 1 + 1
      · exact a2 i (by omega) c
      · exact b2 i (by omega) (by omega)
    rcases J (a + 1 + 1 + 1) g2 (by omega) with ⟨j1, j2⟩ | ⟨j1, j2⟩
    · rw [j2]
      refine Or.inl ⟨⟨by omega, by rw [kk]; exact d12, by rw [kk]; exact j1⟩, g2, rfl, fun q => by omega, fun _ => ⟨?_, b3⟩, fun q => by omega, fun q => by omega⟩
      rw [b4 0 (by omega)]; exact a3
    · rw [j2]
      exact Or.inr ⟨a + 2 + 1, g2, bad _ (by omega) (fun i i1 i2 => d12 i i1 (by omega)) (Or.inr ⟨rfl, j1⟩), by omega, rfl⟩
  rw [if_neg (fun q => c2 (u2.mp q))]
  by_cases c3 : txt σ d n a = 116
  · have kk : kd (txt σ d n a) = 3 := by unfold kd; rw [if_neg c1, if_neg c2, if_pos c3]
    have bad : ∀ p, a < p → (∀ i, a < i → i < p → dgt (txt σ d n i)) → (p ≤ a + 3 ∧ ¬ dgt (txt σ d n p)) ∨ (p = a + 3 + 1 ∧ txt σ d n p ≠ 59) → SBad (txt σ d n) a p := fun p q1 q2 q3 => Or.inr ⟨by omega, q1, q2, by rw [kk]; exact q3⟩
    rw [if_pos (u3.mpr c3), kk]
    rcases hn g (a + 1) 0 1 (by omega) (by omega) (by omega) with ⟨g1, a1, a2, a3, a4⟩ | ⟨p, g1, a1, a2, a3, a4, a5⟩
    rotate_left
    · rw [show fX12_readsNumber (Zt τ g (upd f 5 (nI (a + 1)))) 0 1 = _ from a1, bd_s]
      exact Or.inr ⟨p, g1, bad p (by omega) (fun i i1 i2 => a4 i (by omega) i2) (Or.inl ⟨by omega, a5⟩), by omega, rfl⟩
    rw [show fX12_readsNumber (Zt τ g (upd f 5 (nI (a + 1)))) 0 1 = _ from a1, bd_s]
    dsimp only
    rw [if_neg (show ¬ (1 : Int32) = 0 by decide)]
    rcases hn g1 (a + 1 + 1) 1 2 (by omega) (by omega) (by omega) with ⟨g2, b1, b2, b3, b4⟩ | ⟨p, g2, b1, b2, b3, b4, b5⟩
    rotate_left
    · rw [show fX12_readsNumber (Zt τ g1 (upd f 5 (nI (a + 1 + 1)))) 1 2 = _ from b1, bd_s]
      refine Or.inr ⟨p, g2, bad p (by omega) (fun i i1 i2 => ?_) (Or.inl ⟨by omega, b5⟩), by omega, rfl⟩
      by_cases c : i < a + 1 + 1
      · exact a2 i (by omega) c
      · exact b4 i (by omega) i2
    rw [show fX12_readsNumber (Zt τ g1 (upd f 5 (nI (a + 1 + 1)))) 1 2 = _ from b1, bd_s]
    dsimp only
    rw [if_neg (show ¬ (1 : Int32) = 0 by decide)]
    have d12 : ∀ i, a < i → i ≤ a + 3 → dgt (txt σ d n i) := fun i i1 i2 => by
      by_cases c : i < a + 1 + 1
      · exact a2 i (by omega) c
      · exact b2 i (by omega) (by omega)
    rcases J (a + 1 + 1 + 2) g2 (by omega) with ⟨j1, j2⟩ | ⟨j1, j2⟩
    · rw [j2]
      refine Or.inl ⟨⟨by omega, by rw [kk]; exact d12, by rw [kk]; exact j1⟩, g2, rfl, fun q => by omega, fun q => by omega, fun _ => ⟨?_, b3⟩, fun q => by omega⟩
      rw [b4 0 (by omega)]; exact a3
    · rw [j2]
      exact Or.inr ⟨a + 3 + 1, g2, bad _ (by omega) (fun i i1 i2 => d12 i i1 (by omega)) (Or.inr ⟨rfl, j1⟩), by omega, rfl⟩
  rw [if_neg (fun q => c3 (u3.mp q))]
  by_cases c4 : txt σ d n a = 121
  · have kk : kd (txt σ d n a) = 7 := by unfold kd; rw [if_neg c1, if_neg c2, if_neg c3, if_pos c4]
    have bad : ∀ p, a < p → (∀ i, a < i → i < p → dgt (txt σ d n i)) → (p ≤ a + 7 ∧ ¬ dgt (txt σ d n p)) ∨ (p = a + 7 + 1 ∧ txt σ d n p ≠ 59) → SBad (txt σ d n) a p := fun p q1 q2 q3 => Or.inr ⟨by omega, q1, q2, by rw [kk]; exact q3⟩
    rw [if_pos (u4.mpr c4), kk]
    rcases hn g (a + 1) 0 1 (by omega) (by omega) (by omega) with ⟨g1, a1, a2, a3, a4⟩ | ⟨p, g1, a1, a2, a3, a4, a5⟩
    rotate_left
    · rw [show fX12_readsNumber (Zt τ g (upd f 5 (nI (a + 1)))) 0 1 = _ from a1, bd_s]
      exact Or.inr ⟨p, g1, bad p (by omega) (fun i i1 i2 => a4 i (by omega) i2) (Or.inl ⟨by omega, a5⟩), by omega, rfl⟩
    rw [show fX12_readsNumber (Zt τ g (upd f 5 (nI (a + 1)))) 0 1 = _ from a1, bd_s]
    dsimp only
    rw [if_neg (show ¬ (1 : Int32) = 0 by decide)]
    rcases hn g1 (a + 1 + 1) 1 1 (by omega) (by omega) (by omega) with ⟨g2, b1, b2, b3, b4⟩ | ⟨p, g2, b1, b2, b3, b4, b5⟩
    rotate_left
    · rw [show fX12_readsNumber (Zt τ g1 (upd f 5 (nI (a + 1 + 1)))) 1 1 = _ from b1, bd_s]
      refine Or.inr ⟨p, g2, bad p (by omega) (fun i i1 i2 => ?_) (Or.inl ⟨by omega, b5⟩), by omega, rfl⟩
      by_cases c : i < a + 1 + 1
      · exact a2 i (by omega) c
      · exact b4 i (by omega) i2
    rw [show fX12_readsNumber (Zt τ g1 (upd f 5 (nI (a + 1 + 1)))) 1 1 = _ from b1, bd_s]
    dsimp only
    rw [if_neg (show ¬ (1 : Int32) = 0 by decide)]
    have d2 : ∀ i, a < i → i < a + 1 + 1 + 1 → dgt (txt σ d n i) := fun i i1 i2 => by
      by_cases c : i < a + 1 + 1
      · exact a2 i (by omega) c
      · exact b2 i (by omega) i2
    rcases hn g2 (a + 1 + 1 + 1) 2 1 (by omega) (by omega) (by omega) with ⟨g3, e1, e2, e3, e4⟩ | ⟨p, g3, e1, e2, e3, e4, e5⟩
    rotate_left
    · rw [show fX12_readsNumber (Zt τ g2 (upd f 5 (nI (a + 1 + 1 + 1)))) 2 1 = _ from e1, bd_s]
      refine Or.inr ⟨p, g3, bad p (by omega) (fun i i1 i2 => ?_) (Or.inl ⟨by omega, e5⟩), by omega, rfl⟩
      by_cases c : i < a + 1 + 1 + 1
      · exact d2 i i1 c
      · exact e4 i (by omega) i2
    rw [show fX12_readsNumber (Zt τ g2 (upd f 5 (nI (a + 1 + 1 + 1)))) 2 1 = _ from e1, bd_s]
    dsimp only
    rw [if_neg (show ¬ (1 : Int32) = 0 by decide)]
    have d3 : ∀ i, a < i → i < a + 1 + 1 + 1 + 1 → dgt (txt σ d n i) := fun i i1 i2 => by
      by_cases c : i < a + 1 + 1 + 1
      · exact d2 i i1 c
      · exact e2 i (by omega) i2
    rcases hn g3 (a + 1 + 1 + 1 + 1) 3 2 (by omega) (by omega) (by omega) with ⟨g4, l1, l2, l3, l4⟩ | ⟨p, g4, l1, l2, l3, l4, l5⟩
    rotate_left
    · rw [show fX12_readsNumber (Zt τ g3 (upd f 5 (nI (a + 1 + 1 + 1 + 1)))) 3 2 = _ from l1, bd_s]
      refine Or.inr ⟨p, g4, bad p (by omega) (fun i i1 i2 => ?_) (Or.inl ⟨by omega, l5⟩), by omega, rfl⟩
      by_cases c : i < a + 1 + 1 + 1 + 1
      · exact d3 i i1 c
      · exact l4 i (by omega) i2
    rw [show fX12_readsNumber (Zt τ g3 (upd f 5 (nI (a + 1 + 1 + 1 + 1)))) 3 2 = _ from l1, bd_s]
    dsimp only
    rw [if_neg (show ¬ (1 : Int32) = 0 by decide)]
    have d4 : ∀ i, a < i → i < a + 1 + 1 + 1 + 1 + 2 → dgt (txt σ d n i) := fun i i1 i2 => by
      by_cases c : i < a + 1 + 1 + 1 + 1
      · exact d3 i i1 c
      · exact l2 i (by omega) i2
    rcases hn g4 (a + 1 + 1 + 1 + 1 + 2) 4 2 (by omega) (by omega) (by omega) with ⟨g5, m1, m2, m3, m4⟩ | ⟨p, g5, m1, m2, m3, m4, m5⟩
    rotate_left
    · rw [show fX12_readsNumber (Zt τ g4 (upd f 5 (nI (a + 1 + 1 + 1 + 1 + 2)))) 4 2 = _ from m1, bd_s]
      refine Or.inr ⟨p, g5, bad p (by omega) (fun i i1 i2 => ?_) (Or.inl ⟨by omega, m5⟩), by omega, rfl⟩
      by_cases c : i < a + 1 + 1 + 1 + 1 + 2
      · exact d4 i i1 c
      · exact m4 i (by omega) i2
    rw [show fX12_readsNumber (Zt τ g4 (upd f 5 (nI (a + 1 + 1 + 1 + 1 + 2)))) 4 2 = _ from m1, bd_s]
    dsimp only
    rw [if_neg (show ¬ (1 : Int32) = 0 by decide)]
    have d5 : ∀ i, a < i → i ≤ a + 7 → dgt (txt σ d n i) := fun i i1 i2 => by
      by_cases c : i < a + 1 + 1 + 1 + 1 + 2
      · exact d4 i i1 c
      · exact m2 i (by omega) (by omega)
    rcases J (a + 1 + 1 + 1 + 1 + 2 + 2) g5 (by omega) with ⟨j1, j2⟩ | ⟨j1, j2⟩
    · rw [j2]
      refine Or.inl ⟨⟨by omega, by rw [kk]; exact d5, by rw [kk]; exact j1⟩, g5, rfl, fun q => by omega, fun q => by omega, fun q => by omega, fun _ => ⟨?_, ?_, ?_, ?_, m3⟩⟩
      · rw [m4 0 (by omega), l4 0 (by omega), e4 0 (by omega), b4 0 (by omega)]; exact a3
      · rw [m4 1 (by omega), l4 1 (by omega), e4 1 (by omega)]; exact b3
      · rw [m4 2 (by omega), l4 2 (by omega)]; exact e3
      · rw [m4 3 (by omega)]; exact l3
    · rw [j2]
      exact Or.inr ⟨a + 7 + 1, g5, bad _ (by omega) (fun i i1 i2 => d5 i i1 (by omega)) (Or.inr ⟨rfl, j1⟩), by omega, rfl⟩
  rw [if_neg (fun q => c4 (u4.mp q)), Zt_f, pk_us, show nI (a + 1) - 1 = nI a from nI_pred a, Zt_sf, upd_upd, nmv_s]
  have kk : kd (txt σ d n a) = 0 := by unfold kd; rw [if_neg c1, if_neg c2, if_neg c3, if_neg c4]
  exact Or.inr ⟨a, g, Or.inl ⟨kk, rfl⟩, by omega, rfl⟩
