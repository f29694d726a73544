/-- the distance -/
def dst (a b : Nat) : Nat := (a - b) + (b - a)
theorem size_m {τ : St} {a b : Nat} (ha : a < 10000) (hb : b < 10000) : fX12_size τ (nI a - nI b) = some (nI (dst a b)) := by
  unfold fX12_size dst
  by_cases h : b ≤ a
  · rw [pk_sub h, if_pos (nI_pos' (by omega)), show b - a = 0 by omega, Nat.add_zero]
  · rw [if_neg ?_, Int32.neg_sub, pk_sub (by omega), show a - b = 0 by omega, Nat.zero_add]
    rw [Int32.le_iff_toInt_le, sub_I (by omega) (by omega), show (0 : Int32).toInt = 0 from rfl]
    omega
theorem abs_c {a b : Nat} (ha : a < 10000) (hb : b < 10000) : (if 0 ≤ nI a - nI b then nI a - nI b else 0 - (nI a - nI b)) = nI (dst a b) := by
  unfold dst
  by_cases h : b ≤ a
  · rw [pk_sub h, if_pos (nI_pos' (by omega)), show b - a = 0 by omega, Nat.add_zero]
  · rw [if_neg ?_, Int32.zero_sub, Int32.neg_sub, pk_sub (by omega), show a - b = 0 by omega, Nat.zero_add]
    rw [Int32.le_iff_toInt_le, sub_I (by omega) (by omega), show (0 : Int32).toInt = 0 from rfl]
    omega
/-- of all pairs done so far (P) the nearest to T, F: found and best -/
def near (P : Nat → Nat → Prop) (T F : Nat) (x y : Int32) : Prop := (x = -4 ∧ y = 1000000000 ∧ ∀ v f, ¬ P v f) ∨ ∃ v f, P v f ∧ x = nI (100 * v + f) ∧ y = nI (dst v T + dst f F) ∧ ∀ v' f', P v' f' → dst v T + dst f F ≤ dst v' T + dst f' F
theorem near_eq {P Q : Nat → Nat → Prop} {T F : Nat} {x y : Int32} (h : near P T F x y) (e : ∀ v f, P v f ↔ Q v f) : near Q T F x y := by
  rcases h with ⟨h1, h2, h3⟩ | ⟨v, f, h1, h2, h3, h4⟩
  · exact Or.inl ⟨h1, h2, fun v f q => h3 v f ((e v f).mpr q)⟩
  · exact Or.inr ⟨v, f, (e v f).mp h1, h2, h3, fun v' f' q => h4 v' f' ((e v' f').mpr q)⟩
theorem nextIn_m {τ : St} {h : Hg} (hM : RelM τ 0 h) (hO : OkH h) (hh : gI τ 11 0 4 = nI 3) {b t k i n0 : Nat} (hb : b < h 0 0) (ht : t < h 0 1) (hk : k < h 0 2) (hi : i ≤ 60) (hn : n0 < 2 ^ 31) (hT : n0 / 100 ≤ 60) (K : Int32 → Int32 → Option Int32) {x0 y0 : Int32} (hx : near (fun v f => v < i ∧ f ≤ 60 ∧ tI 3 h b t k v ∧ hA 3 h t k f) (n0 / 100) (n0 % 100) x0 y0) : ∃ x y, near (fun v f => v < i + 1 ∧ f ≤ 60 ∧ tI 3 h b t k v ∧ hA 3 h t k f) (n0 / 100) (n0 % 100) x y ∧ fX12_next_L68 τ (nI b) (nI t) (nI k) (nI n0) (nI i) K FU x0 y0 0 = K x y := by
  have e1 : nI n0 / 100 = nI (n0 / 100) := pk_div (d := 100) hn (by omega) (by omega)
  have e2 : nI n0 - nI n0 / 100 * 100 = nI (n0 % 100) := pk_rem (d := 100) hn (by omega) (by omega)
  refine loop_h (S := Int32 × Int32) (fun n j s => fX12_next_L68 τ (nI b) (nI t) (nI k) (nI n0) (nI i) K n s.1 s.2 (nI j)) 61 (fun j s => near (fun v f => (v < i ∨ (v = i ∧ f < j)) ∧ f ≤ 60 ∧ tI 3 h b t k v ∧ hA 3 h t k f) (n0 / 100) (n0 % 100) s.1 s.2) (fun q => ∃ x y, near (fun v f => v < i + 1 ∧ f ≤ 60 ∧ tI 3 h b t k v ∧ hA 3 h t k f) (n0 / 100) (n0 % 100) x y ∧ q = K x y) (fun n j s hj hI => ?_) 61 0 (x0, y0) FU (by omega) (FU_gt (by omega)) (near_eq hx (fun v f => ⟨fun ⟨q, q2, q3⟩ => ⟨by omega, by omega, q3⟩, fun ⟨q, q2, q3⟩ => ⟨by omega, by omega, q3⟩⟩))
  obtain ⟨x, y⟩ := s
  dsimp only at hI
  show (∃ x' y', near _ _ _ x' y' ∧ fX12_next_L68B τ (nI b) (nI t) (nI k) (nI n0) (nI i) K (fX12_next_L68 τ (nI b) (nI t) (nI k) (nI n0) (nI i) K n) x y (nI j) = K x' y') ∨ (j < 61 ∧ ∃ s', fX12_next_L68B τ (nI b) (nI t) (nI k) (nI n0) (nI i) K (fX12_next_L68 τ (nI b) (nI t) (nI k) (nI n0) (nI i) K n) x y (nI j) = _ ∧ _)
  unfold fX12_next_L68B fX12_next_J141
  by_cases e : j = 61
  · subst e
    rw [if_pos (by decide)]
    exact Or.inl ⟨x, y, near_eq hI (fun v f => ⟨fun ⟨q, q2, q3⟩ => ⟨by omega, by omega, q3⟩, fun ⟨q, q2, q3⟩ => ⟨by omega, by omega, q3⟩⟩), rfl⟩
  · rw [if_neg (show ¬ (60 : Int32) < nI j from nI_nlt (a := 60) (by omega) (by omega)), nI_1]
    rcases sound_m (v := i) (f := j) hM hO hh (by omega) hb ht hk (by omega) (by omega) with ⟨s1, s2⟩ | ⟨s1, s2⟩
    · rw [s2, bd_s, if_neg (by decide), e1, show nI n0 - nI (n0 / 100) * 100 = nI (n0 % 100) by rw [← e1]; exact e2, size_m (by omega) (by omega), bd_s, size_m (by omega) (by omega), bd_s, nI_add, nmv_s, nmv_s, nmv_s]
      have d1 : dst i (n0 / 100) ≤ 60 := by unfold dst; omega
      have d2 : dst j (n0 % 100) ≤ 200 := by unfold dst; omega
      have ec : (100 : Int32) * nI i + nI j = nI (100 * i + j) := cell_ix
      have new : ∀ v f, ((v < i ∨ (v = i ∧ f < j + 1)) ∧ f ≤ 60 ∧ tI 3 h b t k v ∧ hA 3 h t k f) → ((v < i ∨ (v = i ∧ f < j)) ∧ f ≤ 60 ∧ tI 3 h b t k v ∧ hA 3 h t k f) ∨ (v = i ∧ f = j) := fun v f ⟨q, q2⟩ => by
        by_cases c : v = i ∧ f = j
        · exact Or.inr c
        · exact Or.inl ⟨by omega, q2⟩
      have old : ∀ v f, ((v < i ∨ (v = i ∧ f < j)) ∧ f ≤ 60 ∧ tI 3 h b t k v ∧ hA 3 h t k f) → ((v < i ∨ (v = i ∧ f < j + 1)) ∧ f ≤ 60 ∧ tI 3 h b t k v ∧ hA 3 h t k f) := fun v f ⟨q, q2⟩ => ⟨by omega, q2⟩
      have me : (i < i ∨ (i = i ∧ j < j + 1)) ∧ j ≤ 60 ∧ tI 3 h b t k i ∧ hA 3 h t k j := ⟨by omega, by omega, s1⟩
      rw [ec]
      refine Or.inr ⟨by omega, ?_⟩
      rcases hI with ⟨h1, h2, h3⟩ | ⟨v, f, h1, h2, h3, h4⟩
      · rw [h2, if_pos (show nI (dst i (n0 / 100) + dst j (n0 % 100)) < (1000000000 : Int32) from nI_lt (b := 1000000000) (by omega) (by omega))]
        refine ⟨(nI (100 * i + j), nI (dst i (n0 / 100) + dst j (n0 % 100))), rfl, Or.inr ⟨i, j, me, rfl, rfl, fun v' f' q => ?_⟩⟩
        rcases new v' f' q with q | ⟨rfl, rfl⟩
        · exact absurd q (h3 v' f')
        · exact Nat.le_refl _
      · have l1 : dst v (n0 / 100) ≤ 60 := by unfold dst; omega
        have l2 : dst f (n0 % 100) ≤ 200 := by unfold dst; omega
        rw [h3]
        by_cases c : dst i (n0 / 100) + dst j (n0 % 100) < dst v (n0 / 100) + dst f (n0 % 100)
        · rw [if_pos (nI_lt c (by omega))]
          refine ⟨(nI (100 * i + j), nI (dst i (n0 / 100) + dst j (n0 % 100))), rfl, Or.inr ⟨i, j, me, rfl, rfl, fun v' f' q => ?_⟩⟩
          rcases new v' f' q with q | ⟨rfl, rfl⟩
          · exact Nat.le_of_lt (Nat.lt_of_lt_of_le c (h4 v' f' q))
          · exact Nat.le_refl _
        · rw [if_neg (nI_nlt (by omega) (by omega))]
          refine ⟨(x, nI (dst v (n0 / 100) + dst f (n0 % 100))), rfl, Or.inr ⟨v, f, old v f h1, h2, rfl, fun v' f' q => ?_⟩⟩
          rcases new v' f' q with q | ⟨rfl, rfl⟩
          · exact h4 v' f' q
          · omega
    · rw [s2, bd_s, if_pos rfl, nmv_s]
      refine Or.inr ⟨by omega, (x, y), rfl, near_eq hI (fun v f => ⟨fun ⟨q, q2⟩ => ⟨by omega, q2⟩, fun ⟨q, q2⟩ => ⟨?_, q2⟩⟩)⟩
      by_cases c : v = i ∧ f = j
      · obtain ⟨rfl, rfl⟩ := c
        exact absurd q2.2 s1
      · omega
theorem next_m {τ : St} {h : Hg} (hM : RelM τ 0 h) (hO : OkH h) (hh : gI τ 11 0 4 = nI 3) {b t k n0 : Nat} (hb : b < h 0 0) (ht : t < h 0 1) (hk : k < h 0 2) (hn : n0 < 2 ^ 31) (hT : n0 / 100 ≤ 60) (K : Int32 → Int32 → Option Int32) : ∃ x y, near (fun v f => v ≤ 60 ∧ f ≤ 60 ∧ tI 3 h b t k v ∧ hA 3 h t k f) (n0 / 100) (n0 % 100) x y ∧ fX12_next_L58 τ (nI b) (nI t) (nI k) (nI n0) K FU (-4) 1000000000 0 = K x y := by
  refine loop_h (S := Int32 × Int32) (fun n i s => fX12_next_L58 τ (nI b) (nI t) (nI k) (nI n0) K n s.1 s.2 (nI i)) 61 (fun i s => near (fun v f => v < i ∧ f ≤ 60 ∧ tI 3 h b t k v ∧ hA 3 h t k f) (n0 / 100) (n0 % 100) s.1 s.2) (fun q => ∃ x y, near (fun v f => v ≤ 60 ∧ f ≤ 60 ∧ tI 3 h b t k v ∧ hA 3 h t k f) (n0 / 100) (n0 % 100) x y ∧ q = K x y) (fun n i s hi hI => ?_) 61 0 (-4, 1000000000) FU (by omega) (FU_gt (by omega)) (Or.inl ⟨rfl, rfl, fun v f q => absurd q.1 (Nat.not_lt_zero v)⟩)
  obtain ⟨x, y⟩ := s
  dsimp only at hI
  show (∃ x' y', near _ _ _ x' y' ∧ fX12_next_L58B τ (nI b) (nI t) (nI k) (nI n0) K (fX12_next_L58 τ (nI b) (nI t) (nI k) (nI n0) K n) x y (nI i) = K x' y') ∨ (i < 61 ∧ ∃ s', fX12_next_L58B τ (nI b) (nI t) (nI k) (nI n0) K (fX12_next_L58 τ (nI b) (nI t) (nI k) (nI n0) K n) x y (nI i) = _ ∧ _)
  unfold fX12_next_L58B
  by_cases e : i = 61
  · subst e
    rw [if_pos (by decide)]
    exact Or.inl ⟨x, y, near_eq hI (fun v f => ⟨fun ⟨q, q2, q3⟩ => ⟨by omega, by omega, q3⟩, fun ⟨q, q2, q3⟩ => ⟨by omega, by omega, q3⟩⟩), rfl⟩
  · rw [if_neg (show ¬ (60 : Int32) < nI i from nI_nlt (a := 60) (by omega) (by omega))]
    obtain ⟨x', y', q1, q2⟩ := nextIn_m hM hO hh hb ht hk (show i ≤ 60 by omega) hn hT (fun y26 y27 => nmv (nI i + 1) fun v28 => fX12_next_L58 τ (nI b) (nI t) (nI k) (nI n0) K n y26 y27 v28) hI
    rw [q2, nmv_s, nI_1]
    exact Or.inr ⟨by omega, (x', y'), rfl, q1⟩
/-- a told number below 0: never within -/
theorem told_neg {a : Int32} (h : a < 0) : a / 100 < 0 ∨ a - a / 100 * 100 < 0 := by
  have e : (a / 100).toInt = a.toInt.tdiv 100 := Int32.toInt_div_of_ne_right a 100 (by decide)
  have ha : a.toInt < 0 := by
    rw [Int32.lt_iff_toInt_lt] at h
    exact h
  have la := Int32.le_toInt a
  by_cases c : a.toInt ≤ -100
  · refine Or.inl ?_
    rw [Int32.lt_iff_toInt_lt, e, show (0 : Int32).toInt = 0 from rfl]
    have : a.toInt.tdiv 100 = -((-a.toInt).tdiv 100) := by rw [Int.neg_tdiv, Int.neg_neg]
    rw [this, Int.tdiv_eq_ediv_of_nonneg (by omega)]
    omega
  · refine Or.inr ?_
    have z : a / 100 = 0 := by
      rw [← Int32.toInt_inj, e, show (0 : Int32).toInt = 0 from rfl]
      have : a.toInt.tdiv 100 = -((-a.toInt).tdiv 100) := by rw [Int.neg_tdiv, Int.neg_neg]
      rw [this, Int.tdiv_eq_ediv_of_nonneg (by omega)]
      omega
    rw [z, Int32.zero_mul, Int32.sub_zero]
    exact h
theorem isOut60 {σ : St} {n : Nat} (hn : n < 2 ^ 31) : fX11_isOut σ (nI n) 0 60 = some (if n ≤ 60 then 0 else 1) := by
  unfold fX11_isOut
  rw [if_neg (nI_pos hn)]
  by_cases c : n ≤ 60
  · rw [if_pos c, if_pos (show nI n ≤ (60 : Int32) from nI_le (b := 60) c (by omega))]
  · rw [if_neg c, if_neg (show ¬ nI n ≤ (60 : Int32) from nI_ge (a := 60) (by omega) hn)]
/-- next -/
theorem case16 : Case16 Inv := by
  intro σ hI a1 a2 a3 a4 a5
  obtain ⟨⟨h, hO, hC, hM⟩, ⟨h1', O1, C1, M1⟩, I3, I4, I5, I6, I7, I8⟩ := id hI
  unfold fX11_next
  simp only [nmv_s]
  rcases all_s hC hM hO a1 a2 a3 with ⟨b, t, k, hb, ht, hk, rfl, rfl, rfl, p1, p2⟩ | ⟨p1, p2⟩
  rotate_left
  · exact ⟨-1, σ, by rw [p1]; rfl, by unfold fX12_next; rw [p2]; rfl, hI⟩
  rcases rng_s (σ := σ) (τ := zSPN σ 0 h b t k) (M := 1) (n := 1) a5 (by omega) rfl with ⟨w, hw, e5, q1, q2⟩ | ⟨-, q1, q2⟩
  rotate_left
  · refine ⟨-1, σ, by rw [p1, bd_s, if_neg (by decide), q2]; rfl, ?_, hI⟩
    unfold fX12_next
    rw [p2, bd_s, if_neg (by decide)]
    by_cases c1 : a4 < 0
    · rw [if_pos c1]
    · rw [if_neg c1]
      by_cases c2 : 60 < a4 / 100
      · rw [if_pos c2]
      · rw [if_neg c2]
        by_cases c3 : 60 < a4 - a4 / 100 * 100
        · rw [if_pos c3]
        · rw [if_neg c3, show fX12_isIn σ a5 0 1 = some 0 from q1]
          rfl
  rw [p1, bd_s, if_neg (by decide), q2, bd_s, if_pos rfl]
  by_cases c0 : a4 < 0
  · refine ⟨-1, σ, ?_, by unfold fX12_next; rw [p2, bd_s, if_neg (by decide), if_pos c0], hI⟩
    rcases told_neg c0 with c | c
    · have e : fX11_isOut σ (a4 / 100) 0 60 = some 1 := by unfold fX11_isOut; rw [if_pos c]
      rw [e]; rfl
    · have e : fX11_isOut σ (a4 - a4 / 100 * 100) 0 60 = some 1 := by unfold fX11_isOut; rw [if_pos c]
      rw [e]
      rcases force_s (σ := σ) (τ := σ) (a4 / 100) with ⟨v, hv, e4, q1, q2⟩ | ⟨-, q1, q2⟩
      · rw [q2]; rfl
      · rw [q2]; rfl
  obtain ⟨n0, hn, rfl⟩ := nI_of c0
  have e1 : nI n0 / 100 = nI (n0 / 100) := pk_div (d := 100) hn (by omega) (by omega)
  have e2 : nI n0 - nI (n0 / 100) * 100 = nI (n0 % 100) := by
    rw [← e1]
    exact pk_rem (d := 100) hn (by omega) (by omega)
  rw [e1, e2, isOut60 (by omega), isOut60 (by omega), bd_s]
  by_cases c1 : n0 / 100 ≤ 60
  rotate_left
  · refine ⟨-1, σ, by rw [if_neg c1, if_neg (by decide)], ?_, hI⟩
    unfold fX12_next
    rw [p2, bd_s, if_neg (by decide), if_neg c0, e1, if_pos (show (60 : Int32) < nI (n0 / 100) from nI_lt (a := 60) (by omega) (by omega))]
  rw [if_pos c1, if_pos rfl, bd_s]
  by_cases c2 : n0 % 100 ≤ 60
  rotate_left
  · refine ⟨-1, σ, by rw [if_neg c2, if_neg (by decide)], ?_, hI⟩
    unfold fX12_next
    rw [p2, bd_s, if_neg (by decide), if_neg c0, e1, e2, if_neg (show ¬ (60 : Int32) < nI (n0 / 100) from nI_nlt (a := 60) (by omega) (by omega)), if_pos (show (60 : Int32) < nI (n0 % 100) from nI_lt (a := 60) (by omega) (by omega))]
  rw [if_pos c2, if_pos rfl, spanOf_c hC hO hb ht hk, bd_s, pairs_c hO hb ht hk, bd_s]
  obtain ⟨l1, l2, l3, l4, l5, l6, l7, l8, l9⟩ := okS (hp := 3) hO hb ht hk
  have hM' : RelM (zSPN σ 0 h b t k) 0 h := relM_spn hM
  obtain ⟨x, y, n1, n2⟩ := next_m hM' hO (n0 := n0) I4 hb ht hk hn c1 (fun y29 y30 => if y29 < 0 then some y29 else if a5 = 0 then some y29 else some y30)
  have ml : fX12_next (zSPN σ 0 h b t k) (nI b) (nI t) (nI k) (nI n0) a5 = if x < 0 then some x else if a5 = 0 then some x else some y := by
    unfold fX12_next
    rw [show fX12_areAll (zSPN σ 0 h b t k) (nI b) (nI t) (nI k) = some 1 from p2, bd_s, if_neg (by decide), if_neg c0, e1, e2, if_neg (show ¬ (60 : Int32) < nI (n0 / 100) from nI_nlt (a := 60) (by omega) (by omega)), if_neg (show ¬ (60 : Int32) < nI (n0 % 100) from nI_nlt (a := 60) (by omega) (by omega)), q1, bd_s, if_neg (by decide)]
    exact n2
  have pl := prs_le (h := h) (hp := 3) (b := b) (t := t) (k := k)
  obtain ⟨f0, f1, f2, f3, f4⟩ := spn_v (σ := σ) (x := 0) (lo := zLO 3 h b t k) (hi := zHI 3 h b t k) (gr := zGR 3 h t) (so := zSO 3 h t k) (ha := zHA 3 h t k)
  have P : ∀ v f, (v ≤ 60 ∧ f ≤ 60 ∧ tI 3 h b t k v ∧ hA 3 h t k f) ↔ ((zLO 3 h b t k ≤ v ∧ v ≤ zTop 3 h b t k) ∧ zSO 3 h t k ≤ f ∧ f ≤ zFt 3 h t k) := fun v f => by
    unfold tI hA zTop zFt
    omega
  have n3 := near_eq n1 P
  by_cases z : prs 3 h b t k = 0
  · rw [z, if_pos nI_0]
    refine ⟨-4, zSPN σ 0 h b t k, rfl, ?_, inv_spn hI⟩
    rcases n3 with ⟨h1, h2, h3⟩ | ⟨v, f, h1, h2, h3, h4⟩
    · rw [ml, h1]; rfl
    · unfold prs at z
      have z1 : 1 ≤ zTop 3 h b t k + 1 - zLO 3 h b t k := by omega
      have z2 : 1 ≤ zFt 3 h t k + 1 - zSO 3 h t k := by omega
      have := Nat.mul_le_mul z1 z2
      omega
  · rw [if_neg (nI_ne0 (by omega) (by omega))]
    have z1 : zLO 3 h b t k ≤ zTop 3 h b t k := by
      by_cases c : zLO 3 h b t k ≤ zTop 3 h b t k
      · exact c
      · exact absurd (by unfold prs; rw [show zTop 3 h b t k + 1 - zLO 3 h b t k = 0 by omega, Nat.zero_mul]) z
    have z2 : zSO 3 h t k ≤ zFt 3 h t k := by
      by_cases c : zSO 3 h t k ≤ zFt 3 h t k
      · exact c
      · exact absurd (by unfold prs; rw [show zFt 3 h t k + 1 - zSO 3 h t k = 0 by omega, Nat.mul_zero]) z
    rw [show fX9_topTight (zSPN σ 0 h b t k) 0 = some (nI (zTop 3 h b t k)) from topT_c (by omega) (by omega), bd_s, show fX9_topForce (zSPN σ 0 h b t k) 0 = some (nI (zFt 3 h t k)) from topF_c (by omega), bd_s, show gI (zSPN σ 0 h b t k) 7 0 0 = nI (zLO 3 h b t k) from f0, show gI (zSPN σ 0 h b t k) 7 0 3 = nI (zSO 3 h t k) from f3]
    have t60 : zTop 3 h b t k ≤ 60 := by unfold zTop; omega
    have s60 : zFt 3 h t k ≤ 60 := by unfold zFt; omega
    rw [min_if (a := n0 / 100) (by omega) (by omega), min_if (a := n0 % 100) (by omega) (by omega)]
    have mx : ∀ u w : Nat, u < 1000 → w < 1000 → (if nI u < nI w then nI w else nI u) = nI (max u w) := fun u w hu hw => by
      by_cases c : u < w
      · rw [if_pos (nI_lt c (by omega)), Nat.max_eq_right (by omega)]
      · rw [if_neg (nI_nlt (by omega) (by omega)), Nat.max_eq_left (by omega)]
    rw [mx _ _ (by omega) (by omega), mx _ _ (by omega) (by omega)]
    rcases n3 with ⟨h1, h2, h3⟩ | ⟨v, f, h1, h2, h3, h4⟩
    · exact absurd ⟨⟨Nat.le_refl _, z1⟩, Nat.le_refl _, z2⟩ (h3 (zLO 3 h b t k) (zSO 3 h t k))
    · have key : v = max (zLO 3 h b t k) (min (zTop 3 h b t k) (n0 / 100)) ∧ f = max (zSO 3 h t k) (min (zFt 3 h t k) (n0 % 100)) := by
        have := h4 (max (zLO 3 h b t k) (min (zTop 3 h b t k) (n0 / 100))) (max (zSO 3 h t k) (min (zFt 3 h t k) (n0 % 100))) (by omega)
        unfold dst at this
        omega
      obtain ⟨k1, k2⟩ := key
      rw [← k1, ← k2, abs_c (by omega) (by omega), abs_c (by omega) (by omega), nI_add]
      rcases w with _ | _ | w
      · rw [if_pos (show a5 = 0 from e5)]
        exact ⟨nI (100 * v + f), zSPN σ 0 h b t k, by rw [show (100 : Int32) * nI v + nI f = nI (100 * v + f) from cell_ix], by rw [ml, h2, if_neg (nI_pos (by omega)), if_pos (show a5 = 0 from e5)], inv_spn hI⟩
      · have n5 : ¬ a5 = 0 := by rw [e5]; decide
        rw [if_neg n5]
        exact ⟨_, _, rfl, by rw [ml, h2, h3, if_neg (nI_pos (by omega)), if_neg n5], inv_spn hI⟩
      · omega
