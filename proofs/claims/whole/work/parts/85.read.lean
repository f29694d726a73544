theorem up2_comm {α : Type} {f : Nat → Nat → α} {c i c' i' : Nat} {v w : α} (h : ¬ (c = c' ∧ i = i')) : up2 (up2 f c i v) c' i' w = up2 (up2 f c' i' w) c i v := by
  funext a b
  unfold up2
  by_cases h1 : a = c' ∧ b = i'
  · rw [if_pos h1, if_neg (fun q => h ⟨q.1.symm.trans h1.1, q.2.symm.trans h1.2⟩), if_pos h1]
  · rw [if_neg h1]
    by_cases h2 : a = c ∧ b = i
    · rw [if_pos h2, if_pos h2]
    · rw [if_neg h2, if_neg h2, if_neg h1]
theorem sA_comm {σ : St} {c i c' i' : Nat} {f g : Nat → Int32} (h : ¬ (c = c' ∧ i = i')) : sA (sA σ c i f) c' i' g = sA (sA σ c' i' g) c i f := by
  show (up2 (up2 σ.1 c i f) c' i' g, σ.2) = (up2 (up2 σ.1 c' i' g) c i f, σ.2)
  rw [up2_comm h]
/-- the model's numbers and fields -/
def Zt (τ : St) (g f : Nat → Int32) : St := sA (sA τ 12 8 g) 11 0 f
theorem Zt_g {τ : St} {g f : Nat → Int32} : gI (Zt τ g f) 12 8 = g := by
  unfold Zt
  rw [gsA_n (by omega), gsA_s]
theorem Zt_f {τ : St} {g f : Nat → Int32} : gI (Zt τ g f) 11 0 = f := gsA_s
theorem Zt_n {τ : St} {g f : Nat → Int32} {c i : Nat} (h1 : ¬ (c = 12 ∧ i = 8)) (h2 : ¬ (c = 11 ∧ i = 0)) : gI (Zt τ g f) c i = gI τ c i := by
  unfold Zt
  rw [gsA_n h2, gsA_n h1]
theorem Zt_sn {τ : St} {g f : Nat → Int32} {k : Nat} {v : Int32} : sI (Zt τ g f) 12 8 k v = Zt τ (upd g k v) f := by
  show sA (Zt τ g f) 12 8 (upd (gI (Zt τ g f) 12 8) k v) = _
  rw [Zt_g]
  unfold Zt
  rw [sA_comm (by omega), sA_sA]
theorem Zt_sf {τ : St} {g f : Nat → Int32} {k : Nat} {v : Int32} : sI (Zt τ g f) 11 0 k v = Zt τ g (upd f k v) := by
  show sA (Zt τ g f) 11 0 (upd (gI (Zt τ g f) 11 0) k v) = _
  rw [Zt_f]
  unfold Zt
  rw [sA_sA]
theorem Zt_self {τ : St} : Zt τ (gI τ 12 8) (gI τ 11 0) = τ := by
  unfold Zt
  rw [sA_self, sA_self]
theorem Zt_Zt {τ : St} {g f g' f' : Nat → Int32} : Zt (Zt τ g f) g' f' = Zt τ g' f' := by
  unfold Zt
  rw [sA_comm (by omega), sA_sA, sA_comm (by omega), sA_sA]
theorem upd_upd {f : Nat → Int32} {k : Nat} {v w : Int32} : upd (upd f k v) k w = upd f k w := by
  funext j
  unfold upd
  by_cases h : j = k
  · rw [if_pos h, if_pos h]
  · rw [if_neg h, if_neg h, if_neg h]
/-- the number of j digits from place a on -/
def numN (X : Nat → Nat) (a : Nat) : Nat → Nat
  | 0 => 0
  | j + 1 => 10 * numN X a j + (X (a + j) - 48)
/-- the model's fields tell the text: row at, row end -/
def Fld (σ : St) (d n : Nat) (f : Nat → Int32) : Prop := f 6 = nI (100 * d) ∧ f 7 = nI n
theorem num_m {σ τ : St} {d n : Nat} (h : TxtOk σ d n) (e20 : gI τ 12 20 = gI σ 12 20) {g f : Nat → Int32} (hf : Fld σ d n f) {a k m : Nat} (ha : a < 900) (hk : k < 5) (hm : m ≤ 2) : (∃ g', fX12_readsNumber (Zt τ g (upd f 5 (nI a))) (nI k) (nI m) = some (1, Zt τ g' (upd f 5 (nI (a + m)))) ∧ (∀ i, i < m → dgt (txt σ d n (a + i))) ∧ g' k = nI (numN (txt σ d n) a m) ∧ ∀ k', k' ≠ k → g' k' = g k') ∨ ∃ p g', fX12_readsNumber (Zt τ g (upd f 5 (nI a))) (nI k) (nI m) = some (0, Zt τ g' (upd f 5 (nI p))) ∧ a ≤ p ∧ p < a + m ∧ (∀ i, a ≤ i → i < p → dgt (txt σ d n i)) ∧ ¬ dgt (txt σ d n p) := by
  have k5 : vp_in (nI k) 5 := pk_in k 5 hk rfl (by omega)
  unfold fX12_readsNumber
  rw [ck_t k5, nI_clamp (by omega), Zt_sn, nmv_s]
  refine loop_h (S := Nat → Int32) (fun q j g1 => fX12_readsNumber_L9 (nI k) (nI m) (fun σ15 => some (1, σ15)) q (nI j) (Zt τ g1 (upd f 5 (nI (a + j))))) m (fun j g1 => (∀ i, i < j → dgt (txt σ d n (a + i))) ∧ g1 k = nI (numN (txt σ d n) a j) ∧ ∀ k', k' ≠ k → g1 k' = g k') (fun q => (∃ g', q = some (1, Zt τ g' (upd f 5 (nI (a + m)))) ∧ (∀ i, i < m → dgt (txt σ d n (a + i))) ∧ g' k = nI (numN (txt σ d n) a m) ∧ ∀ k', k' ≠ k → g' k' = g k') ∨ ∃ p g', q = some (0, Zt τ g' (upd f 5 (nI p))) ∧ a ≤ p ∧ p < a + m ∧ (∀ i, a ≤ i → i < p → dgt (txt σ d n i)) ∧ ¬ dgt (txt σ d n p)) (fun q j g1 hj hI => ?_) m 0 (upd g k 0) FU (by omega) (FU_gt (by omega)) ⟨fun i hi => absurd hi (Nat.not_lt_zero i), pk_us, fun k' hk' => pk_un hk'⟩
  obtain ⟨i1, i2, i3⟩ := hI
  show ((∃ g', fX12_readsNumber_L9B (nI k) (nI m) _ (fX12_readsNumber_L9 (nI k) (nI m) _ q) (nI j) (Zt τ g1 (upd f 5 (nI (a + j)))) = _ ∧ _) ∨ ∃ p g', fX12_readsNumber_L9B (nI k) (nI m) _ (fX12_readsNumber_L9 (nI k) (nI m) _ q) (nI j) (Zt τ g1 (upd f 5 (nI (a + j)))) = _ ∧ _) ∨ (j < m ∧ ∃ s', fX12_readsNumber_L9B (nI k) (nI m) _ (fX12_readsNumber_L9 (nI k) (nI m) _ q) (nI j) (Zt τ g1 (upd f 5 (nI (a + j)))) = _ ∧ _)
  unfold fX12_readsNumber_L9B
  by_cases e : j = m
  · subst e
    rw [if_pos (nI_le (Nat.le_refl _) (by omega))]
    exact Or.inl (Or.inl ⟨g1, rfl, i1, i2, i3⟩)
  · have hh : fX12_here (Zt τ g1 (upd f 5 (nI (a + j)))) = some (uns (txt σ d n (a + j))) := here_m h (by rw [Zt_n (by omega) (by omega)]; exact e20) (by rw [Zt_f, pk_un (by omega)]; exact hf.1) (by rw [Zt_f, pk_un (by omega)]; exact hf.2) (by rw [Zt_f, pk_us]) (by omega)
    rw [if_neg (nI_ge (by omega) (by omega)), hh, bd_s]
    rcases isInD (σ := Zt τ g1 (upd f 5 (nI (a + j)))) (txt_lt h (a + j)) with ⟨s1, s2⟩ | ⟨s1, s2⟩
    · obtain ⟨t1, t2, t3⟩ := dgt_s s1
      have v1 : 10 * g1 k + uns (txt σ d n (a + j)) - 48 = nI (numN (txt σ d n) a (j + 1)) := by
        rw [i2, t2, show (10 : Int32) * nI (numN (txt σ d n) a j) = nI (10 * numN (txt σ d n) a j) from pk_mul 10 _, nI_add, show nI (10 * numN (txt σ d n) a j + txt σ d n (a + j)) - 48 = nI (10 * numN (txt σ d n) a j + txt σ d n (a + j) - 48) from pk_sub (b := 48) (by have := s1.1; omega)]
        exact congrArg nI (by show _ = 10 * numN (txt σ d n) a j + (txt σ d n (a + j) - 48); have := s1.1; omega)
      rw [s2, bd_s, if_neg (by decide), ck_t k5, bd_s, ck_t k5, nI_clamp (by omega), Zt_g, v1, Zt_sn, nmv_s, Zt_f, pk_us, Zt_sf, nI_1, upd_upd, nmv_s, nmv_s, nI_1]
      refine Or.inr ⟨by omega, upd g1 k (nI (numN (txt σ d n) a (j + 1))), rfl, fun i hi => ?_, pk_us, fun k' hk' => (pk_un hk').trans (i3 k' hk')⟩
      by_cases c : i = j
      · subst c; exact s1
      · exact i1 i (by omega)
    · rw [s2, bd_s, if_pos rfl]
      refine Or.inl (Or.inr ⟨a + j, g1, rfl, by omega, by omega, fun i h1 h2 => ?_, s1⟩)
      have := i1 (i - a) (by omega)
      rw [show a + (i - a) = i by omega] at this
      exact this
/-- the numbers of a statement at a -/
def stN (X : Nat → Nat) (a : Nat) (g : Nat → Int32) : Prop := (X a = 98 → g 0 = nI (numN X (a + 1) 2) ∧ g 1 = nI (numN X (a + 3) 2) ∧ g 2 = nI (numN X (a + 5) 1)) ∧ (X a = 107 → g 0 = nI (numN X (a + 1) 1) ∧ g 1 = nI (numN X (a + 2) 1)) ∧ (X a = 116 → g 0 = nI (numN X (a + 1) 1) ∧ g 1 = nI (numN X (a + 2) 2)) ∧ (X a = 121 → g 0 = nI (numN X (a + 1) 1) ∧ g 1 = nI (numN X (a + 2) 1) ∧ g 2 = nI (numN X (a + 3) 1) ∧ g 3 = nI (numN X (a + 4) 2) ∧ g 4 = nI (numN X (a + 6) 2))
theorem J216_m {σ τ : St} {d n : Nat} (h : TxtOk σ d n) (e20 : gI τ 12 20 = gI σ 12 20) {g f : Nat → Int32} (hf : Fld σ d n f) {a : Nat} (ha : a < 900) : fX12_readsStatement_J216 1 (Zt τ g (upd f 5 (nI a))) = if txt σ d n a = 59 then some (1, Zt τ g (upd f 5 (nI (a + 1)))) else some (0, Zt τ g (upd f 5 (nI a))) := by
  have hh : fX12_here (Zt τ g (upd f 5 (nI a))) = some (uns (txt σ d n a)) := here_m h (by rw [Zt_n (by omega) (by omega)]; exact e20) (by rw [Zt_f, pk_un (by omega)]; exact hf.1) (by rw [Zt_f, pk_un (by omega)]; exact hf.2) (by rw [Zt_f, pk_us]) (by omega)
  unfold fX12_readsStatement_J216
  rw [if_neg (by decide), hh, bd_s, semi_m (txt_lt h a), Zt_f, pk_us, Zt_sf, nI_1, upd_upd, nmv_s]
