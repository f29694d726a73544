/-- the text of a row of bytes: the bytes without their signs; 256 behind its end -/
def txt (σ : St) (d n i : Nat) : Nat := if i < n then (gI σ 12 20 (100 * d + i) &&& 255).toNatClampNeg else 256
theorem byte_fin : ∀ v : Nat, v < 256 → ((nI v).toInt8.toInt32 = if v < 128 then nI v else nI v - 256) ∧ ((if v < 128 then nI v else nI v - 256) &&& 255) = nI v := by decide +kernel
/-- a byte: its number without the sign -/
theorem byte_s {c : Int32} (h : c.toInt8.toInt32 = c) : ∃ v, v < 256 ∧ c &&& 255 = nI v ∧ c = if v < 128 then nI v else nI v - 256 := by
  obtain ⟨v, hv, e⟩ := pk_andE c (m := 255) 8 (by decide)
  have hv2 : v < 256 := hv
  have k : (c &&& 255).toInt8 = c.toInt8 := by
    apply Int8.toBitVec_inj.mp
    simp only [Int32.toBitVec_toInt8, Int32.toBitVec_and]
    ext i hi
    have h8 : i < 8 := hi
    simp only [BitVec.getElem_signExtend, BitVec.getElem_and]
    rcases i with _ | _ | _ | _ | _ | _ | _ | _ | i <;> first | omega | simp
  have e2 : c = (nI v).toInt8.toInt32 := by rw [← e, k, h]
  refine ⟨v, hv2, e, ?_⟩
  rw [e2]
  exact (byte_fin v hv2).1
/-- the byte as the class reads it -/
def sgn (v : Nat) : Int32 := if v = 256 then 0 else if v < 128 then nI v else nI v - 256
/-- the byte as the model reads it -/
def uns (v : Nat) : Int32 := if v = 256 then -1 else nI v
theorem sgn_fin : ∀ v : Nat, v < 257 → (sgn v = 98 ↔ v = 98) ∧ (sgn v = 107 ↔ v = 107) ∧ (sgn v = 116 ↔ v = 116) ∧ (sgn v = 121 ↔ v = 121) ∧ (sgn v = 59 ↔ v = 59) ∧ (uns v = 98 ↔ v = 98) ∧ (uns v = 107 ↔ v = 107) ∧ (uns v = 116 ↔ v = 116) ∧ (uns v = 121 ↔ v = 121) ∧ (uns v = 59 ↔ v = 59) ∧ ((¬ sgn v < 48 ∧ sgn v ≤ 57) ↔ (48 ≤ v ∧ v ≤ 57)) ∧ ((¬ uns v < 48 ∧ ¬ 57 < uns v) ↔ (48 ≤ v ∧ v ≤ 57)) := by decide +kernel
/-- a row of bytes: what both sides read at a place -/
def TxtOk (σ : St) (d n : Nat) : Prop := d < 8 ∧ n ≤ 100 ∧ gI σ 8 d 3 = nI n ∧ gI σ 12 19 d = nI n ∧ (∀ i, i < n → gI σ 9 d i = gI σ 12 20 (100 * d + i)) ∧ ∀ i, i < n → (gI σ 12 20 (100 * d + i)).toInt8.toInt32 = gI σ 12 20 (100 * d + i)
theorem txt_s {σ : St} {d n : Nat} (h : TxtOk σ d n) {i : Nat} (hi : i < n) : txt σ d n i < 256 ∧ gI σ 12 20 (100 * d + i) &&& 255 = nI (txt σ d n i) ∧ gI σ 9 d i = sgn (txt σ d n i) := by
  obtain ⟨v, v1, v2, v3⟩ := byte_s (h.2.2.2.2.2 i hi)
  have e : txt σ d n i = v := by
    unfold txt
    rw [if_pos hi, v2, nI_clamp (by omega)]
  rw [e, h.2.2.2.2.1 i hi]
  refine ⟨v1, v2, ?_⟩
  unfold sgn
  rw [if_neg (by omega)]
  exact v3
theorem txt_lt {σ : St} {d n : Nat} (h : TxtOk σ d n) (i : Nat) : txt σ d n i < 257 := by
  by_cases c : i < n
  · have := (txt_s h c).1
    omega
  · unfold txt
    rw [if_neg c]
    omega
theorem txt_n {σ : St} {d n i : Nat} (h : ¬ i < n) : txt σ d n i = 256 := if_neg h
/-- the class's byteAt -/
theorem byteAt_c {σ τ : St} {d n : Nat} (h : TxtOk σ d n) (e8 : gI τ 8 d = gI σ 8 d) (e9 : gI τ 9 d = gI σ 9 d) {i : Nat} (hi : i < 2 ^ 30) : fX4_byteAt τ d (nI i) = some (sgn (txt σ d n i)) := by
  have h3 : gI τ 8 d 3 = nI n := by rw [e8]; exact h.2.2.1
  unfold fX4_byteAt
  rcases place_s h.2.1 h3 (nI i) with ⟨j, hj, e, q, -⟩ | ⟨hne, q, -⟩
  · have ej : i = j := (nI_eq (by omega) (by have := h.2.1; omega)).mp e
    subst ej
    have := h.2.1
    rw [q, bd_s, if_neg (by decide), ck_t (pk_in i 100 (by omega) rfl (by omega)), nI_clamp (by omega), e9, (txt_s h hj).2.2]
  · have c : ¬ i < n := fun c => hne i c rfl
    rw [q, txt_n c]
    rfl
/-- the model's here, its place at, its row at and end -/
theorem here_m {σ υ : St} {d n : Nat} (h : TxtOk σ d n) (e20 : gI υ 12 20 = gI σ 12 20) (e6 : gI υ 11 0 6 = nI (100 * d)) (e7 : gI υ 11 0 7 = nI n) {a : Nat} (ea : gI υ 11 0 5 = nI a) (ha : a < 1000) : fX12_here υ = some (uns (txt σ d n a)) := by
  have n100 := h.2.1
  have d8 := h.1
  unfold fX12_here
  rw [ea, e6, e7]
  by_cases c : a < n
  · rw [if_neg (nI_ge c (by omega)), nI_add, ck_t (in800 d8 (by omega)), nI_clamp (by omega), e20, (txt_s h c).2.1]
    unfold uns
    rw [if_neg (by have := (txt_s h c).1; omega)]
  · rw [if_pos (nI_le (by omega) (by omega)), txt_n c]
    rfl
/-- digits -/
def dgt (v : Nat) : Prop := 48 ≤ v ∧ v ≤ 57
theorem isOutD {σ : St} {v : Nat} (hv : v < 257) : (dgt v ∧ fX11_isOut σ (sgn v) 48 57 = some 0) ∨ (¬ dgt v ∧ fX11_isOut σ (sgn v) 48 57 = some 1) := by
  have q := (sgn_fin v hv).2.2.2.2.2.2.2.2.2.2.1
  unfold fX11_isOut
  by_cases c1 : sgn v < 48
  · rw [if_pos c1]
    exact Or.inr ⟨fun z => (q.mpr z).1 c1, rfl⟩
  · rw [if_neg c1]
    by_cases c2 : sgn v ≤ 57
    · rw [if_pos c2]
      exact Or.inl ⟨q.mp ⟨c1, c2⟩, rfl⟩
    · rw [if_neg c2]
      exact Or.inr ⟨fun z => c2 (q.mpr z).2, rfl⟩
theorem isInD {σ : St} {v : Nat} (hv : v < 257) : (dgt v ∧ fX12_isIn σ (uns v) 48 57 = some 1) ∨ (¬ dgt v ∧ fX12_isIn σ (uns v) 48 57 = some 0) := by
  have q := (sgn_fin v hv).2.2.2.2.2.2.2.2.2.2.2
  unfold fX12_isIn
  by_cases c1 : uns v < 48
  · rw [if_pos c1]
    exact Or.inr ⟨fun z => (q.mpr z).1 c1, rfl⟩
  · rw [if_neg c1]
    by_cases c2 : 57 < uns v
    · rw [if_pos c2]
      exact Or.inr ⟨fun z => (q.mpr z).2 c2, rfl⟩
    · rw [if_neg c2]
      exact Or.inl ⟨q.mp ⟨c1, c2⟩, rfl⟩
theorem dgt_s {v : Nat} (h : dgt v) : sgn v = nI v ∧ uns v = nI v ∧ sgn v - 48 = nI (v - 48) := by
  have e1 : sgn v = nI v := by
    unfold sgn
    rw [if_neg (by have := h.2; omega), if_pos (by have := h.2; omega)]
  have e2 : uns v = nI v := if_neg (by have := h.2; omega)
  refine ⟨e1, e2, ?_⟩
  rw [e1]
  exact pk_sub (b := 48) h.1
/-- how many digits a statement has behind its letter, 0 if it is none -/
def kd (v : Nat) : Nat := if v = 98 then 5 else if v = 107 then 2 else if v = 116 then 3 else if v = 121 then 7 else 0
theorem digits_c {σ : St} {v : Nat} (hv : v < 257) : fX11_digitsBehind σ (sgn v) = some (if kd v = 0 then -1 else nI (kd v)) := by
  obtain ⟨q1, q2, q3, q4, -⟩ := sgn_fin v hv
  unfold fX11_digitsBehind kd
  by_cases c1 : v = 98
  · rw [if_pos (q1.mpr c1), if_pos c1]; rfl
  · rw [if_neg (fun z => c1 (q1.mp z)), if_neg c1]
    by_cases c2 : v = 107
    · rw [if_pos (q2.mpr c2), if_pos c2]; rfl
    · rw [if_neg (fun z => c2 (q2.mp z)), if_neg c2]
      by_cases c3 : v = 116
      · rw [if_pos (q3.mpr c3), if_pos c3]; rfl
      · rw [if_neg (fun z => c3 (q3.mp z)), if_neg c3]
        by_cases c4 : v = 121
        · rw [if_pos (q4.mpr c4), if_pos c4]; rfl
        · rw [if_neg (fun z => c4 (q4.mp z)), if_neg c4]; rfl
theorem kd_le (v : Nat) : kd v = 0 ∨ (2 ≤ kd v ∧ kd v ≤ 7) := by
  unfold kd
  split
  · omega
  · split
    · omega
    · split
      · omega
      · split <;> omega
/-- a good statement at a; a fault at p of the statement at a -/
def SOK (X : Nat → Nat) (a : Nat) : Prop := kd (X a) ≠ 0 ∧ (∀ i, a < i → i ≤ a + kd (X a) → dgt (X i)) ∧ X (a + kd (X a) + 1) = 59
def SBad (X : Nat → Nat) (a p : Nat) : Prop := (kd (X a) = 0 ∧ p = a) ∨ (kd (X a) ≠ 0 ∧ a < p ∧ (∀ i, a < i → i < p → dgt (X i)) ∧ ((p ≤ a + kd (X a) ∧ ¬ dgt (X p)) ∨ (p = a + kd (X a) + 1 ∧ X p ≠ 59)))
/-- where the i-th statement begins -/
def aN (X : Nat → Nat) : Nat → Nat
  | 0 => 0
  | i + 1 => aN X i + kd (X (aN X i)) + 2
theorem aN_ge (X : Nat → Nat) : ∀ i, 2 * i ≤ aN X i := by
  intro i
  induction i with
  | zero => exact Nat.le_refl _
  | succ i ih =>
    show 2 * (i + 1) ≤ aN X i + kd (X (aN X i)) + 2
    omega
theorem SBad_u {X : Nat → Nat} {a p q : Nat} (h1 : SBad X a p) (h2 : SBad X a q) : p = q := by
  rcases h1 with ⟨k1, k2⟩ | ⟨k1, k2, k3, k4⟩ <;> rcases h2 with ⟨j1, j2⟩ | ⟨j1, j2, j3, j4⟩
  · omega
  · exact absurd k1 j1
  · exact absurd j1 k1
  · by_cases c : p < q
    · have := j3 p k2 c
      rcases k4 with ⟨k4, k5⟩ | ⟨k4, k5⟩
      · exact absurd this k5
      · rcases j4 with ⟨j4, j5⟩ | ⟨j4, j5⟩ <;> omega
    · by_cases d : q < p
      · have := k3 q j2 d
        rcases j4 with ⟨j4, j5⟩ | ⟨j4, j5⟩
        · exact absurd this j5
        · rcases k4 with ⟨k4, k5⟩ | ⟨k4, k5⟩ <;> omega
      · omega
theorem SOK_no {X : Nat → Nat} {a p : Nat} (h1 : SOK X a) (h2 : SBad X a p) : False := by
  obtain ⟨o1, o2, o3⟩ := h1
  rcases h2 with ⟨j1, j2⟩ | ⟨j1, j2, j3, ⟨j4, j5⟩ | ⟨j4, j5⟩⟩
  · exact o1 j1
  · exact j5 (o2 p j2 j4)
  · rw [j4] at j5
    exact j5 o3
/-- the whole text good, of m statements; or the first fault, at p, in the statement behind m good ones -/
def GoodT (X : Nat → Nat) (n m : Nat) : Prop := 0 < m ∧ (∀ i, i < m → SOK X (aN X i)) ∧ (∀ i, 0 < i → i < m → aN X i < n) ∧ n ≤ aN X m
def BadT (X : Nat → Nat) (n m p : Nat) : Prop := (∀ i, i < m → SOK X (aN X i)) ∧ (0 < m → aN X m < n) ∧ SBad X (aN X m) p
theorem Good_no {X : Nat → Nat} {n m m' p : Nat} (h1 : GoodT X n m) (h2 : BadT X n m' p) : False := by
  obtain ⟨g0, g1, g2, g3⟩ := h1
  obtain ⟨b1, b2, b3⟩ := h2
  by_cases c : m' < m
  · exact SOK_no (g1 m' c) b3
  · by_cases e : m = m'
    · subst e
      have := b2 g0
      omega
    · have mono : ∀ k, aN X m ≤ aN X (m + k) := by
        intro k
        induction k with
        | zero => exact Nat.le_refl _
        | succ k ih =>
          show aN X m ≤ aN X (m + k) + kd (X (aN X (m + k))) + 2
          omega
      have := mono (m' - m)
      rw [show m + (m' - m) = m' by omega] at this
      have := b2 (by omega)
      omega
theorem Bad_u {X : Nat → Nat} {n m m' p p' : Nat} (h1 : BadT X n m p) (h2 : BadT X n m' p') : p = p' := by
  by_cases c : m < m'
  · exact absurd h1.2.2 (fun q => SOK_no (h2.1 m c) q)
  · by_cases d : m' < m
    · exact absurd h2.2.2 (fun q => SOK_no (h1.1 m' d) q)
    · have : m = m' := by omega
      subst this
      exact SBad_u h1.2.2 h2.2.2
theorem Good_u {X : Nat → Nat} {n m m' : Nat} (h1 : GoodT X n m) (h2 : GoodT X n m') : m = m' := by
  by_cases c : m < m'
  · have := h2.2.2.1 m h1.1 c
    have := h1.2.2.2
    omega
  · by_cases d : m' < m
    · have := h1.2.2.1 m' h2.1 d
      have := h2.2.2.2
      omega
    · omega
