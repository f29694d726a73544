/-- a hedge in plain numbers: h 0 0, 0 1, 0 2 how many blades, thumbs, blows; h 1..4 b breadth, length, wet, wear; h 5, 6 t slit, grip; h 7, 8 k kind, figure -/
abbrev Hg : Type := Nat → Nat → Nat
/-- the class of a blow by its kind -/
def clsOf (k : Nat) : Nat := match k with
  | 0 => 0
  | 1 => 2
  | 2 => 8
  | 3 => 5
  | 4 => 10
  | 5 => 1
  | 6 => 7
  | _ => 6
/-- blow number j is of a kind, with a figure -/
def Bl (σ : St) (j kd fg : Nat) : Prop := j < gS σ 2 0 ∧ gS σ 1 j = clsOf kd ∧ gI σ 13 0 j = nI kd ∧ gI σ 14 0 j = nI fg
/-- the class's hedge x; the model's row r -/
def RelC (σ : St) (x : Nat) (h : Hg) : Prop := gI σ 0 x 0 = nI (h 0 0) ∧ gI σ 0 x 5 = nI (h 0 1) ∧ gI σ 0 x 8 = nI (h 0 2) ∧ (∀ b, b < h 0 0 → gI σ 1 x b = nI (h 1 b) ∧ gI σ 2 x b = nI (h 2 b) ∧ gI σ 3 x b = nI (h 3 b) ∧ gI σ 4 x b = nI (h 4 b)) ∧ (∀ t, t < h 0 1 → gI σ 5 x t = nI (h 5 t) ∧ gI σ 6 x t = nI (h 6 t)) ∧ ∀ k, k < h 0 2 → ∃ j, gR σ 0 x k = some j ∧ Bl σ j (h 7 k) (h 8 k)
def RelM (σ : St) (r : Nat) (h : Hg) : Prop := gI σ 12 r 0 = nI (h 0 0) ∧ gI σ 12 r 1 = nI (h 0 1) ∧ gI σ 12 r 2 = nI (h 0 2) ∧ (∀ b, b < h 0 0 → gI σ 12 r (3 + 4 * b) = nI (h 1 b) ∧ gI σ 12 r (3 + 4 * b + 1) = nI (h 2 b) ∧ gI σ 12 r (3 + 4 * b + 2) = nI (h 3 b) ∧ gI σ 12 r (3 + 4 * b + 3) = nI (h 4 b)) ∧ (∀ t, t < h 0 1 → gI σ 12 r (27 + 2 * t) = nI (h 5 t) ∧ gI σ 12 r (27 + 2 * t + 1) = nI (h 6 t)) ∧ ∀ k, k < h 0 2 → gI σ 12 r (35 + 2 * k) = nI (h 7 k) ∧ gI σ 12 r (35 + 2 * k + 1) = nI (h 8 k)
/-- in its bounds -/
def OkH (h : Hg) : Prop := h 0 0 ≤ 6 ∧ h 0 1 ≤ 4 ∧ h 0 2 ≤ 6 ∧ (∀ b, b < h 0 0 → (1 ≤ h 1 b ∧ h 1 b ≤ 24) ∧ (1 ≤ h 2 b ∧ h 2 b ≤ 24) ∧ h 3 b ≤ 9 ∧ h 4 b ≤ 48) ∧ (∀ t, t < h 0 1 → h 5 t ≤ 9 ∧ h 6 t ≤ 60) ∧ ∀ k, k < h 0 2 → h 7 k ≤ 7 ∧ h 8 k ≤ 9
/-- shelf d: nothing, a blow, a row -/
def Shf (σ : St) (d : Nat) : Prop := (gI σ 12 15 d = 0 ∧ gI σ 8 d 1 = 0 ∧ gR σ 1 d 0 = none) ∨ (gI σ 12 15 d = 1 ∧ gI σ 8 d 1 = 0 ∧ ∃ j kd fg, gR σ 1 d 0 = some j ∧ Bl σ j kd fg ∧ kd ≤ 7 ∧ fg ≤ 9 ∧ gI σ 12 16 d = nI kd ∧ gI σ 12 17 d = nI fg) ∨ (gI σ 12 15 d = 2 ∧ gI σ 8 d 1 = 1 ∧ gR σ 1 d 0 = none ∧ ∃ so n, so ≤ 2 ∧ n ≤ 100 ∧ gI σ 8 d 2 = nI so ∧ gI σ 12 18 d = nI so ∧ gI σ 8 d 3 = nI n ∧ gI σ 12 19 d = nI n ∧ ∀ i, i < n → gI σ 9 d i = gI σ 12 20 (100 * d + i))
/-- the cells of rows of bytes are bytes -/
def ByOk (σ : St) : Prop := ∀ d, d < 8 → gI σ 12 15 d = 2 → gI σ 12 18 d = 0 → ∀ i, i < 100 → (gI σ 12 20 (100 * d + i)).toInt8.toInt32 = gI σ 12 20 (100 * d + i)
theorem byOk_fr {σ σ' : St} (h : ByOk σ) (e : ∀ r, 15 ≤ r → gI σ' 12 r = gI σ 12 r) : ByOk σ' := by
  unfold ByOk
  rw [e 15 (by omega), e 18 (by omega), e 20 (by omega)]
  exact h
def Inv (σ : St) : Prop := (∃ h, OkH h ∧ RelC σ 0 h ∧ RelM σ 0 h) ∧ (∃ h, OkH h ∧ RelC σ 1 h ∧ RelM σ 1 h) ∧ ((gI σ 10 0 3 = gI σ 11 0 3 ∧ (gI σ 11 0 3 = 0 ∨ gI σ 11 0 3 = 1)) ∧ ByOk σ) ∧ gI σ 11 0 4 = 3 ∧ ((gS σ 0 0 = 0 ∧ gS σ 0 1 = 1) ∨ (gS σ 0 0 = 1 ∧ gS σ 0 1 = 0)) ∧ RefsOk σ ∧ (∀ j, j < gS σ 2 0 → okc (gS σ 1 j)) ∧ ∀ d, d < 8 → Shf σ d
theorem relC0 (x : Nat) : RelC σ0 x (fun _ _ => 0) := ⟨nI_0.symm, nI_0.symm, nI_0.symm, fun b h => absurd h (Nat.not_lt_zero b), fun b h => absurd h (Nat.not_lt_zero b), fun b h => absurd h (Nat.not_lt_zero b)⟩
theorem relM0 (x : Nat) : RelM σ0 x (fun _ _ => 0) := ⟨nI_0.symm, nI_0.symm, nI_0.symm, fun b h => absurd h (Nat.not_lt_zero b), fun b h => absurd h (Nat.not_lt_zero b), fun b h => absurd h (Nat.not_lt_zero b)⟩
theorem okH0 : OkH (fun _ _ => 0) := ⟨Nat.zero_le _, Nat.zero_le _, Nat.zero_le _, fun b h => absurd h (Nat.not_lt_zero b), fun b h => absurd h (Nat.not_lt_zero b), fun b h => absurd h (Nat.not_lt_zero b)⟩
theorem inv0 : Inv σ0 := ⟨⟨_, okH0, relC0 0, relM0 0⟩, ⟨_, okH0, relC0 1, relM0 1⟩, ⟨⟨rfl, Or.inl rfl⟩, fun d hd h2 => absurd (show (0 : Int32) = 2 from h2) (by decide)⟩, rfl, Or.inl ⟨rfl, rfl⟩, fun c i k j h => (by cases h), fun j h => absurd h (Nat.not_lt_zero j), fun d _ => Or.inl ⟨rfl, rfl, rfl⟩⟩
/-- an index: below 0, at or above n, or one of those below n -/
theorem ix3 (x : Int32) {n : Nat} (hn : n < 2 ^ 31) : x < 0 ∨ (¬ x < 0 ∧ nI n ≤ x) ∨ ∃ j : Nat, j < n ∧ x = nI j := by
  rcases pk_ix x hn with q | q | q
  · exact Or.inl q
  · by_cases h : x < 0
    · exact Or.inl h
    · exact Or.inr (Or.inl ⟨h, q⟩)
  · exact Or.inr (Or.inr q)
theorem bd_s {α β : Type} {v : α} {k : α → Option β} : bd (some v) k = k v := rfl
theorem nI_cl {n : Nat} (h : n < 2 ^ 31) : (nI n).toNatClampNeg = n := nI_clamp h
/-- the class: a blade's number, thumbs' number, a blow's number -/
theorem hasBlade_s {σ : St} {x : Nat} {h : Hg} (hC : RelC σ x h) (hO : OkH h) (a : Int32) : (∃ b, b < h 0 0 ∧ a = nI b ∧ fX3_hasBlade σ x a = some 1) ∨ ((∀ b, b < h 0 0 → a ≠ nI b) ∧ fX3_hasBlade σ x a = some 0) := by
  unfold fX3_hasBlade
  rw [hC.1]
  have h6 := hO.1
  rcases ix3 a (n := h 0 0) (by omega) with q | ⟨q, q2⟩ | ⟨b, hb, rfl⟩
  · refine Or.inr ⟨fun b hb e => ?_, if_pos q⟩
    rw [e] at q
    exact nI_pos (by omega) q
  · refine Or.inr ⟨fun b hb e => ?_, by rw [if_neg q, if_pos q2]⟩
    rw [e] at q2
    exact nI_ge hb (by omega) q2
  · exact Or.inl ⟨b, hb, rfl, by rw [if_neg (nI_pos (by omega)), if_neg (nI_ge hb (by omega))]⟩
