theorem hp_if {α : Type} {τ : St} {hp c : Nat} (hh : gI τ 11 0 4 = nI hp) (h3 : hp ≤ 3) (hc : c < 100) {x y : α} : (if gI τ 11 0 4 = nI c then x else y) = if hp = c then x else y := by
  rw [hh]
  by_cases e : hp = c
  · rw [if_pos e, if_pos (congrArg nI e)]
  · rw [if_neg e, if_neg (fun q => e ((nI_eq (by omega) (by omega)).mp q))]
theorem slit_m {τ : St} {h : Hg} {hp t : Nat} (hM : RelM τ 0 h) (hO : OkH h) (hh : gI τ 11 0 4 = nI hp) (h3 : hp ≤ 3) (ht : t < h 0 1) : fX12_slitOf τ (nI t) = some (nI (slE hp h t)) := by
  have h4 := hO.2.1
  have q := (hO.2.2.2.2.1 t ht).1
  unfold fX12_slitOf
  rw [show fX12_atThumbs τ (nI t) 0 = some (nI (27 + 2 * t)) from at_t (w := 0), bd_s, ck_t (in47 (by omega)), nI_clamp (by omega), (hM.2.2.2.2.1 t ht).1, nmv_s, show (if gI τ 11 0 4 = (2 : Int32) then if nI (h 5 t) ≤ 0 then some (nI (h 5 t)) else some (nI (h 5 t) - 1) else some (nI (h 5 t))) = if hp = 2 then if nI (h 5 t) ≤ 0 then some (nI (h 5 t)) else some (nI (h 5 t) - 1) else some (nI (h 5 t)) from hp_if (c := 2) hh h3 (by omega)]
  unfold slE
  by_cases e : hp = 2
  · rw [if_pos e, if_pos e]
    rcases hs : h 5 t with _ | s
    · rfl
    · rw [if_neg (nI_nle (by omega) (by omega)), nI_pred]
      rfl
  · rw [if_neg e, if_neg e]
theorem grip_m {τ : St} {h : Hg} {hp t : Nat} (hM : RelM τ 0 h) (hO : OkH h) (hh : gI τ 11 0 4 = nI hp) (h3 : hp ≤ 3) (ht : t < h 0 1) : fX12_gripOf τ (nI t) = some (nI (zGR hp h t)) := by
  have h4 := hO.2.1
  have q := (hO.2.2.2.2.1 t ht).2
  have J : ∀ z : Nat, z ≤ 5 → fX12_gripOf_J23 τ (nI (27 + 2 * t + 1)) (nI z) = some (nI (min 60 (h 6 t + z))) := by
    intro z hz
    unfold fX12_gripOf_J23
    rw [nI_clamp (by omega), (hM.2.2.2.2.1 t ht).2, nI_add, nmv_s]
    by_cases e : h 6 t + z ≤ 60
    · rw [if_pos (show nI (h 6 t + z) ≤ (60 : Int32) from nI_le (b := 60) e (by omega)), Nat.min_eq_right e]
    · rw [if_neg (show ¬ nI (h 6 t + z) ≤ (60 : Int32) from nI_ge (a := 60) (by omega) (by omega)), Nat.min_eq_left (by omega)]
      rfl
  unfold fX12_gripOf
  rw [show fX12_atThumbs τ (nI t) 1 = some (nI (27 + 2 * t + 1)) from at_t (w := 1), bd_s, ck_t (in47 (by omega)), show (if gI τ 11 0 4 = (1 : Int32) then fX12_gripOf_J23 τ (nI (27 + 2 * t + 1)) 5 else fX12_gripOf_J23 τ (nI (27 + 2 * t + 1)) 0) = if hp = 1 then fX12_gripOf_J23 τ (nI (27 + 2 * t + 1)) 5 else fX12_gripOf_J23 τ (nI (27 + 2 * t + 1)) 0 from hp_if (c := 1) hh h3 (by omega)]
  unfold zGR
  by_cases e : hp = 1
  · rw [if_pos e, if_pos e]
    exact J 5 (by omega)
  · rw [if_neg e, if_neg e]
    exact J 0 (by omega)
theorem lowP_m {τ : St} {h : Hg} {hp b t k : Nat} (hM : RelM τ 0 h) (hO : OkH h) (hh : gI τ 11 0 4 = nI hp) (h3 : hp ≤ 3) (hb : b < h 0 0) (ht : t < h 0 1) (hk : k < h 0 2) : fX12_lowPlain τ (nI b) (nI t) (nI k) = some (nI (zLP hp h b t k)) := by
  obtain ⟨k1, k2⟩ := kind_m hM hO hk
  have hk7 := (hO.2.2.2.2.2 k hk).1
  have b24 := (hO.2.2.2.1 b hb).1.2
  have s9 := (okS (hp := hp) hO hb ht hk).2.2.2.2.2.2.2.2
  unfold fX12_lowPlain
  rw [show fX12_bladeOf τ (nI b) 0 = some (nI (h 1 b)) from at_bl hM hO (w := 0) hb (by omega), slit_m hM hO hh h3 ht, bd_s, bd_s, nmv_s, k1, bd_s, nI_add]
  unfold zLP
  generalize slE hp h t = sl at s9 ⊢
  generalize h 1 b = br at b24 ⊢
  have J : ∀ z : Nat, fX12_lowPlain_J42 τ (nI k) (nI z) = if h 7 k = 3 then some (nI (z + 10)) else if h 7 k = 6 then some (nI (z + 1)) else some (nI z) := by
    intro z
    unfold fX12_lowPlain_J42
    rw [k1, bd_s, bd_s]
    have e10 : nI z + 10 = nI (z + 10) := nI_add z 10
    have e1 : nI z + 1 = nI (z + 1) := nI_add z 1
    rw [e10, e1]
    by_cases c3 : h 7 k = 3
    · rw [if_pos c3, if_pos (show nI (h 7 k) = (3 : Int32) from congrArg nI c3)]
    · rw [if_neg c3, if_neg (show ¬ nI (h 7 k) = (3 : Int32) from fun q : nI (h 7 k) = nI 3 => c3 ((nI_eq (by omega) (by omega)).mp q))]
      by_cases c6 : h 7 k = 6
      · rw [if_pos c6, if_pos (show nI (h 7 k) = (6 : Int32) from congrArg nI c6)]
      · rw [if_neg c6, if_neg (show ¬ nI (h 7 k) = (6 : Int32) from fun q : nI (h 7 k) = nI 6 => c6 ((nI_eq (by omega) (by omega)).mp q))]
  have two : (if (2 : Int32) ≤ nI (br + sl) then fX12_lowPlain_J42 τ (nI k) (nI (br + sl) - 2) else fX12_lowPlain_J42 τ (nI k) 0) = fX12_lowPlain_J42 τ (nI k) (nI (br + sl - 2)) := by
    by_cases e : 2 ≤ br + sl
    · rw [if_pos (show (2 : Int32) ≤ nI (br + sl) from nI_le (a := 2) e (by omega)), show nI (br + sl) - 2 = nI (br + sl - 2) from pk_sub (b := 2) e]
    · rw [if_neg (show ¬ (2 : Int32) ≤ nI (br + sl) from nI_ge (b := 2) (by omega) (by omega)), show br + sl - 2 = 0 by omega]
      rfl
  rw [two, J]
  generalize h 7 k = kd at hk7 ⊢
  rcases kd with _ | _ | _ | _ | _ | _ | _ | _ | kd <;> first | rfl | omega
theorem low_m {τ : St} {h : Hg} {hp b t k : Nat} (hM : RelM τ 0 h) (hO : OkH h) (hh : gI τ 11 0 4 = nI hp) (h3 : hp ≤ 3) (hb : b < h 0 0) (ht : t < h 0 1) (hk : k < h 0 2) : fX12_low τ (nI b) (nI t) (nI k) = some (nI (zLO hp h b t k)) := by
  have l := (okS (hp := hp) hO hb ht hk).2.1
  unfold fX12_low
  rw [lowP_m hM hO hh h3 hb ht hk, bd_s, show (if gI τ 11 0 4 = (0 : Int32) then if (2 : Int32) ≤ nI (zLP hp h b t k) then some (nI (zLP hp h b t k) - 2) else some 0 else some (nI (zLP hp h b t k))) = if hp = 0 then if (2 : Int32) ≤ nI (zLP hp h b t k) then some (nI (zLP hp h b t k) - 2) else some 0 else some (nI (zLP hp h b t k)) from hp_if (c := 0) hh h3 (by omega)]
  unfold zLO
  by_cases e : hp = 0
  · rw [if_pos e, if_pos e]
    by_cases e2 : 2 ≤ zLP hp h b t k
    · rw [if_pos (show (2 : Int32) ≤ nI (zLP hp h b t k) from nI_le (a := 2) e2 (by omega)), show nI (zLP hp h b t k) - 2 = nI (zLP hp h b t k - 2) from pk_sub (b := 2) e2]
    · rw [if_neg (show ¬ (2 : Int32) ≤ nI (zLP hp h b t k) from nI_ge (b := 2) (by omega) (by omega)), show zLP hp h b t k - 2 = 0 by omega]
      rfl
  · rw [if_neg e, if_neg e]
theorem high_m {τ : St} {h : Hg} {hp b t k : Nat} (hM : RelM τ 0 h) (hO : OkH h) (hh : gI τ 11 0 4 = nI hp) (h3 : hp ≤ 3) (hb : b < h 0 0) (ht : t < h 0 1) (hk : k < h 0 2) : fX12_high τ (nI b) (nI t) (nI k) = some (nI (zHI hp h b t k)) := by
  obtain ⟨k1, k2⟩ := kind_m hM hO hk
  have hk7 := (hO.2.2.2.2.2 k hk).1
  have w9 := (hO.2.2.2.1 b hb).2.2.1
  unfold fX12_high
  have e8 : (8 : Int32) + nI (h 3 b) = nI (8 + h 3 b) := nI_add 8 _
  rw [show fX12_bladeOf τ (nI b) 2 = some (nI (h 3 b)) from at_bl hM hO (w := 2) hb (by omega), bd_s, e8, nmv_s, lowP_m hM hO hh h3 hb ht hk, bd_s, k1, bd_s, show nI (8 + h 3 b) / 2 = nI ((8 + h 3 b) / 2) from pk_div (d := 2) (by omega) (by omega) (by omega), nI_add, nI_add, ← Nat.add_assoc]
  unfold zHI
  generalize zLP hp h b t k = lp
  generalize h 7 k = kd at hk7 ⊢
  rcases kd with _ | _ | _ | _ | _ | _ | _ | _ | kd <;> first | rfl | omega
theorem soft_m {τ : St} {h : Hg} {hp t k : Nat} (hM : RelM τ 0 h) (hO : OkH h) (hh : gI τ 11 0 4 = nI hp) (h3 : hp ≤ 3) (ht : t < h 0 1) (hk : k < h 0 2) : fX12_softest τ (nI t) (nI k) = some (nI (zSO hp h t k)) := by
  obtain ⟨k1, k2⟩ := kind_m hM hO hk
  have hk7 := (hO.2.2.2.2.2 k hk).1
  have s9 : slE hp h t ≤ 9 := by
    have := (hO.2.2.2.2.1 t ht).1
    unfold slE
    split <;> omega
  have e6 : (6 : Int32) + 2 * nI (slE hp h t) = nI (6 + 2 * slE hp h t) := by
    show nI 6 + nI 2 * _ = _
    rw [pk_mul, nI_add]
  have e2 : (2 : Int32) * nI (6 + 2 * slE hp h t) = nI (2 * (6 + 2 * slE hp h t)) := pk_mul 2 _
  unfold fX12_softest
  rw [slit_m hM hO hh h3 ht, bd_s, e6, nmv_s, k1, bd_s, e2, show nI (6 + 2 * slE hp h t) / 2 = nI ((6 + 2 * slE hp h t) / 2) from pk_div (d := 2) (by omega) (by omega) (by omega)]
  unfold zSO
  generalize slE hp h t = sl
  generalize h 7 k = kd at hk7 ⊢
  rcases kd with _ | _ | _ | _ | _ | _ | _ | _ | kd <;> first | rfl | omega
theorem hard_m {τ : St} {h : Hg} {hp t k : Nat} (hM : RelM τ 0 h) (hO : OkH h) (hh : gI τ 11 0 4 = nI hp) (h3 : hp ≤ 3) (ht : t < h 0 1) (hk : k < h 0 2) : fX12_hardest τ (nI t) (nI k) = some (nI (zHA hp h t k)) := by
  obtain ⟨k1, k2⟩ := kind_m hM hO hk
  obtain ⟨hk7, hf⟩ := hO.2.2.2.2.2 k hk
  have e4 : nI (zSO hp h t k) + (20 - nI (h 8 k)) = nI (zSO hp h t k + 20 - h 8 k) := by
    rw [show (20 : Int32) - nI (h 8 k) = nI (20 - h 8 k) from pk_sub (a := 20) (by omega), nI_add, Nat.add_sub_assoc (by omega)]
  have e10 : nI (zSO hp h t k) + 10 = nI (zSO hp h t k + 10) := nI_add _ 10
  have e20 : nI (zSO hp h t k) + 20 = nI (zSO hp h t k + 20) := nI_add _ 20
  unfold fX12_hardest
  rw [soft_m hM hO hh h3 ht hk, bd_s, k1, k2, bd_s, bd_s, bd_s, e4, e10, e20]
  unfold zHA
  generalize zSO hp h t k = so
  generalize h 7 k = kd at hk7 ⊢
  rcases kd with _ | _ | _ | _ | _ | _ | _ | _ | kd <;> first | rfl | omega
/-- within a and b -/
theorem isIn_n {τ : St} {a b v : Nat} (ha : a < 1000) (hb : b < 1000) (hv : v < 1000) : fX12_isIn τ (nI v) (nI a) (nI b) = some (if a ≤ v ∧ v ≤ b then 1 else 0) := by
  unfold fX12_isIn
  by_cases h1 : a ≤ v
  · rw [if_neg (nI_nlt h1 (by omega))]
    by_cases h2 : v ≤ b
    · rw [if_neg (nI_nlt h2 (by omega)), if_pos ⟨h1, h2⟩]
    · rw [if_pos (nI_lt (by omega) (by omega)), if_neg (fun q => h2 q.2)]
  · rw [if_pos (nI_lt (by omega) (by omega)), if_neg (fun q => h1 q.1)]
def tI (hp : Nat) (h : Hg) (b t k v : Nat) : Prop := zLO hp h b t k ≤ v ∧ v ≤ zHI hp h b t k ∧ v ≤ zGR hp h t
def hA (hp : Nat) (h : Hg) (t k v : Nat) : Prop := zSO hp h t k ≤ v ∧ v ≤ zHA hp h t k
theorem tight_m {τ : St} {h : Hg} {hp b t k v : Nat} (hM : RelM τ 0 h) (hO : OkH h) (hh : gI τ 11 0 4 = nI hp) (h3 : hp ≤ 3) (hb : b < h 0 0) (ht : t < h 0 1) (hk : k < h 0 2) (hv : v < 1000) : (tI hp h b t k v ∧ fX12_isTight τ (nI b) (nI t) (nI k) (nI v) = some 1) ∨ (¬ tI hp h b t k v ∧ fX12_isTight τ (nI b) (nI t) (nI k) (nI v) = some 0) := by
  obtain ⟨l1, l2, l3, l4, l5, l6, l7, l8, l9⟩ := okS (hp := hp) hO hb ht hk
  unfold fX12_isTight
  rw [low_m hM hO hh h3 hb ht hk, bd_s, high_m hM hO hh h3 hb ht hk, bd_s, isIn_n (by omega) (by omega) hv, bd_s, grip_m hM hO hh h3 ht, bd_s]
  by_cases h1 : zLO hp h b t k ≤ v ∧ v ≤ zHI hp h b t k
  · rw [if_pos h1, if_neg (by decide)]
    by_cases h2 : v ≤ zGR hp h t
    · exact Or.inl ⟨⟨h1.1, h1.2, h2⟩, by rw [if_neg (nI_nlt h2 (by omega))]⟩
    · exact Or.inr ⟨fun q => h2 q.2.2, by rw [if_pos (nI_lt (by omega) (by omega))]⟩
  · rw [if_neg h1]
    exact Or.inr ⟨fun q => h1 ⟨q.1, q.2.1⟩, rfl⟩
theorem isHard_m {τ : St} {h : Hg} {hp t k v : Nat} (hM : RelM τ 0 h) (hO : OkH h) (hh : gI τ 11 0 4 = nI hp) (h3 : hp ≤ 3) (ht : t < h 0 1) (hk : k < h 0 2) (hv : v < 1000) : (hA hp h t k v ∧ fX12_isHard τ (nI t) (nI k) (nI v) = some 1) ∨ (¬ hA hp h t k v ∧ fX12_isHard τ (nI t) (nI k) (nI v) = some 0) := by
  have s9 : slE hp h t ≤ 9 := by
    have := (hO.2.2.2.2.1 t ht).1
    unfold slE
    split <;> omega
  have l6 : zSO hp h t k ≤ 61 := softS_le s9
  have l7 : zHA hp h t k ≤ 81 := (hardS_le l6 (hO.2.2.2.2.2 k hk).2).1
  unfold fX12_isHard
  rw [soft_m hM hO hh h3 ht hk, bd_s, hard_m hM hO hh h3 ht hk, bd_s, isIn_n (by omega) (by omega) hv, bd_s]
  by_cases h1 : zSO hp h t k ≤ v ∧ v ≤ zHA hp h t k
  · rw [if_pos h1, ck_t (Or.inr rfl)]
    exact Or.inl ⟨h1, rfl⟩
  · rw [if_neg h1, ck_t (Or.inl rfl)]
    exact Or.inr ⟨h1, rfl⟩
theorem sound_m {τ : St} {h : Hg} {hp b t k v f : Nat} (hM : RelM τ 0 h) (hO : OkH h) (hh : gI τ 11 0 4 = nI hp) (h3 : hp ≤ 3) (hb : b < h 0 0) (ht : t < h 0 1) (hk : k < h 0 2) (hv : v < 1000) (hf : f < 1000) : ((tI hp h b t k v ∧ hA hp h t k f) ∧ fX12_isSound τ (nI b) (nI t) (nI k) (nI v) (nI f) = some 1) ∨ (¬ (tI hp h b t k v ∧ hA hp h t k f) ∧ fX12_isSound τ (nI b) (nI t) (nI k) (nI v) (nI f) = some 0) := by
  unfold fX12_isSound
  rcases tight_m hM hO hh h3 hb ht hk hv with ⟨a1, a2⟩ | ⟨a1, a2⟩
  · rcases isHard_m hM hO hh h3 ht hk hf with ⟨c1, c2⟩ | ⟨c1, c2⟩
    · exact Or.inl ⟨⟨a1, c1⟩, by rw [a2, c2]; rfl⟩
    · exact Or.inr ⟨fun q => c1 q.2, by rw [a2, c2]; rfl⟩
  · exact Or.inr ⟨fun q => a1 q.1, by rw [a2]; rfl⟩
