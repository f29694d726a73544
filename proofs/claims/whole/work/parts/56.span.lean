def lowS (kd br sl : Nat) : Nat := match kd with
  | 2 => br + sl - 2
  | 3 => br + sl - 2 + 10
  | 5 => br + sl - 2
  | 6 => br + sl - 2 + 1
  | _ => br + sl
def highS (kd lo wt : Nat) : Nat := match kd with
  | 3 => lo + (8 + wt) / 2
  | _ => lo + 8 + wt
def softS (kd sl : Nat) : Nat := match kd with
  | 1 => 61
  | 3 => 2 * (6 + 2 * sl)
  | 6 => (6 + 2 * sl) / 2
  | 7 => 61
  | _ => 6 + 2 * sl
def hardS (kd fg so : Nat) : Nat := match kd with
  | 4 => so + 20 - fg
  | 6 => so + 10
  | _ => so + 20
/-- what helps: 0 two less of tightness, 1 a longer grip, 2 a smaller slit, 3 none -/
def slE (hp : Nat) (h : Hg) (t : Nat) : Nat := if hp = 2 then h 5 t - 1 else h 5 t
def zGR (hp : Nat) (h : Hg) (t : Nat) : Nat := if hp = 1 then min 60 (h 6 t + 5) else min 60 (h 6 t)
def zLP (hp : Nat) (h : Hg) (b t k : Nat) : Nat := lowS (h 7 k) (h 1 b) (slE hp h t)
def zLO (hp : Nat) (h : Hg) (b t k : Nat) : Nat := if hp = 0 then zLP hp h b t k - 2 else zLP hp h b t k
def zHI (hp : Nat) (h : Hg) (b t k : Nat) : Nat := highS (h 7 k) (zLP hp h b t k) (h 3 b)
def zSO (hp : Nat) (h : Hg) (t k : Nat) : Nat := softS (h 7 k) (slE hp h t)
def zHA (hp : Nat) (h : Hg) (t k : Nat) : Nat := hardS (h 7 k) (h 8 k) (zSO hp h t k)
theorem lowS_le {kd br sl : Nat} (h1 : br ≤ 24) (h2 : sl ≤ 9) : lowS kd br sl ≤ 43 := by
  unfold lowS
  split <;> omega
theorem highS_le {kd lo wt : Nat} (h1 : lo ≤ 43) (h2 : wt ≤ 9) : highS kd lo wt ≤ 60 ∧ lo ≤ highS kd lo wt := by
  unfold highS
  split <;> omega
theorem softS_le {kd sl : Nat} (h2 : sl ≤ 9) : softS kd sl ≤ 61 := by
  unfold softS
  split <;> omega
theorem hardS_le {kd fg so : Nat} (h1 : so ≤ 61) (h2 : fg ≤ 9) : hardS kd fg so ≤ 81 ∧ so + 10 ≤ hardS kd fg so := by
  unfold hardS
  split <;> omega
/-- max of 0 and two less -/
theorem less2 {s : Nat} (hs : s < 1000) : (if 0 < nI s - 2 then nI s - 2 else (0 : Int32)) = nI (s - 2) := by
  by_cases h : 2 < s
  · have e : nI s - 2 = nI (s - 2) := pk_sub (b := 2) (by omega)
    rw [e, if_pos (show (0 : Int32) < nI (s - 2) from nI_lt (a := 0) (by omega) (by omega))]
  · rw [if_neg ?_, show s - 2 = 0 by omega]
    · rfl
    · rw [Int32.lt_iff_toInt_lt, show (nI s - 2).toInt = (s : Int) - (2 : Nat) from sub_I (b := 2) (by omega) (by omega), show (0 : Int32).toInt = 0 from rfl]
      omega
theorem low_c {σ : St} {j kd fg br sl : Nat} (hb : Bl σ j kd fg) (hk : kd ≤ 7) (h1 : br ≤ 24) (h2 : sl ≤ 9) : fvlow σ j (nI br) (nI sl) = some (nI (lowS kd br sl)) := by
  obtain ⟨-, hc, -, e⟩ := hb
  have l2 : (if 0 < nI (br + sl) - 2 then nI (br + sl) - 2 else (0 : Int32)) = nI (br + sl - 2) := less2 (by omega)
  have e10 : nI (br + sl - 2) + 10 = nI (br + sl - 2 + 10) := nI_add _ 10
  unfold fvlow
  rw [hc]
  simp only [fX0_low, fX8_low, fX5_low, fX7_low, bd_s, nmv_s, nI_add, l2, e10, nI_1]
  rcases kd with _ | _ | _ | _ | _ | _ | _ | _ | kd <;> first | rfl | omega
theorem high_c {σ : St} {j kd fg lo wt : Nat} (hb : Bl σ j kd fg) (hk : kd ≤ 7) (h1 : lo ≤ 100) (h2 : wt ≤ 9) : fvhigh σ j (nI lo) (nI wt) = some (nI (highS kd lo wt)) := by
  obtain ⟨-, hc, -, e⟩ := hb
  have e8 : nI lo + 8 + nI wt = nI (lo + 8 + wt) := by
    show nI lo + nI 8 + nI wt = _
    rw [nI_add, nI_add]
  have e2 : nI lo + (nI (lo + 8 + wt) - nI lo) / 2 = nI (lo + (8 + wt) / 2) := by
    show nI lo + (nI (lo + 8 + wt) - nI lo) / nI 2 = _
    rw [pk_sub (by omega), show lo + 8 + wt - lo = 8 + wt by omega, pk_div (by omega) (by omega) (by omega), nI_add]
  unfold fvhigh
  rw [hc]
  simp only [fX0_high, fX5_high, bd_s, e8, e2]
  rcases kd with _ | _ | _ | _ | _ | _ | _ | _ | kd <;> first | rfl | omega
theorem soft_c {σ : St} {j kd fg sl : Nat} (hb : Bl σ j kd fg) (hk : kd ≤ 7) (h2 : sl ≤ 9) : fvsoftest σ j (nI sl) = some (nI (softS kd sl)) := by
  obtain ⟨-, hc, -, e⟩ := hb
  have e6 : 6 + 2 * nI sl = nI (6 + 2 * sl) := by
    show nI 6 + nI 2 * nI sl = _
    rw [pk_mul, nI_add]
  have e2 : 2 * nI (6 + 2 * sl) = nI (2 * (6 + 2 * sl)) := by
    show nI 2 * _ = _
    rw [pk_mul]
  have e3 : nI (6 + 2 * sl) / 2 = nI ((6 + 2 * sl) / 2) := pk_div (d := 2) (by omega) (by omega) (by omega)
  unfold fvsoftest
  rw [hc]
  simp only [fX0_softest, fX2_softest, fX5_softest, fX7_softest, bd_s, e6, e2, e3]
  rcases kd with _ | _ | _ | _ | _ | _ | _ | _ | kd <;> first | rfl | omega
theorem hard_c {σ : St} {j kd fg so : Nat} (hb : Bl σ j kd fg) (hk : kd ≤ 7) (hf : fg ≤ 9) (h2 : so ≤ 61) : fvhardest σ j (nI so) = some (nI (hardS kd fg so)) := by
  obtain ⟨-, hc, -, e⟩ := hb
  have e1 : nI so + 20 = nI (so + 20) := nI_add so 20
  have e2 : nI so + (nI (so + 20) - nI so) / 2 = nI (so + 10) := by
    show nI so + (nI (so + 20) - nI so) / nI 2 = _
    rw [pk_sub (by omega), show so + 20 - so = 20 by omega, pk_div (by omega) (by omega) (by omega)]
    exact nI_add so 10
  have e3 : nI (so + 20) - nI fg = nI (so + 20 - fg) := pk_sub (by omega)
  unfold fvhardest
  rw [hc]
  simp only [fX0_hardest, fX7_hardest, fX10_hardest, bd_s, e, e1, e2, e3]
  rcases kd with _ | _ | _ | _ | _ | _ | _ | _ | kd <;> first | rfl | omega
/-- the span written into hedge x -/
def spn (σ : St) (x lo hi gr so ha : Nat) : St := sI (sI (sI (sI (sI σ 7 x 0 (nI lo)) 7 x 1 (nI hi)) 7 x 2 (nI gr)) 7 x 3 (nI so)) 7 x 4 (nI ha)
theorem spn_r {σ : St} {x lo hi gr so ha : Nat} : gI (spn σ x lo hi gr so ha) 7 x = upd (upd (upd (upd (upd (gI σ 7 x) 0 (nI lo)) 1 (nI hi)) 2 (nI gr)) 3 (nI so)) 4 (nI ha) := by
  unfold spn
  rw [gsI_s, gsI_s, gsI_s, gsI_s, gsI_s]
/-- the span of blade b, thumbs t, blow k of the class's hedge x -/
def zSPN (σ : St) (x : Nat) (h : Hg) (b t k : Nat) : St := spn σ x (zLO 3 h b t k) (zHI 3 h b t k) (zGR 3 h t) (zSO 3 h t k) (zHA 3 h t k)
theorem okS {h : Hg} (hO : OkH h) {hp b t k : Nat} (hb : b < h 0 0) (ht : t < h 0 1) (hk : k < h 0 2) : zLO hp h b t k ≤ 43 ∧ zLP hp h b t k ≤ 43 ∧ zHI hp h b t k ≤ 60 ∧ zLO hp h b t k ≤ zHI hp h b t k ∧ zGR hp h t ≤ 60 ∧ zSO hp h t k ≤ 61 ∧ zHA hp h t k ≤ 81 ∧ zSO hp h t k + 10 ≤ zHA hp h t k ∧ slE hp h t ≤ 9 := by
  obtain ⟨-, -, -, o3, o4, o5⟩ := hO
  obtain ⟨⟨-, q1⟩, -, q2, -⟩ := o3 b hb
  obtain ⟨q3, q4⟩ := o4 t ht
  obtain ⟨q5, q6⟩ := o5 k hk
  have s9 : slE hp h t ≤ 9 := by unfold slE; split <;> omega
  have l := lowS_le (kd := h 7 k) (br := h 1 b) (sl := slE hp h t) q1 s9
  have l1 : zLO hp h b t k ≤ zLP hp h b t k := by unfold zLO; split <;> omega
  have hh := highS_le (kd := h 7 k) (lo := zLP hp h b t k) (wt := h 3 b) l q2
  have ss := softS_le (kd := h 7 k) (sl := slE hp h t) s9
  have ha := hardS_le (kd := h 7 k) (fg := h 8 k) (so := zSO hp h t k) ss q6
  refine ⟨Nat.le_trans l1 l, l, hh.1, Nat.le_trans l1 hh.2, ?_, ss, ha.1, ha.2, s9⟩
  unfold zGR
  split <;> omega
theorem gS_sI {σ : St} {c i j : Nat} {v : Int32} : gS (sI σ c i j v) = gS σ := rfl
theorem gS_sA {σ : St} {c i : Nat} {f : Nat → Int32} : gS (sA σ c i f) = gS σ := rfl
theorem spanOf_c {σ : St} {x : Nat} {h : Hg} (hC : RelC σ x h) (hO : OkH h) {b t k : Nat} (hb : b < h 0 0) (ht : t < h 0 1) (hk : k < h 0 2) : fX3_spanOf σ x (nI b) (nI t) (nI k) = some (zSPN σ x h b t k) := by
  obtain ⟨l1, l2, l3, l4, l5, l6, l7, l8, l9⟩ := okS (hp := 3) hO hb ht hk
  have h0 := hO
  obtain ⟨o0, o1, o2, o3, o4, o5⟩ := hO
  obtain ⟨⟨-, q1⟩, -, q2, -⟩ := o3 b hb
  obtain ⟨q3, q4⟩ := o4 t ht
  obtain ⟨q5, q6⟩ := o5 k hk
  obtain ⟨j, c1, hj⟩ := hC.2.2.2.2.2 k hk
  have b6 := in6 (show b < 6 by omega)
  have k6 := in6 (show k < 6 by omega)
  have t4 := in4 (show t < 4 by omega)
  have okj : j < gS σ 2 0 ∧ okc (gS σ 1 j) := ⟨hj.1, okc_of hj⟩
  obtain ⟨d1, -, d3, -⟩ := hC.2.2.2.1 b hb
  obtain ⟨d5, d6⟩ := hC.2.2.2.2.1 t ht
  unfold fX3_spanOf zSPN spn
  rw [ck_t k6, nI_clamp (by omega), nI_clamp (by omega), nI_clamp (by omega), c1, bd_s, ck_t okj, ck_t b6, ck_t t4, d1, d5, low_c hj q5 q1 q3, bd_s, nmv_s, ck_t k6]
  rw [show gR (sI σ 7 x 0 (nI (lowS (h 7 k) (h 1 b) (h 5 t)))) 0 x k = some j from c1, bd_s, gS_sI, ck_t okj, ck_t b6, gsI_s, pk_us]
  rw [show gI (sI σ 7 x 0 (nI (lowS (h 7 k) (h 1 b) (h 5 t)))) 3 x b = nI (h 3 b) from d3, high_c (σ := sI σ 7 x 0 (nI (lowS (h 7 k) (h 1 b) (h 5 t)))) hj q5 (show lowS (h 7 k) (h 1 b) (h 5 t) ≤ 100 from Nat.le_trans l2 (by omega)) q2, bd_s, nmv_s, ck_t t4]
  generalize e1 : nI (lowS (h 7 k) (h 1 b) (h 5 t)) = v1
  generalize e2 : nI (highS (h 7 k) (lowS (h 7 k) (h 1 b) (h 5 t)) (h 3 b)) = v2
  rw [show gI (sI (sI σ 7 x 0 v1) 7 x 1 v2) 6 x t = nI (h 6 t) from d6, nmv_s, ck_t k6]
  rw [show gR (sI (sI (sI σ 7 x 0 v1) 7 x 1 v2) 7 x 2 (nI (h 6 t))) 0 x k = some j from c1, bd_s, gS_sI, gS_sI, gS_sI, ck_t okj, ck_t t4]
  rw [show gI (sI (sI (sI σ 7 x 0 v1) 7 x 1 v2) 7 x 2 (nI (h 6 t))) 5 x t = nI (h 5 t) from d5, soft_c (σ := sI (sI (sI σ 7 x 0 v1) 7 x 1 v2) 7 x 2 (nI (h 6 t))) hj q5 q3, bd_s, nmv_s, ck_t k6]
  generalize e3 : nI (softS (h 7 k) (h 5 t)) = v3
  rw [show gR (sI (sI (sI (sI σ 7 x 0 v1) 7 x 1 v2) 7 x 2 (nI (h 6 t))) 7 x 3 v3) 0 x k = some j from c1, bd_s, gS_sI, gS_sI, gS_sI, gS_sI, ck_t okj, gsI_s, pk_us, ← e3, hard_c (σ := sI (sI (sI (sI σ 7 x 0 v1) 7 x 1 v2) 7 x 2 (nI (h 6 t))) 7 x 3 (nI (softS (h 7 k) (h 5 t)))) hj q5 q6 (softS_le q3), bd_s, nmv_s, ← e1, ← e2]
  have eg : nI (zGR 3 h t) = nI (h 6 t) := by
    unfold zGR
    rw [if_neg (by decide), Nat.min_eq_right (by omega)]
  rw [eg]
  rfl
