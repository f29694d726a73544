/-- how many bits of six -/
def pcN (m : Nat) : Nat := m % 2 + m / 2 % 2 + m / 4 % 2 + m / 8 % 2 + m / 16 % 2 + m / 32 % 2
def bcI (a1 : Int32) : Int32 :=
  let v1 := a1 - (((a1.toUInt32 >>> ((1 : Int32).toUInt32 &&& Int32.toUInt32 31)).toInt32) &&& (1431655765 : Int32))
  let v2 := (v1 &&& (858993459 : Int32)) + (((v1.toUInt32 >>> ((2 : Int32).toUInt32 &&& Int32.toUInt32 31)).toInt32) &&& (858993459 : Int32))
  let v3 := (v2 + ((v2.toUInt32 >>> ((4 : Int32).toUInt32 &&& Int32.toUInt32 31)).toInt32)) &&& (252645135 : Int32)
  let v4 := v3 + ((v3.toUInt32 >>> ((8 : Int32).toUInt32 &&& Int32.toUInt32 31)).toInt32)
  let v5 := v4 + ((v4.toUInt32 >>> ((16 : Int32).toUInt32 &&& Int32.toUInt32 31)).toInt32)
  v5 &&& (63 : Int32)
theorem bc_fin : ∀ m, m < 64 → bcI (nI m) = nI (pcN m) := by decide +kernel
theorem bc_s {σ : St} {m : Nat} (h : m < 64) : fJ6_bitCount_0f7a4 σ (nI m) = some (nI (pcN m)) := by
  rw [← bc_fin m h]
  rfl
theorem pc_bit : ∀ i, i < 6 → ∀ m, m < 2 ^ i → pcN (m + 2 ^ i) = pcN m + 1 := by
  intro i hi
  rcases i with _ | _ | _ | _ | _ | _ | i
  · decide +kernel
  · decide +kernel
  · decide +kernel
  · decide +kernel
  · decide +kernel
  · decide +kernel
  · omega
theorem pc_bd (h : Hg) : ∀ i, i ≤ 6 → pcN (bdN (splN h) i) = sm (splN h) i := by
  intro i
  induction i with
  | zero =>
    intro _
    show pcN 0 = 0
    decide
  | succ i ih =>
    intro hi
    show pcN (if 0 < splN h i then bdN (splN h) i + 2 ^ i else bdN (splN h) i) = sm (splN h) i + splN h i
    rcases splN_01 h i with s0 | s0
    · rw [s0, if_neg (by omega), ih (by omega)]
      rfl
    · rw [s0, if_pos (by omega), pc_bit i (by omega) _ (bdN_lt _ i), ih (by omega)]
theorem sb_bd (h : Hg) : ∀ i, i ≤ 6 → sbits h i = nI (bdN (splN h) i) := by
  intro i
  induction i with
  | zero => exact fun _ => rfl
  | succ i ih =>
    intro hi
    show (if h 2 i + h 3 i < h 4 i then sbits h i ||| ((1 : Int32) <<< (nI i &&& 31)) else sbits h i) = nI (if 0 < splN h i then bdN (splN h) i + 2 ^ i else bdN (splN h) i)
    unfold splN
    by_cases c : h 2 i + h 3 i < h 4 i
    · rw [if_pos c, if_pos c, if_pos (by omega), ih (by omega)]
      exact or_bit i (by omega) _ (bdN_lt _ i)
    · rw [if_neg c, if_neg c, if_neg (by omega), ih (by omega)]
      rfl
theorem cntS_c {τ : St} {p : Hg} (hC : RelC τ 2 p) (hO : OkH p) {α : Type} (K : Int32 → Option α) : (bd (fX3_splitBits τ 2) fun r17 => bd (fJ6_bitCount_0f7a4 τ r17) K) = K (nI (sm (splN p) (p 0 0))) := by
  have o6 := hO.1
  have l : bdN (splN p) (p 0 0) < 64 := Nat.lt_of_lt_of_le (bdN_lt _ _) (Nat.le_trans (Nat.pow_le_pow_right (by omega) o6) (by decide))
  rw [splitB_c hC hO, bd_s, sb_bd p _ o6, bc_s l, bd_s, pc_bd p _ o6]
theorem become3 {σ τ : St} {h : Hg} (hs : Sp3 σ τ) (hC : RelC σ 0 h) (hO : OkH h) (hK : ∀ j, j < gS σ 2 0 → okc (gS σ 1 j)) : ∃ υ, fX3_become τ 2 0 = some υ ∧ Sp3 σ υ ∧ RelC υ 2 h ∧ gI υ 10 0 7 = gI τ 10 0 7 := by
  obtain ⟨υ, b1, b2, b3⟩ := become2 (Sp3_relC hs hC (by decide)) hO hs.2.2.2.2 (Sp3_okc hs hK)
  exact ⟨υ, b1, Sp3_of2 hs b2, b3, congrFun (b2.1 10 0 (by omega)) 7⟩
theorem walksL_c {σ τ0 : St} (hS0 : Sp3 σ τ0) {h : Hg} (hw : OkW h h) (hC : RelC σ 0 h) (hK : ∀ j, j < gS σ 2 0 → okc (gS σ 1 j)) {n : Nat} (hn : n ≤ 20) (K : Int32 → Int32 → St → Option (Int32 × St)) : ∃ τ, fX11_walks_L68 (nI n) K FU 0 0 0 τ0 = K (nI (wlS (gI τ0 10 0 7) h n).2.1) (nI (wlS (gI τ0 10 0 7) h n).2.2) τ ∧ Sp3 σ τ := by
  refine loop_h (S := St) (fun m i s => fX11_walks_L68 (nI n) K m (nI (wlS (gI τ0 10 0 7) h i).2.1) (nI (wlS (gI τ0 10 0 7) h i).2.2) (nI i) s) n (fun i s => Sp3 σ s ∧ gI s 10 0 7 = (wlS (gI τ0 10 0 7) h i).1) (fun q => ∃ τ, q = K (nI (wlS (gI τ0 10 0 7) h n).2.1) (nI (wlS (gI τ0 10 0 7) h n).2.2) τ ∧ Sp3 σ τ) (fun m i s hi hI => ?_) n 0 τ0 FU (by omega) (FU_gt (by omega)) ⟨hS0, rfl⟩
  obtain ⟨i1, i2⟩ := hI
  show (∃ τ', fX11_walks_L68B (nI n) K (fX11_walks_L68 (nI n) K m) (nI (wlS (gI τ0 10 0 7) h i).2.1) (nI (wlS (gI τ0 10 0 7) h i).2.2) (nI i) s = _ ∧ _) ∨ (i < n ∧ ∃ s', fX11_walks_L68B (nI n) K (fX11_walks_L68 (nI n) K m) (nI (wlS (gI τ0 10 0 7) h i).2.1) (nI (wlS (gI τ0 10 0 7) h i).2.2) (nI i) s = _ ∧ _)
  unfold fX11_walks_L68B
  by_cases e : i = n
  · subst e
    rw [if_pos (nI_le (Nat.le_refl _) (by omega))]
    exact Or.inl ⟨s, rfl, i1⟩
  · obtain ⟨υ, b1, b2, b3, b4⟩ := become3 i1 hC hw.1 hK
    obtain ⟨τ, t1, t2, t3, t4⟩ := walk_c b2 hw b3
    rw [b4, i2] at t1 t3 t4
    have ok := wkS_ok hw (wlS (gI τ0 10 0 7) h i).1 10
    rw [if_neg (nI_ge (by omega) (by omega)), b1, bd_s, t1, bd_s]
    dsimp only
    rw [nI_add, nmv_s, cntS_c t3 ok.1, nI_add, nmv_s, nmv_s, nI_1, ok.2.1]
    exact Or.inr ⟨by omega, τ, rfl, t2, t4⟩
/-- the model's rows: the current hedge, what it was, the seed apart -/
def M3 (τ υ : St) : Prop := (∀ c i, ¬ (c = 12 ∧ (i = 0 ∨ i = 2)) → ¬ (c = 11 ∧ i = 0) → gI υ c i = gI τ c i) ∧ (∀ j, j ≠ 14 → gI υ 11 0 j = gI τ 11 0 j) ∧ gR υ = gR τ ∧ gS υ = gS τ
theorem M3_refl {τ : St} : M3 τ τ := ⟨fun _ _ _ _ => rfl, fun _ _ => rfl, rfl, rfl⟩
theorem M3_seed {τ υ : St} {v : Int32} (h : M3 τ υ) : M3 τ (sI υ 11 0 14 v) := ⟨fun c i q q2 => by rw [gsI_n (by omega)]; exact h.1 c i q q2, fun j hj => by rw [gsI_s, pk_un hj]; exact h.2.1 j hj, h.2.2.1, h.2.2.2⟩
theorem M3_row {τ υ : St} {r : Nat} {f : Nat → Int32} (h : M3 τ υ) (hr : r = 0 ∨ r = 2) : M3 τ (sA υ 12 r f) := ⟨fun c i q q2 => by rw [gsA_n (by omega)]; exact h.1 c i q q2, fun j hj => by rw [gsA_n (by omega)]; exact h.2.1 j hj, h.2.2.1, h.2.2.2⟩
theorem M3_inv {τ υ : St} {h : Hg} (hs : M3 τ υ) (hI : Inv τ) (hO : OkH h) (hC : RelC τ 0 h) (hM : RelM υ 0 h) : Inv υ := by
  obtain ⟨-, ⟨h1, O1, C1, M1⟩, I3, I4, I5, I6, I7, I8⟩ := hI
  obtain ⟨m1, m2, m3, m4⟩ := hs
  have f1 : ∀ c i, ¬ (c = 12 ∧ (i = 0 ∨ i = 2)) → ¬ (c = 11 ∧ i = 0) → gI υ c i = gI τ c i := m1
  have s2 : gS υ 2 0 = gS τ 2 0 := by rw [m4]
  have s1 : gS υ 1 = gS τ 1 := by rw [m4]
  refine ⟨⟨h, hO, relC_fr hC (fun c hc => f1 c 0 (by omega) (by omega)) (by rw [m3]) s2 s1 (f1 13 0 (by omega) (by omega)) (f1 14 0 (by omega) (by omega)), hM⟩, ⟨h1, O1, relC_fr C1 (fun c hc => f1 c 1 (by omega) (by omega)) (by rw [m3]) s2 s1 (f1 13 0 (by omega) (by omega)) (f1 14 0 (by omega) (by omega)), relM_row M1 O1 (fun j _ => by rw [f1 12 1 (by omega) (by omega)])⟩, ?_, ?_, ?_, ?_, ?_, fun d hd => ?_⟩
  · rw [f1 10 0 (by omega) (by omega), m2 3 (by omega)]
    exact ⟨I3.1, byOk_fr I3.2 (fun r hr => f1 12 r (by omega) (by omega))⟩
  · rw [m2 4 (by omega)]
    exact I4
  · rw [m4]; exact I5
  · intro c i k j q
    rw [s2]
    rw [m3] at q
    exact I6 c i k j q
  · rw [s2, s1]
    exact I7
  · exact shf_fr (I8 d hd) (f1 8 d (by omega) (by omega)) (f1 9 d (by omega) (by omega)) (fun r hr => f1 12 r (by omega) (by omega)) (by rw [m3]) s2 s1 (f1 13 0 (by omega) (by omega)) (f1 14 0 (by omega) (by omega))
theorem told_m {τ : St} {h : Hg} (hM : RelM τ 0 h) (hO : OkH h) {b t k v f : Nat} (hb : b < h 0 0) (ht : t < h 0 1) (hk : k < h 0 2) (hv : v ≤ 60) (hf : f ≤ 60) : fX12_isTold τ (nI b) (nI t) (nI k) (nI v) (nI f) = some 1 := by
  have o6 := hO.1
  have o4 := hO.2.1
  have o2 := hO.2.2.1
  have ix : ∀ (a n : Nat), n < 2 ^ 29 → a < n → fX12_isIn τ (nI a) 0 (nI n - 1) = some 1 := fun a n hn ha => by
    rcases idx_s (σ := τ) (n := n) (nI a) hn with ⟨-, q⟩ | ⟨q, -⟩
    · exact q
    · exact absurd rfl (q a ha)
  have fo : ∀ a : Nat, a ≤ 60 → fX12_isForce τ (nI a) = some 1 := fun a ha => by
    rcases force_s (σ := τ) (τ := τ) (nI a) with ⟨j, -, -, q, -⟩ | ⟨q, -⟩
    · exact q
    · exact absurd rfl (q a ha)
  unfold fX12_isTold fX12_areAll fX12_isBlade fX12_isThumbs fX12_isBlow
  rw [ck_t (show vp_in 0 47 from in47 (k := 0) (by omega)), ck_t (show vp_in 1 47 from in47 (k := 1) (by omega)), ck_t (show vp_in 2 47 from in47 (k := 2) (by omega)), show gI τ 12 0 (0 : Int32).toNatClampNeg = nI (h 0 0) from hM.1, show gI τ 12 0 (1 : Int32).toNatClampNeg = nI (h 0 1) from hM.2.1, show gI τ 12 0 (2 : Int32).toNatClampNeg = nI (h 0 2) from hM.2.2.1, ix b _ (by omega) hb, ix t _ (by omega) ht, ix k _ (by omega) hk, fo v hv, fo f hf]
  simp only [bd_s, ck_t (show (1 : Int32) = 0 ∨ True from Or.inr trivial), if_neg (show ¬ (1 : Int32) = 0 by decide)]
