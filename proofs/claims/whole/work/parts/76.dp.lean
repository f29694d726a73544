theorem sLA_sLA {σ : St} {i : Nat} {f g : Nat → Int64} : sLA (sLA σ i f) i g = sLA σ i g := by
  show (σ.1, σ.2.1, va_up (va_up σ.2.2.1 i f) i g, σ.2.2.2) = (σ.1, σ.2.1, va_up σ.2.2.1 i g, σ.2.2.2)
  have e : va_up (va_up σ.2.2.1 i f) i g = va_up σ.2.2.1 i g := by
    funext j
    unfold va_up
    by_cases h : j = i
    · rw [if_pos h, if_pos h]
    · rw [if_neg h, if_neg h, if_neg h]
  rw [e]
theorem sLA_self {σ : St} {i : Nat} : sLA σ i (gL σ i) = σ := by
  show (σ.1, σ.2.1, va_up σ.2.2.1 i (σ.2.2.1 i), σ.2.2.2) = σ
  have e : va_up σ.2.2.1 i (σ.2.2.1 i) = σ.2.2.1 := by
    funext j
    unfold va_up
    by_cases h : j = i
    · rw [if_pos h, h]
    · rw [if_neg h]
  rw [e]
theorem gLA_s {σ : St} {i : Nat} {f : Nat → Int64} : gL (sLA σ i f) i = f := if_pos rfl
theorem gLA_n {σ : St} {i j : Nat} {f : Nat → Int64} (h : j ≠ i) : gL (sLA σ i f) j = gL σ j := if_neg h
theorem sL_A {σ : St} {i j : Nat} {f : Nat → Int64} {v : Int64} : sL (sLA σ i f) i j v = sLA σ i (vp_updL f j v) := by
  show sLA (sLA σ i f) i (vp_updL (gL (sLA σ i f) i) j v) = _
  rw [sLA_sLA, gLA_s]
theorem in13 {k : Nat} (h : k < 13) : vp_in (nI k) 13 := pk_in k 13 h rfl (by omega)
def updN (f : Nat → Nat) (i v : Nat) : Nat → Nat := fun k => if k = i then v else f k
/-- w holds the numbers f in its 13 places -/
def hold (w : Nat → Int64) (f : Nat → Nat) : Prop := ∀ k, k < 13 → w k = lN (f k)
theorem hold_u {w : Nat → Int64} {f : Nat → Nat} (h : hold w f) {i v : Nat} : hold (vp_updL w i (lN v)) (updN f i v) := by
  intro k hk
  unfold updN
  by_cases e : k = i
  · subst e
    rw [pk_uLs, if_pos rfl]
  · rw [pk_uLn e, if_neg e]
    exact h k hk
/-- what place j gives on: c to the one before, g to the one behind, the rest to itself -/
def add3 (c g : Nat) (V : Nat → Nat) (j : Nat) (W : Nat → Nat) : Nat → Nat := updN (updN (updN W (j - 1) (W (j - 1) + c * V j)) (min 12 (j + 1)) (updN W (j - 1) (W (j - 1) + c * V j) (min 12 (j + 1)) + g * V j)) j (updN (updN W (j - 1) (W (j - 1) + c * V j)) (min 12 (j + 1)) (updN W (j - 1) (W (j - 1) + c * V j) (min 12 (j + 1)) + g * V j) j + (10 - c - g) * V j)
/-- the places once 1 .. j have given on -/
def accN (c g : Nat) (V : Nat → Nat) : Nat → Nat → Nat
  | 0 => fun k => if k = 0 then 10 * V 0 else 0
  | j + 1 => add3 c g V (j + 1) (accN c g V j)
/-- behind so many calls -/
def dpN (n c g : Nat) : Nat → Nat → Nat
  | 0 => fun k => if k = n then 1 else 0
  | i + 1 => accN c g (dpN n c g i) 12
theorem sm_upd {f : Nat → Nat} {i x : Nat} : ∀ N, sm (updN f i (f i + x)) N = sm f N + (if i < N then x else 0) := by
  intro N
  induction N with
  | zero => rfl
  | succ N ih =>
    show sm (updN f i (f i + x)) N + updN f i (f i + x) N = sm f N + f N + _
    rw [ih]
    unfold updN
    by_cases e : N = i
    · subst e
      rw [if_pos rfl, if_neg (Nat.lt_irrefl _), if_pos (by omega)]
      omega
    · rw [if_neg e]
      by_cases c : i < N
      · rw [if_pos c, if_pos (by omega)]
        omega
      · rw [if_neg c, if_neg (by omega)]
        omega
theorem sm_add3 {c g : Nat} {V W : Nat → Nat} {j : Nat} (hc : c + g ≤ 10) (h1 : 1 ≤ j) (h2 : j ≤ 12) : sm (add3 c g V j W) 13 = sm W 13 + 10 * V j := by
  unfold add3
  rw [sm_upd, sm_upd, sm_upd, if_pos (by omega), if_pos (by omega), if_pos (by omega)]
  have : c * V j + g * V j + (10 - c - g) * V j = 10 * V j := by
    rw [← Nat.add_mul, ← Nat.add_mul]
    congr 1
    omega
  omega
theorem sm_acc {c g : Nat} {V : Nat → Nat} (hc : c + g ≤ 10) : ∀ j, j ≤ 12 → sm (accN c g V j) 13 = 10 * sm V (j + 1) := by
  intro j
  induction j with
  | zero =>
    intro _
    show 0 + (10 * V 0) + 0 + 0 + 0 + 0 + 0 + 0 + 0 + 0 + 0 + 0 + 0 + 0 = 10 * (0 + V 0)
    omega
  | succ j ih =>
    intro hj
    show sm (add3 c g V (j + 1) (accN c g V j)) 13 = 10 * (sm V (j + 1) + V (j + 1))
    rw [sm_add3 hc (by omega) hj, ih (by omega)]
    omega
theorem sm_dp {n c g : Nat} (hc : c + g ≤ 10) (hn : n ≤ 12) : ∀ i, sm (dpN n c g i) 13 = 10 ^ i := by
  intro i
  induction i with
  | zero =>
    show sm (fun k => if k = n then 1 else 0) 13 = 1
    have e : (fun k => if k = n then 1 else 0) = updN (fun _ => 0) n ((fun _ => 0) n + 1) := by
      funext k
      rfl
    rw [e, sm_upd, if_pos (by omega)]
    rfl
  | succ i ih =>
    show sm (accN c g (dpN n c g i) 12) 13 = _
    rw [sm_acc hc 12 (by omega), ih, Nat.pow_succ, Nat.mul_comm]
theorem sm_ge {f : Nat → Nat} : ∀ N, 0 < N → f 0 ≤ sm f N := by
  intro N
  induction N with
  | zero => exact fun h => absurd h (Nat.lt_irrefl _)
  | succ N ih =>
    intro _
    by_cases c : 0 < N
    · exact Nat.le_trans (ih c) (Nat.le_add_right _ _)
    · have : N = 0 := by omega
      subst this
      show f 0 ≤ 0 + f 0
      omega
theorem dp_le {n c g : Nat} (hc : c + g ≤ 10) (hn : n ≤ 12) (i : Nat) : dpN n c g i 0 ≤ 10 ^ i := by
  rw [← sm_dp hc hn i]
  exact sm_ge 13 (by omega)
theorem hold_3 {c g j : Nat} {v w : Nat → Int64} {V W : Nat → Nat} (hv : hold v V) (hw : hold w W) (h1 : 1 ≤ j) (h2 : j ≤ 12) : hold (vp_updL (vp_updL (vp_updL w (j - 1) (w (j - 1) + lN c * v j)) (min 12 (j + 1)) (vp_updL w (j - 1) (w (j - 1) + lN c * v j) (min 12 (j + 1)) + lN g * v j)) j (vp_updL (vp_updL w (j - 1) (w (j - 1) + lN c * v j)) (min 12 (j + 1)) (vp_updL w (j - 1) (w (j - 1) + lN c * v j) (min 12 (j + 1)) + lN g * v j) j + lN (10 - c - g) * v j)) (add3 c g V j W) := by
  unfold add3
  rw [hv j (by omega), hw (j - 1) (by omega), lN_mul, lN_add]
  have q1 := hold_u hw (i := j - 1) (v := W (j - 1) + c * V j)
  generalize vp_updL w (j - 1) (lN (W (j - 1) + c * V j)) = w1 at q1 ⊢
  generalize updN W (j - 1) (W (j - 1) + c * V j) = W1 at q1 ⊢
  rw [q1 _ (by omega), lN_mul, lN_add]
  have q2 := hold_u q1 (i := min 12 (j + 1)) (v := W1 (min 12 (j + 1)) + g * V j)
  generalize vp_updL w1 (min 12 (j + 1)) (lN (W1 (min 12 (j + 1)) + g * V j)) = w2 at q2 ⊢
  generalize updN W1 (min 12 (j + 1)) (W1 (min 12 (j + 1)) + g * V j) = W2 at q2 ⊢
  rw [q2 _ (by omega), lN_mul, lN_add]
  exact hold_u q2
/-- the class's long rows apart -/
def Lq (σ τ : St) : Prop := gI τ = gI σ ∧ gR τ = gR σ ∧ (gS τ 1 = gS σ 1 ∧ gS τ 2 = gS σ 2) ∧ ((gS τ 0 0 = 0 ∧ gS τ 0 1 = 1) ∨ (gS τ 0 0 = 1 ∧ gS τ 0 1 = 0))
theorem Lq_A {σ τ : St} {i : Nat} {f : Nat → Int64} (h : Lq σ τ) : Lq σ (sLA τ i f) := h
theorem fillL_s {τ : St} {r : Nat} : ∃ z, fJ7_fill_d0a16 τ r 0 = some (sLA τ r z) ∧ hold z (fun _ => 0) := by
  have q : (fun q => ∃ z, q = some (sLA τ r z) ∧ hold z (fun _ => 0)) (fJ7_fill_d0a16_L6 r 0 (nI 13) (fun s => some s) FU (nI 0) (sLA τ r (gL τ r))) := by
    refine loop_h (S := Nat → Int64) (fun n i g => fJ7_fill_d0a16_L6 r 0 (nI 13) (fun s => some s) n (nI i) (sLA τ r g)) 13 (fun i g => ∀ k, k < i → g k = lN 0) (fun q => ∃ z, q = some (sLA τ r z) ∧ hold z (fun _ => 0)) (fun n i g hi h => ?_) 13 0 (gL τ r) FU (by omega) (FU_gt (by omega)) (fun k hk => absurd hk (Nat.not_lt_zero k))
    show (∃ g', fJ7_fill_d0a16_L6B r 0 (nI 13) (fun s => some s) (fJ7_fill_d0a16_L6 r 0 (nI 13) (fun s => some s) n) (nI i) (sLA τ r g) = _ ∧ _) ∨ (_ ∧ ∃ g', fJ7_fill_d0a16_L6B r 0 (nI 13) (fun s => some s) (fJ7_fill_d0a16_L6 r 0 (nI 13) (fun s => some s) n) (nI i) (sLA τ r g) = _ ∧ _)
    unfold fJ7_fill_d0a16_L6B
    by_cases e : i = 13
    · subst e
      rw [if_pos (by decide)]
      exact Or.inl ⟨g, rfl, h⟩
    · refine Or.inr ⟨by omega, vp_updL g i 0, ?_, fun k hk => ?_⟩
      · rw [if_neg (nI_ge (b := 13) (by omega) (by omega)), ck_t (in13 (by omega)), nI_clamp (by omega), nmv_s, nmv_s, nI_1, sL_A]
      · by_cases e2 : k = i
        · subst e2
          exact pk_uLs
        · exact (pk_uLn e2).trans (h k (by omega))
  rw [sLA_self] at q
  exact q
theorem callOnce_c {σ τ : St} (hq : Lq σ τ) {V : Nat → Nat} (hV : hold (gL τ (gS τ 0 0)) V) {c g : Nat} (hc : c + g ≤ 10) : ∃ τ', fX11_callOnce τ (nI c) (nI g) = some τ' ∧ Lq σ τ' ∧ hold (gL τ' (gS τ' 0 0)) (accN c g V 12) := by
  obtain ⟨z, z1, z2⟩ := fillL_s (τ := τ) (r := gS τ 0 1)
  have k0 : vp_in 0 13 := in13 (k := 0) (by omega)
  have A2 : gS τ 0 0 < 2 := by have := hq.2.2.2; omega
  have B2 : gS τ 0 1 < 2 := by have := hq.2.2.2; omega
  have AB : gS τ 0 0 ≠ gS τ 0 1 := by have := hq.2.2.2; omega
  have gS_A : ∀ (i : Nat) (f : Nat → Int64), gS (sLA τ i f) = gS τ := fun i f => rfl
  unfold fX11_callOnce
  rw [ck_t B2, z1, bd_s, gS_A, ck_t B2, ck_t A2, ck_t k0, ck_t k0, show (0 : Int32).toNatClampNeg = 0 from rfl, gLA_n AB, hV 0 (by omega), sL_A, nmv_s]
  have e10 : (10 : Int64) * lN (V 0) = lN (10 * V 0) := lN_mul 10 _
  rw [e10]
  have w0 : hold (vp_updL z 0 (lN (10 * V 0))) (accN c g V 0) := by
    have := hold_u z2 (i := 0) (v := 10 * V 0)
    exact this
  refine loop_h (S := Nat → Int64) (fun n i w => fX11_callOnce_L26 (nI c) (nI g) (fun σ31 => ck (gS σ31 0 0 < 2) <| ck (gS σ31 0 1 < 2) <| nmv (sS σ31 0 0 (gS σ31 0 1)) fun σ34 => nmv (sS σ34 0 1 (gS σ31 0 0)) fun σ35 => some σ35) n (nI (i + 1)) (sLA τ (gS τ 0 1) w)) 12 (fun i w => hold w (accN c g V i)) (fun q => ∃ τ', q = some τ' ∧ Lq σ τ' ∧ hold (gL τ' (gS τ' 0 0)) (accN c g V 12)) (fun n i w hi h => ?_) 12 0 (vp_updL z 0 (lN (10 * V 0))) FU (by omega) (FU_gt (by omega)) w0
  show (∃ τ', fX11_callOnce_L26B (nI c) (nI g) _ (fX11_callOnce_L26 (nI c) (nI g) _ n) (nI (i + 1)) (sLA τ (gS τ 0 1) w) = _ ∧ _) ∨ (_ ∧ ∃ g', fX11_callOnce_L26B (nI c) (nI g) _ (fX11_callOnce_L26 (nI c) (nI g) _ n) (nI (i + 1)) (sLA τ (gS τ 0 1) w) = _ ∧ _)
  unfold fX11_callOnce_L26B
  by_cases e : i = 12
  · subst e
    rw [if_pos (by decide)]
    dsimp only
    rw [gS_A, ck_t A2, ck_t B2, nmv_s, nmv_s]
    refine Or.inl ⟨_, rfl, ⟨hq.1, hq.2.1, hq.2.2.1, ?_⟩, ?_⟩
    · show (gS τ 0 1 = 0 ∧ gS τ 0 0 = 1) ∨ (gS τ 0 1 = 1 ∧ gS τ 0 0 = 0)
      have := hq.2.2.2
      omega
    · show hold (gL (sLA τ (gS τ 0 1) w) (gS τ 0 1)) _
      rw [gLA_s]
      exact h
  · refine Or.inr ⟨by omega, ?_⟩
    have j13 : vp_in (nI (i + 1)) 13 := in13 (by omega)
    have p13 : vp_in (nI (i + 1) - 1) 13 := by rw [nI_pred]; exact in13 (by omega)
    have ev : (if 12 < nI (i + 1 + 1) then (12 : Int32) else nI (i + 1 + 1)) = nI (min 12 (i + 1 + 1)) := by
      by_cases q : 12 < i + 1 + 1
      · rw [if_pos (show (12 : Int32) < nI (i + 1 + 1) from nI_lt (a := 12) q (by omega)), Nat.min_eq_left (by omega)]
        rfl
      · rw [if_neg (show ¬ (12 : Int32) < nI (i + 1 + 1) from nI_nlt (a := 12) (by omega) (by omega)), Nat.min_eq_right (by omega)]
    have m13 : vp_in (nI (min 12 (i + 1 + 1))) 13 := in13 (by omega)
    have e1 : (nI c).toInt64 = lN c := nI_l (by omega)
    have e2 : (nI g).toInt64 = lN g := nI_l (by omega)
    have e3 : (10 - nI c - nI g).toInt64 = lN (10 - c - g) := by
      rw [show (10 : Int32) - nI c = nI (10 - c) from pk_sub (a := 10) (by omega), pk_sub (by omega), nI_l (by omega)]
    have c1 : (nI (i + 1) - 1).toNatClampNeg = i + 1 - 1 := by rw [nI_pred, nI_clamp (by omega)]; omega
    have c2 : (nI (i + 1)).toNatClampNeg = i + 1 := nI_clamp (by omega)
    have c3 : (nI (min 12 (i + 1 + 1))).toNatClampNeg = min 12 (i + 1 + 1) := nI_clamp (by omega)
    rw [if_neg (show ¬ (12 : Int32) < nI (i + 1) from nI_nlt (a := 12) (by omega) (by omega))]
    simp only [gS_A, ck_t B2, ck_t A2, ck_t p13, ck_t j13, gLA_s, gLA_n AB, sL_A, nmv_s, ev, ck_t m13, e1, e2, e3, c1, c2, c3, nI_1]
    exact ⟨_, rfl, hold_3 hV h (by omega) (by omega)⟩
