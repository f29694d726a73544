theorem good_lt {σ : St} {d n m : Nat} (hT : TxtOk σ d n) (hG : GoodT (txt σ d n) n m) {i : Nat} (hi : i < m) : aN (txt σ d n) i < n := by
  by_cases c : 0 < i
  · exact hG.2.2.1 i c hi
  · have : i = 0 := by omega
    subst this
    have ok := (hG.2.1 0 hG.1).1
    refine in_row (σ := σ) (d := d) (n := n) (fun q => ok ?_)
    rw [q]
    rfl
theorem good_50 {σ : St} {d n m : Nat} (hT : TxtOk σ d n) (hG : GoodT (txt σ d n) n m) : m ≤ 50 := by
  have n100 := hT.2.1
  by_cases c : m ≤ 50
  · exact c
  · have := good_lt hT hG (show 50 < m by omega)
    have := aN_ge (txt σ d n) 50
    omega
theorem exH_ok {h : Hg} (hO : OkH h) {X : Nat → Nat} {n m : Nat} (hG : GoodT X n m) : ∀ i, i ≤ m → (∀ j, j < i → canD (exH h X j) X (aN X j)) → OkH (exH h X i) := by
  intro i
  induction i with
  | zero => exact fun _ _ => hO
  | succ i ih =>
    intro hi hc
    exact aftD_ok (ih (by omega) (fun j hj => hc j (by omega))) (hG.2.1 i (by omega)) (hc i (by omega))
theorem execL_c {σ τ0 : St} {d n m : Nat} (hT : TxtOk σ d n) (hS0 : Sp4 σ τ0) {h : Hg} (hO : OkH h) (hC0 : RelC τ0 2 h) (hG : GoodT (txt σ d n) n m) (K : Int32 → St → Option (Int32 × St)) : (∃ τ, (∀ i, i < m → canD (exH h (txt σ d n) i) (txt σ d n) (aN (txt σ d n) i)) ∧ fX11_hedge_L64 σ (nI d) K FU 0 0 τ0 = K (nI m) τ ∧ Sp4 σ τ ∧ RelC τ 2 (exH h (txt σ d n) m)) ∨ ∃ i τ, i < m ∧ (∀ j, j < i → canD (exH h (txt σ d n) j) (txt σ d n) (aN (txt σ d n) j)) ∧ ¬ canD (exH h (txt σ d n) i) (txt σ d n) (aN (txt σ d n) i) ∧ fX11_hedge_L64 σ (nI d) K FU 0 0 τ0 = some (-2000 - nI (aN (txt σ d n) i), τ) ∧ Sp4 σ τ := by
  have m50 := good_50 hT hG
  have n100 := hT.2.1
  have d8 := hT.1
  refine loop_h (S := St) (fun f i s => fX11_hedge_L64 σ (nI d) K f (nI i) (nI (aN (txt σ d n) i)) s) m (fun i s => Sp4 σ s ∧ RelC s 2 (exH h (txt σ d n) i) ∧ ∀ j, j < i → canD (exH h (txt σ d n) j) (txt σ d n) (aN (txt σ d n) j)) (fun q => (∃ τ, (∀ i, i < m → canD (exH h (txt σ d n) i) (txt σ d n) (aN (txt σ d n) i)) ∧ q = K (nI m) τ ∧ Sp4 σ τ ∧ RelC τ 2 (exH h (txt σ d n) m)) ∨ ∃ i τ, i < m ∧ (∀ j, j < i → canD (exH h (txt σ d n) j) (txt σ d n) (aN (txt σ d n) j)) ∧ ¬ canD (exH h (txt σ d n) i) (txt σ d n) (aN (txt σ d n) i) ∧ q = some (-2000 - nI (aN (txt σ d n) i), τ) ∧ Sp4 σ τ) (fun f i s hi hI => ?_) m 0 τ0 FU (by omega) (FU_gt (by omega)) ⟨hS0, hC0, fun j hj => absurd hj (Nat.not_lt_zero j)⟩
  obtain ⟨i1, i2, i3⟩ := hI
  have e8 : gI s 8 d = gI σ 8 d := i1.1 8 d (by omega) (by omega) (by omega)
  have e9 : gI s 9 d = gI σ 9 d := i1.1 9 d (by omega) (by omega) (by omega)
  show ((∃ τ, _ ∧ fX11_hedge_L64B σ (nI d) K (fX11_hedge_L64 σ (nI d) K f) (nI i) (nI (aN (txt σ d n) i)) s = _ ∧ _) ∨ ∃ i' τ, _ ∧ _ ∧ _ ∧ fX11_hedge_L64B σ (nI d) K (fX11_hedge_L64 σ (nI d) K f) (nI i) (nI (aN (txt σ d n) i)) s = _ ∧ _) ∨ (i < m ∧ ∃ s', fX11_hedge_L64B σ (nI d) K (fX11_hedge_L64 σ (nI d) K f) (nI i) (nI (aN (txt σ d n) i)) s = _ ∧ _)
  unfold fX11_hedge_L64B
  rw [nI_clamp (by omega), e8, hT.2.2.1]
  by_cases e : i = m
  · subst e
    have ge := hG.2.2.2
    have up : aN (txt σ d n) i < 2000 := by
      obtain ⟨j, rfl⟩ : ∃ j, i = j + 1 := ⟨i - 1, by have := hG.1; omega⟩
      have := good_lt hT hG (show j < j + 1 by omega)
      have := kd_le (txt σ d n (aN (txt σ d n) j))
      show aN (txt σ d n) j + kd (txt σ d n (aN (txt σ d n) j)) + 2 < 2000
      omega
    rw [if_pos (nI_le ge (by omega))]
    exact Or.inl (Or.inl ⟨s, i3, rfl, i1, i2⟩)
  · have him : i < m := by omega
    have lt := good_lt hT hG him
    have ok := hG.2.1 i him
    have hOi := exH_ok hO hG i (by omega) i3
    rw [if_neg (nI_ge lt (by omega)), ck_t i1.2.2.1]
    rcases done_c hT i1 i2 hOi (by omega) ok with ⟨c, τ', t1, t2, t3⟩ | ⟨c, τ', t1, t2⟩
    · have e8' : gI τ' 8 d = gI σ 8 d := t2.1 8 d (by omega) (by omega) (by omega)
      have e9' : gI τ' 9 d = gI σ 9 d := t2.1 9 d (by omega) (by omega) (by omega)
      rw [t1, bd_s]
      dsimp only
      rw [if_neg (by decide), nI_1, nmv_s, lenAt_c hT e8' e9' (by omega) ok.1, bd_s, nI_add, nmv_s, ← Nat.add_assoc]
      refine Or.inr ⟨him, τ', rfl, t2, t3, fun j hj => ?_⟩
      by_cases q : j = i
      · subst q; exact c
      · exact i3 j (by omega)
    · rw [t1, bd_s]
      dsimp only
      rw [if_pos rfl]
      exact Or.inl (Or.inr ⟨i, τ', him, i3, c, rfl, t2⟩)
theorem neg_fin : ∀ p, p < 900 → ¬ ((-1000 : Int32) - nI p = 0) ∧ ¬ ((-2000 : Int32) - nI p = 0) := by decide +kernel
theorem passL_m {σ τ : St} {d n : Nat} (hT : TxtOk σ d n) (e20 : gI τ 12 20 = gI σ 12 20) {g f : Nat → Int32} (hf : Fld σ d n f) (K : Int32 → Int32 → St → Option (Int32 × St)) : (∃ m g', GoodT (txt σ d n) n m ∧ fX12_hedge_L41 K FU 0 0 (Zt τ g (upd f 5 (nI 0))) = K (nI m) 0 (Zt τ g' (upd f 5 (nI (aN (txt σ d n) m))))) ∨ ∃ m p g', BadT (txt σ d n) n m p ∧ p < 900 ∧ fX12_hedge_L41 K FU 0 0 (Zt τ g (upd f 5 (nI 0))) = K (nI (m + 1)) (-1000 - nI p) (Zt τ g' (upd f 5 (nI p))) := by
  have n100 := hT.2.1
  refine loop_h (S := Nat → Int32) (fun q i s => fX12_hedge_L41 K q (nI i) 0 (Zt τ s (upd f 5 (nI (aN (txt σ d n) i))))) 50 (fun i _ => (∀ j, j < i → SOK (txt σ d n) (aN (txt σ d n) j)) ∧ (∀ j, 0 < j → j ≤ i → aN (txt σ d n) j < n)) (fun q => (∃ m g', GoodT (txt σ d n) n m ∧ q = K (nI m) 0 (Zt τ g' (upd f 5 (nI (aN (txt σ d n) m))))) ∨ ∃ m p g', BadT (txt σ d n) n m p ∧ p < 900 ∧ q = K (nI (m + 1)) (-1000 - nI p) (Zt τ g' (upd f 5 (nI p)))) (fun q i s hi hI => ?_) 50 0 g FU (by omega) (FU_gt (by omega)) ⟨fun j hj => absurd hj (Nat.not_lt_zero j), fun j h1 h2 => by omega⟩
  obtain ⟨i1, i2⟩ := hI
  have ge := aN_ge (txt σ d n) i
  have lt : aN (txt σ d n) i ≤ 100 := by
    by_cases c : 0 < i
    · have := i2 i c (Nat.le_refl _)
      omega
    · have : i = 0 := by omega
      subst this
      exact Nat.zero_le _
  have i50 : i < 50 := by
    by_cases c : 0 < i
    · have := i2 i c (Nat.le_refl _)
      omega
    · omega
  show ((∃ m g', _ ∧ fX12_hedge_L41B K (fX12_hedge_L41 K q) (nI i) 0 (Zt τ s (upd f 5 (nI (aN (txt σ d n) i)))) = _) ∨ ∃ m p g', _ ∧ _ ∧ fX12_hedge_L41B K (fX12_hedge_L41 K q) (nI i) 0 (Zt τ s (upd f 5 (nI (aN (txt σ d n) i)))) = _) ∨ (i < 50 ∧ ∃ s', fX12_hedge_L41B K (fX12_hedge_L41 K q) (nI i) 0 (Zt τ s (upd f 5 (nI (aN (txt σ d n) i)))) = _ ∧ _)
  unfold fX12_hedge_L41B fX12_hedge_J58
  rcases read_m hT e20 hf (g := s) (a := aN (txt σ d n) i) (by omega) with ⟨ok, g', r1, r2⟩ | ⟨p, g', b1, b2, r1⟩
  · have eS : aN (txt σ d n) (i + 1) = aN (txt σ d n) i + kd (txt σ d n (aN (txt σ d n) i)) + 2 := rfl
    have kl := kd_le (txt σ d n (aN (txt σ d n) i))
    have good : ∀ j, j < i + 1 → SOK (txt σ d n) (aN (txt σ d n) j) := fun j hj => by
      by_cases c : j = i
      · subst c; exact ok
      · exact i1 j (by omega)
    rw [r1, bd_s]
    dsimp only
    rw [if_neg (by decide), nI_1, nmv_s, if_pos rfl, Zt_f, pk_us, pk_un (show (7 : Nat) ≠ 5 by omega), hf.2, ← eS]
    by_cases c : aN (txt σ d n) (i + 1) < n
    · rw [if_pos (nI_lt c (by omega))]
      refine Or.inr ⟨i50, g', rfl, good, fun j h1 h2 => ?_⟩
      by_cases c3 : j = i + 1
      · subst c3; exact c
      · exact i2 j h1 (by omega)
    · rw [if_neg (nI_nlt (by omega) (by omega))]
      exact Or.inl (Or.inl ⟨i + 1, g', ⟨by omega, good, fun j h1 h2 => i2 j h1 (by omega), by omega⟩, rfl⟩)
  · rw [r1, bd_s]
    dsimp only
    rw [if_pos rfl, Zt_f, pk_us, nmv_s, nI_1, nmv_s, if_neg (neg_fin p b2).1]
    exact Or.inl (Or.inr ⟨i, p, g', ⟨i1, fun c => i2 i c (Nat.le_refl _), b1⟩, b2, rfl⟩)
/-- but for the model's rows 0, 2, 8 and its fields 5, 6, 7 -/
def MH (τ υ : St) : Prop := (∀ c i, ¬ (c = 12 ∧ (i = 0 ∨ i = 2 ∨ i = 8)) → ¬ (c = 11 ∧ i = 0) → gI υ c i = gI τ c i) ∧ (∀ j, j ≠ 5 → j ≠ 6 → j ≠ 7 → gI υ 11 0 j = gI τ 11 0 j) ∧ gR υ = gR τ ∧ gS υ = gS τ
theorem MH_Zt {τ υ : St} (h : MH τ υ) {g f : Nat → Int32} (hf : ∀ j, j ≠ 5 → j ≠ 6 → j ≠ 7 → f j = gI τ 11 0 j) : MH τ (Zt υ g f) := ⟨fun c i q q2 => by rw [Zt_n (by omega) q2]; exact h.1 c i q q2, fun j j5 j6 j7 => by rw [Zt_f]; exact hf j j5 j6 j7, h.2.2.1, h.2.2.2⟩
theorem MH_row {τ υ : St} (h : MH τ υ) {r : Nat} {f : Nat → Int32} (hr : r = 0 ∨ r = 2) : MH τ (sA υ 12 r f) := ⟨fun c i q q2 => by rw [gsA_n (by omega)]; exact h.1 c i q q2, fun j j5 j6 j7 => by rw [gsA_n (by omega)]; exact h.2.1 j j5 j6 j7, h.2.2.1, h.2.2.2⟩
theorem MH_M0 {τ υ υ' : St} (h : MH τ υ) (h0 : M0 υ υ') : MH τ υ' := ⟨fun c i q q2 => (h0.1 c i (by omega)).trans (h.1 c i q q2), fun j j5 j6 j7 => (congrFun (h0.1 11 0 (by omega)) j).trans (h.2.1 j j5 j6 j7), h0.2.1.trans h.2.2.1, h0.2.2.trans h.2.2.2⟩
theorem MH_inv {τ υ : St} {h : Hg} (hs : MH τ υ) (hI : Inv τ) (hO : OkH h) (hC : RelC τ 0 h) (hM : RelM υ 0 h) : Inv υ := by
  obtain ⟨-, ⟨h1, O1, C1, M1⟩, I3, I4, I5, I6, I7, I8⟩ := hI
  obtain ⟨f1, m2, m3, m4⟩ := hs
  have s2 : gS υ 2 0 = gS τ 2 0 := by rw [m4]
  have s1 : gS υ 1 = gS τ 1 := by rw [m4]
  refine ⟨⟨h, hO, relC_fr hC (fun c hc => f1 c 0 (by omega) (by omega)) (by rw [m3]) s2 s1 (f1 13 0 (by omega) (by omega)) (f1 14 0 (by omega) (by omega)), hM⟩, ⟨h1, O1, relC_fr C1 (fun c hc => f1 c 1 (by omega) (by omega)) (by rw [m3]) s2 s1 (f1 13 0 (by omega) (by omega)) (f1 14 0 (by omega) (by omega)), relM_row M1 O1 (fun j _ => by rw [f1 12 1 (by omega) (by omega)])⟩, ?_, ?_, ?_, ?_, ?_, fun d hd => ?_⟩
  · rw [f1 10 0 (by omega) (by omega), m2 3 (by omega) (by omega) (by omega)]
    exact ⟨I3.1, byOk_fr I3.2 (fun r hr => f1 12 r (by omega) (by omega))⟩
  · rw [m2 4 (by omega) (by omega) (by omega)]
    exact I4
  · rw [m4]; exact I5
  · intro c i k j q
    rw [s2]
    rw [m3] at q
    exact I6 c i k j q
  · rw [s2, s1]
    exact I7
  · exact shf_fr (I8 d hd) (f1 8 d (by omega) (by omega)) (f1 9 d (by omega) (by omega)) (fun r hr => f1 12 r (by omega) (by omega)) (by rw [m3]) s2 s1 (f1 13 0 (by omega) (by omega)) (f1 14 0 (by omega) (by omega))
theorem execL_m {σ τ υ0 : St} {d n m : Nat} (hT : TxtOk σ d n) (e20 : gI τ 12 20 = gI σ 12 20) (hS0 : MH τ υ0) {h : Hg} (hO : OkH h) (hM0 : RelM υ0 0 h) (hM2 : RelM υ0 2 h) (hF : Fld σ d n (gI υ0 11 0)) (ha0 : gI υ0 11 0 5 = nI 0) (hG : GoodT (txt σ d n) n m) (K : Int32 → St → Option (Int32 × St)) : (∃ υ, (∀ i, i < m → canD (exH h (txt σ d n) i) (txt σ d n) (aN (txt σ d n) i)) ∧ fX12_hedge_L93 K FU 0 υ0 = K 0 υ ∧ MH τ υ ∧ RelM υ 0 (exH h (txt σ d n) m)) ∨ ∃ i υ, i < m ∧ (∀ j, j < i → canD (exH h (txt σ d n) j) (txt σ d n) (aN (txt σ d n) j)) ∧ ¬ canD (exH h (txt σ d n) i) (txt σ d n) (aN (txt σ d n) i) ∧ fX12_hedge_L93 K FU 0 υ0 = K (-2000 - nI (aN (txt σ d n) i)) υ ∧ MH τ υ ∧ RelM υ 0 h := by
  have m50 := good_50 hT hG
  have n100 := hT.2.1
  have d8 := hT.1
  have q := loop_h (S := Int32 × St) (fun f i s => fX12_hedge_L93 K f s.1 s.2) (m + 1) (fun i s => (s.1 = 0 ∧ i ≤ m ∧ MH τ s.2 ∧ RelM s.2 0 (exH h (txt σ d n) i) ∧ RelM s.2 2 h ∧ Fld σ d n (gI s.2 11 0) ∧ gI s.2 11 0 5 = nI (aN (txt σ d n) i) ∧ ∀ j, j < i → canD (exH h (txt σ d n) j) (txt σ d n) (aN (txt σ d n) j)) ∨ (¬ s.1 = 0 ∧ ∃ i', i' < m ∧ (∀ j, j < i' → canD (exH h (txt σ d n) j) (txt σ d n) (aN (txt σ d n) j)) ∧ ¬ canD (exH h (txt σ d n) i') (txt σ d n) (aN (txt σ d n) i') ∧ s.1 = -2000 - nI (aN (txt σ d n) i') ∧ MH τ s.2 ∧ RelM s.2 0 h)) (fun q => (∃ υ, (∀ i, i < m → canD (exH h (txt σ d n) i) (txt σ d n) (aN (txt σ d n) i)) ∧ q = K 0 υ ∧ MH τ υ ∧ RelM υ 0 (exH h (txt σ d n) m)) ∨ ∃ i υ, i < m ∧ (∀ j, j < i → canD (exH h (txt σ d n) j) (txt σ d n) (aN (txt σ d n) j)) ∧ ¬ canD (exH h (txt σ d n) i) (txt σ d n) (aN (txt σ d n) i) ∧ q = K (-2000 - nI (aN (txt σ d n) i)) υ ∧ MH τ υ ∧ RelM υ 0 h) (fun f i s hi hI => by
    obtain ⟨x, υ⟩ := s
    show ((∃ υ', _ ∧ fX12_hedge_L93B K (fX12_hedge_L93 K f) x υ = _ ∧ _) ∨ ∃ i' υ', _ ∧ _ ∧ _ ∧ fX12_hedge_L93B K (fX12_hedge_L93 K f) x υ = _ ∧ _) ∨ (i < m + 1 ∧ ∃ s', fX12_hedge_L93B K (fX12_hedge_L93 K f) x υ = _ ∧ _)
    unfold fX12_hedge_L93B
    dsimp only at hI
    rcases hI with ⟨x0, im, i1, i2, i3, i4, i5, i6⟩ | ⟨x0, i', j1, j2, j3, j4, j5, j6⟩
    rotate_left
    · rw [if_neg x0, j4]
      exact Or.inl (Or.inr ⟨i', υ, j1, j2, j3, rfl, j5, j6⟩)
    rw [if_pos x0, i4.2, i5, nmv_s]
    by_cases e : i = m
    · subst e
      have ge := hG.2.2.2
      have up : aN (txt σ d n) i < 2000 := by
        obtain ⟨j, rfl⟩ : ∃ j, i = j + 1 := ⟨i - 1, by have := hG.1; omega⟩
        have := good_lt hT hG (show j < j + 1 by omega)
        have := kd_le (txt σ d n (aN (txt σ d n) j))
        show aN (txt σ d n) j + kd (txt σ d n (aN (txt σ d n) j)) + 2 < 2000
        omega
      rw [if_pos (nI_le ge (by omega)), x0]
      exact Or.inl (Or.inl ⟨υ, i6, rfl, i1, i2⟩)
    · have him : i < m := by omega
      have lt := good_lt hT hG him
      have ok := hG.2.1 i him
      have hOi := exH_ok hO hG i (by omega) i6
      have e20' : gI υ 12 20 = gI σ 12 20 := (i1.1 12 20 (by omega) (by omega)).trans e20
      have hh : fX12_here υ = some (uns (txt σ d n (aN (txt σ d n) i))) := here_m hT e20' i4.1 i4.2 i5 (by omega)
      have ez : Zt υ (gI υ 12 8) (upd (gI υ 11 0) 5 (nI (aN (txt σ d n) i))) = υ := by
        have : upd (gI υ 11 0) 5 (nI (aN (txt σ d n) i)) = gI υ 11 0 := by
          funext j
          unfold upd
          by_cases c : j = 5
          · rw [if_pos c, c, i5]
          · rw [if_neg c]
        rw [this]
        exact Zt_self
      rw [if_neg (nI_ge lt (by omega)), hh, bd_s]
      rcases read_m hT e20' i4 (g := gI υ 12 8) (a := aN (txt σ d n) i) (by omega) with ⟨-, g', r1, r2⟩ | ⟨p, g', b1, -, -⟩
      rotate_left
      · exact absurd b1 (fun z => SOK_no ok z)
      rw [ez] at r1
      rw [r1, bd_s]
      dsimp only
      have hs1 : MH τ (Zt υ g' (upd (gI υ 11 0) 5 (nI (aN (txt σ d n) i + kd (txt σ d n (aN (txt σ d n) i)) + 2)))) := MH_Zt i1 (fun j j5 j6 j7 => by rw [pk_un j5]; exact i1.2.1 j j5 j6 j7)
      have hm1 : RelM (Zt υ g' (upd (gI υ 11 0) 5 (nI (aN (txt σ d n) i + kd (txt σ d n (aN (txt σ d n) i)) + 2)))) 0 (exH h (txt σ d n) i) := relM_row i2 hOi (fun j _ => by rw [Zt_n (by omega) (by omega)])
      have hm2 : RelM (Zt υ g' (upd (gI υ 11 0) 5 (nI (aN (txt σ d n) i + kd (txt σ d n (aN (txt σ d n) i)) + 2)))) 2 h := relM_row i3 hO (fun j _ => by rw [Zt_n (by omega) (by omega)])
      have f11 : gI (Zt υ g' (upd (gI υ 11 0) 5 (nI (aN (txt σ d n) i + kd (txt σ d n (aN (txt σ d n) i)) + 2)))) 11 0 = upd (gI υ 11 0) 5 (nI (aN (txt σ d n) i + kd (txt σ d n (aN (txt σ d n) i)) + 2)) := Zt_f
      have f8 : gI (Zt υ g' (upd (gI υ 11 0) 5 (nI (aN (txt σ d n) i + kd (txt σ d n (aN (txt σ d n) i)) + 2)))) 12 8 = g' := Zt_g
      rw [← f8] at r2
      generalize Zt υ g' (upd (gI υ 11 0) 5 (nI (aN (txt σ d n) i + kd (txt σ d n (aN (txt σ d n) i)) + 2))) = υ1 at hs1 hm1 hm2 f11 r2 ⊢
      rcases done_m hm1 hOi (txt_lt hT _) ok r2 with ⟨c, υ2, d1, d2, d3⟩ | ⟨c, d1⟩
      · rw [d1, bd_s]
        dsimp only
        rw [if_neg (by decide), x0]
        refine Or.inr ⟨by omega, (0, υ2), rfl, Or.inl ⟨rfl, by omega, MH_M0 hs1 d3, d2, relM_row hm2 hO (fun j _ => by rw [d3.1 12 2 (by omega)]), ?_, ?_, fun j hj => ?_⟩⟩
        · show Fld σ d n (gI υ2 11 0)
          rw [d3.1 11 0 (by omega), f11]
          exact ⟨by rw [pk_un (by omega)]; exact i4.1, by rw [pk_un (by omega)]; exact i4.2⟩
        · show gI υ2 11 0 5 = _
          rw [d3.1 11 0 (by omega), f11, pk_us]
          rfl
        · by_cases z : j = i
          · subst z; exact c
          · exact i6 j (by omega)
      · obtain ⟨f2, p1, p2⟩ := copies_s (σ := υ1) (a1 := 2) (a2 := 0) (by decide)
        rw [d1, bd_s]
        dsimp only
        rw [if_pos rfl, nmv_s, p1, bd_s]
        exact Or.inr ⟨by omega, (-2000 - nI (aN (txt σ d n) i), sA υ1 12 0 f2), rfl, Or.inr ⟨(neg_fin _ (by omega)).2, i, him, i6, c, rfl, MH_row hs1 (Or.inl rfl), relM_row hm2 hO (fun j hj => by rw [gsA_s, p2 j hj])⟩⟩) (m + 1) 0 (0, υ0) FU (by omega) (FU_gt (by omega)) (Or.inl ⟨rfl, Nat.zero_le _, hS0, hM0, hM2, hF, ha0, fun j hj => absurd hj (Nat.not_lt_zero j)⟩)
  exact q
