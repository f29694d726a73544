theorem cpy6 {f g : Nat → Int32} {k : Nat} (h : k < 6) : va_cpy f g (0 : Int32).toNatClampNeg (0 : Int32).toNatClampNeg (6 : Int32).toNatClampNeg k = f k := by
  show va_cpy f g 0 0 6 k = f k
  rw [pk_cpy_in (Nat.zero_le _) (by omega), Nat.zero_add, Nat.sub_zero]
theorem cpy4 {f g : Nat → Int32} {k : Nat} (h : k < 4) : va_cpy f g (0 : Int32).toNatClampNeg (0 : Int32).toNatClampNeg (4 : Int32).toNatClampNeg k = f k := by
  show va_cpy f g 0 0 4 k = f k
  rw [pk_cpy_in (Nat.zero_le _) (by omega), Nat.zero_add, Nat.sub_zero]
/-- the rows of hedge x after become -/
def bcm (σ : St) (x y : Nat) (g : Nat → Option Nat) : St := sRA (sI (sA (sA (sI (sA (sA (sA (sA (sI σ 0 x 0 (gI σ 0 y 0)) 1 x (va_cpy (gI σ 1 y) (gI σ 1 x) 0 0 6)) 2 x (va_cpy (gI σ 2 y) (gI σ 2 x) 0 0 6)) 3 x (va_cpy (gI σ 3 y) (gI σ 3 x) 0 0 6)) 4 x (va_cpy (gI σ 4 y) (gI σ 4 x) 0 0 6)) 0 x 5 (gI σ 0 y 5)) 5 x (va_cpy (gI σ 5 y) (gI σ 5 x) 0 0 4)) 6 x (va_cpy (gI σ 6 y) (gI σ 6 x) 0 0 4)) 0 x 8 (gI σ 0 y 8)) 0 x g
theorem bcm_n {σ : St} {x y : Nat} {g : Nat → Option Nat} {c i : Nat} (h : ¬ (c ≤ 6 ∧ i = x)) : gI (bcm σ x y g) c i = gI σ c i := by
  show gI (sI (sA (sA (sI (sA (sA (sA (sA (sI σ 0 x 0 (gI σ 0 y 0)) 1 x (va_cpy (gI σ 1 y) (gI σ 1 x) 0 0 6)) 2 x (va_cpy (gI σ 2 y) (gI σ 2 x) 0 0 6)) 3 x (va_cpy (gI σ 3 y) (gI σ 3 x) 0 0 6)) 4 x (va_cpy (gI σ 4 y) (gI σ 4 x) 0 0 6)) 0 x 5 (gI σ 0 y 5)) 5 x (va_cpy (gI σ 5 y) (gI σ 5 x) 0 0 4)) 6 x (va_cpy (gI σ 6 y) (gI σ 6 x) 0 0 4)) 0 x 8 (gI σ 0 y 8)) c i = _
  rw [gsI_n (by omega), gsA_n (by omega), gsA_n (by omega), gsI_n (by omega), gsA_n (by omega), gsA_n (by omega), gsA_n (by omega), gsA_n (by omega), gsI_n (by omega)]
theorem bcm_0 {σ : St} {x y : Nat} {g : Nat → Option Nat} : gI (bcm σ x y g) 0 x = upd (upd (upd (gI σ 0 x) 0 (gI σ 0 y 0)) 5 (gI σ 0 y 5)) 8 (gI σ 0 y 8) := by
  show gI (sI (sA (sA (sI (sA (sA (sA (sA (sI σ 0 x 0 (gI σ 0 y 0)) 1 x (va_cpy (gI σ 1 y) (gI σ 1 x) 0 0 6)) 2 x (va_cpy (gI σ 2 y) (gI σ 2 x) 0 0 6)) 3 x (va_cpy (gI σ 3 y) (gI σ 3 x) 0 0 6)) 4 x (va_cpy (gI σ 4 y) (gI σ 4 x) 0 0 6)) 0 x 5 (gI σ 0 y 5)) 5 x (va_cpy (gI σ 5 y) (gI σ 5 x) 0 0 4)) 6 x (va_cpy (gI σ 6 y) (gI σ 6 x) 0 0 4)) 0 x 8 (gI σ 0 y 8)) 0 x = _
  rw [gsI_s, gsA_n (by omega), gsA_n (by omega), gsI_s, gsA_n (by omega), gsA_n (by omega), gsA_n (by omega), gsA_n (by omega), gsI_s]
theorem bcm_r {σ : St} {x y : Nat} {g : Nat → Option Nat} : gI (bcm σ x y g) 1 x = va_cpy (gI σ 1 y) (gI σ 1 x) 0 0 6 ∧ gI (bcm σ x y g) 2 x = va_cpy (gI σ 2 y) (gI σ 2 x) 0 0 6 ∧ gI (bcm σ x y g) 3 x = va_cpy (gI σ 3 y) (gI σ 3 x) 0 0 6 ∧ gI (bcm σ x y g) 4 x = va_cpy (gI σ 4 y) (gI σ 4 x) 0 0 6 ∧ gI (bcm σ x y g) 5 x = va_cpy (gI σ 5 y) (gI σ 5 x) 0 0 4 ∧ gI (bcm σ x y g) 6 x = va_cpy (gI σ 6 y) (gI σ 6 x) 0 0 4 := by
  have e : ∀ c, gI (bcm σ x y g) c x = gI (sI (sA (sA (sI (sA (sA (sA (sA (sI σ 0 x 0 (gI σ 0 y 0)) 1 x (va_cpy (gI σ 1 y) (gI σ 1 x) 0 0 6)) 2 x (va_cpy (gI σ 2 y) (gI σ 2 x) 0 0 6)) 3 x (va_cpy (gI σ 3 y) (gI σ 3 x) 0 0 6)) 4 x (va_cpy (gI σ 4 y) (gI σ 4 x) 0 0 6)) 0 x 5 (gI σ 0 y 5)) 5 x (va_cpy (gI σ 5 y) (gI σ 5 x) 0 0 4)) 6 x (va_cpy (gI σ 6 y) (gI σ 6 x) 0 0 4)) 0 x 8 (gI σ 0 y 8)) c x := fun c => rfl
  refine ⟨?_, ?_, ?_, ?_, ?_, ?_⟩ <;> rw [e]
  · rw [gsI_n (by omega), gsA_n (by omega), gsA_n (by omega), gsI_n (by omega), gsA_n (by omega), gsA_n (by omega), gsA_n (by omega), gsA_s]
  · rw [gsI_n (by omega), gsA_n (by omega), gsA_n (by omega), gsI_n (by omega), gsA_n (by omega), gsA_n (by omega), gsA_s]
  · rw [gsI_n (by omega), gsA_n (by omega), gsA_n (by omega), gsI_n (by omega), gsA_n (by omega), gsA_s]
  · rw [gsI_n (by omega), gsA_n (by omega), gsA_n (by omega), gsI_n (by omega), gsA_s]
  · rw [gsI_n (by omega), gsA_n (by omega), gsA_s]
  · rw [gsI_n (by omega), gsA_s]
theorem become_f {σ : St} {x y : Nat} (hne : x ≠ y) (hR : RefsOk σ) (hK : ∀ j, j < gS σ 2 0 → okc (gS σ 1 j)) : ∃ g, fX3_become σ x y = some (bcm σ x y g) ∧ (∀ k, k < 6 → g k = gR σ 0 y k) ∧ ∀ k, g k = gR σ 0 y k ∨ g k = gR σ 0 x k := by
  obtain ⟨g, h1, h2⟩ := become_l (σ := sI (sA (sA (sI (sA (sA (sA (sA (sI σ 0 x 0 (gI σ 0 y 0)) 1 x (va_cpy (gI σ 1 y) (gI σ 1 x) 0 0 6)) 2 x (va_cpy (gI σ 2 y) (gI σ 2 x) 0 0 6)) 3 x (va_cpy (gI σ 3 y) (gI σ 3 x) 0 0 6)) 4 x (va_cpy (gI σ 4 y) (gI σ 4 x) 0 0 6)) 0 x 5 (gI σ 0 y 5)) 5 x (va_cpy (gI σ 5 y) (gI σ 5 x) 0 0 4)) 6 x (va_cpy (gI σ 6 y) (gI σ 6 x) 0 0 4)) 0 x 8 (gI σ 0 y 8)) hne hR hK
  refine ⟨g, ?_, h2⟩
  unfold fX3_become
  have k6 : ¬ (0 : Int32) < 0 ∧ ¬ (0 : Int32) < 0 ∧ ¬ (6 : Int32) < 0 ∧ (0 : Int32).toNatClampNeg + (6 : Int32).toNatClampNeg ≤ 6 ∧ (0 : Int32).toNatClampNeg + (6 : Int32).toNatClampNeg ≤ 6 := by decide
  have k4 : ¬ (0 : Int32) < 0 ∧ ¬ (0 : Int32) < 0 ∧ ¬ (4 : Int32) < 0 ∧ (0 : Int32).toNatClampNeg + (4 : Int32).toNatClampNeg ≤ 4 ∧ (0 : Int32).toNatClampNeg + (4 : Int32).toNatClampNeg ≤ 4 := by decide
  simp only [nmv_s, ck_t k6, ck_t k4]
  have y0 : ∀ (τ : St) (c c' : Nat) (f : Nat → Int32), gI (sA τ c x f) c' y = gI τ c' y := fun τ c c' f => gsA_n (fun q => hne q.2.symm)
  have y1 : ∀ (τ : St) (c c' j : Nat) (v : Int32), gI (sI τ c x j v) c' y = gI τ c' y := fun τ c c' j v => gsI_n (fun q => hne q.2.symm)
  simp only [y0, y1]
  have x0 : ∀ (τ : St) (c c' : Nat) (f : Nat → Int32), c' ≠ c → gI (sA τ c x f) c' x = gI τ c' x := fun τ c c' f q => gsA_n (fun q' => q q'.1)
  have x1 : ∀ (τ : St) (c c' j : Nat) (v : Int32), c' ≠ c → gI (sI τ c x j v) c' x = gI τ c' x := fun τ c c' j v q => gsI_n (fun q' => q q'.1)
  simp only [x0 _ 1 2 _ (by decide), x0 _ 2 3 _ (by decide), x0 _ 1 3 _ (by decide), x0 _ 3 4 _ (by decide), x0 _ 2 4 _ (by decide), x0 _ 1 4 _ (by decide), x1 _ 0 1 _ _ (by decide), x1 _ 0 2 _ _ (by decide), x1 _ 0 3 _ _ (by decide), x1 _ 0 4 _ _ (by decide), x1 _ 0 5 _ _ (by decide), x1 _ 0 6 _ _ (by decide), x0 _ 1 5 _ (by decide), x0 _ 2 5 _ (by decide), x0 _ 3 5 _ (by decide), x0 _ 4 5 _ (by decide), x0 _ 1 6 _ (by decide), x0 _ 2 6 _ (by decide), x0 _ 3 6 _ (by decide), x0 _ 4 6 _ (by decide), x0 _ 5 6 _ (by decide)]
  exact h1
theorem relC_bcm {σ : St} {x y : Nat} {g : Nat → Option Nat} {h : Hg} (hO : OkH h) (hC : RelC σ y h) (hg : ∀ k, k < 6 → g k = gR σ 0 y k) : RelC (bcm σ x y g) x h := by
  obtain ⟨o0, o1, o2, -⟩ := hO
  obtain ⟨c0, c1, c2, c3, c4, c5⟩ := hC
  obtain ⟨r1, r2, r3, r4, r5, r6⟩ := bcm_r (σ := σ) (x := x) (y := y) (g := g)
  refine ⟨?_, ?_, ?_, fun b hb => ?_, fun t ht => ?_, fun k hk => ?_⟩
  · rw [bcm_0]; exact c0
  · rw [bcm_0]; exact c1
  · rw [bcm_0]; exact c2
  · rw [r1, r2, r3, r4, pk_cpy_in (by omega) (by omega), pk_cpy_in (by omega) (by omega), pk_cpy_in (by omega) (by omega), pk_cpy_in (by omega) (by omega), Nat.zero_add, Nat.sub_zero]
    exact c3 b hb
  · rw [r5, r6, pk_cpy_in (by omega) (by omega), pk_cpy_in (by omega) (by omega), Nat.zero_add, Nat.sub_zero]
    exact c4 t ht
  · obtain ⟨j, q1, q2⟩ := c5 k hk
    refine ⟨j, ?_, ?_⟩
    · show gR (bcm σ x y g) 0 x k = _
      rw [show gR (bcm σ x y g) 0 x = g from gsRA_s, hg k (by omega)]
      exact q1
    · obtain ⟨b1, b2, b3, b4⟩ := q2
      exact ⟨b1, b2, by rw [bcm_n (by omega)]; exact b3, by rw [bcm_n (by omega)]; exact b4⟩
theorem refs_bcm {σ : St} {x y : Nat} {g : Nat → Option Nat} (hR : RefsOk σ) (hg : ∀ k, g k = gR σ 0 y k ∨ g k = gR σ 0 x k) : RefsOk (bcm σ x y g) := by
  intro c i k j e
  by_cases q : c = 0 ∧ i = x
  · obtain ⟨rfl, rfl⟩ := q
    have e2 : g k = some j := by rw [← e]; exact (congrFun gsRA_s k).symm
    rcases hg k with q | q
    · exact hR _ _ _ _ (q.symm.trans e2)
    · exact hR _ _ _ _ (q.symm.trans e2)
  · have e2 : gR σ c i k = some j := by rw [← e]; exact (congrFun (gsRA_n q) k).symm
    exact hR _ _ _ _ e2
theorem bl_fr {σ σ' : St} {j kd fg : Nat} (hb : Bl σ j kd fg) (e2 : gS σ' 2 0 = gS σ 2 0) (e1 : gS σ' 1 = gS σ 1) (e13 : gI σ' 13 0 = gI σ 13 0) (e14 : gI σ' 14 0 = gI σ 14 0) : Bl σ' j kd fg := by
  unfold Bl
  rw [e2, e1, e13, e14]
  exact hb
theorem shf_fr {σ σ' : St} {d : Nat} (hS : Shf σ d) (e8 : gI σ' 8 d = gI σ 8 d) (e9 : gI σ' 9 d = gI σ 9 d) (e12 : ∀ r, 15 ≤ r → gI σ' 12 r = gI σ 12 r) (eR : gR σ' 1 d = gR σ 1 d) (e2 : gS σ' 2 0 = gS σ 2 0) (e1 : gS σ' 1 = gS σ 1) (e13 : gI σ' 13 0 = gI σ 13 0) (e14 : gI σ' 14 0 = gI σ 14 0) : Shf σ' d := by
  unfold Shf Bl
  rw [e8, e9, e12 15 (by omega), e12 16 (by omega), e12 17 (by omega), e12 18 (by omega), e12 19 (by omega), e12 20 (by omega), eR, e2, e1, e13, e14]
  exact hS
theorem relC_fr {σ σ' : St} {x : Nat} {h : Hg} (hC : RelC σ x h) (e0 : ∀ c, c ≤ 6 → gI σ' c x = gI σ c x) (e7 : gR σ' 0 x = gR σ 0 x) (e2 : gS σ' 2 0 = gS σ 2 0) (e1 : gS σ' 1 = gS σ 1) (e13 : gI σ' 13 0 = gI σ 13 0) (e14 : gI σ' 14 0 = gI σ 14 0) : RelC σ' x h := relC_bl hC e0 e7 (fun j kd fg hb => bl_fr hb e2 e1 e13 e14)
/-- image -/
theorem case35 : Case35 Inv := by
  intro σ hI
  obtain ⟨⟨h, hO, hC, hM⟩, ⟨h1, O1, C1, M1⟩, I3, I4, I5, I6, I7, I8⟩ := id hI
  obtain ⟨g, b1, b2, b3⟩ := become_f (σ := σ) (x := 1) (y := 0) (by decide) I6 I7
  have hCb : RelC (bcm σ 1 0 g) 1 h := relC_bcm hO hC b2
  have hRb := refs_bcm (y := 0) I6 b3
  generalize e : bcm σ 1 0 g = τ at b1 hCb hRb
  have f1 : ∀ c i, ¬ (c ≤ 6 ∧ i = 1) → gI τ c i = gI σ c i := fun c i q => by rw [← e]; exact bcm_n q
  have f2 : ∀ c i, ¬ (c = 0 ∧ i = 1) → gR τ c i = gR σ c i := fun c i q => by rw [← e]; exact gsRA_n q
  have f3 : gS τ = gS σ := by rw [← e]; rfl
  clear e
  obtain ⟨f, p1, p2⟩ := copies_s (σ := sI τ 10 0 3 1) (a1 := 0) (a2 := 1) (by decide)
  refine ⟨nI (h 0 0), sI τ 10 0 3 1, sI (sA (sI τ 10 0 3 1) 12 1 f) 11 0 3 1, ?_, ?_, ?_⟩
  · unfold fX11_image
    rw [b1, bd_s, nmv_s, gsI_n (by omega), f1 0 0 (by omega), hC.1]
  · unfold fX12_image
    rw [p1, bd_s, nmv_s, ck_t (show vp_in 0 47 from in47 (k := 0) (by omega)), gsI_n (by omega), gsA_n (by omega), gsI_n (by omega), f1 12 0 (by omega)]
    rw [show gI σ 12 0 (0 : Int32).toNatClampNeg = nI (h 0 0) from hM.1]
  · have r0 : ∀ c i, ¬ (c = 11 ∧ i = 0) → ¬ (c = 12 ∧ i = 1) → ¬ (c = 10 ∧ i = 0) → ¬ (c ≤ 6 ∧ i = 1) → gI (sI (sA (sI τ 10 0 3 1) 12 1 f) 11 0 3 1) c i = gI σ c i := fun c i q1 q2 q3 q4 => by rw [gsI_n q1, gsA_n q2, gsI_n q3, f1 c i q4]
    refine ⟨⟨h, hO, ?_, ?_⟩, ⟨h, hO, ?_, ?_⟩, ⟨⟨rfl, Or.inr rfl⟩, byOk_fr I3.2 (fun r hr => r0 12 r (by omega) (by omega) (by omega) (by omega))⟩, ?_, ?_, hRb, ?_, fun d hd => ?_⟩
    · exact relC_fr hC (fun c hc => r0 c 0 (by omega) (by omega) (by omega) (by omega)) (f2 0 0 (by omega)) (congrFun (congrFun f3 2) 0) (congrFun f3 1) (r0 13 0 (by omega) (by omega) (by omega) (by omega)) (r0 14 0 (by omega) (by omega) (by omega) (by omega))
    · exact relM_row hM hO (fun j hj => by rw [r0 12 0 (by omega) (by omega) (by omega) (by omega)])
    · exact hCb
    · refine relM_row hM hO (fun j hj => ?_)
      rw [gsI_n (by omega), gsA_s, p2 j hj, gsI_n (by omega), f1 12 0 (by omega)]
    · rw [gsI_s, pk_un (by omega), gsA_n (by omega), gsI_n (by omega), f1 11 0 (by omega)]
      exact I4
    · exact (congrFun f3 0).symm ▸ I5
    · show ∀ j, j < gS τ 2 0 → okc (gS τ 1 j)
      rw [f3]
      exact I7
    · exact shf_fr (I8 d hd) (r0 8 d (by omega) (by omega) (by omega) (by omega)) (r0 9 d (by omega) (by omega) (by omega) (by omega)) (fun r hr => r0 12 r (by omega) (by omega) (by omega) (by omega)) (f2 1 d (by omega)) (congrFun (congrFun f3 2) 0) (congrFun f3 1) (r0 13 0 (by omega) (by omega) (by omega) (by omega)) (r0 14 0 (by omega) (by omega) (by omega) (by omega))
