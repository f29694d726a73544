theorem hedge_m {σ τ : St} {d n : Nat} (hT : TxtOk σ d n) (e12 : ∀ r, 15 ≤ r → gI τ 12 r = gI σ 12 r) (k2 : gI σ 12 15 d = 2) (k0 : gI σ 12 18 d = 0) {h : Hg} (hO : OkH h) (hM : RelM τ 0 h) : (∃ m p υ, BadT (txt σ d n) n m p ∧ fX12_hedge τ (nI d) = some (-1000 - nI p, υ) ∧ MH τ υ ∧ RelM υ 0 h) ∨ ∃ m, GoodT (txt σ d n) n m ∧ (((∀ i, i < m → canD (exH h (txt σ d n) i) (txt σ d n) (aN (txt σ d n) i)) ∧ ∃ υ, fX12_hedge τ (nI d) = some (nI m, υ) ∧ MH τ υ ∧ RelM υ 0 (exH h (txt σ d n) m)) ∨ ∃ i υ, i < m ∧ (∀ j, j < i → canD (exH h (txt σ d n) j) (txt σ d n) (aN (txt σ d n) j)) ∧ ¬ canD (exH h (txt σ d n) i) (txt σ d n) (aN (txt σ d n) i) ∧ fX12_hedge τ (nI d) = some (-2000 - nI (aN (txt σ d n) i), υ) ∧ MH τ υ ∧ RelM υ 0 h) := by
  have d8 := hT.1
  have n100 := hT.2.1
  have i8 := in8 d8
  have sh : fX12_isShelf τ (nI d) = some 1 := by
    rcases isShelf_s (σ := τ) (nI d) with ⟨j, -, -, q, -⟩ | ⟨q, -⟩
    · exact q
    · exact absurd rfl (q d d8)
  have wr : fX12_wrongRow τ (nI d) 0 = some 0 := by
    unfold fX12_wrongRow
    rw [sh, bd_s, if_neg (by decide), ck_t i8, nI_clamp (by omega), e12 15 (by omega), k2, if_neg (by decide), ck_t i8, if_pos rfl, if_neg (by decide), ck_t i8, e12 18 (by omega), k0, if_pos rfl]
  have e20 : gI τ 12 20 = gI σ 12 20 := e12 20 (by omega)
  have hf : Fld σ d n (upd (upd (gI τ 11 0) 6 (nI (100 * d))) 7 (nI n)) := ⟨by rw [pk_un (by omega), pk_us], pk_us⟩
  have start : sI (sI (sI τ 11 0 6 (nI (100 * d))) 11 0 7 (nI n)) 11 0 5 0 = Zt τ (gI τ 12 8) (upd (upd (upd (gI τ 11 0) 6 (nI (100 * d))) 7 (nI n)) 5 (nI 0)) := by
    have e1 : sI τ 11 0 6 (nI (100 * d)) = Zt τ (gI τ 12 8) (upd (gI τ 11 0) 6 (nI (100 * d))) := by
      have := Zt_sf (τ := τ) (g := gI τ 12 8) (f := gI τ 11 0) (k := 6) (v := nI (100 * d))
      rw [Zt_self] at this
      exact this
    rw [e1, Zt_sf, Zt_sf]
    rfl
  have run : fX12_hedge τ (nI d) = fX12_hedge_L41 (fun y18 y19 σ20 => bd (fX12_copies σ20 0 2) fun r21 => nmv (sI r21 11 0 5 0) fun σ22 => fX12_hedge_L93 (fun y34 σ35 => if y34 = 0 then some (y18, σ35) else some (y34, σ35)) FU y19 σ22) FU 0 0 (Zt τ (gI τ 12 8) (upd (upd (upd (gI τ 11 0) 6 (nI (100 * d))) 7 (nI n)) 5 (nI 0))) := by
    unfold fX12_hedge
    rw [wr, bd_s, if_pos rfl, show (100 : Int32) * nI d = nI (100 * d) from pk_mul 100 d, nmv_s, ck_t i8, nI_clamp (by omega), show gI (sI τ 11 0 6 (nI (100 * d))) 12 19 d = nI n from by rw [gsI_n (by omega), e12 19 (by omega)]; exact hT.2.2.2.1, nmv_s, nmv_s, start]
  rw [run]
  -- after the first pass
  have mid : ∀ (g' : Nat → Int32) (e : Nat), ∃ υ1, (bd (fX12_copies (Zt τ g' (upd (upd (upd (gI τ 11 0) 6 (nI (100 * d))) 7 (nI n)) 5 (nI e))) 0 2) = fun (k : St → Option (Int32 × St)) => k υ1) ∧ MH τ (sI υ1 11 0 5 0) ∧ RelM (sI υ1 11 0 5 0) 0 h ∧ RelM (sI υ1 11 0 5 0) 2 h ∧ Fld σ d n (gI (sI υ1 11 0 5 0) 11 0) ∧ gI (sI υ1 11 0 5 0) 11 0 5 = nI 0 := fun g' e => by
    obtain ⟨f2, p1, p2⟩ := copies_s (σ := Zt τ g' (upd (upd (upd (gI τ 11 0) 6 (nI (100 * d))) 7 (nI n)) 5 (nI e))) (a1 := 0) (a2 := 2) (by decide)
    have hz : MH τ (Zt τ g' (upd (upd (upd (gI τ 11 0) 6 (nI (100 * d))) 7 (nI n)) 5 (nI e))) := MH_Zt ⟨fun _ _ _ _ => rfl, fun _ _ _ _ => rfl, rfl, rfl⟩ (fun j j5 j6 j7 => by rw [pk_un j5, pk_un j7, pk_un j6])
    have f11 : gI (Zt τ g' (upd (upd (upd (gI τ 11 0) 6 (nI (100 * d))) 7 (nI n)) 5 (nI e))) 11 0 = upd (upd (upd (gI τ 11 0) 6 (nI (100 * d))) 7 (nI n)) 5 (nI e) := Zt_f
    have r12 : ∀ j, gI (Zt τ g' (upd (upd (upd (gI τ 11 0) 6 (nI (100 * d))) 7 (nI n)) 5 (nI e))) 12 0 j = gI τ 12 0 j := fun j => by rw [Zt_n (by omega) (by omega)]
    generalize Zt τ g' (upd (upd (upd (gI τ 11 0) 6 (nI (100 * d))) 7 (nI n)) 5 (nI e)) = υ0 at p1 p2 hz f11 r12 ⊢
    have f11' : gI (sA υ0 12 2 f2) 11 0 = upd (upd (upd (gI τ 11 0) 6 (nI (100 * d))) 7 (nI n)) 5 (nI e) := (gsA_n (by omega)).trans f11
    refine ⟨sA υ0 12 2 f2, by rw [p1]; rfl, ?_, ?_, ?_, ?_, ?_⟩
    · have h1 : MH τ (sA υ0 12 2 f2) := MH_row hz (Or.inr rfl)
      exact ⟨fun c i q q2 => by rw [gsI_n q2]; exact h1.1 c i q q2, fun j j5 j6 j7 => by rw [gsI_s, pk_un j5]; exact h1.2.1 j j5 j6 j7, h1.2.2.1, h1.2.2.2⟩
    · exact relM_row hM hO (fun j _ => by rw [gsI_n (by omega), gsA_n (by omega), r12])
    · exact relM_row hM hO (fun j hj => by rw [gsI_n (by omega), gsA_s, p2 j hj, r12])
    · rw [gsI_s, f11']
      exact ⟨by rw [pk_un (by omega), pk_un (by omega), pk_un (by omega), pk_us], by rw [pk_un (by omega), pk_un (by omega), pk_us]⟩
    · rw [gsI_s, pk_us]
      rfl
  rcases passL_m hT e20 hf (g := gI τ 12 8) (fun y18 y19 σ20 => bd (fX12_copies σ20 0 2) fun r21 => nmv (sI r21 11 0 5 0) fun σ22 => fX12_hedge_L93 (fun y34 σ35 => if y34 = 0 then some (y18, σ35) else some (y34, σ35)) FU y19 σ22) with ⟨m, g', hG, q⟩ | ⟨m, p, g', hB, hp, q⟩
  · obtain ⟨υ1, z1, z2, z3, z4, z5, z6⟩ := mid g' (aN (txt σ d n) m)
    rw [q, z1]
    dsimp only
    rw [nmv_s]
    refine Or.inr ⟨m, hG, ?_⟩
    rcases execL_m hT e20 z2 hO z3 z4 z5 z6 hG (fun y34 σ35 => if y34 = 0 then some (nI m, σ35) else some (y34, σ35)) with ⟨υ, c, r1, r2, r3⟩ | ⟨i, υ, c1, c2, c3, r1, r2, r3⟩
    · rw [r1]
      exact Or.inl ⟨c, υ, rfl, r2, r3⟩
    · rw [r1]
      have lt := good_lt hT hG c1
      rw [if_neg (neg_fin _ (by omega)).2]
      exact Or.inr ⟨i, υ, c1, c2, c3, rfl, r2, r3⟩
  · obtain ⟨υ1, z1, z2, z3, z4, z5, z6⟩ := mid g' p
    rw [q, z1]
    dsimp only
    rw [nmv_s]
    refine Or.inl ⟨m, p, sI υ1 11 0 5 0, hB, ?_, z2, z3⟩
    show fX12_hedge_L93B _ _ (-1000 - nI p) (sI υ1 11 0 5 0) = _
    unfold fX12_hedge_L93B
    rw [if_neg (neg_fin p hp).1]
    dsimp only
    rw [if_neg (neg_fin p hp).1]
/-- hedge -/
theorem case0 : Case0 Inv := by
  intro σ hI a1
  obtain ⟨⟨h, hO, hC, hM⟩, ⟨h1', O1, C1, M1⟩, I3, I4, I5, I6, I7, I8⟩ := id hI
  unfold fX11_hedge
  rcases shelf2_s I8 a1 with ⟨p1, p2⟩ | ⟨d, hd, rfl, p2, P⟩
  · exact ⟨-1, σ, σ, by rw [p1]; rfl, by unfold fX12_hedge fX12_wrongRow; rw [p2]; rfl, hI⟩
  have i8 := in8 hd
  have wr : ∀ (w v : Int32), gI σ 12 15 d = w → gI σ 12 18 d = v → fX12_wrongRow σ (nI d) 0 = if w = 0 then some (-11) else if w = 2 then (if v = 0 then some 0 else some (-12)) else some (-12) := fun w v h1 h2 => by
    unfold fX12_wrongRow
    rw [p2, bd_s, if_neg (by decide), ck_t i8, ck_t i8, ck_t i8, nI_clamp (by omega), h1, h2, if_neg (show ¬ (0 : Int32) < 0 by decide)]
  rcases P with ⟨p1, p3⟩ | ⟨p1, p3⟩ | ⟨p1, p3, so, n, s2, s3, s4, s5, s6, s7, s8⟩
  · exact ⟨-11, σ, σ, by rw [p1]; rfl, by unfold fX12_hedge; rw [wr _ _ p3 rfl]; rfl, hI⟩
  · exact ⟨-12, σ, σ, by rw [p1]; rfl, by unfold fX12_hedge; rw [wr _ _ p3 rfl]; rfl, hI⟩
  rw [p1, bd_s, if_pos (by decide), ck_t i8, nI_clamp (by omega), s4]
  by_cases hso : so = 0
  rotate_left
  · refine ⟨-12, σ, σ, ?_, ?_, hI⟩
    · rw [if_neg (nI_ne0 (by omega) (by omega))]
    · unfold fX12_hedge
      rw [wr _ _ p3 s5, if_neg (by decide), if_pos rfl, if_neg (nI_ne0 (by omega) (by omega))]
      rfl
  subst hso
  have k0 : gI σ 12 18 d = 0 := s5
  have hT : TxtOk σ d n := ⟨hd, s3, s6, s7, s8, fun i hi => I3.2 d hd p3 k0 i (by omega)⟩
  rw [if_pos nI_0]
  rcases bad_c hT with ⟨m, hG, b1⟩ | ⟨m, p, hB, hp, b1⟩
  rotate_left
  · rw [b1, bd_s, if_neg (nI_pos (by omega))]
    rcases hedge_m hT (fun _ _ => rfl) p3 k0 hO hM with ⟨m', p', υ, hB', r1, r2, r3⟩ | ⟨m', hG', -⟩
    · have := Bad_u hB hB'
      subst this
      exact ⟨-1000 - nI p, σ, υ, rfl, r1, MH_inv r2 hI hO hC r3⟩
    · exact absurd hB (fun q => Good_no hG' q)
  rw [b1, bd_s, if_pos (by decide)]
  obtain ⟨τ0, t1, t2, t3⟩ := become2 hC hO I6 I7
  rw [t1, bd_s]
  rcases execL_c hT (Sp4_of2 (Sp4_refl I6 I7) t2) hO t3 hG (fun y18 σ19 => bd (fX3_become σ19 0 2) fun r20 => some (y18, r20)) with ⟨τ, c, r1, r2, r3⟩ | ⟨i, τ, c1, c2, c3, r1, r2⟩
  rotate_left
  · rw [r1]
    have hIτ := Sp4_inv r2 hI
    rcases hedge_m hT (fun r _ => r2.1 12 r (by omega) (by omega) (by omega)) p3 k0 hO (Sp4_relM r2 hM hO) with ⟨m', p', υ, hB', -⟩ | ⟨m', hG', H⟩
    · exact absurd hB' (fun q => Good_no hG q)
    · have := Good_u hG hG'
      subst this
      rcases H with ⟨c', -⟩ | ⟨i', υ, d1, d2, d3, w1, w2, w3⟩
      · exact absurd (c' i c1) c3
      · have : i = i' := by
          by_cases x : i < i'
          · exact absurd (d2 i x) c3
          · by_cases y : i' < i
            · exact absurd (c2 i' y) d3
            · omega
        subst this
        exact ⟨-2000 - nI (aN (txt σ d n) i), τ, υ, rfl, w1, MH_inv w2 hIτ hO (Sp4_relC r2 hC (by decide)) w3⟩
  rw [r1]
  have hIτ := Sp4_inv r2 hI
  have hf : OkH (exH h (txt σ d n) m) := exH_ok hO hG m (Nat.le_refl _) c
  obtain ⟨g, b2, b3, b4⟩ := become_f (σ := τ) (x := 0) (y := 2) (by decide) r2.2.2.2.2.2.1 r2.2.2.2.2.2.2
  have hCb : RelC (bcm τ 0 2 g) 0 (exH h (txt σ d n) m) := relC_bcm hf r3 b3
  have hRb := refs_bcm (y := 2) r2.2.2.2.2.2.1 b4
  rw [b2, bd_s]
  generalize eb : bcm τ 0 2 g = τ2 at hCb hRb
  have f1 : ∀ c i, ¬ (c ≤ 6 ∧ i = 0) → gI τ2 c i = gI τ c i := fun c i q => by rw [← eb]; exact bcm_n q
  have f2 : ∀ c i, ¬ (c = 0 ∧ i = 0) → gR τ2 c i = gR τ c i := fun c i q => by rw [← eb]; exact gsRA_n q
  have f3 : gS τ2 = gS τ := by rw [← eb]; rfl
  have hM2 : RelM τ2 0 h := relM_row (Sp4_relM r2 hM hO) hO (fun j _ => by rw [f1 12 0 (by omega)])
  rcases hedge_m hT (τ := τ2) (fun r _ => (f1 12 r (by omega)).trans (r2.1 12 r (by omega) (by omega) (by omega))) p3 k0 hO hM2 with ⟨m', p', υ, hB', -⟩ | ⟨m', hG', H⟩
  · exact absurd hB' (fun q => Good_no hG q)
  have := Good_u hG hG'
  subst this
  rcases H with ⟨c', υ, w1, w2, w3⟩ | ⟨i', υ, d1, d2, d3, -⟩
  rotate_left
  · exact absurd (c i' d1) d3
  refine ⟨nI m, τ2, υ, rfl, w1, ?_⟩
  have r0 : ∀ c i, ¬ (c = 12 ∧ i = 0) → ¬ (c ≤ 6 ∧ i = 0) → gI (sA τ2 12 0 (gI υ 12 0)) c i = gI τ c i := fun c i q1 q2 => by rw [gsA_n q1, f1 c i q2]
  have hM3 : RelM (sA τ2 12 0 (gI υ 12 0)) 0 (exH h (txt σ d n) m) := relM_row w3 hf (fun j _ => by rw [gsA_s])
  have hC3 : RelC (sA τ2 12 0 (gI υ 12 0)) 0 (exH h (txt σ d n) m) := hCb
  have hI3 : Inv (sA τ2 12 0 (gI υ 12 0)) := by
    obtain ⟨-, ⟨h2, O2, C2, M2⟩, J3, J4, J5, J6, J7, J8⟩ := hIτ
    refine ⟨⟨exH h (txt σ d n) m, hf, hC3, hM3⟩, ⟨h2, O2, ?_, ?_⟩, ?_, ?_, ?_, hRb, ?_, fun d hd => ?_⟩
    · exact relC_fr C2 (fun c hc => r0 c 1 (by omega) (by omega)) (f2 0 1 (by omega)) (congrFun (congrFun f3 2) 0) (congrFun f3 1) (r0 13 0 (by omega) (by omega)) (r0 14 0 (by omega) (by omega))
    · exact relM_row M2 O2 (fun j _ => by rw [r0 12 1 (by omega) (by omega)])
    · rw [r0 10 0 (by omega) (by omega), r0 11 0 (by omega) (by omega)]
      exact ⟨J3.1, byOk_fr J3.2 (fun r hr => r0 12 r (by omega) (by omega))⟩
    · rw [r0 11 0 (by omega) (by omega)]
      exact J4
    · exact (congrFun f3 0).symm ▸ J5
    · show ∀ j, j < gS τ2 2 0 → okc (gS τ2 1 j)
      rw [f3]
      exact J7
    · exact shf_fr (J8 d hd) (r0 8 d (by omega) (by omega)) (r0 9 d (by omega) (by omega)) (fun r hr => r0 12 r (by omega) (by omega)) (f2 1 d (by omega)) (congrFun (congrFun f3 2) 0) (congrFun f3 1) (r0 13 0 (by omega) (by omega)) (r0 14 0 (by omega) (by omega))
  have w4 : MH (sA τ2 12 0 (gI υ 12 0)) υ := ⟨fun c i q q2 => (w2.1 c i q q2).trans (gsA_n (by omega)).symm, fun j j5 j6 j7 => (w2.2.1 j j5 j6 j7).trans (congrFun (gsA_n (by omega)).symm j), w2.2.2.1, w2.2.2.2⟩
  exact MH_inv w4 hI3 hf hC3 w3
