/-- restore -/
theorem case36 : Case36 Inv := by
  intro σ hI
  obtain ⟨⟨h, hO, hC, hM⟩, ⟨h1, O1, C1, M1⟩, ⟨⟨I3, I3b⟩, I3c⟩, I4, I5, I6, I7, I8⟩ := id hI
  rcases I3b with z | z
  · refine ⟨-3, σ, σ, ?_, ?_, hI⟩
    · unfold fX11_restore
      rw [I3, z]
      rfl
    · unfold fX12_restore
      rw [z]
      rfl
  obtain ⟨g, b1, b2, b3⟩ := become_f (σ := σ) (x := 0) (y := 1) (by decide) I6 I7
  have hCb : RelC (bcm σ 0 1 g) 0 h1 := relC_bcm O1 C1 b2
  have hRb := refs_bcm (y := 1) I6 b3
  generalize e : bcm σ 0 1 g = τ at b1 hCb hRb
  have f1 : ∀ c i, ¬ (c ≤ 6 ∧ i = 0) → gI τ c i = gI σ c i := fun c i q => by rw [← e]; exact bcm_n q
  have f2 : ∀ c i, ¬ (c = 0 ∧ i = 0) → gR τ c i = gR σ c i := fun c i q => by rw [← e]; exact gsRA_n q
  have f3 : gS τ = gS σ := by rw [← e]; rfl
  clear e
  obtain ⟨f, p1, p2⟩ := copies_s (σ := τ) (a1 := 1) (a2 := 0) (by decide)
  have r0 : ∀ c i, ¬ (c = 12 ∧ i = 0) → ¬ (c ≤ 6 ∧ i = 0) → gI (sA τ 12 0 f) c i = gI σ c i := fun c i q1 q2 => by rw [gsA_n q1, f1 c i q2]
  refine ⟨nI (h1 0 0), τ, sA τ 12 0 f, ?_, ?_, ?_⟩
  · unfold fX11_restore
    rw [if_neg (show ¬ gI σ 10 0 3 = 0 by rw [I3, z]; decide), b1, bd_s, hCb.1]
  · unfold fX12_restore
    rw [f1 11 0 (by omega), if_neg (show ¬ gI σ 11 0 3 = 0 by rw [z]; decide), p1, bd_s, ck_t (show vp_in 0 47 from in47 (k := 0) (by omega)), gsA_s, show (0 : Int32).toNatClampNeg = 0 from rfl, p2 0 (by omega), f1 12 1 (by omega), M1.1]
  · refine ⟨⟨h1, O1, ?_, ?_⟩, ⟨h1, O1, ?_, ?_⟩, ?_, ?_, ?_, hRb, ?_, fun d hd => ?_⟩
    · exact hCb
    · refine relM_row M1 O1 (fun j hj => ?_)
      rw [gsA_s, p2 j hj, f1 12 1 (by omega)]
    · exact relC_fr C1 (fun c hc => r0 c 1 (by omega) (by omega)) (f2 0 1 (by omega)) (congrFun (congrFun f3 2) 0) (congrFun f3 1) (r0 13 0 (by omega) (by omega)) (r0 14 0 (by omega) (by omega))
    · exact relM_row M1 O1 (fun j hj => by rw [r0 12 1 (by omega) (by omega)])
    · rw [r0 10 0 (by omega) (by omega), r0 11 0 (by omega) (by omega)]
      exact ⟨⟨I3, Or.inr z⟩, byOk_fr I3c (fun r hr => r0 12 r (by omega) (by omega))⟩
    · rw [r0 11 0 (by omega) (by omega)]
      exact I4
    · exact (congrFun f3 0).symm ▸ I5
    · show ∀ j, j < gS τ 2 0 → okc (gS τ 1 j)
      rw [f3]
      exact I7
    · exact shf_fr (I8 d hd) (r0 8 d (by omega) (by omega)) (r0 9 d (by omega) (by omega)) (fun r hr => r0 12 r (by omega) (by omega)) (f2 1 d (by omega)) (congrFun (congrFun f3 2) 0) (congrFun f3 1) (r0 13 0 (by omega) (by omega)) (r0 14 0 (by omega) (by omega))
