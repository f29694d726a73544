theorem gsI_s {σ : St} {c i j : Nat} {v : Int32} : gI (sI σ c i j v) c i = upd (gI σ c i) j v := if_pos ⟨rfl, rfl⟩
theorem va_up_s {f : Nat → Option Nat} {v : Option Nat} : va_up f 0 v 0 = v := rfl
theorem va_up_n {f : Nat → Option Nat} {v : Option Nat} {k : Nat} (h : k ≠ 0) : va_up f 0 v k = f k := if_neg h
theorem gsR_s {σ : St} {c i j : Nat} {v : Option Nat} : gR (sR σ c i j v) c i = va_up (gR σ c i) j v := if_pos ⟨rfl, rfl⟩
theorem gsR_n {σ : St} {c i j c' i' : Nat} {v : Option Nat} (h : ¬ (c' = c ∧ i' = i)) : gR (sR σ c i j v) c' i' = gR σ c' i' := if_neg h
/-- keep -/
theorem case38 : Case38 Inv := by
  intro σ hI a1 a2 a3 a4
  have I6 := hI.2.2.2.2.2.1
  have same : ∀ (h1 : fX11_keep σ a1 a2 a3 a4 = some (-1, σ)) (h2 : fX12_keep σ a1 a2 a3 a4 = some (-1, σ)), ∃ r σ1 σ2, fX11_keep σ a1 a2 a3 a4 = some (r, σ1) ∧ fX12_keep σ1 a1 a2 a3 a4 = some (r, σ2) ∧ Inv σ2 := fun h1 h2 => ⟨-1, σ, σ, h1, h2, hI⟩
  rcases isShelf_s (σ := σ) a1 with ⟨d, hd, rfl, p1, p2⟩ | ⟨-, p1, p2⟩
  · have i8 : vp_in (nI d) 8 := pk_in d 8 hd rfl (by omega)
    rcases rng_s (σ := σ) (τ := σ) (M := 1) (n := 1) a2 (by omega) rfl with ⟨w, hw, rfl, q1, q2⟩ | ⟨-, q1, q2⟩
    · rcases w with _ | _ | w
      · refine ⟨0, sI (sI (sR σ 1 d 0 none) 8 d 1 0) 8 d 3 0, sI (sI (sI (sI (sI (sR σ 1 d 0 none) 8 d 1 0) 8 d 3 0) 12 15 d (nI 0)) 12 16 d a3) 12 17 d a4, ?_, ?_, ?_⟩
        · unfold fX11_keep fX4_holdNothing
          rw [p2, bd_s, if_pos rfl, q2, bd_s, if_pos rfl, if_pos (show nI 0 = 0 from rfl), ck_t i8, nI_clamp (by omega)]
          rfl
        · unfold fX12_keep
          rw [show fX12_isShelf (sI (sI (sR σ 1 d 0 none) 8 d 1 0) 8 d 3 0) (nI d) = some 1 from p1, bd_s, if_neg (by decide), show fX12_isIn (sI (sI (sR σ 1 d 0 none) 8 d 1 0) 8 d 3 0) (nI 0) 0 1 = some 1 from q1, bd_s, if_neg (by decide), if_neg (by decide)]
          exact keepJ_m hd
        · refine keep_inv (τ := σ) (w := nI 0) (a3 := a3) (a4 := a4) (o := none) hI hd (Or.inl ⟨rfl, rfl⟩) (fun c x g1 g2 => ?_) ?_ rfl rfl rfl (fun c x g1 => ?_) ?_ (fun k hk => ?_) rfl
          · rw [gsI_n (by omega), gsI_n (by omega), gsI_n (by omega), gsI_n (by omega), gsI_n (by omega)]
            rfl
          · rw [gsI_n (by omega), gsI_n (by omega), gsI_n (by omega), gsI_s, gsI_s, pk_un (by omega), pk_us]
          · exact gsR_n g1
          · show gR (sR σ 1 d 0 none) 1 d 0 = none
            rw [gsR_s, va_up_s]
          · show gR (sR σ 1 d 0 none) 1 d k = gR σ 1 d k
            rw [gsR_s, va_up_n hk]
      · have hbad : ∀ (hn : fX11_newBlow σ a3 a4 = some (none, σ)) (hm : (fX12_isIn σ a3 0 7 = some 0) ∨ (fX12_isIn σ a3 0 7 = some 1 ∧ fX12_isIn σ a4 0 9 = some 0)), ∃ r σ1 σ2, fX11_keep σ (nI d) (nI (0 + 1)) a3 a4 = some (r, σ1) ∧ fX12_keep σ1 (nI d) (nI (0 + 1)) a3 a4 = some (r, σ2) ∧ Inv σ2 := by
          intro hn hm
          refine same ?_ ?_
          · unfold fX11_keep
            rw [p2, bd_s, if_pos rfl, q2, bd_s, if_pos rfl, if_neg (by decide), ck_t (Nat.le_refl _), hn]
            rfl
          · unfold fX12_keep
            rcases hm with hm | ⟨hm, hm2⟩
            · rw [p1, bd_s, if_neg (by decide), q1, bd_s, if_neg (by decide), if_pos (show nI (0 + 1) = 1 from rfl), hm]
              rfl
            · rw [p1, bd_s, if_neg (by decide), q1, bd_s, if_neg (by decide), if_pos (show nI (0 + 1) = 1 from rfl), hm, bd_s, if_neg (by decide), hm2]
              rfl
        rcases rng_s (σ := σ) (τ := σ) (M := 7) (n := 7) a3 (by omega) rfl with ⟨k, hk, rfl, r1, r2⟩ | ⟨hne, r1, r2⟩
        · rcases rng_s (σ := σ) (τ := σ) (M := 9) (n := 9) a4 (by omega) rfl with ⟨f, hf, rfl, s1, s2⟩ | ⟨-, s1, s2⟩
          · have hIt : Inv (sB σ (clsOf k) (nI k) (nI f)) := inv_sB hI
            have hbl := bl_new (σ := σ) (kd := k) (fg := f)
            refine ⟨0, sR (sI (sI (sR (sB σ (clsOf k) (nI k) (nI f)) 1 d 0 none) 8 d 1 0) 8 d 3 0) 1 d 0 (some (gS σ 2 0)), sI (sI (sI (sR (sI (sI (sR (sB σ (clsOf k) (nI k) (nI f)) 1 d 0 none) 8 d 1 0) 8 d 3 0) 1 d 0 (some (gS σ 2 0))) 12 15 d (nI (0 + 1))) 12 16 d (nI k)) 12 17 d (nI f), ?_, ?_, ?_⟩
            · unfold fX11_keep
              rw [p2, bd_s, if_pos rfl, q2, bd_s, if_pos rfl, if_neg (by decide), ck_t (Nat.le_refl _), newBlow_s I6 hk s2, bd_s]
              show ck (vp_in (nI d) 8) (bd (fX4_holdBlow (sB σ (clsOf k) (nI k) (nI f)) (nI d).toNatClampNeg (some (gS σ 2 0))) fun r10 => some (0, r10)) = _
              rw [ck_t i8, nI_clamp (by omega)]
              rfl
            · unfold fX12_keep
              rw [show fX12_isShelf (sR (sI (sI (sR (sB σ (clsOf k) (nI k) (nI f)) 1 d 0 none) 8 d 1 0) 8 d 3 0) 1 d 0 (some (gS σ 2 0))) (nI d) = some 1 from p1, bd_s, if_neg (by decide), show fX12_isIn (sR (sI (sI (sR (sB σ (clsOf k) (nI k) (nI f)) 1 d 0 none) 8 d 1 0) 8 d 3 0) 1 d 0 (some (gS σ 2 0))) (nI (0 + 1)) 0 1 = some 1 from q1, bd_s, if_neg (by decide), if_pos (show nI (0 + 1) = 1 from rfl), show fX12_isIn (sR (sI (sI (sR (sB σ (clsOf k) (nI k) (nI f)) 1 d 0 none) 8 d 1 0) 8 d 3 0) 1 d 0 (some (gS σ 2 0))) (nI k) 0 7 = some 1 from r1, bd_s, if_neg (by decide), show fX12_isIn (sR (sI (sI (sR (sB σ (clsOf k) (nI k) (nI f)) 1 d 0 none) 8 d 1 0) 8 d 3 0) 1 d 0 (some (gS σ 2 0))) (nI f) 0 9 = some 1 from s1, bd_s, if_neg (by decide)]
              exact keepJ_m hd
            · refine keep_inv (τ := sB σ (clsOf k) (nI k) (nI f)) (w := nI (0 + 1)) (a3 := nI k) (a4 := nI f) (o := some (gS σ 2 0)) hIt hd (Or.inr ⟨rfl, gS σ 2 0, k, f, rfl, hbl, hk, hf, rfl, rfl⟩) (fun c x g1 g2 => ?_) ?_ rfl rfl rfl (fun c x g1 => ?_) ?_ (fun k' hk' => ?_) rfl
              · rw [gsI_n (by omega), gsI_n (by omega), gsI_n (by omega)]
                show gI (sI (sI (sR (sB σ (clsOf k) (nI k) (nI f)) 1 d 0 none) 8 d 1 0) 8 d 3 0) c x = _
                rw [gsI_n (by omega), gsI_n (by omega)]
                rfl
              · rw [gsI_n (by omega), gsI_n (by omega), gsI_n (by omega)]
                show gI (sI (sI (sR (sB σ (clsOf k) (nI k) (nI f)) 1 d 0 none) 8 d 1 0) 8 d 3 0) 8 d 1 = _
                rw [gsI_s, gsI_s, pk_un (by omega), pk_us]
              · show gR (sR (sI (sI (sR (sB σ (clsOf k) (nI k) (nI f)) 1 d 0 none) 8 d 1 0) 8 d 3 0) 1 d 0 (some (gS σ 2 0))) c x = _
                rw [gsR_n g1]
                exact gsR_n g1
              · show gR (sR (sI (sI (sR (sB σ (clsOf k) (nI k) (nI f)) 1 d 0 none) 8 d 1 0) 8 d 3 0) 1 d 0 (some (gS σ 2 0))) 1 d 0 = _
                rw [gsR_s, va_up_s]
              · show gR (sR (sI (sI (sR (sB σ (clsOf k) (nI k) (nI f)) 1 d 0 none) 8 d 1 0) 8 d 3 0) 1 d 0 (some (gS σ 2 0))) 1 d k' = gR (sB σ (clsOf k) (nI k) (nI f)) 1 d k'
                rw [gsR_s, va_up_n hk']
                show gR (sR (sB σ (clsOf k) (nI k) (nI f)) 1 d 0 none) 1 d k' = _
                rw [gsR_s, va_up_n hk']
          · rcases newBlow_n (σ := σ) (a := nI k) (Or.inr s2) with e | e
            · exact hbad e (Or.inr ⟨r1, s1⟩)
            · rw [s2] at e
              cases e
        · rcases newBlow_n (σ := σ) (a := a3) (b := a4) (Or.inl hne) with e | e
          · exact hbad e (Or.inl r1)
          · rcases rng_s (σ := σ) (τ := σ) (M := 9) (n := 9) a4 (by omega) rfl with ⟨f, hf, rfl, s1, s2⟩ | ⟨-, s1, s2⟩ <;> (rw [s2] at e; cases e)
      · omega
    · refine same ?_ ?_
      · unfold fX11_keep
        rw [p2, bd_s, if_pos rfl, q2]
        rfl
      · unfold fX12_keep
        rw [p1, bd_s, if_neg (by decide), q1]
        rfl
  · refine same ?_ ?_
    · unfold fX11_keep
      rw [p2]
      rfl
    · unfold fX12_keep
      rw [p1]
      rfl
