theorem put_shf {σ : St} (I8 : ∀ d, d < 8 → Shf σ d) {d i : Nat} {v : Int32} (hi : i < 100) : ∀ d', d' < 8 → Shf (sI (sI σ 9 d i v) 12 20 (100 * d + i) v) d' := by
  intro d' hd'
  have g : ∀ j, gI (sI (sI σ 9 d i v) 12 20 (100 * d + i) v) 12 20 j = upd (gI σ 12 20) (100 * d + i) v j := fun j => rfl
  rcases I8 d' hd' with q | q | ⟨k1, k2, k3, so, n, hso, hn, k4, k5, k6, k7, k8⟩
  · exact Or.inl q
  · exact Or.inr (Or.inl q)
  · refine Or.inr (Or.inr ⟨k1, k2, k3, so, n, hso, hn, k4, k5, k6, k7, fun j hj => ?_⟩)
    rw [g]
    by_cases hd : d' = d
    · subst hd
      have g9 : gI (sI (sI σ 9 d' i v) 12 20 (100 * d' + i) v) 9 d' = upd (gI σ 9 d') i v := by
        show (if 9 = 9 ∧ d' = d' then upd (gI σ 9 d') i v else gI σ 9 d') = _
        rw [if_pos ⟨rfl, rfl⟩]
      rw [g9]
      by_cases e : j = i
      · subst e
        rw [pk_us, pk_us]
      · rw [pk_un e, pk_un (by omega)]
        exact k8 j hj
    · have g9 : gI (sI (sI σ 9 d i v) 12 20 (100 * d + i) v) 9 d' = gI σ 9 d' := by
        show (if 9 = 9 ∧ d' = d then upd (gI σ 9 d) i v else gI σ 9 d') = _
        rw [if_neg (fun q => hd q.2)]
      rw [g9, pk_un (by omega)]
      exact k8 j hj
/-- put -/
theorem case40 : Case40 Inv := by
  intro σ hI a1 a2 a3
  have I8 := hI.2.2.2.2.2.2.2
  have same : ∀ (r : Int32) (h1 : fX11_put σ a1 a2 a3 = some (r, σ)) (h2 : fX12_put σ a1 a2 a3 = some (r, σ)), ∃ r σ1 σ2, fX11_put σ a1 a2 a3 = some (r, σ1) ∧ fX12_put σ1 a1 a2 a3 = some (r, σ2) ∧ Inv σ2 := fun r h1 h2 => ⟨r, σ, σ, h1, h2, hI⟩
  rcases shelf_s I8 a1 with ⟨p1, p2, -, -⟩ | ⟨d, hd, rfl, ⟨p1, p2, -, -⟩ | ⟨⟨p1, p2, -, -⟩, -⟩ | ⟨⟨p1, p2, -, -⟩, -, -, -, so, n, hso, hn, k1, k2, k3, k4, k5⟩⟩
  · exact same (-1) (by unfold fX11_put; rw [p1]; rfl) (by unfold fX12_put; rw [p2]; rfl)
  · exact same (-11) (by unfold fX11_put; rw [p1]; rfl) (by unfold fX12_put; rw [p2]; rfl)
  · exact same (-12) (by unfold fX11_put; rw [p1]; rfl) (by unfold fX12_put; rw [p2]; rfl)
  · have i8 : vp_in (nI d) 8 := pk_in d 8 hd rfl (by omega)
    rcases place_s (σ := σ) hn k3 a2 with ⟨i, hi, rfl, q1, q2⟩ | ⟨-, q1, q2⟩
    · have fin : ∀ (v : Int32) (hv : so = 0 → v.toInt8.toInt32 = v) (e1 : fX4_cutToSort σ d a3 = some v) (e2 : ∀ τ : St, gI τ 12 18 d = nI so → (if gI τ 12 18 d = 0 then ck (vp_in (nI (100 * d + i)) 800) (nmv (sI τ 12 20 (nI (100 * d + i)).toNatClampNeg a3.toInt8.toInt32) fun σ15 => some ((0 : Int32), σ15)) else ck (vp_in (nI d) 8) (if gI τ 12 18 d = 1 then ck (vp_in (nI (100 * d + i)) 800) (nmv (sI τ 12 20 (nI (100 * d + i)).toNatClampNeg a3.toInt16.toInt32) fun σ13 => some (0, σ13)) else ck (vp_in (nI (100 * d + i)) 800) (nmv (sI τ 12 20 (nI (100 * d + i)).toNatClampNeg a3) fun σ11 => some (0, σ11)))) = some (0, sI τ 12 20 (100 * d + i) v)), ∃ r σ1 σ2, fX11_put σ (nI d) (nI i) a3 = some (r, σ1) ∧ fX12_put σ1 (nI d) (nI i) a3 = some (r, σ2) ∧ Inv σ2 := by
        intro v hv e1 e2
        refine ⟨0, sI σ 9 d i v, sI (sI σ 9 d i v) 12 20 (100 * d + i) v, ?_, ?_, ?_⟩
        · unfold fX11_put
          rw [p1, bd_s, if_pos (by decide), ck_t i8, nI_clamp (by omega), q1, bd_s, if_neg (by decide), e1, bd_s, ck_t (show vp_in (nI i) 100 from pk_in i 100 (by omega) rfl (by omega)), nI_clamp (by omega)]
          rfl
        · unfold fX12_put
          rw [show fX12_wrongRow (sI σ 9 d i v) (nI d) (-1) = some 0 from p2, bd_s, if_pos rfl, ck_t i8, nI_clamp (by omega), show gI (sI σ 9 d i v) 12 19 d = nI n from k4, show fX12_isIn (sI σ 9 d i v) (nI i) 0 (nI n - 1) = some 1 from q2, bd_s, if_neg (by decide), ck_t i8, cell_ix]
          exact e2 (sI σ 9 d i v) k2
        · obtain ⟨I1, I2, I3, I4, I5, I6, I7, -⟩ := hI
          refine ⟨I1, I2, ⟨I3.1, fun d' hd' b1 b2 i' hi' => ?_⟩, I4, I5, I6, I7, put_shf I8 (by omega)⟩
          show (upd (gI σ 12 20) (100 * d + i) v (100 * d' + i')).toInt8.toInt32 = upd (gI σ 12 20) (100 * d + i) v (100 * d' + i')
          by_cases e : 100 * d' + i' = 100 * d + i
          · have ed : d' = d := by omega
            subst ed
            rw [e, pk_us]
            exact hv ((nI_eq (by omega) (by omega)).mp (k2.symm.trans b2))
          · rw [pk_un e]
            exact I3.2 d' hd' b1 b2 i' hi'
      have c8 : vp_in (nI (100 * d + i)) 800 := in800 hd (by omega)
      rcases so with _ | _ | _ | so
      · refine fin a3.toInt8.toInt32 (fun _ => by simp) ?_ (fun τ e => ?_)
        · unfold fX4_cutToSort
          rw [k1]
          rfl
        · rw [e, if_pos (show nI 0 = 0 from rfl), ck_t c8, nI_clamp (by omega)]
          rfl
      · refine fin a3.toInt16.toInt32 (fun q => absurd q (by omega)) ?_ (fun τ e => ?_)
        · unfold fX4_cutToSort
          rw [k1]
          rfl
        · rw [e, if_neg (by decide), ck_t i8, if_pos (show nI (0 + 1) = 1 from rfl), ck_t c8, nI_clamp (by omega)]
          rfl
      · refine fin a3 (fun q => absurd q (by omega)) ?_ (fun τ e => ?_)
        · unfold fX4_cutToSort
          rw [k1]
          rfl
        · rw [e, if_neg (by decide), ck_t i8, if_neg (by decide), ck_t c8, nI_clamp (by omega)]
          rfl
      · omega
    · refine same (-13) ?_ ?_
      · unfold fX11_put
        rw [p1, bd_s, if_pos (by decide), ck_t i8, nI_clamp (by omega), q1]
        rfl
      · unfold fX12_put
        rw [p2, bd_s, if_pos rfl, ck_t i8, nI_clamp (by omega), k4, q2]
        rfl
