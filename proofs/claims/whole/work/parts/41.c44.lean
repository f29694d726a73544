theorem sounding_s {σ : St} {kd : Nat} (hk : kd ≤ 7) : fX12_isSounding σ (nI kd) = some (if kd = 2 ∨ kd = 3 ∨ kd = 5 ∨ kd = 6 then 1 else 0) := by
  unfold fX12_isSounding
  rcases kd with _ | _ | _ | _ | _ | _ | _ | _ | kd <;> first | rfl | omega
theorem toss_s {σ : St} {j kd fg : Nat} (h : Bl σ j kd fg) (hk : kd ≤ 7) (hf : fg ≤ 9) : ∃ r, (if gS σ 1 j = 2 then some (-15) else if gS σ 1 j = 6 then some (-15) else if gI σ 14 0 j = 0 then some (-15) else if gS σ 1 j = 0 then some (gI σ 14 0 j) else if gS σ 1 j = 10 then some (gI σ 14 0 j) else if gS σ 1 j = 5 then (bd (fvcosts σ j) fun r2 => some (200 + r2)) else some (100 + gI σ 14 0 j)) = some r ∧ (if nI kd = 1 then some (-15) else if nI kd = 7 then some (-15) else if nI fg = 0 then some (-15) else if nI kd = 3 then bd (fX12_costBy σ (nI kd) (nI fg)) fun r13 => some (200 + r13) else bd (fX12_isSounding σ (nI kd)) fun r11 => if r11 = 0 then some (nI fg) else some (100 + nI fg)) = some r := by
  obtain ⟨c, e1, e2⟩ := cost_s (τ := σ) h hk hf
  rw [e1, e2, sounding_s hk, h.2.1, h.2.2.2]
  by_cases h0 : fg = 0
  · subst h0
    rcases kd with _ | _ | _ | _ | _ | _ | _ | _ | kd <;> first | exact ⟨_, rfl, rfl⟩ | omega
  · have hz : ¬ nI fg = 0 := nI_ne0 (by omega) (by omega)
    rw [if_neg hz, if_neg hz]
    rcases kd with _ | _ | _ | _ | _ | _ | _ | _ | kd <;> first | exact ⟨_, rfl, rfl⟩ | omega
/-- toss -/
theorem case44 : Case44 Inv := by
  intro σ hI a1
  have I8 := hI.2.2.2.2.2.2.2
  unfold fX11_toss fX12_toss
  rcases shelf_s I8 a1 with ⟨-, -, p1, p2⟩ | ⟨d, hd, rfl, ⟨-, -, p1, p2⟩ | ⟨⟨-, -, p1, p2⟩, j, kd, fg, k1, k2, k3, k4, k5, k6⟩ | ⟨⟨-, -, p1, p2⟩, -⟩⟩
  · rw [p1, p2]
    exact ⟨-1, rfl, rfl⟩
  · rw [p1, p2]
    exact ⟨-11, rfl, rfl⟩
  · have i8 : vp_in (nI d) 8 := pk_in d 8 hd rfl (by omega)
    obtain ⟨r, r1, r2⟩ := toss_s k2 k3 k4
    refine ⟨r, ?_, ?_⟩
    · rw [p1, bd_s, if_pos (by decide), ck_t i8, nI_clamp (by omega), k1, bd_s, ck_t ⟨k2.1, okc_of k2⟩]
      exact r1
    · rw [p2, bd_s, if_pos rfl, ck_t i8, nmv_s, ck_t i8, nmv_s, nI_clamp (by omega), k5, k6]
      exact r2
  · rw [p1, p2]
    exact ⟨-12, rfl, rfl⟩
