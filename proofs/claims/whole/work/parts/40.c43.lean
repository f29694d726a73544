theorem okc_of {σ : St} {j kd fg : Nat} (h : Bl σ j kd fg) : okc (gS σ 1 j) := by
  rw [h.2.1]
  unfold clsOf okc
  split <;> omega
theorem cost_s {σ τ : St} {j kd fg : Nat} (h : Bl σ j kd fg) (hk : kd ≤ 7) (hf : fg ≤ 9) : ∃ r, fvcosts σ j = some r ∧ fX12_costBy τ (nI kd) (nI fg) = some r := by
  obtain ⟨-, hc, -, e⟩ := h
  unfold fvcosts fX12_costBy
  rw [hc]
  simp only [fX0_costs, fX1_costs, fX2_costs, fX5_costs, fX6_costs, fX7_costs, fX8_costs, fX10_costs, bd_s, e]
  rcases kd with _ | _ | _ | _ | _ | _ | _ | _ | kd
  · exact ⟨_, rfl, rfl⟩
  · exact ⟨_, rfl, rfl⟩
  · exact ⟨_, rfl, rfl⟩
  · exact ⟨_, rfl, rfl⟩
  · exact ⟨_, rfl, rfl⟩
  · rcases fg with _ | _ | _ | _ | _ | _ | _ | _ | _ | _ | fg <;> first | exact ⟨_, rfl, rfl⟩ | omega
  · rcases fg with _ | _ | _ | _ | _ | _ | _ | _ | _ | _ | fg <;> first | exact ⟨_, rfl, rfl⟩ | omega
  · rcases fg with _ | _ | _ | _ | _ | _ | _ | _ | _ | _ | fg <;> first | exact ⟨_, rfl, rfl⟩ | omega
  · omega
/-- cost -/
theorem case43 : Case43 Inv := by
  intro σ hI a1
  have I8 := hI.2.2.2.2.2.2.2
  unfold fX11_cost fX12_cost
  rcases shelf_s I8 a1 with ⟨-, -, p1, p2⟩ | ⟨d, hd, rfl, ⟨-, -, p1, p2⟩ | ⟨⟨-, -, p1, p2⟩, j, kd, fg, k1, k2, k3, k4, k5, k6⟩ | ⟨⟨-, -, p1, p2⟩, -⟩⟩
  · rw [p1, p2]
    exact ⟨-1, rfl, rfl⟩
  · rw [p1, p2]
    exact ⟨-11, rfl, rfl⟩
  · have i8 : vp_in (nI d) 8 := pk_in d 8 hd rfl (by omega)
    obtain ⟨r, r1, r2⟩ := cost_s (τ := σ) k2 k3 k4
    refine ⟨r, ?_, ?_⟩
    · rw [p1, bd_s, if_pos (by decide), ck_t i8, nI_clamp (by omega), k1, bd_s, ck_t ⟨k2.1, okc_of k2⟩, r1]
      rfl
    · rw [p2, bd_s, if_pos rfl, ck_t i8, ck_t i8, nI_clamp (by omega), k5, k6, r2]
      rfl
  · rw [p1, p2]
    exact ⟨-12, rfl, rfl⟩
