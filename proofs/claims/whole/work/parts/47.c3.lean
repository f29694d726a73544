/-- what a blow wears, by its kind, figure and the force -/
def wsp (kd fg f : Nat) : Nat := match kd with
  | 0 => f / 10
  | 1 => f / 10
  | 2 => f / 10 + 1
  | 3 => 2 * (f / 10 + 1)
  | 4 => f / 10 + fg
  | 5 => f / 10 + 1
  | 6 => 0
  | _ => f / 10 + 1
theorem wear_c {σ : St} {j kd fg f : Nat} (hb : Bl σ j kd fg) (hk : kd ≤ 7) (hf : f ≤ 60) : fvwearBy σ j (nI f) = some (nI (wsp kd fg f)) := by
  obtain ⟨-, hc, -, e⟩ := hb
  have e10 : nI f / 10 = nI (f / 10) := pk_div (d := 10) (by omega) (by omega) (by omega)
  have e2 : (2 : Int32) * nI (f / 10 + 1) = nI (2 * (f / 10 + 1)) := by
    show nI 2 * nI (f / 10 + 1) = _
    rw [pk_mul]
  unfold fvwearBy
  rw [hc]
  simp only [fX0_wearBy, fX5_wearBy, fX6_wearBy, fX7_wearBy, fX8_wearBy, fX10_wearBy, bd_s, e, e10, e2, nI_1, nI_add]
  rcases kd with _ | _ | _ | _ | _ | _ | _ | _ | kd <;> first | rfl | omega
theorem kind_m {τ : St} {h : Hg} (hM : RelM τ 0 h) (hO : OkH h) {k : Nat} (hk : k < h 0 2) : fX12_kind τ (nI k) = some (nI (h 7 k)) ∧ fX12_figure τ (nI k) = some (nI (h 8 k)) := by
  have h6 := hO.2.2.1
  obtain ⟨q1, q2⟩ := hM.2.2.2.2.2 k hk
  unfold fX12_kind fX12_figure
  rw [show fX12_atBlow τ (nI k) 0 = some (nI (35 + 2 * k)) from at_k (w := 0), show fX12_atBlow τ (nI k) 1 = some (nI (35 + 2 * k + 1)) from at_k (w := 1), bd_s, bd_s, ck_t (in47 (by omega)), ck_t (in47 (by omega)), nI_clamp (by omega), nI_clamp (by omega), q1, q2]
  exact ⟨rfl, rfl⟩
theorem wear_m {τ : St} {h : Hg} (hM : RelM τ 0 h) (hO : OkH h) {k f : Nat} (hk : k < h 0 2) (hf : f ≤ 60) : fX12_wears τ (nI k) (nI f) = some (nI (wsp (h 7 k) (h 8 k) f)) := by
  obtain ⟨k1, k2⟩ := kind_m hM hO hk
  have hk7 := (hO.2.2.2.2.2 k hk).1
  have e10 : nI f / 10 = nI (f / 10) := pk_div (d := 10) (by omega) (by omega) (by omega)
  have e2 : (2 : Int32) * (nI (f / 10) + 1) = nI (2 * (f / 10 + 1)) := by
    show nI 2 * (nI (f / 10) + nI 1) = _
    rw [nI_add, pk_mul]
  unfold fX12_wears
  rw [nmv_s, k1, k2, bd_s, bd_s, e10, e2, nI_1, nI_add]
  generalize h 7 k = kd at hk7 ⊢
  rcases kd with _ | _ | _ | _ | _ | _ | _ | _ | kd <;> first | rfl | omega
/-- blow -/
theorem case3 : Case3 Inv := by
  intro σ hI a1 a2
  obtain ⟨⟨h, hO, hC, hM⟩, -⟩ := hI
  have h6 := hO.2.2.1
  unfold fX11_blow fX12_blow
  rcases blow_s hC hM hO a1 with ⟨k, hk, rfl, p1, p2⟩ | ⟨-, p1, p2⟩
  · have i6 : vp_in (nI k) 6 := pk_in k 6 (by omega) rfl (by omega)
    obtain ⟨j, c1, c2⟩ := hC.2.2.2.2.2 k hk
    obtain ⟨q1, q2⟩ := hM.2.2.2.2.2 k hk
    have hb : j < gS σ 2 0 ∧ okc (gS σ 1 j) := ⟨c2.1, okc_of c2⟩
    have w1 : fvwearBy σ j 30 = some (nI (wsp (h 7 k) (h 8 k) 30)) := wear_c (f := 30) c2 (hO.2.2.2.2.2 k hk).1 (by omega)
    have w2 : fX12_wears σ (nI k) 30 = some (nI (wsp (h 7 k) (h 8 k) 30)) := wear_m (f := 30) hM hO hk (by omega)
    simp only [p1, p2, bd_s, ck_t i6, nI_clamp (show k < 2 ^ 31 by omega), c1, ck_t hb, c2.2.2.1, c2.2.2.2, w1, w2]
    rcases rng_s (σ := σ) (τ := σ) (M := 2) (n := 2) a2 (by omega) rfl with ⟨w, hw, rfl, r1, -⟩ | ⟨hne, r1, -⟩
    · rw [r1]
      rcases w with _ | _ | _ | w
      · refine ⟨nI (h 7 k), rfl, ?_⟩
        rw [show fX12_atBlow σ (nI k) (nI 0) = some (nI (35 + 2 * k)) from at_k (w := 0), bd_s, bd_s, ck_t (in47 (by omega)), nI_clamp (by omega), q1]
        rfl
      · refine ⟨nI (h 8 k), rfl, ?_⟩
        rw [show fX12_atBlow σ (nI k) (nI (0 + 1)) = some (nI (35 + 2 * k + 1)) from at_k (w := 1), bd_s, bd_s, ck_t (in47 (by omega)), nI_clamp (by omega), q2]
        rfl
      · exact ⟨_, rfl, rfl⟩
      · omega
    · rw [r1]
      refine ⟨-1, ?_, rfl⟩
      rw [if_neg (show ¬ (1 : Int32) = 0 by decide), if_neg (show ¬ a2 = 0 from hne 0 (by omega)), if_neg (show ¬ a2 = 1 from hne 1 (by omega)), if_neg (show ¬ a2 = 2 from hne 2 (by omega))]
  · rw [p1, p2]
    exact ⟨-1, rfl, rfl⟩
