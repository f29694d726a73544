/-- the pitch, by kind, figure, breadth, tightness, cup -/
def psp (kd : Nat) (fg br t c : Int32) : Int32 := match kd with
  | 3 => 60 - br + t + 12
  | 4 => 60 - br + t + fg
  | 5 => 60 - br + t - c
  | 6 => 60 - br + t - c
  | _ => 60 - br + t
theorem pitch_c {σ : St} {j kd fg : Nat} (hb : Bl σ j kd fg) (hk : kd ≤ 7) (br t c : Int32) : fvpitchAt σ j br t c = some (psp kd (nI fg) br t c) := by
  obtain ⟨-, hc, -, e⟩ := hb
  unfold fvpitchAt
  rw [hc]
  simp only [fX0_pitchAt, fX1_pitchAt, fX5_pitchAt, fX10_pitchAt, bd_s, e]
  rcases kd with _ | _ | _ | _ | _ | _ | _ | _ | kd <;> first | rfl | omega
theorem pitch_m {τ : St} {h : Hg} (hM : RelM τ 0 h) (hO : OkH h) {b k : Nat} (hb : b < h 0 0) (hk : k < h 0 2) (t c : Int32) : fX12_pitchOf τ (nI b) (nI k) t c = some (psp (h 7 k) (nI (h 8 k)) (nI (h 1 b)) t c) := by
  obtain ⟨k1, k2⟩ := kind_m hM hO hk
  have hk7 := (hO.2.2.2.2.2 k hk).1
  unfold fX12_pitchOf
  rw [show fX12_bladeOf τ (nI b) 0 = some (nI (h 1 b)) from at_bl hM hO (w := 0) hb (by omega), k1, k2, bd_s, nmv_s, bd_s, bd_s]
  generalize h 7 k = kd at hk7 ⊢
  rcases kd with _ | _ | _ | _ | _ | _ | _ | _ | kd <;> first | rfl | omega
/-- pitch -/
theorem case10 : Case10 Inv := by
  intro σ hI a1 a2 a3 a4
  obtain ⟨⟨h, hO, hC, hM⟩, -⟩ := hI
  have h6 := hO.1
  have h7 := hO.2.2.1
  unfold fX11_pitch fX12_pitch
  rcases blade_s hC hM hO a1 with ⟨b, hb, rfl, p1, p2⟩ | ⟨-, p1, p2⟩
  · rcases blow_s hC hM hO a2 with ⟨k, hk, rfl, q1, q2⟩ | ⟨-, q1, q2⟩
    · rcases force_s (σ := σ) (τ := σ) a3 with ⟨t, ht, rfl, r1, r2⟩ | ⟨-, r1, r2⟩
      · rcases rng_s (σ := σ) (τ := σ) (M := 9) (n := 9) a4 (by omega) rfl with ⟨c, hc, rfl, s1, s2⟩ | ⟨-, s1, s2⟩
        · obtain ⟨j, c1, c2⟩ := hC.2.2.2.2.2 k hk
          refine ⟨psp (h 7 k) (nI (h 8 k)) (nI (h 1 b)) (nI t) (nI c), ?_, ?_⟩
          · rw [p1, bd_s, if_neg (by decide), q1, bd_s, if_neg (by decide), r2, bd_s, if_pos rfl, s2, bd_s, if_pos rfl, ck_t (show vp_in (nI k) 6 from pk_in k 6 (by omega) rfl (by omega)), nI_clamp (by omega), c1, bd_s, ck_t ⟨c2.1, okc_of c2⟩, ck_t (show vp_in (nI b) 6 from pk_in b 6 (by omega) rfl (by omega)), nI_clamp (by omega), (hC.2.2.2.1 b hb).1, pitch_c c2 (hO.2.2.2.2.2 k hk).1]
            rfl
          · rw [p2, bd_s, if_neg (by decide), q2, bd_s, if_neg (by decide), r1, bd_s, if_neg (by decide), s1, bd_s, if_neg (by decide), pitch_m hM hO hb hk]
            rfl
        · rw [p1, p2, q1, q2, r1, r2, s1, s2]
          exact ⟨1000000001, rfl, rfl⟩
      · rw [p1, p2, q1, q2, r1, r2]
        exact ⟨1000000001, rfl, rfl⟩
    · rw [p1, p2, q1, q2]
      exact ⟨1000000001, rfl, rfl⟩
  · rw [p1, p2]
    exact ⟨1000000001, rfl, rfl⟩
