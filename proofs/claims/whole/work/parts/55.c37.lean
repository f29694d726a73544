/-- the split blades as bits, of the first i -/
def sbits (h : Hg) : Nat → Int32
  | 0 => 0
  | i + 1 => if h 2 i + h 3 i < h 4 i then sbits h i ||| ((1 : Int32) <<< (nI i &&& 31)) else sbits h i
/-- a sum of the first i -/
def sm (f : Nat → Nat) : Nat → Nat
  | 0 => 0
  | i + 1 => sm f i + f i
theorem splitB_c {σ : St} {x : Nat} {h : Hg} (hC : RelC σ x h) (hO : OkH h) : fX3_splitBits σ x = some (sbits h (h 0 0)) := by
  have h6 := hO.1
  refine loop_a (fun n i s => fX3_splitBits_L4 σ x (fun y9 => some y9) n s (nI i)) (h 0 0) (sbits h) _ (fun n i hi => ?_) (fun n => ?_) FU (FU_gt (by omega))
  · show fX3_splitBits_L4B σ x (fun y9 => some y9) (fX3_splitBits_L4 σ x (fun y9 => some y9) n) (sbits h i) (nI i) = _
    unfold fX3_splitBits_L4B fX3_splitBits_J26
    rw [hC.1, if_neg (nI_ge hi (by omega)), nI_1]
    rcases split_c hC hO hi with ⟨s1, s2⟩ | ⟨s1, s2⟩
    · rw [s2, show sbits h (i + 1) = sbits h i ||| ((1 : Int32) <<< (nI i &&& 31)) from if_pos s1]
      rfl
    · rw [s2, show sbits h (i + 1) = sbits h i from if_neg s1]
      rfl
  · show fX3_splitBits_L4B σ x (fun y9 => some y9) (fX3_splitBits_L4 σ x (fun y9 => some y9) n) (sbits h (h 0 0)) (nI (h 0 0)) = _
    unfold fX3_splitBits_L4B
    rw [hC.1, if_pos (nI_le (Nat.le_refl _) (by omega))]
theorem splitB_m {σ : St} {h : Hg} (hM : RelM σ 0 h) (hO : OkH h) : fX12_count_L46 σ (fun y15 => some y15) FU 0 0 = some (sbits h (h 0 0)) := by
  have h6 := hO.1
  have k0 : vp_in 0 47 := in47 (k := 0) (by omega)
  refine loop_a (fun n i s => fX12_count_L46 σ (fun y15 => some y15) n s (nI i)) (h 0 0) (sbits h) _ (fun n i hi => ?_) (fun n => ?_) FU (FU_gt (by omega))
  · show fX12_count_L46B σ (fun y9 => some y9) (fX12_count_L46 σ (fun y9 => some y9) n) (sbits h i) (nI i) = _
    unfold fX12_count_L46B fX12_count_J72
    rw [ck_t k0, show gI σ 12 0 (0 : Int32).toNatClampNeg = nI (h 0 0) from hM.1, if_neg (nI_ge hi (by omega)), nI_1]
    rcases split_m hM hO hi with ⟨s1, s2⟩ | ⟨s1, s2⟩
    · rw [s2, show sbits h (i + 1) = sbits h i ||| ((1 : Int32) <<< (nI i &&& 31)) from if_pos s1]
      rfl
    · rw [s2, show sbits h (i + 1) = sbits h i from if_neg s1, Int32.or_zero]
      rfl
  · show fX12_count_L46B σ (fun y9 => some y9) (fX12_count_L46 σ (fun y9 => some y9) n) (sbits h (h 0 0)) (nI (h 0 0)) = _
    unfold fX12_count_L46B
    rw [ck_t k0, show gI σ 12 0 (0 : Int32).toNatClampNeg = nI (h 0 0) from hM.1, if_pos (nI_le (Nat.le_refl _) (by omega))]
theorem sum_c {σ : St} {N n : Nat} {g : Nat → Int32} {f : Nat → Nat} (hn : n ≤ N) (hN : N < 100) (hg : ∀ b, b < n → g b = nI (f b)) : fX11_sumOf σ N g (nI n) = some (nI (sm f n)) := by
  refine loop_a (fun m i s => fX11_sumOf_L4 N g (nI n) (fun y8 => some y8) m s (nI i)) n (fun i => nI (sm f i)) _ (fun m i hi => ?_) (fun m => ?_) FU (FU_gt (by omega))
  · show fX11_sumOf_L4B N g (nI n) (fun y8 => some y8) (fX11_sumOf_L4 N g (nI n) (fun y8 => some y8) m) (nI (sm f i)) (nI i) = _
    unfold fX11_sumOf_L4B
    rw [if_neg (nI_ge hi (by omega)), if_neg (nI_ge (by omega) (by omega)), ck_t (pk_in i N (by omega) rfl (by omega)), nI_clamp (by omega), hg i hi, nmv_s, nmv_s, nI_1, nI_add]
    rfl
  · show fX11_sumOf_L4B N g (nI n) (fun y8 => some y8) (fX11_sumOf_L4 N g (nI n) (fun y8 => some y8) m) (nI (sm f n)) (nI n) = _
    unfold fX11_sumOf_L4B
    rw [if_pos (nI_le (Nat.le_refl _) (by omega))]
theorem sumW_m {σ : St} {h : Hg} (hM : RelM σ 0 h) (hO : OkH h) : fX12_count_L84 σ (fun y23 => some y23) FU 0 0 = some (nI (sm (h 4) (h 0 0))) := by
  have h6 := hO.1
  have k0 : vp_in 0 47 := in47 (k := 0) (by omega)
  refine loop_a (fun n i s => fX12_count_L84 σ (fun y15 => some y15) n s (nI i)) (h 0 0) (fun i => nI (sm (h 4) i)) _ (fun n i hi => ?_) (fun n => ?_) FU (FU_gt (by omega))
  · show fX12_count_L84B σ (fun y9 => some y9) (fX12_count_L84 σ (fun y9 => some y9) n) (nI (sm (h 4) i)) (nI i) = _
    unfold fX12_count_L84B
    rw [ck_t k0, show gI σ 12 0 (0 : Int32).toNatClampNeg = nI (h 0 0) from hM.1, if_neg (nI_ge hi (by omega)), nI_1, show fX12_bladeOf σ (nI i) 3 = some (nI (h 4 i)) from at_bl hM hO (w := 3) hi (by omega), bd_s, nmv_s, nmv_s, nI_add]
    rfl
  · show fX12_count_L84B σ (fun y9 => some y9) (fX12_count_L84 σ (fun y9 => some y9) n) (nI (sm (h 4) (h 0 0))) (nI (h 0 0)) = _
    unfold fX12_count_L84B
    rw [ck_t k0, show gI σ 12 0 (0 : Int32).toNatClampNeg = nI (h 0 0) from hM.1, if_pos (nI_le (Nat.le_refl _) (by omega))]
theorem sumG_m {σ : St} {h : Hg} (hM : RelM σ 0 h) (hO : OkH h) : fX12_count_L113 σ (fun y23 => some y23) FU 0 0 = some (nI (sm (h 6) (h 0 1))) := by
  have h6 := hO.2.1
  have k0 : vp_in 1 47 := in47 (k := 1) (by omega)
  refine loop_a (fun n i s => fX12_count_L113 σ (fun y15 => some y15) n s (nI i)) (h 0 1) (fun i => nI (sm (h 6) i)) _ (fun n i hi => ?_) (fun n => ?_) FU (FU_gt (by omega))
  · show fX12_count_L113B σ (fun y9 => some y9) (fX12_count_L113 σ (fun y9 => some y9) n) (nI (sm (h 6) i)) (nI i) = _
    unfold fX12_count_L113B
    rw [ck_t k0, show gI σ 12 0 (1 : Int32).toNatClampNeg = nI (h 0 1) from hM.2.1, if_neg (nI_ge hi (by omega)), nI_1, show fX12_atThumbs σ (nI i) 1 = some (nI (27 + 2 * i + 1)) from at_t (w := 1), bd_s, ck_t (in47 (by omega)), nI_clamp (by omega), (hM.2.2.2.2.1 i hi).2, nmv_s, nmv_s, nI_add]
    rfl
  · show fX12_count_L113B σ (fun y9 => some y9) (fX12_count_L113 σ (fun y9 => some y9) n) (nI (sm (h 6) (h 0 1))) (nI (h 0 1)) = _
    unfold fX12_count_L113B
    rw [ck_t k0, show gI σ 12 0 (1 : Int32).toNatClampNeg = nI (h 0 1) from hM.2.1, if_pos (nI_le (Nat.le_refl _) (by omega))]
/-- count -/
theorem case37 : Case37 Inv := by
  intro σ hI a1
  obtain ⟨⟨h, hO, hC, hM⟩, -⟩ := hI
  have h6 := hO.1
  have h4 := hO.2.1
  unfold fX11_count fX12_count
  rcases rng_s (σ := σ) (τ := σ) (M := 2) (n := 2) a1 (by omega) rfl with ⟨w, hw, rfl, p1, -⟩ | ⟨hne, p1, -⟩
  · rw [p1]
    rcases w with _ | _ | _ | w
    · exact ⟨nI (h 0 0), congrArg some hC.1, by rw [bd_s, if_neg (by decide), ck_t (in47 (by omega)), nI_clamp (by omega), hM.1]⟩
    · exact ⟨nI (h 0 1), congrArg some hC.2.1, by rw [bd_s, if_neg (by decide), ck_t (in47 (by omega)), nI_clamp (by omega), hM.2.1]⟩
    · exact ⟨nI (h 0 2), congrArg some hC.2.2.1, by rw [bd_s, if_neg (by decide), ck_t (in47 (by omega)), nI_clamp (by omega), hM.2.2.1]⟩
    · omega
  · rw [p1, bd_s, if_pos rfl, if_neg (show ¬ a1 = 0 from hne 0 (by omega)), if_neg (show ¬ a1 = 1 from hne 1 (by omega)), if_neg (show ¬ a1 = 2 from hne 2 (by omega))]
    by_cases e3 : a1 = 3
    · rw [if_pos e3, if_pos e3]
      exact ⟨sbits h (h 0 0), by rw [splitB_c hC hO]; rfl, splitB_m hM hO⟩
    · rw [if_neg e3, if_neg e3]
      by_cases e4 : a1 = 4
      · rw [if_pos e4, if_pos e4]
        exact ⟨nI (sm (h 4) (h 0 0)), by rw [hC.1, sum_c h6 (by omega) (fun b hb => (hC.2.2.2.1 b hb).2.2.2)]; rfl, sumW_m hM hO⟩
      · rw [if_neg e4, if_neg e4]
        by_cases e5 : a1 = 5
        · rw [if_pos e5, if_pos e5]
          exact ⟨nI (sm (h 6) (h 0 1)), by rw [hC.2.1, sum_c h4 (by omega) (fun b hb => (hC.2.2.2.2.1 b hb).2)]; rfl, sumG_m hM hO⟩
        · rw [if_neg e5, if_neg e5]
          exact ⟨-1, rfl, rfl⟩
