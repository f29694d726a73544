theorem wsp_le {kd fg f : Nat} (h1 : fg ≤ 9) (h2 : f ≤ 60) : wsp kd fg f ≤ 15 := by
  unfold wsp
  split <;> omega
/-- blade b worn by w more -/
def weN (h : Hg) (b w : Nat) : Hg := up2 h 4 b (h 4 b + w)
theorem we_ok {h : Hg} (hO : OkH h) {b w : Nat} (hw : h 4 b + w ≤ 48) : OkH (weN h b w) := by
  obtain ⟨o0, o1, o2, o3, o4, o5⟩ := hO
  refine ⟨o0, o1, o2, fun b' hb' => ?_, o4, o5⟩
  obtain ⟨q1, q2, q3, q4⟩ := o3 b' hb'
  refine ⟨q1, q2, q3, ?_⟩
  unfold weN
  by_cases e : b' = b
  · subst e
    rw [up2_s]
    exact hw
  · rw [up2_n (fun q => e q.2)]
    exact q4
theorem we_c {σ : St} {x : Nat} {h : Hg} (hC : RelC σ x h) {b w : Nat} : RelC (sI σ 4 x b (nI (h 4 b + w))) x (weN h b w) := by
  obtain ⟨c0, c1, c2, c3, c4, c5⟩ := hC
  refine ⟨c0, c1, c2, fun b' hb' => ?_, c4, c5⟩
  obtain ⟨q1, q2, q3, q4⟩ := c3 b' hb'
  refine ⟨q1, q2, q3, ?_⟩
  rw [gsI_s]
  unfold weN
  by_cases e : b' = b
  · subst e
    rw [up2_s, pk_us]
  · rw [up2_n (fun q => e q.2), pk_un e]
    exact q4
theorem we_m {σ : St} {h : Hg} (hM : RelM σ 0 h) (hO : OkH h) {b w : Nat} (hb : b < h 0 0) : RelM (sI σ 12 0 (3 + 4 * b + 3) (nI (h 4 b + w))) 0 (weN h b w) := by
  have h6 := hO.1
  obtain ⟨c0, c1, c2, c3, c4, c5⟩ := hM
  have g : ∀ j, gI (sI σ 12 0 (3 + 4 * b + 3) (nI (h 4 b + w))) 12 0 j = upd (gI σ 12 0) (3 + 4 * b + 3) (nI (h 4 b + w)) j := fun j => rfl
  have h03 : h 0 0 = weN h b w 0 0 := rfl
  refine ⟨?_, ?_, ?_, fun b' hb' => ?_, fun t ht => ⟨?_, ?_⟩, fun k hk => ⟨?_, ?_⟩⟩
  · rw [g, pk_un (by omega)]; exact c0
  · rw [g, pk_un (by omega)]; exact c1
  · rw [g, pk_un (by omega)]; exact c2
  · obtain ⟨q1, q2, q3, q4⟩ := c3 b' hb'
    refine ⟨?_, ?_, ?_, ?_⟩
    · rw [g, pk_un (by omega)]; exact q1
    · rw [g, pk_un (by omega)]; exact q2
    · rw [g, pk_un (by omega)]; exact q3
    · rw [g]
      unfold weN
      by_cases e : b' = b
      · subst e
        rw [up2_s, pk_us]
      · rw [up2_n (fun q => e q.2), pk_un (by omega)]
        exact q4
  · rw [g, pk_un (by omega)]; exact (c4 t ht).1
  · rw [g, pk_un (by omega)]; exact (c4 t ht).2
  · rw [g, pk_un (by omega)]; exact (c5 k hk).1
  · rw [g, pk_un (by omega)]; exact (c5 k hk).2
/-- whether a try sounds; whether the blade is split -/
def sndN (h : Hg) (b t k v f : Nat) : Nat := if (zLO 3 h b t k ≤ v ∧ v ≤ zHI 3 h b t k ∧ v ≤ zGR 3 h t) ∧ zSO 3 h t k ≤ f ∧ f ≤ zHA 3 h t k then 1 else 0
def splN (h : Hg) (b : Nat) : Nat := if h 2 b + h 3 b < h 4 b then 1 else 0
theorem splN_c {σ : St} {x : Nat} {h : Hg} (hC : RelC σ x h) (hO : OkH h) {b : Nat} (hb : b < h 0 0) : fX3_isSplit σ x (nI b) = some (nI (splN h b)) := by
  unfold splN
  rcases split_c hC hO hb with ⟨s1, s2⟩ | ⟨s1, s2⟩
  · rw [s2, if_pos (show h 2 b + h 3 b < h 4 b from s1)]; rfl
  · rw [s2, if_neg (show ¬ h 2 b + h 3 b < h 4 b from s1)]; rfl
theorem splN_m {σ : St} {h : Hg} (hM : RelM σ 0 h) (hO : OkH h) {b : Nat} (hb : b < h 0 0) : fX12_isSplit σ (nI b) = some (nI (splN h b)) := by
  unfold splN
  rcases split_m hM hO hb with ⟨s1, s2⟩ | ⟨s1, s2⟩
  · rw [s2, if_pos (show h 2 b + h 3 b < h 4 b from s1)]; rfl
  · rw [s2, if_neg (show ¬ h 2 b + h 3 b < h 4 b from s1)]; rfl
theorem splN_01 (h : Hg) (b : Nat) : splN h b = 0 ∨ splN h b = 1 := by
  unfold splN
  split
  · exact Or.inr rfl
  · exact Or.inl rfl
theorem sndN_01 (h : Hg) (b t k v f : Nat) : sndN h b t k v f = 0 ∨ sndN h b t k v f = 1 := by
  unfold sndN
  split
  · exact Or.inr rfl
  · exact Or.inl rfl
theorem blowOnce_c {σ : St} {x : Nat} {h : Hg} (hC : RelC σ x h) (hO : OkH h) {b t k v f : Nat} (hb : b < h 0 0) (ht : t < h 0 1) (hk : k < h 0 2) (hv : v ≤ 60) (hf : f ≤ 60) (hs : h 4 b ≤ h 2 b + h 3 b) : fX3_blowOnce σ x (nI b) (nI t) (nI k) (nI v) (nI f) = some (nI (sndN h b t k v f), zSPN (sI σ 4 x b (nI (h 4 b + wsp (h 7 k) (h 8 k) f))) x (weN h b (wsp (h 7 k) (h 8 k) f)) b t k) := by
  obtain ⟨j, c1, hj⟩ := hC.2.2.2.2.2 k hk
  have o6 := hO.1
  have o2 := hO.2.2.1
  have b6 := in6 (show b < 6 by omega)
  have k6 := in6 (show k < 6 by omega)
  have okj : j < gS σ 2 0 ∧ okc (gS σ 1 j) := ⟨hj.1, okc_of hj⟩
  have wl : wsp (h 7 k) (h 8 k) f ≤ 15 := wsp_le (hO.2.2.2.2.2 k hk).2 hf
  obtain ⟨-, ⟨-, q1⟩, q2, -⟩ := hO.2.2.2.1 b hb
  obtain ⟨l1, l2, l3, l4, l5, l6, l7, l8, l9⟩ := okS (hp := 3) hO hb ht hk
  have hO' : OkH (weN h b (wsp (h 7 k) (h 8 k) f)) := we_ok hO (by omega)
  unfold fX3_blowOnce
  rw [ck_t b6, ck_t k6, nI_clamp (by omega), nI_clamp (by omega), c1, bd_s, ck_t okj, wear_c hj (hO.2.2.2.2.2 k hk).1 hf, bd_s, ck_t b6, (hC.2.2.2.1 b hb).2.2.2, nI_add, nmv_s, spanOf_c (we_c hC) hO' hb ht hk, bd_s]
  have hw : fX9_wrongBits (zSPN (sI σ 4 x b (nI (h 4 b + wsp (h 7 k) (h 8 k) f))) x (weN h b (wsp (h 7 k) (h 8 k) f)) b t k) x (nI v) (nI f) = some (wb (zLO 3 h b t k) (zHI 3 h b t k) (zGR 3 h t) (zSO 3 h t k) (zHA 3 h t k) v f) := wrong_c (lo := zLO 3 h b t k) (hi := zHI 3 h b t k) (gr := zGR 3 h t) (so := zSO 3 h t k) (ha := zHA 3 h t k) (by omega) (by omega) (by omega) (by omega) (by omega) (by omega) (by omega)
  rw [hw, bd_s]
  unfold sndN
  by_cases s : (zLO 3 h b t k ≤ v ∧ v ≤ zHI 3 h b t k ∧ v ≤ zGR 3 h t) ∧ zSO 3 h t k ≤ f ∧ f ≤ zHA 3 h t k
  · rw [if_pos (wb_0.mpr s), if_pos s]
    rfl
  · rw [if_neg (fun q => s (wb_0.mp q)), if_neg s]
    rfl
theorem sndN_m {τ : St} {h : Hg} (hM : RelM τ 0 h) (hO : OkH h) (hh : gI τ 11 0 4 = nI 3) {b t k v f : Nat} (hb : b < h 0 0) (ht : t < h 0 1) (hk : k < h 0 2) (hv : v ≤ 60) (hf : f ≤ 60) : fX12_isSound τ (nI b) (nI t) (nI k) (nI v) (nI f) = some (nI (sndN h b t k v f)) := by
  unfold sndN
  rcases sound_m (v := v) (f := f) hM hO hh (by omega) hb ht hk (by omega) (by omega) with ⟨s1, s2⟩ | ⟨s1, s2⟩
  · rw [s2, if_pos (show (zLO 3 h b t k ≤ v ∧ v ≤ zHI 3 h b t k ∧ v ≤ zGR 3 h t) ∧ zSO 3 h t k ≤ f ∧ f ≤ zHA 3 h t k from s1)]; rfl
  · rw [s2, if_neg (show ¬ ((zLO 3 h b t k ≤ v ∧ v ≤ zHI 3 h b t k ∧ v ≤ zGR 3 h t) ∧ zSO 3 h t k ≤ f ∧ f ≤ zHA 3 h t k) from s1)]; rfl
/-- the model's try with a blade that is not split -/
theorem tries_m {τ : St} {h : Hg} (hM : RelM τ 0 h) (hO : OkH h) (hh : gI τ 11 0 4 = nI 3) {b t k v f : Nat} (hb : b < h 0 0) (ht : t < h 0 1) (hk : k < h 0 2) (hv : v ≤ 60) (hf : f ≤ 60) (ptold : fX12_isTold τ (nI b) (nI t) (nI k) (nI v) (nI f) = some 1) (hs : h 4 b ≤ h 2 b + h 3 b) : fX12_tries τ (nI b) (nI t) (nI k) (nI v) (nI f) = some (nI (sndN h b t k v f + 2 * splN (weN h b (wsp (h 7 k) (h 8 k) f)) b), sI τ 12 0 (3 + 4 * b + 3) (nI (h 4 b + wsp (h 7 k) (h 8 k) f))) := by
  have o6 := hO.1
  have wl : wsp (h 7 k) (h 8 k) f ≤ 15 := wsp_le (hO.2.2.2.2.2 k hk).2 hf
  obtain ⟨-, ⟨-, q1⟩, q2, -⟩ := hO.2.2.2.1 b hb
  have hO' : OkH (weN h b (wsp (h 7 k) (h 8 k) f)) := we_ok hO (by omega)
  have hM' : RelM (sI τ 12 0 (3 + 4 * b + 3) (nI (h 4 b + wsp (h 7 k) (h 8 k) f))) 0 (weN h b (wsp (h 7 k) (h 8 k) f)) := we_m hM hO hb
  have e : (3 : Int32) + 4 * nI b + 3 = nI (3 + 4 * b + 3) := by
    show nI 3 + nI 4 * nI b + nI 3 = _
    rw [pk_mul, nI_add, nI_add]
  have s0 : splN h b = 0 := if_neg (by omega)
  unfold fX12_tries fX12_atBlade
  rw [ptold, bd_s, if_neg (by decide), splN_m hM hO hb, s0, bd_s, if_pos nI_0, bd_s, e, ck_t (in47 (by omega)), wear_m hM hO hk hf, bd_s, ck_t (in47 (by omega)), nI_clamp (by omega), (hM.2.2.2.1 b hb).2.2.2, nI_add, nmv_s, show fX12_isSound (sI τ 12 0 (3 + 4 * b + 3) (nI (h 4 b + wsp (h 7 k) (h 8 k) f))) (nI b) (nI t) (nI k) (nI v) (nI f) = some (nI (sndN h b t k v f)) from sndN_m hM' hO' hh hb ht hk hv hf, bd_s]
  have J : ∀ z : Nat, fX12_tries_J66 (nI b) (nI z) (sI τ 12 0 (3 + 4 * b + 3) (nI (h 4 b + wsp (h 7 k) (h 8 k) f))) = some (nI (z + 2 * splN (weN h b (wsp (h 7 k) (h 8 k) f)) b), sI τ 12 0 (3 + 4 * b + 3) (nI (h 4 b + wsp (h 7 k) (h 8 k) f))) := by
    intro z
    unfold fX12_tries_J66
    rw [splN_m hM' hO' hb, bd_s]
    rcases splN_01 (weN h b (wsp (h 7 k) (h 8 k) f)) b with q | q
    · rw [q, if_pos nI_0, show nI z + 0 = nI (z + 0) from nI_add z 0]
    · rw [q, if_neg (by decide), show nI z + 2 = nI (z + 2) from nI_add z 2]
  rcases sndN_01 h b t k v f with q | q
  · rw [q, if_pos nI_0]
    exact J 0
  · rw [q, if_neg (by decide)]
    exact J 1
/-- tries -/
theorem case11 : Case11 Inv := by
  intro σ hI a1 a2 a3 a4 a5
  obtain ⟨⟨h, hO, hC, hM⟩, ⟨h1', O1, C1, M1⟩, I3, I4, I5, I6, I7, I8⟩ := id hI
  unfold fX11_tries
  rcases told_s hC hM hO a1 a2 a3 a4 a5 with ⟨b, t, k, v, f, hb, ht, hk, hv, hf, rfl, rfl, rfl, rfl, rfl, p1, p2, p3, p4⟩ | ⟨p1, p4⟩
  · by_cases hs : h 4 b ≤ h 2 b + h 3 b
    · have s0 : splN h b = 0 := if_neg (by omega)
      have wl : wsp (h 7 k) (h 8 k) f ≤ 15 := wsp_le (hO.2.2.2.2.2 k hk).2 hf
      obtain ⟨-, ⟨-, q1⟩, q2, -⟩ := hO.2.2.2.1 b hb
      have hO' : OkH (weN h b (wsp (h 7 k) (h 8 k) f)) := we_ok hO (by omega)
      have hC' : RelC (zSPN (sI σ 4 0 b (nI (h 4 b + wsp (h 7 k) (h 8 k) f))) 0 (weN h b (wsp (h 7 k) (h 8 k) f)) b t k) 0 (weN h b (wsp (h 7 k) (h 8 k) f)) := we_c hC
      have hM1 : RelM (zSPN (sI σ 4 0 b (nI (h 4 b + wsp (h 7 k) (h 8 k) f))) 0 (weN h b (wsp (h 7 k) (h 8 k) f)) b t k) 0 h := hM
      refine ⟨nI (sndN h b t k v f + 2 * splN (weN h b (wsp (h 7 k) (h 8 k) f)) b), zSPN (sI σ 4 0 b (nI (h 4 b + wsp (h 7 k) (h 8 k) f))) 0 (weN h b (wsp (h 7 k) (h 8 k) f)) b t k, sI (zSPN (sI σ 4 0 b (nI (h 4 b + wsp (h 7 k) (h 8 k) f))) 0 (weN h b (wsp (h 7 k) (h 8 k) f)) b t k) 12 0 (3 + 4 * b + 3) (nI (h 4 b + wsp (h 7 k) (h 8 k) f)), ?_, ?_, ?_⟩
      · rw [p1, bd_s, if_neg (by decide), p2, bd_s, if_pos rfl, p3, bd_s, if_pos rfl, splN_c hC hO hb, s0, bd_s, if_pos nI_0, blowOnce_c hC hO hb ht hk hv hf hs, bd_s, splN_c hC' hO' hb, bd_s]
        rcases splN_01 (weN h b (wsp (h 7 k) (h 8 k) f)) b with q | q
        · rw [q, if_pos nI_0]
          rfl
        · rw [q, if_neg (by decide), show nI (sndN h b t k v f) + 2 = nI (sndN h b t k v f + 2) from nI_add _ 2]
      · exact tries_m hM1 hO I4 hb ht hk hv hf p4 hs
      · exact ⟨⟨weN h b (wsp (h 7 k) (h 8 k) f), hO', hC', we_m hM1 hO hb⟩, ⟨h1', O1, C1, M1⟩, I3, I4, I5, I6, I7, I8⟩
    · have s1 : splN h b = 1 := if_pos (by omega)
      refine ⟨-3, σ, σ, ?_, ?_, hI⟩
      · rw [p1, bd_s, if_neg (by decide), p2, bd_s, if_pos rfl, p3, bd_s, if_pos rfl, splN_c hC hO hb, s1, bd_s, if_neg (by decide)]
      · unfold fX12_tries
        rw [p4, bd_s, if_neg (by decide), splN_m hM hO hb, s1, bd_s, if_neg (by decide)]
  · refine ⟨-1, σ, σ, ?_, by unfold fX12_tries; rw [p4]; rfl, hI⟩
    rcases p1 with p1 | ⟨p1, p2 | ⟨p2, p3⟩⟩
    · rw [p1]; rfl
    · rw [p1, p2]; rfl
    · rw [p1, p2, p3]; rfl
