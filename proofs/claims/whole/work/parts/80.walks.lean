/-- the next seed; what is drawn from a seed -/
def nx (s : Int32) : Int32 := s * 1103515245 + 12345
def vN (s : Int32) : Nat := ((s &&& 2147483647) / 65536).toNatClampNeg
theorem vN_s (s : Int32) : (s &&& 2147483647) / 65536 = nI (vN s) ∧ vN s < 32768 := by
  obtain ⟨j, hj, e⟩ := pk_andE s (m := 2147483647) 31 (by decide)
  have e2 : (s &&& 2147483647) / 65536 = nI (j / 65536) := by
    rw [e]
    exact pk_div (d := 65536) hj (by omega) (by omega)
  unfold vN
  rw [e2, nI_clamp (by omega)]
  exact ⟨rfl, by omega⟩
theorem sI_sI {σ : St} {c i j : Nat} {v w : Int32} : sI (sI σ c i j v) c i j w = sI σ c i j w := by
  show sA (sA σ c i _) c i (upd (gI (sA σ c i _) c i) j w) = _
  rw [sA_sA, gsA_s]
  unfold sI
  congr 1
  funext k
  unfold upd
  by_cases h : k = j
  · rw [if_pos h, if_pos h]
  · rw [if_neg h, if_neg h, if_neg h]
theorem draw_c {τ : St} {n : Nat} (h0 : 0 < n) (hn : n < 1000) : fX11_draw τ (nI n) = some (nI (vN (nx (gI τ 10 0 7)) % n), sI τ 10 0 7 (nx (gI τ 10 0 7))) := by
  obtain ⟨e, l⟩ := vN_s (nx (gI τ 10 0 7))
  unfold fX11_draw
  rw [nmv_s, gsI_s, pk_us, show gI τ 10 0 7 * 1103515245 + 12345 = nx (gI τ 10 0 7) from rfl, e, nmv_s, if_pos (show (0 : Int32) < nI n from nI_lt (a := 0) h0 (by omega)), ck_t (nI_ne0 h0 (by omega)), pk_rem (by omega) h0 (by omega)]
theorem drawn_m {τ : St} {n : Nat} (h0 : 0 < n) (hn : n < 1000) : fX12_drawn τ (nI n) = some (nI (vN (nx (gI τ 11 0 14)) % n), sI τ 11 0 14 (nx (gI τ 11 0 14))) := by
  obtain ⟨e, l⟩ := vN_s (nx (gI τ 11 0 14))
  unfold fX12_drawn
  rw [nmv_s, gsI_s, pk_us, show gI τ 11 0 14 * 1103515245 + 12345 = nx (gI τ 11 0 14) from rfl, e, ck_t (nI_ne0 h0 (by omega)), pk_rem (by omega) h0 (by omega)]
/-- one try of a walk from seed s with hedge p: the hedge after; whether it sounds -/
def trB (s : Int32) (p : Hg) : Nat := vN (nx s) % p 0 0
def trT (s : Int32) (p : Hg) : Nat := vN (nx (nx s)) % p 0 1
def trK (s : Int32) (p : Hg) : Nat := vN (nx (nx (nx s))) % p 0 2
def trV (s : Int32) : Nat := vN (nx (nx (nx (nx s)))) % 61
def trF (s : Int32) : Nat := vN (nx (nx (nx (nx (nx s))))) % 61
def trH (s : Int32) (p : Hg) : Hg := if splN p (trB s p) = 0 then weN p (trB s p) (wsp (p 7 (trK s p)) (p 8 (trK s p)) (trF s)) else p
def trN (s : Int32) (p : Hg) : Nat := if splN p (trB s p) = 0 then sndN p (trB s p) (trT s p) (trK s p) (trV s) (trF s) else 0
/-- one walk: the seed, the hedge, how many sounded, after i tries -/
def wkS (s : Int32) (h : Hg) : Nat → Int32 × Hg × Nat
  | 0 => (s, h, 0)
  | i + 1 => (nx (nx (nx (nx (nx (wkS s h i).1)))), trH (wkS s h i).1 (wkS s h i).2.1, (wkS s h i).2.2 + trN (wkS s h i).1 (wkS s h i).2.1)
/-- the walks: the seed, how many sounded, how many split, after i walks -/
def wlS (z : Int32) (h : Hg) : Nat → Int32 × Nat × Nat
  | 0 => (z, 0, 0)
  | i + 1 => ((wkS (wlS z h i).1 h 10).1, (wlS z h i).2.1 + (wkS (wlS z h i).1 h 10).2.2, (wlS z h i).2.2 + sm (splN (wkS (wlS z h i).1 h 10).2.1) (h 0 0))
/-- a hedge in its bounds with as many blades, thumbs, blows, all there -/
def OkW (h p : Hg) : Prop := OkH p ∧ p 0 0 = h 0 0 ∧ p 0 1 = h 0 1 ∧ p 0 2 = h 0 2 ∧ 0 < p 0 0 ∧ 0 < p 0 1 ∧ 0 < p 0 2
theorem tr_lt {h p : Hg} (hw : OkW h p) (s : Int32) : trB s p < p 0 0 ∧ trT s p < p 0 1 ∧ trK s p < p 0 2 ∧ trV s ≤ 60 ∧ trF s ≤ 60 := by
  obtain ⟨-, -, -, -, h1, h2, h3⟩ := hw
  refine ⟨Nat.mod_lt _ h1, Nat.mod_lt _ h2, Nat.mod_lt _ h3, ?_, ?_⟩
  · have := Nat.mod_lt (vN (nx (nx (nx (nx s))))) (show 0 < 61 by omega)
    unfold trV
    omega
  · have := Nat.mod_lt (vN (nx (nx (nx (nx (nx s)))))) (show 0 < 61 by omega)
    unfold trF
    omega
theorem spl_le {p : Hg} {b : Nat} (h : splN p b = 0) : p 4 b ≤ p 2 b + p 3 b := by
  unfold splN at h
  by_cases c : p 2 b + p 3 b < p 4 b
  · rw [if_pos c] at h
    omega
  · omega
theorem trH_ok {h p : Hg} (hw : OkW h p) (s : Int32) : OkW h (trH s p) := by
  obtain ⟨l1, l2, l3, l4, l5⟩ := tr_lt hw s
  obtain ⟨hO, e1, e2, e3, h1, h2, h3⟩ := hw
  unfold trH
  by_cases c : splN p (trB s p) = 0
  · rw [if_pos c]
    have wl : wsp (p 7 (trK s p)) (p 8 (trK s p)) (trF s) ≤ 15 := wsp_le (hO.2.2.2.2.2 _ l3).2 l5
    obtain ⟨-, ⟨-, q1⟩, q2, -⟩ := hO.2.2.2.1 _ l1
    have := spl_le c
    exact ⟨we_ok hO (by omega), e1, e2, e3, h1, h2, h3⟩
  · rw [if_neg c]
    exact ⟨hO, e1, e2, e3, h1, h2, h3⟩
theorem wkS_ok {h : Hg} (hw : OkW h h) (s : Int32) : ∀ i, OkW h (wkS s h i).2.1 := by
  intro i
  induction i with
  | zero => exact hw
  | succ i ih => exact trH_ok ih _
/-- σ' is σ but for hedge 2 and the seed -/
def Sp3 (σ σ' : St) : Prop := (∀ c i, ¬ (c ≤ 7 ∧ i = 2) → ¬ (c = 10 ∧ i = 0) → gI σ' c i = gI σ c i) ∧ (∀ j, j ≠ 7 → gI σ' 10 0 j = gI σ 10 0 j) ∧ (∀ c i, ¬ (c = 0 ∧ i = 2) → gR σ' c i = gR σ c i) ∧ gS σ' = gS σ ∧ RefsOk σ'
theorem Sp3_refl {σ : St} (hR : RefsOk σ) : Sp3 σ σ := ⟨fun _ _ _ _ => rfl, fun _ _ => rfl, fun _ _ _ => rfl, rfl, hR⟩
theorem Sp3_of2 {σ τ υ : St} (h1 : Sp3 σ τ) (h2 : Sp2 τ υ) : Sp3 σ υ := ⟨fun c i q q2 => (h2.1 c i q).trans (h1.1 c i q q2), fun j hj => (congrFun (h2.1 10 0 (by omega)) j).trans (h1.2.1 j hj), fun c i q => (h2.2.1 c i q).trans (h1.2.2.1 c i q), h2.2.2.1.trans h1.2.2.2.1, h2.2.2.2⟩
theorem Sp3_seed {σ τ : St} {v : Int32} (h1 : Sp3 σ τ) : Sp3 σ (sI τ 10 0 7 v) := ⟨fun c i q q2 => by rw [gsI_n (by omega)]; exact h1.1 c i q q2, fun j hj => by rw [gsI_s, pk_un hj]; exact h1.2.1 j hj, h1.2.2.1, h1.2.2.2.1, h1.2.2.2.2⟩
theorem Sp3_sI {σ τ : St} {c j : Nat} {v : Int32} (hs : Sp3 σ τ) (hc : c ≤ 7) : Sp3 σ (sI τ c 2 j v) := ⟨fun c' i q q2 => by rw [gsI_n (by omega)]; exact hs.1 c' i q q2, fun j hj => by rw [gsI_n (by omega)]; exact hs.2.1 j hj, hs.2.2.1, hs.2.2.2.1, hs.2.2.2.2⟩
theorem Sp3_spn {σ τ : St} {lo hi gr so ha : Nat} (hs : Sp3 σ τ) : Sp3 σ (spn τ 2 lo hi gr so ha) := by
  unfold spn
  exact Sp3_sI (Sp3_sI (Sp3_sI (Sp3_sI (Sp3_sI hs (by omega)) (by omega)) (by omega)) (by omega)) (by omega)
theorem Sp3_relC {σ τ : St} {x : Nat} {h : Hg} (hs : Sp3 σ τ) (hC : RelC σ x h) (hx : x ≠ 2) : RelC τ x h := relC_fr hC (fun c _ => hs.1 c x (by omega) (by omega)) (hs.2.2.1 0 x (by omega)) (congrFun (congrFun hs.2.2.2.1 2) 0) (congrFun hs.2.2.2.1 1) (hs.1 13 0 (by omega) (by omega)) (hs.1 14 0 (by omega) (by omega))
theorem Sp3_relM {σ τ : St} {r : Nat} {h : Hg} (hs : Sp3 σ τ) (hM : RelM σ r h) (hO : OkH h) : RelM τ r h := relM_row hM hO (fun j _ => by rw [hs.1 12 r (by omega) (by omega)])
theorem Sp3_okc {σ τ : St} (hs : Sp3 σ τ) (hK : ∀ j, j < gS σ 2 0 → okc (gS σ 1 j)) : ∀ j, j < gS τ 2 0 → okc (gS τ 1 j) := by
  rw [hs.2.2.2.1]
  exact hK
theorem Sp3_inv {σ τ : St} (hs : Sp3 σ τ) (hI : Inv σ) : Inv τ := by
  obtain ⟨⟨h, hO, hC, hM⟩, ⟨h1, O1, C1, M1⟩, I3, I4, I5, I6, I7, I8⟩ := hI
  refine ⟨⟨h, hO, Sp3_relC hs hC (by decide), Sp3_relM hs hM hO⟩, ⟨h1, O1, Sp3_relC hs C1 (by decide), Sp3_relM hs M1 O1⟩, ?_, ?_, ?_, hs.2.2.2.2, Sp3_okc hs I7, fun d hd => ?_⟩
  · rw [hs.2.1 3 (by omega), hs.1 11 0 (by omega) (by omega)]
    exact ⟨I3.1, byOk_fr I3.2 (fun r _ => hs.1 12 r (by omega) (by omega))⟩
  · rw [hs.1 11 0 (by omega) (by omega)]
    exact I4
  · rw [hs.2.2.2.1]
    exact I5
  · exact shf_fr (I8 d hd) (hs.1 8 d (by omega) (by omega)) (hs.1 9 d (by omega) (by omega)) (fun r _ => hs.1 12 r (by omega) (by omega)) (hs.2.2.1 1 d (by omega)) (congrFun (congrFun hs.2.2.2.1 2) 0) (congrFun hs.2.2.2.1 1) (hs.1 13 0 (by omega) (by omega)) (hs.1 14 0 (by omega) (by omega))
theorem relC_seed {τ : St} {x : Nat} {h : Hg} (hC : RelC τ x h) {v : Int32} : RelC (sI τ 10 0 7 v) x h := hC
/-- one walk of the class -/
theorem walk_c {σ τ0 : St} (hS0 : Sp3 σ τ0) {h : Hg} (hw : OkW h h) (hC0 : RelC τ0 2 h) : ∃ τ, fX11_walkOnSpare τ0 = some (nI (wkS (gI τ0 10 0 7) h 10).2.2, τ) ∧ Sp3 σ τ ∧ RelC τ 2 (wkS (gI τ0 10 0 7) h 10).2.1 ∧ gI τ 10 0 7 = (wkS (gI τ0 10 0 7) h 10).1 := by
  have o6 := hw.1.1
  have o4 := hw.1.2.1
  have o2 := hw.1.2.2.1
  refine loop_h (S := St) (fun n i s => fX11_walkOnSpare_L4 (fun y17 σ18 => some (y17, σ18)) n (nI (wkS (gI τ0 10 0 7) h i).2.2) (nI i) s) 10 (fun i s => Sp3 σ s ∧ RelC s 2 (wkS (gI τ0 10 0 7) h i).2.1 ∧ gI s 10 0 7 = (wkS (gI τ0 10 0 7) h i).1) (fun q => ∃ τ, q = some (nI (wkS (gI τ0 10 0 7) h 10).2.2, τ) ∧ Sp3 σ τ ∧ RelC τ 2 (wkS (gI τ0 10 0 7) h 10).2.1 ∧ gI τ 10 0 7 = (wkS (gI τ0 10 0 7) h 10).1) (fun n i s hi hI => ?_) 10 0 τ0 FU (by omega) (FU_gt (by omega)) ⟨hS0, hC0, rfl⟩
  obtain ⟨i1, i2, i3⟩ := hI
  show (∃ τ', fX11_walkOnSpare_L4B _ (fX11_walkOnSpare_L4 _ n) (nI (wkS (gI τ0 10 0 7) h i).2.2) (nI i) s = _ ∧ _) ∨ (i < 10 ∧ ∃ s', fX11_walkOnSpare_L4B _ (fX11_walkOnSpare_L4 _ n) (nI (wkS (gI τ0 10 0 7) h i).2.2) (nI i) s = _ ∧ _)
  unfold fX11_walkOnSpare_L4B fX11_walkOnSpare_J94
  by_cases e : i = 10
  · subst e
    rw [if_pos (by decide)]
    exact Or.inl ⟨s, rfl, i1, i2, i3⟩
  · have hwi := wkS_ok hw (gI τ0 10 0 7) i
    have eS : ∀ (a : Int32) (p : Hg) (c : Nat), wkS (gI τ0 10 0 7) h i = (a, p, c) → wkS (gI τ0 10 0 7) h (i + 1) = (nx (nx (nx (nx (nx a)))), trH a p, c + trN a p) := fun a p c q => by
      show (nx (nx (nx (nx (nx (wkS (gI τ0 10 0 7) h i).1)))), trH (wkS (gI τ0 10 0 7) h i).1 (wkS (gI τ0 10 0 7) h i).2.1, (wkS (gI τ0 10 0 7) h i).2.2 + trN (wkS (gI τ0 10 0 7) h i).1 (wkS (gI τ0 10 0 7) h i).2.1) = _
      rw [q]
    rcases hq : wkS (gI τ0 10 0 7) h i with ⟨a, p, c⟩
    rw [hq] at i2 i3 hwi
    have eS2 := eS a p c hq
    dsimp only at i2 i3 hwi
    obtain ⟨l1, l2, l3, l4, l5⟩ := tr_lt hwi a
    obtain ⟨hO, e1, e2, e3, h1, h2, h3⟩ := id hwi
    have p6 := hO.1
    have p4 := hO.2.1
    have p2 := hO.2.2.1
    rw [if_neg (show ¬ (10 : Int32) ≤ nI i from nI_ge (b := 10) (by omega) (by omega)), i2.1, draw_c h1 (by omega), bd_s]
    dsimp only
    rw [i3, show gI (sI s 10 0 7 (nx a)) 0 2 5 = nI (p 0 1) from i2.2.1, draw_c h2 (by omega), bd_s, gsI_s, pk_us, sI_sI]
    dsimp only
    rw [show gI (sI s 10 0 7 (nx (nx a))) 0 2 8 = nI (p 0 2) from i2.2.2.1, draw_c h3 (by omega), bd_s, gsI_s, pk_us, sI_sI]
    dsimp only
    rw [show fX11_draw (sI s 10 0 7 (nx (nx (nx a)))) 61 = _ from draw_c (n := 61) (by omega) (by omega), bd_s, gsI_s, pk_us, sI_sI]
    dsimp only
    rw [show fX11_draw (sI s 10 0 7 (nx (nx (nx (nx a))))) 61 = _ from draw_c (n := 61) (by omega) (by omega), bd_s, gsI_s, pk_us, sI_sI]
    dsimp only
    rw [show vN (nx a) % p 0 0 = trB a p from rfl, show vN (nx (nx a)) % p 0 1 = trT a p from rfl, show vN (nx (nx (nx a))) % p 0 2 = trK a p from rfl, show vN (nx (nx (nx (nx a)))) % 61 = trV a from rfl, show vN (nx (nx (nx (nx (nx a))))) % 61 = trF a from rfl]
    have hC5 : RelC (sI s 10 0 7 (nx (nx (nx (nx (nx a)))))) 2 p := relC_seed i2
    have i15 : Sp3 σ (sI s 10 0 7 (nx (nx (nx (nx (nx a)))))) := Sp3_seed i1
    rw [splN_c hC5 hO l1, bd_s, eS2]
    rcases splN_01 p (trB a p) with s0 | s0
    · have hs := spl_le s0
      rw [s0, if_pos nI_0, blowOnce_c hC5 hO l1 l2 l3 l4 l5 hs, bd_s]
      dsimp only
      rw [nI_add, nmv_s, nmv_s, nI_1]
      refine Or.inr ⟨by omega, zSPN (sI (sI s 10 0 7 (nx (nx (nx (nx (nx a)))))) 4 2 (trB a p) (nI (p 4 (trB a p) + wsp (p 7 (trK a p)) (p 8 (trK a p)) (trF a)))) 2 (weN p (trB a p) (wsp (p 7 (trK a p)) (p 8 (trK a p)) (trF a))) (trB a p) (trT a p) (trK a p), ?_, ?_, ?_, ?_⟩
      · show _ = fX11_walkOnSpare_L4 _ n (nI (c + trN a p)) (nI (i + 1)) _
        rw [show trN a p = sndN p (trB a p) (trT a p) (trK a p) (trV a) (trF a) from if_pos s0]
      · unfold zSPN
        exact Sp3_spn (Sp3_sI i15 (by omega))
      · show RelC _ 2 (trH a p)
        rw [show trH a p = weN p (trB a p) (wsp (p 7 (trK a p)) (p 8 (trK a p)) (trF a)) from if_pos s0]
        unfold zSPN
        exact relC_spn (we_c hC5)
      · unfold zSPN
        rw [spn_A0, gsA_n (by omega), gsI_n (by omega), gsI_s, pk_us]
    · rw [s0, if_neg (by decide), nmv_s, nI_1]
      refine Or.inr ⟨by omega, sI s 10 0 7 (nx (nx (nx (nx (nx a))))), ?_, i15, ?_, ?_⟩
      · show _ = fX11_walkOnSpare_L4 _ n (nI (c + trN a p)) (nI (i + 1)) _
        rw [show trN a p = 0 from if_neg (by omega)]
        rfl
      · show RelC _ 2 (trH a p)
        rw [show trH a p = p from if_neg (by omega)]
        exact hC5
      · show gI (sI s 10 0 7 _) 10 0 7 = _
        rw [gsI_s, pk_us]
