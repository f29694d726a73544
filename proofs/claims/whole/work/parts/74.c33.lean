/-- a row on a shelf, on both sides -/
def RowS (σ : St) (d so n : Nat) : Prop := d < 8 ∧ gI σ 12 15 d = 2 ∧ so ≤ 2 ∧ n ≤ 100 ∧ gI σ 8 d 2 = nI so ∧ gI σ 12 18 d = nI so ∧ gI σ 8 d 3 = nI n ∧ gI σ 12 19 d = nI n ∧ ∀ i, i < n → gI σ 9 d i = gI σ 12 20 (100 * d + i)
/-- two shelves that want rows: refused alike, or both rows -/
theorem rows2_s {σ : St} (I8 : ∀ d, d < 8 → Shf σ d) (a3 a4 : Int32) : (∃ r : Int32, ¬ 0 ≤ r ∧ fX11_rowsRefusal σ a3 a4 = some r ∧ ∀ A : Option Int32, (bd (fX12_isShelf σ a3) fun r9 =>
  if r9 = 0 then
  some (-1)
  else
  bd (fX12_isShelf σ a4) fun r11 =>
  if r11 = 0 then
  some (-1)
  else
  ck (vp_in a3 8) <|
  if (gI σ 12 15 a3.toNatClampNeg) = 0 then
  some (-11)
  else
  ck (vp_in a4 8) <|
  if (gI σ 12 15 a4.toNatClampNeg) = 0 then
  some (-11)
  else
  ck (vp_in a3 8) <|
  if (gI σ 12 15 a3.toNatClampNeg) = 2 then
  ck (vp_in a4 8) <|
  if (gI σ 12 15 a4.toNatClampNeg) = 2 then
  A
  else
  some (-12)
  else
  some (-12)) = some r) ∨ ∃ d e so n to m, a3 = nI d ∧ a4 = nI e ∧ RowS σ d so n ∧ RowS σ e to m ∧ fX11_rowsRefusal σ a3 a4 = some 0 ∧ fX12_isShelf σ a3 = some 1 ∧ fX12_isShelf σ a4 = some 1 := by
  have c0 : ∀ r r' : Int32, fX11_rowRefusal σ a3 = some r → fX11_rowRefusal σ a4 = some r' → fX11_rowsRefusal σ a3 a4 = if r = -1 then some (-1) else if r' = -1 then some (-1) else if r = -11 then some (-11) else if r' = -11 then some (-11) else if 0 ≤ r then some r' else some r := by
    intro r r' h1 h2
    unfold fX11_rowsRefusal
    rw [h1, h2]
    rfl
  rcases shelf2_s I8 a3 with ⟨p1, p2⟩ | ⟨d, hd, rfl, p2, P⟩
  · refine Or.inl ⟨-1, by decide, ?_, fun A => by rw [p2]; rfl⟩
    rcases shelf2_s I8 a4 with ⟨q1, q2⟩ | ⟨e, he, rfl, q2, ⟨q1, q3⟩ | ⟨q1, q3⟩ | ⟨q1, q3, -⟩⟩ <;> rw [c0 _ _ p1 q1] <;> rfl
  · have i8 := in8 hd
    rcases shelf2_s I8 a4 with ⟨q1, q2⟩ | ⟨e, he, rfl, q2, Q⟩
    · refine Or.inl ⟨-1, by decide, ?_, fun A => by rw [p2, q2]; rfl⟩
      rcases P with ⟨p1, p3⟩ | ⟨p1, p3⟩ | ⟨p1, p3, -⟩ <;> rw [c0 _ _ p1 q1] <;> rfl
    · have j8 := in8 he
      rcases P with ⟨p1, p3⟩ | ⟨p1, p3⟩ | ⟨p1, p3, so, sz, P⟩ <;> rcases Q with ⟨q1, q3⟩ | ⟨q1, q3⟩ | ⟨q1, q3, to, tz, Q⟩
      · exact Or.inl ⟨-11, by decide, by rw [c0 _ _ p1 q1]; rfl, fun A => by simp only [p2, q2, bd_s, ck_t i8, ck_t j8, nI_clamp (show d < 2 ^ 31 by omega), nI_clamp (show e < 2 ^ 31 by omega), p3, q3]; rfl⟩
      · exact Or.inl ⟨-11, by decide, by rw [c0 _ _ p1 q1]; rfl, fun A => by simp only [p2, q2, bd_s, ck_t i8, ck_t j8, nI_clamp (show d < 2 ^ 31 by omega), nI_clamp (show e < 2 ^ 31 by omega), p3, q3]; rfl⟩
      · exact Or.inl ⟨-11, by decide, by rw [c0 _ _ p1 q1]; rfl, fun A => by simp only [p2, q2, bd_s, ck_t i8, ck_t j8, nI_clamp (show d < 2 ^ 31 by omega), nI_clamp (show e < 2 ^ 31 by omega), p3, q3]; rfl⟩
      · exact Or.inl ⟨-11, by decide, by rw [c0 _ _ p1 q1]; rfl, fun A => by simp only [p2, q2, bd_s, ck_t i8, ck_t j8, nI_clamp (show d < 2 ^ 31 by omega), nI_clamp (show e < 2 ^ 31 by omega), p3, q3]; rfl⟩
      · exact Or.inl ⟨-12, by decide, by rw [c0 _ _ p1 q1]; rfl, fun A => by simp only [p2, q2, bd_s, ck_t i8, ck_t j8, nI_clamp (show d < 2 ^ 31 by omega), nI_clamp (show e < 2 ^ 31 by omega), p3, q3]; rfl⟩
      · exact Or.inl ⟨-12, by decide, by rw [c0 _ _ p1 q1]; rfl, fun A => by simp only [p2, q2, bd_s, ck_t i8, ck_t j8, nI_clamp (show d < 2 ^ 31 by omega), nI_clamp (show e < 2 ^ 31 by omega), p3, q3]; rfl⟩
      · exact Or.inl ⟨-11, by decide, by rw [c0 _ _ p1 q1]; rfl, fun A => by simp only [p2, q2, bd_s, ck_t i8, ck_t j8, nI_clamp (show d < 2 ^ 31 by omega), nI_clamp (show e < 2 ^ 31 by omega), p3, q3]; rfl⟩
      · exact Or.inl ⟨-12, by decide, by rw [c0 _ _ p1 q1]; rfl, fun A => by simp only [p2, q2, bd_s, ck_t i8, ck_t j8, nI_clamp (show d < 2 ^ 31 by omega), nI_clamp (show e < 2 ^ 31 by omega), p3, q3]; rfl⟩
      · exact Or.inr ⟨d, e, so, sz, to, tz, rfl, rfl, ⟨hd, p3, P⟩, ⟨he, q3, Q⟩, by rw [c0 _ _ p1 q1]; rfl, p2, q2⟩
/-- blade b's wear is v -/
def hwr (h : Hg) (b v : Nat) : Hg := up2 h 4 b v
theorem hwr_we {h : Hg} {b v w : Nat} : weN (hwr h b v) b w = hwr h b (v + w) := by
  unfold weN hwr
  rw [up2_up2, up2_s]
theorem hwr_self {h : Hg} {b : Nat} : hwr h b (h 4 b) = h := by
  unfold hwr
  exact up2_self
theorem hwr_ok {h : Hg} (hO : OkH h) {b v : Nat} (hv : v ≤ 48) : OkH (hwr h b v) := by
  obtain ⟨o0, o1, o2, o3, o4, o5⟩ := hO
  refine ⟨o0, o1, o2, fun b' hb' => ?_, o4, o5⟩
  obtain ⟨q1, q2, q3, q4⟩ := o3 b' hb'
  refine ⟨q1, q2, q3, ?_⟩
  unfold hwr
  by_cases e : b' = b
  · subst e
    rw [up2_s]
    exact hv
  · rw [up2_n (fun q => e q.2)]
    exact q4
/-- what is done at the i-th try with a force, on a blade with wear v; its wear after -/
def didN (h : Hg) (b t k T v f : Nat) : Nat := if h 2 b + h 3 b < v then 2 else sndN h b t k T f
def aftN (h : Hg) (b k v f : Nat) : Nat := if h 2 b + h 3 b < v then v else v + wsp (h 7 k) (h 8 k) f
/-- judge's answer, from place i on, m places left -/
def jdg (h : Hg) (b t k T : Nat) (L : Int32) (to : Nat → Int32) (fo : Nat → Nat) (me : Nat) : Nat → Nat → Nat → Int32
  | 0, _, _ => -4
  | m + 1, i, v => if i < me then (if to i = L then jdg h b t k T L to fo me m (i + 1) (aftN h b k v (fo i)) else if to i = nI (didN h b t k T v (fo i)) then jdg h b t k T L to fo me m (i + 1) (aftN h b k v (fo i)) else nI i) else if to i = L then jdg h b t k T L to fo me m (i + 1) v else nI i
/-- the least of a sort -/
def lstS (so : Nat) : Int32 := if so = 0 then -128 else if so = 1 then -32768 else -2147483648
theorem least_cm {σ : St} {d so : Nat} (hs : so ≤ 2) (h2 : gI σ 8 d 2 = nI so) : fX4_leastOfSort σ d = some (lstS so) ∧ fX12_leastOf σ (nI so) = some (lstS so) := by
  unfold fX4_leastOfSort fX12_leastOf lstS
  rw [h2]
  rcases so with _ | _ | _ | so
  · exact ⟨rfl, rfl⟩
  · exact ⟨rfl, rfl⟩
  · exact ⟨rfl, rfl⟩
  · omega
theorem aftN_le {h : Hg} (hO : OkH h) {b k v f : Nat} (hb : b < h 0 0) (hk : k < h 0 2) (hf : f ≤ 60) (hv : v ≤ 48) : aftN h b k v f ≤ 48 := by
  have wl : wsp (h 7 k) (h 8 k) f ≤ 15 := wsp_le (hO.2.2.2.2.2 k hk).2 hf
  obtain ⟨-, ⟨-, q1⟩, q2, -⟩ := hO.2.2.2.1 b hb
  unfold aftN
  split <;> omega
theorem judgeL_c {σ : St} {h : Hg} (hO : OkH h) {b t k T d e so n m : Nat} (hb : b < h 0 0) (ht : t < h 0 1) (hk : k < h 0 2) (hT : T ≤ 60) (hs : so ≤ 2) (hn : n ≤ 100) (hm : m ≤ 100) (d2 : gI σ 8 d 2 = nI so) (d3 : gI σ 8 d 3 = nI n) (e3 : gI σ 8 e 3 = nI m) (fo : Nat → Nat) (hfo : ∀ i, i < m → fo i ≤ 60 ∧ gI σ 9 e i = nI (fo i)) {τ0 : St} (hS0 : Sp2 σ τ0) (hC0 : RelC τ0 2 h) : ∃ τ, fX11_firstNotSo_L14 (nI b) (nI t) (nI k) (nI T) d e (fun σ25 => some ((-4), σ25)) FU 0 τ0 = some (jdg h b t k T (lstS so) (gI σ 9 d) fo m n 0 (h 4 b), τ) ∧ Sp2 σ τ := by
  have v48 : h 4 b ≤ 48 := (hO.2.2.2.1 b hb).2.2.2
  refine loop_h (S := Nat × St) (fun p i s => fX11_firstNotSo_L14 (nI b) (nI t) (nI k) (nI T) d e (fun σ25 => some ((-4), σ25)) p (nI i) s.2) n (fun i s => Sp2 σ s.2 ∧ RelC s.2 2 (hwr h b s.1) ∧ s.1 ≤ 48 ∧ jdg h b t k T (lstS so) (gI σ 9 d) fo m (n - i) i s.1 = jdg h b t k T (lstS so) (gI σ 9 d) fo m n 0 (h 4 b)) (fun q => ∃ τ, q = some (jdg h b t k T (lstS so) (gI σ 9 d) fo m n 0 (h 4 b), τ) ∧ Sp2 σ τ) (fun p i s hi hI => ?_) n 0 (h 4 b, τ0) FU (by omega) (FU_gt (by omega)) ⟨hS0, by rw [hwr_self]; exact hC0, v48, rfl⟩
  obtain ⟨v, τ⟩ := s
  obtain ⟨i1, i2, i3, i4⟩ := hI
  dsimp only at i1 i2 i3 i4
  have td2 : gI τ 8 d 2 = nI so := by rw [i1.1 8 d (by omega)]; exact d2
  have td3 : gI τ 8 d 3 = nI n := by rw [i1.1 8 d (by omega)]; exact d3
  have te3 : gI τ 8 e 3 = nI m := by rw [i1.1 8 e (by omega)]; exact e3
  show (∃ τ', fX11_firstNotSo_L14B (nI b) (nI t) (nI k) (nI T) d e _ (fX11_firstNotSo_L14 (nI b) (nI t) (nI k) (nI T) d e _ p) (nI i) τ = _ ∧ _) ∨ (i < n ∧ ∃ s', fX11_firstNotSo_L14B (nI b) (nI t) (nI k) (nI T) d e _ (fX11_firstNotSo_L14 (nI b) (nI t) (nI k) (nI T) d e _ p) (nI i) τ = _ ∧ _)
  unfold fX11_firstNotSo_L14B
  rw [td3, te3]
  by_cases en : i = n
  · subst en
    rw [if_pos (nI_le (Nat.le_refl _) (by omega)), ← i4, Nat.sub_self]
    exact Or.inl ⟨τ, rfl, i1⟩
  · have hin : i < n := by omega
    have i100 : vp_in (nI i) 100 := pk_in i 100 (by omega) rfl (by omega)
    obtain ⟨q, hq⟩ : ∃ q, n - i = q + 1 := ⟨n - i - 1, by omega⟩
    have hq2 : n - (i + 1) = q := by omega
    rw [hq] at i4
    rw [if_neg (nI_ge hin (by omega))]
    -- the comparing part
    have J87 : ∀ (z5 : Int32) (D : Int32) (τ' : St), Sp2 σ τ' → fX11_firstNotSo_J87 d (nI i) (fX11_firstNotSo_L14 (nI b) (nI t) (nI k) (nI T) d e (fun σ25 => some ((-4), σ25)) p) z5 D τ' = if gI σ 9 d i = lstS so then fX11_firstNotSo_L14 (nI b) (nI t) (nI k) (nI T) d e (fun σ25 => some ((-4), σ25)) p (nI (i + 1)) τ' else if z5 = 0 then some (nI i, τ') else if gI σ 9 d i = D then fX11_firstNotSo_L14 (nI b) (nI t) (nI k) (nI T) d e (fun σ25 => some ((-4), σ25)) p (nI (i + 1)) τ' else some (nI i, τ') := by
      intro z5 D τ' hs'
      unfold fX11_firstNotSo_J87 fX11_firstNotSo_J122
      have l2 : gI τ' 8 d 2 = nI so := by rw [hs'.1 8 d (by omega)]; exact d2
      rw [ck_t i100, nI_clamp (by omega), hs'.1 9 d (by omega), nmv_s, (least_cm hs l2).1, bd_s, nmv_s, nI_1]
    by_cases c : i < m
    · obtain ⟨f60, fe⟩ := hfo i c
      rw [if_neg (nI_ge c (by omega))]
      unfold fX11_firstNotSo_J39
      rw [if_neg (by decide)]
      have hO' := hwr_ok hO (b := b) i3
      have es : splN (hwr h b v) b = if h 2 b + h 3 b < v then 1 else 0 := by
        unfold splN
        rw [show hwr h b v 4 b = v from up2_s]
        rfl
      rw [splN_c i2 hO' hb, bd_s, es]
      have step : ∀ (τ' : St), Sp2 σ τ' → RelC τ' 2 (hwr h b (aftN h b k v (fo i))) → (∃ τ'', (if gI σ 9 d i = lstS so then fX11_firstNotSo_L14 (nI b) (nI t) (nI k) (nI T) d e (fun σ25 => some ((-4), σ25)) p (nI (i + 1)) τ' else if (1 : Int32) = 0 then some (nI i, τ') else if gI σ 9 d i = nI (didN h b t k T v (fo i)) then fX11_firstNotSo_L14 (nI b) (nI t) (nI k) (nI T) d e (fun σ25 => some ((-4), σ25)) p (nI (i + 1)) τ' else some (nI i, τ')) = some (jdg h b t k T (lstS so) (gI σ 9 d) fo m n 0 (h 4 b), τ'') ∧ Sp2 σ τ'') ∨ (i < n ∧ ∃ s' : Nat × St, (if gI σ 9 d i = lstS so then fX11_firstNotSo_L14 (nI b) (nI t) (nI k) (nI T) d e (fun σ25 => some ((-4), σ25)) p (nI (i + 1)) τ' else if (1 : Int32) = 0 then some (nI i, τ') else if gI σ 9 d i = nI (didN h b t k T v (fo i)) then fX11_firstNotSo_L14 (nI b) (nI t) (nI k) (nI T) d e (fun σ25 => some ((-4), σ25)) p (nI (i + 1)) τ' else some (nI i, τ')) = fX11_firstNotSo_L14 (nI b) (nI t) (nI k) (nI T) d e (fun σ25 => some ((-4), σ25)) p (nI (i + 1)) s'.2 ∧ Sp2 σ s'.2 ∧ RelC s'.2 2 (hwr h b s'.1) ∧ s'.1 ≤ 48 ∧ jdg h b t k T (lstS so) (gI σ 9 d) fo m (n - (i + 1)) (i + 1) s'.1 = jdg h b t k T (lstS so) (gI σ 9 d) fo m n 0 (h 4 b)) := by
        intro τ' hs' hc'
        have a48 := aftN_le hO hb hk f60 i3
        rw [hq2, ← i4, show jdg h b t k T (lstS so) (gI σ 9 d) fo m (q + 1) i v = (if gI σ 9 d i = lstS so then jdg h b t k T (lstS so) (gI σ 9 d) fo m q (i + 1) (aftN h b k v (fo i)) else if gI σ 9 d i = nI (didN h b t k T v (fo i)) then jdg h b t k T (lstS so) (gI σ 9 d) fo m q (i + 1) (aftN h b k v (fo i)) else nI i) from if_pos c]
        rw [if_neg (show ¬ (1 : Int32) = 0 by decide)]
        by_cases c1 : gI σ 9 d i = lstS so
        · rw [if_pos c1, if_pos c1]
          exact Or.inr ⟨hin, (aftN h b k v (fo i), τ'), rfl, hs', hc', a48, rfl⟩
        · rw [if_neg c1, if_neg c1]
          by_cases c2 : gI σ 9 d i = nI (didN h b t k T v (fo i))
          · rw [if_pos c2, if_pos c2]
            exact Or.inr ⟨hin, (aftN h b k v (fo i), τ'), rfl, hs', hc', a48, rfl⟩
          · rw [if_neg c2, if_neg c2]
            exact Or.inl ⟨τ', rfl, hs'⟩
      by_cases gone : h 2 b + h 3 b < v
      · rw [if_pos gone, if_neg (by decide)]
        unfold fX11_firstNotSo_J85
        rw [J87 1 2 τ i1]
        have ed : (2 : Int32) = nI (didN h b t k T v (fo i)) := by
          unfold didN
          rw [if_pos gone]
          rfl
        rw [ed]
        exact step τ i1 (by rw [show aftN h b k v (fo i) = v from if_pos gone]; exact i2)
      · have hb0 := blowOnce_c i2 hO' (v := T) (f := fo i) hb ht hk hT f60 (by show up2 h 4 b v 4 b ≤ _; rw [up2_s]; show v ≤ h 2 b + h 3 b; omega)
        rw [if_neg gone, if_pos nI_0, ck_t i100, nI_clamp (by omega), i1.1 9 e (by omega), fe, hb0, bd_s]
        dsimp only
        unfold fX11_firstNotSo_J85
        have hs2 : Sp2 σ (zSPN (sI τ 4 2 b (nI (hwr h b v 4 b + wsp (hwr h b v 7 k) (hwr h b v 8 k) (fo i)))) 2 (weN (hwr h b v) b (wsp (hwr h b v 7 k) (hwr h b v 8 k) (fo i))) b t k) := Sp2_spn (Sp2_sI i1 (by omega))
        have hc2 : RelC (zSPN (sI τ 4 2 b (nI (hwr h b v 4 b + wsp (hwr h b v 7 k) (hwr h b v 8 k) (fo i)))) 2 (weN (hwr h b v) b (wsp (hwr h b v 7 k) (hwr h b v 8 k) (fo i))) b t k) 2 (weN (hwr h b v) b (wsp (hwr h b v 7 k) (hwr h b v 8 k) (fo i))) := relC_spn (we_c i2)
        rw [J87 1 _ _ hs2]
        have ed : nI (sndN (hwr h b v) b t k T (fo i)) = nI (didN h b t k T v (fo i)) := by
          unfold didN
          rw [if_neg gone]
          rfl
        rw [ed]
        refine step _ hs2 ?_
        rw [hwr_we] at hc2
        rw [show aftN h b k v (fo i) = v + wsp (h 7 k) (h 8 k) (fo i) from if_neg gone]
        rw [hwr_we]
        exact hc2
    · rw [if_pos (nI_le (by omega) (by omega))]
      unfold fX11_firstNotSo_J39
      rw [if_pos rfl, J87 0 (-4) τ i1, hq2, ← i4, show jdg h b t k T (lstS so) (gI σ 9 d) fo m (q + 1) i v = (if gI σ 9 d i = lstS so then jdg h b t k T (lstS so) (gI σ 9 d) fo m q (i + 1) v else nI i) from if_neg c]
      by_cases c1 : gI σ 9 d i = lstS so
      · rw [if_pos c1, if_pos c1]
        exact Or.inr ⟨hin, (v, τ), rfl, i1, i2, i3, rfl⟩
      · rw [if_neg c1, if_neg c1, if_pos rfl]
        exact Or.inl ⟨τ, rfl, i1⟩
