theorem cwT : Cond.codeWith yX11_toss cX11_toss 5 (some .int) [(22, 28, 29, 316), (22, 28, 36, 306), (22, 28, 46, 337)] ∈ tT := List.mem_filter.mpr ⟨tin_4 _ (List.mem_of_getElem? (i := 150) rfl), rfl⟩
theorem cwE : Cond.codeWith yL_element cL_element 5 (some .int) [(0, 9, 12, 13), (0, 9, 16, 15)] ∈ tT := List.mem_filter.mpr ⟨tin_5 _ (List.mem_of_getElem? (i := 28) rfl), rfl⟩
noncomputable def fX11_toss (σ : St) (a1 : Int32) : Option Int32 :=
  bd (fX11_blowRefusal σ a1) fun r1 =>
  if 0 ≤ r1 then
  ck (vp_in a1 8) <|
  bd (gR σ 1 a1.toNatClampNeg 0) fun j =>
  ck (j < gS σ 2 0 ∧ okc (gS σ 1 j)) <|
  if gS σ 1 j = 2 then some (-15) else if gS σ 1 j = 6 then some (-15) else if gI σ 14 0 j = 0 then some (-15) else
  if gS σ 1 j = 0 then some (gI σ 14 0 j) else if gS σ 1 j = 10 then some (gI σ 14 0 j) else
  if gS σ 1 j = 5 then (bd (fvcosts σ j) fun r2 => some (200 + r2)) else some (100 + gI σ 14 0 j)
  else some r1
def rX11_toss : Room := { frames := 7, cells := 1, slots := 6, locals := 101 }
def MTi (l : Launch) (dC : Nat → ClassId) (dI : Nat → Nat → Nat) (ks : Nat → ClassId) (ad : Nat → Nat → Nat) (σ : St) (y : MethodName) (bytes : ByteArray) (maxL : Nat) (ret : Option FieldType) (hh : List (Nat × Nat × Nat × Nat)) (rm : Room) (av : List Value) (out : Int32) : Prop := ∀ sz : Nat, Met l y (Cond.codeWith y bytes maxL ret hh :: tT) rm (gPe dC dI ks ad σ sz av) (va_Qi (fun r (_ : Unit) => r = out) (fun _ t => gBw dC dI ks ad (gFr ks ad σ sz) σ t) (gFr ks ad σ sz)) 1 6 (gFr ks ad σ sz)
theorem fexc_c {σ : St} {j : Nat} (hj : okc (gS σ 1 j)) (h : fcode σ j) : (fexc (gS σ 1 j) = nISE ∧ (gS σ 1 j = 0 ∨ gS σ 1 j = 10)) ∨ (fexc (gS σ 1 j) = nUOE ∧ gS σ 1 j = 5) ∨ (fexc (gS σ 1 j) = nIAE ∧ ¬ gS σ 1 j = 0 ∧ ¬ gS σ 1 j = 10 ∧ ¬ gS σ 1 j = 5) := by
  obtain ⟨h2, h6, -⟩ := h
  rcases hj with q | q | q | q | q | q | q | q <;> rw [q] at h2 h6 ⊢ <;> simp_all [fexc]
set_option maxHeartbeats 4000000 in
theorem cX11_tossc {l : Launch} (hst : l.stackTraces = false) {dC : Nat → ClassId} {dI : Nat → Nat → Nat} {ks : Nat → ClassId} {ad : Nat → Nat → Nat} {σ : St} (a1 : Int32) {out : Int32} (hf : fX11_toss σ a1 = some out) : MTi l dC dI ks ad σ yX11_toss cX11_toss 5 (some .int) [(22, 28, 29, 316), (22, 28, 36, 306), (22, 28, 46, 337)] rX11_toss [.ref (ad 0 0), .int a1] out := by
  intro sz
  refine va_MetW (hh := [(22, 28, 29, 316), (22, 28, 36, 306), (22, 28, 46, 337)]) (cc := cX11_toss) (maxL := 5) (ret := some .int) (by decide) rfl ?_
  intro p e s m args below meth c s₁ B hml hv
  obtain ⟨rfl, hsz, hP, hK, hD0, hX⟩ := hv
  subst hsz
  have hts := atoms_spec (ws := Cond.codeWith yX11_toss cX11_toss 5 (some .int) [(22, 28, 29, 316), (22, 28, 36, 306), (22, 28, 46, 337)] :: tT) B.pre
  have hown : s.vm.findClass RX11 = some m.cls := findClass_of_methodNamed B.named
  have E : CallFix p m c cX11_toss 5 s [.ref (ad 0 0), .int a1].toArray tT RX11 := ⟨B.exec, B.bytes, hml, hown, fun w hw => hts w (List.mem_cons_of_mem _ hw)⟩
  have htab : c.exceptionTable.toList = tableOf [(22, 28, 29, 316), (22, 28, 36, 306), (22, 28, 46, 337)] := vx_table (x := yX11_toss) B (hts _ List.mem_cons_self)
  have hx := E.1
  have hb := E.2.1
  have hr := B.returns
  have hlk := B.notSynchronized
  have hD := hD0.self (sz := s.heap.size)
  have hA : ∀ q, s.heap.size ≤ q → gFr ks ad σ s.heap.size q := fun q h => Or.inr h
  have hS : va_S (gFr ks ad σ s.heap.size) s.heap s.heap [] := va_S.rf
  have hl := lv_entry [.ref (ad 0 0), .int a1] (n := 5) (Nat.le_of_ble_eq_true rfl)
  rw [lg_entry_eq]
  generalize (lg_sl [.ref (ad 0 0), .int a1] ++ List.replicate (5 - (lg_sl [.ref (ad 0 0), .int a1]).length) Slot.unset).toArray = ls at hl ⊢
  have hl : lv_has ls 5 [(0, .ref (ad 0 0)), (1, .int a1)] := hl
  show W p l e rX11_toss s m _ below meth c s.heap [] 0 0 _ (F0 m 0 ls [])
  unfold fX11_toss at hf
  refine lv_aload_n hx hb dX11_toss_0 rfl (lv_at hl 0 rfl) ?_
  refine lv_iload_n hx hb dX11_toss_1 rfl (lv_at hl 1 rfl) ?_
  obtain ⟨r1, er1, hf⟩ := bd_e hf
  refine gVr_i E hK hP (cX11_blowRefusalc _ er1) kV_X11_blowRefusal wd_2_163 rfl rfl (q_main ks ad σ) rfl rfl rfl ⟨Nat.le_of_ble_eq_true rfl, Nat.le_of_ble_eq_true rfl⟩ ⟨Nat.zero_le _, Nat.zero_le _⟩ hl.1 (Nat.le_of_ble_eq_true rfl) rfl dX11_toss_2 ?_
  refine lv_istore_n (lv' := [(2, .int r1), (0, .ref (ad 0 0)), (1, .int a1)]) hx hb dX11_toss_5 rfl hl (by decide) rfl (fun ls hl => ?_)
  refine lv_iload_n hx hb dX11_toss_6 rfl (lv_at hl 0 rfl) ?_
  refine lv_if_ge (tgt := 12) hx hb dX11_toss_7 (by decide) (fun c0 => ?_) (fun c0 => ?_)
  · replace hf := pos_e c0 hf
    refine lv_aload_n hx hb dX11_toss_12 rfl (lv_at hl 1 rfl) ?_
    refine gget E in_X11 hK hP (q_main ks ad σ) rfl (k := 4) (by decide) wd_1_149 rfl (v := .ref (ad 12 0)) rfl dX11_toss_13 ?_
    refine lv_iload_n hx hb dX11_toss_16 rfl (lv_at hl 2 rfl) ?_
    obtain ⟨c1, hf⟩ := ck_e hf
    refine gaaldS E hK hP c1 dX11_toss_17 ?_
    refine gget E in_X4 hK hP (qs_0 ks ad σ (vp_lt c1)) rfl (k := 0) (by decide) wd_1_124 rfl (v := va_rf ((gR σ 1 a1.toNatClampNeg 0).map (ad 16))) rfl dX11_toss_18 ?_
    obtain ⟨j, ej, hf⟩ := bd_e hf
    obtain ⟨hj, hf⟩ := ck_e hf
    refine lv_nmo ej ?_
    refine lv_astore_n (lv' := [(3, .ref (ad 16 j)), (2, .int r1), (0, .ref (ad 0 0)), (1, .int a1)]) hx hb dX11_toss_21 rfl hl (by decide) rfl (fun ls hl => ?_)
    refine lv_aload_n hx hb dX11_toss_22 rfl (lv_at hl 0 rfl) ?_
    refine vfail hst E hK hP hD hS hA hX hj wd_4_154 ⟨Nat.le_of_ble_eq_true rfl, Nat.le_of_ble_eq_true rfl⟩ ⟨Nat.le_of_ble_eq_true rfl, Nat.le_of_ble_eq_true rfl⟩ hl.1 (Nat.le_of_ble_eq_true rfl) dX11_toss_23 (fun hfc ce q9 H locs hP hD hS hce hcv hcl => ?_) (fun hfc H locs hP hD hS => ?_)
    · replace hf := neg_e hfc.1 hf
      replace hf := neg_e hfc.2.1 hf
      replace hf := neg_e hfc.2.2 hf
      have hwk : ∀ X ∈ [nISE, nIAE, nUOE], (Cond.castable X X).before [.ref (ad 0 0), .int a1].toArray s = true := fun X hX1 => va_Nw.use rfl (hX.2.2.2.1 X hX1)
      rcases fexc_c hj.2 hfc with ⟨he, hc⟩ | ⟨he, hc⟩ | ⟨he, hc1, hc2, hc3⟩ <;> rw [he] at hcl
      · refine vx_catch (own := RX11) hown [] ⟨22, 28, 29, 316⟩ [⟨22, 28, 36, 306⟩, ⟨22, 28, 46, 337⟩] htab (fun z hz => by cases hz) rfl (by decide) (E.2.2.2.2 _ wd_4_151) (hwk nISE (by simp)) hce hcv hcl ?_
        refine lv_astore (lv' := [(4, .ref q9), (3, .ref (ad 16 j)), (2, .int r1), (0, .ref (ad 0 0)), (1, .int a1)]) hx hb dX11_toss_29 hl (by decide) rfl (fun ls hl => ?_)
        refine lv_aload_n hx hb dX11_toss_31 rfl (lv_at hl 1 rfl) ?_
        refine gfig E hK hP hj wd_2_7 (Or.inl rfl) dX11_toss_32 ?_
        have hf : some (gI σ 14 0 j) = some out := by
          rcases hc with hc | hc
          · exact pos_e hc hf
          · rw [hc] at hf; exact hf
        exact W.iret hx hb hr (fun t ht hW => ⟨⟨_, (), rfl, (som_e hf).symm, by rw [ht]; exact hP, hD⟩, hS.F ht⟩) hS.2.2 dX11_toss_35 hlk
      · refine vx_catch (own := RX11) hown [⟨22, 28, 29, 316⟩, ⟨22, 28, 36, 306⟩] ⟨22, 28, 46, 337⟩ [] htab (fun z hz => ?_) rfl (by decide) (E.2.2.2.2 _ wd_4_153) (hwk nUOE (by simp)) hce hcv hcl ?_
        · rcases List.mem_cons.mp hz with rfl | hz
          · exact Or.inr ⟨by decide, _, E.2.2.2.2 _ wd_4_151, hX.2.2.2.2.2.1⟩
          · rcases List.mem_cons.mp hz with rfl | hz
            · exact Or.inr ⟨by decide, _, E.2.2.2.2 _ wd_4_152, hX.2.2.2.2.2.2.1⟩
            · cases hz
        refine lv_astore (lv' := [(4, .ref q9), (3, .ref (ad 16 j)), (2, .int r1), (0, .ref (ad 0 0)), (1, .int a1)]) hx hb dX11_toss_46 hl (by decide) rfl (fun ls hl => ?_)
        refine lv_sipush (v := 200) hx hb dX11_toss_48 (by decide) ?_
        refine lv_aload_n hx hb dX11_toss_51 rfl (lv_at hl 1 rfl) ?_
        have n0 : ¬ gS σ 1 j = 0 := by rw [hc]; decide
        have n1 : ¬ gS σ 1 j = 10 := by rw [hc]; decide
        replace hf := pos_e hc (neg_e n1 (neg_e n0 hf))
        obtain ⟨r2, er2, hf⟩ := bd_e hf
        refine vcosts E hK hP hj er2 wd_4_114 ⟨Nat.le_of_ble_eq_true rfl, Nat.le_of_ble_eq_true rfl⟩ ⟨Nat.le_of_ble_eq_true rfl, Nat.le_of_ble_eq_true rfl⟩ hl.1 (Nat.le_of_ble_eq_true rfl) rfl dX11_toss_52 ?_
        refine lv_iadd hx hb dX11_toss_55 ?_
        exact W.iret hx hb hr (fun t ht hW => ⟨⟨_, (), rfl, (som_e hf).symm, by rw [ht]; exact hP, hD⟩, hS.F ht⟩) hS.2.2 dX11_toss_56 hlk
      · refine vx_catch (own := RX11) hown [⟨22, 28, 29, 316⟩] ⟨22, 28, 36, 306⟩ [⟨22, 28, 46, 337⟩] htab (fun z hz => ?_) rfl (by decide) (E.2.2.2.2 _ wd_4_152) (hwk nIAE (by simp)) hce hcv hcl ?_
        · rcases List.mem_cons.mp hz with rfl | hz
          · exact Or.inr ⟨by decide, _, E.2.2.2.2 _ wd_4_151, hX.2.2.2.2.1⟩
          · cases hz
        refine lv_astore (lv' := [(4, .ref q9), (3, .ref (ad 16 j)), (2, .int r1), (0, .ref (ad 0 0)), (1, .int a1)]) hx hb dX11_toss_36 hl (by decide) rfl (fun ls hl => ?_)
        refine lv_bipush (v := 100) hx hb dX11_toss_38 (by decide) ?_
        refine lv_aload_n hx hb dX11_toss_40 rfl (lv_at hl 1 rfl) ?_
        refine gfig E hK hP hj wd_2_7 (Or.inl rfl) dX11_toss_41 ?_
        refine lv_iadd hx hb dX11_toss_44 ?_
        replace hf := neg_e hc3 (neg_e hc2 (neg_e hc1 hf))
        exact W.iret hx hb hr (fun t ht hW => ⟨⟨_, (), rfl, (som_e hf).symm, by rw [ht]; exact hP, hD⟩, hS.F ht⟩) hS.2.2 dX11_toss_45 hlk
    · refine lv_bipush (v := -15) hx hb dX11_toss_26 (by decide) ?_
      have hf : some (-15 : Int32) = some out := by
        by_cases g1 : gS σ 1 j = 2
        · exact pos_e g1 hf
        · replace hf := neg_e g1 hf
          by_cases g2 : gS σ 1 j = 6
          · exact pos_e g2 hf
          · replace hf := neg_e g2 hf
            by_cases g3 : gI σ 14 0 j = 0
            · exact pos_e g3 hf
            · exact absurd ⟨g1, g2, g3⟩ hfc
      exact W.iret hx hb hr (fun t ht hW => ⟨⟨_, (), rfl, (som_e hf).symm, by rw [ht]; exact hP, hD⟩, hS.F ht⟩) hS.2.2 dX11_toss_28 hlk
  · replace hf := neg_e c0 hf
    refine lv_iload_n hx hb dX11_toss_10 rfl (lv_at hl 0 rfl) ?_
    refine W.widen (k := 1) (n := 6) (by decide) (by decide) ?_
    exact W.iret hx hb hr (fun t ht hW => ⟨⟨_, (), rfl, (som_e hf).symm, by rw [ht]; exact hP, hD⟩, hS.F ht⟩) hS.2.2 dX11_toss_11 hlk
