theorem dL_element_0 : decode cL_element 0 = .ok (.aload_n 3, 1) := by decide +kernel
theorem dL_element_1 : decode cL_element 1 = .ok (.iconst 0, 1) := by decide +kernel
theorem dL_element_2 : decode cL_element 2 = .ok (.aload_n 0, 1) := by decide +kernel
theorem dL_element_3 : decode cL_element 3 = .ok (.iload_n 1, 1) := by decide +kernel
theorem dL_element_4 : decode cL_element 4 = .ok (.iload_n 2, 1) := by decide +kernel
theorem dL_element_5 : decode cL_element 5 = .ok (.invokevirtual 7, 3) := by decide +kernel
theorem dL_element_8 : decode cL_element 8 = .ok (.lastore, 1) := by decide +kernel
theorem dL_element_9 : decode cL_element 9 = .ok (.goto 11, 3) := by decide +kernel
theorem dL_element_12 : decode cL_element 12 = .ok (.astore 4, 2) := by decide +kernel
theorem dL_element_14 : decode cL_element 14 = .ok (.iconst 1, 1) := by decide +kernel
theorem dL_element_15 : decode cL_element 15 = .ok (.ireturn, 1) := by decide +kernel
theorem dL_element_16 : decode cL_element 16 = .ok (.astore 4, 2) := by decide +kernel
theorem dL_element_18 : decode cL_element 18 = .ok (.iconst 2, 1) := by decide +kernel
theorem dL_element_19 : decode cL_element 19 = .ok (.ireturn, 1) := by decide +kernel
theorem dL_element_20 : decode cL_element 20 = .ok (.iconst 0, 1) := by decide +kernel
theorem dL_element_21 : decode cL_element 21 = .ok (.ireturn, 1) := by decide +kernel
theorem kV_X11_element : KV RX11 yX11_element cX11_element 4 (some .long) 2 := ⟨wd_5_32, wd_5_33, wd_1_1, wd_5_34, by decide +kernel⟩
/-- the texts of the two throws -/
def gStr (U : State) : Prop := (∃ a, vk_R RX11 308 "no such shelf" a U) ∧ (∃ a, vk_R RX11 318 "no row, or no such place" a U)
theorem gStr.moved {s U : State} (hW : s.WarmedH U.vm) (h : gStr s) : gStr U := ⟨h.1.imp fun _ q => q.warm hW, h.2.imp fun _ q => q.warm hW⟩
theorem gStr.same {s U : State} (hv : s.vm = U.vm) (h : gStr s) : gStr U := ⟨h.1.imp fun _ q => vk_R.same hv.symm q, h.2.imp fun _ q => vk_R.same hv.symm q⟩
def gPf (dC : Nat → ClassId) (dI : Nat → Nat → Nat) (ks : Nat → ClassId) (ad : Nat → Nat → Nat) (σ : St) (sz : Nat) (av : List Value) : Array Value → State → Prop := fun v U => gPe dC dI ks ad σ sz av v U ∧ gStr U
theorem gPf_blind {dC : Nat → ClassId} {dI : Nat → Nat → Nat} {ks : Nat → ClassId} {ad : Nat → Nat → Nat} {σ : St} {sz : Nat} {av : List Value} : FrameBlind (gPf dC dI ks ad σ sz av) := fun a U g mk q => ⟨gPe_blind a U g mk q.1, gStr.same (s := U) (U := U.calling g mk a) rfl q.2⟩
/-- an answer, or which throw -/
noncomputable def fX11_element (σ : St) (a1 a2 : Int32) : Option (Nat × Int64) :=
  bd (fX11_isOut σ a1 0 7) fun r1 =>
  if r1 = 0 then
  ck (vp_in a1 8) <|
  if gI σ 8 a1.toNatClampNeg 1 = 0 then some (2, 0) else
  bd (fX4_hasPlace σ a1.toNatClampNeg a2) fun r2 =>
  if r2 = 0 then some (2, 0) else
  ck (vp_in a2 100) <| some (0, (gI σ 9 a1.toNatClampNeg a2.toNatClampNeg).toInt64)
  else some (1, 0)
def rX11_element : Room := { frames := 6, cells := 1, slots := 6, locals := 82 }
def MEl (l : Launch) (dC : Nat → ClassId) (dI : Nat → Nat → Nat) (ks : Nat → ClassId) (ad : Nat → Nat → Nat) (σ : St) (y : MethodName) (bytes : ByteArray) (maxL : Nat) (ret : Option FieldType) (rm : Room) (av : List Value) (out : Nat × Int64) : Prop := ∀ sz : Nat, vx_Met l y (Cond.code y bytes maxL ret :: tT) rm (gPf dC dI ks ad σ sz av) (va_Ql (fun r (_ : Unit) => out = (0, r)) (fun _ t => gBw dC dI ks ad (gFr ks ad σ sz) σ t) (gFr ks ad σ sz)) (vx_X (fun n : Nat => out.1 = n ∧ (n = 1 ∨ n = 2)) (fun E n t => E = (if n = 1 then nIAE else nISE) ∧ gBw dC dI ks ad (gFr ks ad σ sz) σ t) (gFr ks ad σ sz)) 1 6 (gFr ks ad σ sz)
set_option maxHeartbeats 4000000 in
theorem cX11_elementc {l : Launch} (hst : l.stackTraces = false) {dC : Nat → ClassId} {dI : Nat → Nat → Nat} {ks : Nat → ClassId} {ad : Nat → Nat → Nat} {σ : St} (a1 a2 : Int32) {out : Nat × Int64} (hf : fX11_element σ a1 a2 = some out) : MEl l dC dI ks ad σ yX11_element cX11_element 4 (some .long) rX11_element [.ref (ad 0 0), .int a1, .int a2] out := by
  intro sz
  refine vx_ofW (cc := cX11_element) (maxL := 4) (ret := (some .long)) (by decide) rfl ?_
  intro p e s m args below meth c s₁ B hml htab hv
  obtain ⟨⟨rfl, hsz, hP, hK, hD0, hX⟩, ⟨sa, hsa⟩, sb, hsb⟩ := hv
  subst hsz
  have hts := atoms_spec (ws := Cond.code yX11_element cX11_element 4 (some .long) :: tT) B.pre
  have hown : s.vm.findClass RX11 = some m.cls := findClass_of_methodNamed B.named
  have E : CallFix p m c cX11_element 4 s [.ref (ad 0 0), .int a1, .int a2].toArray tT RX11 := ⟨B.exec, B.bytes, hml, hown, fun w hw => hts w (List.mem_cons_of_mem _ hw)⟩
  have hx := E.1
  have hb := E.2.1
  have hr := B.returns
  have hlk := B.notSynchronized
  have hD := hD0.self (sz := s.heap.size)
  have hA : ∀ q, s.heap.size ≤ q → gFr ks ad σ s.heap.size q := fun q h => Or.inr h
  have hS : va_S (gFr ks ad σ s.heap.size) s.heap s.heap [] := va_S.rf
  have hl := lv_entry [.ref (ad 0 0), .int a1, .int a2] (n := 4) (Nat.le_of_ble_eq_true rfl)
  rw [lg_entry_eq]
  generalize (lg_sl [.ref (ad 0 0), .int a1, .int a2] ++ List.replicate (4 - (lg_sl [.ref (ad 0 0), .int a1, .int a2]).length) Slot.unset).toArray = ls at hl ⊢
  have hl : lv_has ls 4 [(0, .ref (ad 0 0)), (1, .int a1), (2, .int a2)] := hl
  show W p l e rX11_element s m _ below meth c s.heap [] 0 0 _ (F0 m 0 ls [])
  unfold fX11_element at hf
  refine lv_iload_n hx hb dX11_element_0 rfl (lv_at hl 1 rfl) ?_
  refine lv_iconst (v := 0) hx hb dX11_element_1 (by decide) ?_
  refine lv_bipush (v := 7) hx hb dX11_element_2 (by decide) ?_
  obtain ⟨r1, er1, hf⟩ := bd_e hf
  refine gSr_i E hK hP (cX11_isOutc _ _ _ er1) kS_X11_isOut wd_1_178 rfl rfl rfl ⟨Nat.le_of_ble_eq_true rfl, Nat.le_of_ble_eq_true rfl⟩ ⟨Nat.zero_le _, Nat.zero_le _⟩ hl.1 (Nat.le_of_ble_eq_true rfl) rfl dX11_element_4 ?_
  refine lv_if_eq (tgt := 21) hx hb dX11_element_7 (by decide) (fun c0 => ?_) (fun c0 => ?_)
  · replace hf := pos_e c0 hf
    refine lv_aload_n hx hb dX11_element_21 rfl (lv_at hl 0 rfl) ?_
    refine gget E in_X11 hK hP (q_main ks ad σ) rfl (k := 4) (by decide) wd_1_149 rfl (v := .ref (ad 12 0)) rfl dX11_element_22 ?_
    refine lv_iload_n hx hb dX11_element_25 rfl (lv_at hl 1 rfl) ?_
    obtain ⟨c1, hf⟩ := ck_e hf
    refine gaaldS E hK hP c1 dX11_element_26 ?_
    refine lv_astore_n (lv' := [(3, .ref (ad 10 a1.toNatClampNeg)), (0, .ref (ad 0 0)), (1, .int a1), (2, .int a2)]) hx hb dX11_element_27 rfl hl (by decide) rfl (fun ls hl => ?_)
    refine lv_aload_n hx hb dX11_element_28 rfl (lv_at hl 0 rfl) ?_
    refine gget E in_X4 hK hP (qs_0 ks ad σ (vp_lt c1)) rfl (k := 1) (by decide) wd_1_126 rfl (v := .int (gI σ 8 a1.toNatClampNeg 1)) rfl dX11_element_29 ?_
    refine lv_if_eq (tgt := 43) hx hb dX11_element_32 (by decide) (fun c2 => ?_) (fun c2 => ?_)
    · replace hf := pos_e c2 hf
      exact vx_throwSW (own := RX11) (cls := "java/lang/IllegalStateException") (names := ["java/lang/RuntimeException", "java/lang/Exception"]) hx hb hst hown (by decide) (by decide) (E.2.2.2.2 _ wd_4_151) (E.2.2.2.2 _ wd_1_22) hsb (x_hat tSB tSBb E.2.2.2.2 (vx_c (va_Nw.use rfl (hX.2.2.1 _ (by simp [xdec]))) (vx_c (va_Nw.use rfl (hX.2.2.1 _ (by simp [xdec]))) (vx_c (va_Nw.use rfl (hX.2.2.1 _ (by simp [xdec]))) (vx_c (va_Nw.use rfl (hX.2.2.2.1 nISE (by simp))) vx_n))))) (x_good tSBo) hX.1 hX.2.1 hS (hl.1.trans hml.symm) dX11_element_43 dX11_element_46 dX11_element_47 dX11_element_50 dX11_element_53 (fun x h => (htab x h).elim) (by decide) (Nat.le_of_ble_eq_true rfl) (by decide) (by decide) hlk (fun t hA hz hq => ⟨2, ⟨by rw [som_e hf], Or.inr rfl⟩, ⟨rfl, hP.kept (fun k q hk => hq q.1 (hP k q hk).lt), hD⟩, hz, fun q h1 _ => hq q h1⟩) (fun z h => by cases h) (by decide) (by decide)
    · replace hf := neg_e c2 hf
      refine lv_aload_n hx hb dX11_element_35 rfl (lv_at hl 0 rfl) ?_
      refine lv_iload_n hx hb dX11_element_36 rfl (lv_at hl 3 rfl) ?_
      obtain ⟨r2, er2, hf⟩ := bd_e hf
      refine gVr_i E hK hP (cX4_hasPlacec (vp_lt c1) _ er2) kV_X4_hasPlace wd_4_8 rfl rfl (qs_0 ks ad σ (vp_lt c1)) rfl rfl rfl ⟨Nat.le_of_ble_eq_true rfl, Nat.le_of_ble_eq_true rfl⟩ ⟨Nat.zero_le _, Nat.zero_le _⟩ hl.1 (Nat.le_of_ble_eq_true rfl) rfl dX11_element_37 ?_
      refine lv_if_ne (tgt := 54) hx hb dX11_element_40 (by decide) (fun c3 => ?_) (fun c3 => ?_)
      · replace hf := neg_e c3 hf
        refine lv_aload_n hx hb dX11_element_54 rfl (lv_at hl 0 rfl) ?_
        refine gget E in_X4 hK hP (qs_0 ks ad σ (vp_lt c1)) rfl (k := 4) (by decide) wd_1_132 rfl (v := .ref (ad 11 a1.toNatClampNeg)) rfl dX11_element_55 ?_
        refine lv_iload_n hx hb dX11_element_58 rfl (lv_at hl 3 rfl) ?_
        obtain ⟨c4, hf⟩ := ck_e hf
        refine giald E hK hP (qs_1 ks ad σ (vp_lt c1)) c4 dX11_element_59 ?_
        refine lv_i2l hx hb dX11_element_60 rfl ?_
        refine vx_ret (W.widen (k := 1) (n := 6) (by decide) (by decide) ?_)
        exact W.lret hx hb hr (fun t ht hW => ⟨⟨_, (), rfl, som_e hf, by rw [ht]; exact hP, hD⟩, hS.F ht⟩) hS.2.2 dX11_element_61 hlk
      · replace hf := pos_e c3 hf
        exact vx_throwSW (own := RX11) (cls := "java/lang/IllegalStateException") (names := ["java/lang/RuntimeException", "java/lang/Exception"]) hx hb hst hown (by decide) (by decide) (E.2.2.2.2 _ wd_4_151) (E.2.2.2.2 _ wd_1_22) hsb (x_hat tSB tSBb E.2.2.2.2 (vx_c (va_Nw.use rfl (hX.2.2.1 _ (by simp [xdec]))) (vx_c (va_Nw.use rfl (hX.2.2.1 _ (by simp [xdec]))) (vx_c (va_Nw.use rfl (hX.2.2.1 _ (by simp [xdec]))) (vx_c (va_Nw.use rfl (hX.2.2.2.1 nISE (by simp))) vx_n))))) (x_good tSBo) hX.1 hX.2.1 hS (hl.1.trans hml.symm) dX11_element_43 dX11_element_46 dX11_element_47 dX11_element_50 dX11_element_53 (fun x h => (htab x h).elim) (by decide) (Nat.le_of_ble_eq_true rfl) (by decide) (by decide) hlk (fun t hA hz hq => ⟨2, ⟨by rw [som_e hf], Or.inr rfl⟩, ⟨rfl, hP.kept (fun k q hk => hq q.1 (hP k q hk).lt), hD⟩, hz, fun q h1 _ => hq q h1⟩) (fun z h => by cases h) (by decide) (by decide)
  · replace hf := neg_e c0 hf
    exact vx_throwSW (own := RX11) (cls := "java/lang/IllegalArgumentException") (names := ["java/lang/RuntimeException", "java/lang/Exception"]) hx hb hst hown (by decide) (by decide) (E.2.2.2.2 _ wd_4_152) (E.2.2.2.2 _ wd_1_21) hsa (x_hat tSA tSAb E.2.2.2.2 (vx_c (va_Nw.use rfl (hX.2.2.1 _ (by simp [xdec]))) (vx_c (va_Nw.use rfl (hX.2.2.1 _ (by simp [xdec]))) (vx_c (va_Nw.use rfl (hX.2.2.1 _ (by simp [xdec]))) (vx_c (va_Nw.use rfl (hX.2.2.2.1 nIAE (by simp))) vx_n))))) (x_good tSAo) hX.1 hX.2.1 hS (hl.1.trans hml.symm) dX11_element_10 dX11_element_13 dX11_element_14 dX11_element_17 dX11_element_20 (fun x h => (htab x h).elim) (by decide) (Nat.le_of_ble_eq_true rfl) (by decide) (by decide) hlk (fun t hA hz hq => ⟨1, ⟨by rw [som_e hf], Or.inl rfl⟩, ⟨rfl, hP.kept (fun k q hk => hq q.1 (hP k q hk).lt), hD⟩, hz, fun q h1 _ => hq q h1⟩) (fun z h => by cases h) (by decide) (by decide)
noncomputable def fL_element (σ : St) (a1 a2 : Int32) : Option (Int32 × St) :=
  bd (fX11_element σ a1 a2) fun q => if q.1 = 0 then some (0, sL σ 2 0 q.2) else if q.1 = 1 then some (1, σ) else some (2, σ)
def rL_element : Room := { frames := 7, cells := 1, slots := 6, locals := 105 }
def MLe (l : Launch) (dC : Nat → ClassId) (dI : Nat → Nat → Nat) (ks : Nat → ClassId) (ad : Nat → Nat → Nat) (σ : St) (a1 a2 : Int32) (out : Int32 × St) : Prop := ∀ sz : Nat, Met l yL_element (Cond.codeWith yL_element cL_element 5 (some .int) [(0, 9, 12, 13), (0, 9, 16, 15)] :: tT) rL_element (gPf dC dI ks ad σ sz [.ref (ad 0 0), .int a1, .int a2, .ref (ad 13 2)]) (va_Qi (fun r σ' => r = out.1 ∧ σ' = out.2) (gBw dC dI ks ad (gFr ks ad σ sz)) (gFr ks ad σ sz)) 1 6 (gFr ks ad σ sz)
set_option maxHeartbeats 4000000 in
theorem cL_elementc {l : Launch} (hst : l.stackTraces = false) {dC : Nat → ClassId} {dI : Nat → Nat → Nat} {ks : Nat → ClassId} {ad : Nat → Nat → Nat} {σ : St} (a1 a2 : Int32) {out : Int32 × St} (hf : fL_element σ a1 a2 = some out) : MLe l dC dI ks ad σ a1 a2 out := by
  intro sz
  refine va_MetW (hh := [(0, 9, 12, 13), (0, 9, 16, 15)]) (cc := cL_element) (maxL := 5) (ret := some .int) (by decide) rfl ?_
  intro p e s m args below meth c s₁ B hml hv
  obtain ⟨⟨rfl, hsz, hP, hK, hD0, hX⟩, hStr⟩ := hv
  subst hsz
  have hts := atoms_spec (ws := Cond.codeWith yL_element cL_element 5 (some .int) [(0, 9, 12, 13), (0, 9, 16, 15)] :: tT) B.pre
  have hown : s.vm.findClass RL = some m.cls := findClass_of_methodNamed B.named
  have E : CallFix p m c cL_element 5 s [.ref (ad 0 0), .int a1, .int a2, .ref (ad 13 2)].toArray tT RL := ⟨B.exec, B.bytes, hml, hown, fun w hw => hts w (List.mem_cons_of_mem _ hw)⟩
  have htab : c.exceptionTable.toList = tableOf [(0, 9, 12, 13), (0, 9, 16, 15)] := vx_table (x := yL_element) B (hts _ List.mem_cons_self)
  have hx := E.1
  have hb := E.2.1
  have hr := B.returns
  have hlk := B.notSynchronized
  have hD := hD0.self (sz := s.heap.size)
  have hA : ∀ q, s.heap.size ≤ q → gFr ks ad σ s.heap.size q := fun q h => Or.inr h
  have hS : va_S (gFr ks ad σ s.heap.size) s.heap s.heap [] := va_S.rf
  have hF := gFree hD hS hA
  have hl := lv_entry [.ref (ad 0 0), .int a1, .int a2, .ref (ad 13 2)] (n := 5) (Nat.le_of_ble_eq_true rfl)
  rw [lg_entry_eq]
  generalize (lg_sl [.ref (ad 0 0), .int a1, .int a2, .ref (ad 13 2)] ++ List.replicate (5 - (lg_sl [.ref (ad 0 0), .int a1, .int a2, .ref (ad 13 2)]).length) Slot.unset).toArray = ls at hl ⊢
  have hl : lv_has ls 5 [(0, .ref (ad 0 0)), (1, .int a1), (2, .int a2), (3, .ref (ad 13 2))] := hl
  show W p l e rL_element s m _ below meth c s.heap [] 0 0 _ (F0 m 0 ls [])
  unfold fL_element at hf
  obtain ⟨q, eq, hf⟩ := bd_e hf
  refine lv_aload_n hx hb dL_element_0 rfl (lv_at hl 3 rfl) ?_
  refine lv_iconst (v := 0) hx hb dL_element_1 (by decide) ?_
  refine lv_aload_n hx hb dL_element_2 rfl (lv_at hl 0 rfl) ?_
  refine lv_iload_n hx hb dL_element_3 rfl (lv_at hl 1 rfl) ?_
  refine lv_iload_n hx hb dL_element_4 rfl (lv_at hl 2 rfl) ?_
  have hwk : ∀ X ∈ [nISE, nIAE, nUOE], (Cond.castable X X).before [.ref (ad 0 0), .int a1, .int a2, .ref (ad 13 2)].toArray s = true := fun X hX1 => va_Nw.use rfl (hX.2.2.2.1 X hX1)
  refine vx_calll (vx_runV (As := [.int a1, .int a2]) (rest := [.int 0, .ref (ad 13 2)]) E (cX11_elementc hst a1 a2 eq s.heap.size) (cwV 2 E.2.2.2.2 (gi_V wd_5_31 kV_X11_element.1 kV_X11_element.2.1 kV_X11_element.2.2.1 kV_X11_element.2.2.2.1) rfl rfl rfl kV_X11_element.2.2.2.2 ⟨Nat.le_of_ble_eq_true rfl, Nat.le_of_ble_eq_true rfl⟩) ⟨gPf_blind, va_recv hK.1 hP (ci := 11) rfl (q_main ks ad σ), fun U hU hW => ⟨⟨rfl, by rw [hU], by rw [hU]; exact hP, gK.moved hW hK, hD.weaken (fun _ _ _ _ => trivial), gX.to hX hS hW hU hF⟩, gStr.moved hW hStr⟩⟩ rfl rfl hl.1 rfl (lv_room (Nat.le_of_ble_eq_true rfl)) dL_element_5 ⟨Nat.le_of_ble_eq_true rfl, Nat.le_of_ble_eq_true rfl⟩) hS (fun q _ h => hF q h) hF (fun q _ h => hF q h) (fun E9 ce q9 u t H1 locs1 ht hvm hp hB hz1 hk1 hS => ?_) (fun r u t H1 locs1 ht hvm hp hB hz1 hk1 hS => ?_)
  · obtain ⟨rfl, hB1, hB2⟩ := hB
    have hP : va_P (dC, dI) vwCl (wG ks ad σ) H1 := by rw [← ht]; exact hB1
    obtain ⟨hq, rfl | rfl⟩ := hp
    · intro hce hcv hcl
      replace hf := pos_e hq (neg_e (by rw [hq]; decide) hf)
      refine vx_catch (own := RL) hown [] ⟨0, 9, 12, 13⟩ [⟨0, 9, 16, 15⟩] htab (fun z hz => by cases hz) rfl (by decide) (E.2.2.2.2 _ wd_5_29) (hwk nIAE (by simp)) hce hcv hcl ?_
      refine lv_astore (lv' := [(4, .ref q9), (0, .ref (ad 0 0)), (1, .int a1), (2, .int a2), (3, .ref (ad 13 2))]) hx hb dL_element_12 hl (by decide) rfl (fun ls hl => ?_)
      refine lv_iconst (v := 1) hx hb dL_element_14 (by decide) ?_
      exact gretw_i E hlk hP hD hS hr dL_element_15 (som_e hf)
    · intro hce hcv hcl
      replace hf := neg_e (by rw [hq]; decide) (neg_e (by rw [hq]; decide) hf)
      refine vx_catch (own := RL) hown [⟨0, 9, 12, 13⟩] ⟨0, 9, 16, 15⟩ [] htab (fun z hz => ?_) rfl (by decide) (E.2.2.2.2 _ wd_5_30) (hwk nISE (by simp)) hce hcv hcl ?_
      · rcases List.mem_cons.mp hz with rfl | hz
        · exact Or.inr ⟨by decide, _, E.2.2.2.2 _ wd_5_29, hX.2.2.2.2.2.2.2⟩
        · cases hz
      refine lv_astore (lv' := [(4, .ref q9), (0, .ref (ad 0 0)), (1, .int a1), (2, .int a2), (3, .ref (ad 13 2))]) hx hb dL_element_16 hl (by decide) rfl (fun ls hl => ?_)
      refine lv_iconst (v := 2) hx hb dL_element_18 (by decide) ?_
      exact gretw_i E hlk hP hD hS hr dL_element_19 (som_e hf)
  · have hP : va_P (dC, dI) vwCl (wG ks ad σ) H1 := by rw [← ht]; exact hB.1
    subst hp
    replace hf := pos_e rfl hf
    obtain ⟨σ1, eσ1⟩ : ∃ σ1, σ1 = sL σ 2 0 r := ⟨_, rfl⟩
    refine glast E hK hP hD hS (q_L2 ks ad σ) (by unfold vp_in; decide) (σ' := σ1) (by rw [eσ1]; exact st_L2 ks ad σ _) dL_element_8 (fun H locs hP hD hS => ?_)
    refine lv_goto (tgt := 20) hx hb dL_element_9 (by decide) ?_
    refine lv_iconst (v := 0) hx hb dL_element_20 (by decide) ?_
    exact gretw_i E hlk hP hD hS hr dL_element_21 (by rw [eσ1]; exact som_e hf)
