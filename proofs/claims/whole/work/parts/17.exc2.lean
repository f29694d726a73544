theorem kV_X0_fail : KV RX0 yX0_fail cX0_fail 1 none 0 := ⟨wd_4_155, wd_4_156, wd_1_7, wd_5_10, by decide +kernel⟩
def nISE : String := "java/lang/IllegalStateException"
def nIAE : String := "java/lang/IllegalArgumentException"
def nUOE : String := "java/lang/UnsupportedOperationException"
def xdec : List MethodName := [Bundle.init0 "java/lang/RuntimeException", Bundle.init0 "java/lang/Exception", Bundle.init0 Bundle.tN, Bundle.initS "java/lang/RuntimeException", Bundle.initS "java/lang/Exception", Bundle.initS Bundle.tN]
/-- what a throw and its catching ask of the state besides tT -/
def gX (A : Nat → Prop) (U : State) : Prop := vx_Zq Bundle.tN "UNASSIGNED_STACK" Bundle.steD A U U.heap ∧ vx_Zq Bundle.tN "SUPPRESSED_SENTINEL" Bundle.listD A U U.heap ∧ (∀ x ∈ xdec, va_Nw (.declares x) U) ∧ (∀ X ∈ [nISE, nIAE, nUOE], va_Nw (.castable X X) U) ∧ va_Nc nIAE nISE U ∧ va_Nc nUOE nISE U ∧ va_Nc nUOE nIAE U ∧ va_Nc nISE nIAE U
theorem gX.to {A B : Nat → Prop} {s U : State} {H : Heap} {locs : List Loc} (h : gX A s) (hS : va_S A s.heap H locs) (hW : s.WarmedH U.vm) (hU : U.heap = H) (hAB : ∀ q, B q → A q) : gX B U := by
  obtain ⟨h1, h2, h3, h4, h5, h6, h7, h8⟩ := h
  have hk : ∀ a : Nat, a < s.heap.size → ¬ A a → U.heap[a]? = s.heap[a]? := fun a g1 g2 => by rw [hU]; exact hS.2.1 a g1 g2
  exact ⟨((h1.moved hW.alike).kept hk).narrow hAB, ((h2.moved hW.alike).kept hk).narrow hAB, fun x hx => va_Nw.warmD hW (h3 x hx), fun X hX => va_Nw.warmC hW (h4 X hX), h5.moved hW.alike, h6.moved hW.alike, h7.moved hW.alike, h8.moved hW.alike⟩
theorem gX.same {A : Nat → Prop} {s U : State} (h : gX A s) (hv : s.vm = U.vm) (hh : s.heap = U.heap) : gX A U := by
  obtain ⟨h1, h2, h3, h4, h5, h6, h7, h8⟩ := h
  have hA : s.vm.Alike U.vm := by rw [hv]; exact Vm.Alike.refl _
  exact ⟨by rw [← hh]; exact h1.moved hA, by rw [← hh]; exact h2.moved hA, fun x hx => va_tabs rfl hv (h3 x hx), fun X hX => va_tabs rfl hv (h4 X hX), h5.moved hA, h6.moved hA, h7.moved hA, h8.moved hA⟩
def gPe (dC : Nat → ClassId) (dI : Nat → Nat → Nat) (ks : Nat → ClassId) (ad : Nat → Nat → Nat) (σ : St) (sz : Nat) (av : List Value) : Array Value → State → Prop := va_Pc av (fun U => U.heap.size = sz ∧ va_P (dC, dI) vwCl (wG ks ad σ) U.heap ∧ gK dC dI ks U ∧ va_D (fun _ => True) (wG ks ad σ) ∧ gX (gFr ks ad σ sz) U)
theorem gPe_blind {dC : Nat → ClassId} {dI : Nat → Nat → Nat} {ks : Nat → ClassId} {ad : Nat → Nat → Nat} {σ : St} {sz : Nat} {av : List Value} : FrameBlind (gPe dC dI ks ad σ sz av) := fun a U g mk q => ⟨q.1, q.2.1, q.2.2.1, gK.same (s := U) (U := U.calling g mk a) rfl q.2.2.2.1, q.2.2.2.2.1, gX.same (s := U) (U := U.calling g mk a) q.2.2.2.2.2 rfl rfl⟩
/-- a method that throws E0 where code is true -/
def MXv (l : Launch) (dC : Nat → ClassId) (dI : Nat → Nat → Nat) (ks : Nat → ClassId) (ad : Nat → Nat → Nat) (σ : St) (y : MethodName) (bytes : ByteArray) (maxL : Nat) (ret : Option FieldType) (rm : Room) (av : List Value) (E0 : String) (code : Prop) : Prop := ∀ sz : Nat, vx_Met l y (Cond.code y bytes maxL ret :: tT) rm (gPe dC dI ks ad σ sz av) (va_Qv (fun _ : Unit => ¬ code) (fun _ t => gBw dC dI ks ad (gFr ks ad σ sz) σ t) (gFr ks ad σ sz)) (vx_X (fun _ : Unit => code) (fun E _ t => E = E0 ∧ gBw dC dI ks ad (gFr ks ad σ sz) σ t) (gFr ks ad σ sz)) 1 6 (gFr ks ad σ sz)
theorem x_hat {args : Array Value} {s : State} {L B : List Cond} (h1 : ∀ w ∈ L.filter goodWord, w ∈ tT) (h2 : L.filter (fun w => !goodWord w) = B) (hts : ∀ w ∈ tT, w.before args s = true) (h3 : ∀ w ∈ B, w.before args s = true) : ∀ w ∈ L, w.before args s = true := vx_hat (B := B) (fun w h => hts w (h1 w h)) (fun w h => by rw [← h2]; exact h) h3
theorem x_good {L : List Cond} {own cls : String} {ik : Nat} (h : L.all vx_ot = true) : ∀ w ∈ Cond.classLink own ik cls :: Cond.initialized cls :: L, vx_ot w = true := fun w hw => by
  rcases List.mem_cons.mp hw with rfl | hw
  · rfl
  · rcases List.mem_cons.mp hw with rfl | hw
    · rfl
    · exact List.all_eq_true.mp h w hw
def rX0_fail : Room := { frames := 6, cells := 1, slots := 6, locals := 81 }
set_option maxHeartbeats 4000000 in
theorem cX0_failc {l : Launch} (hst : l.stackTraces = false) {dC : Nat → ClassId} {dI : Nat → Nat → Nat} {ks : Nat → ClassId} {ad : Nat → Nat → Nat} {σ : St} {j : Nat} (hj : j < gS σ 2 0 ∧ okc (gS σ 1 j)) : MXv l dC dI ks ad σ yX0_fail cX0_fail 1 none rX0_fail [.ref (ad 16 j)] nISE (¬ gI σ 14 0 j = 0) := by
  intro sz
  refine vx_ofW (cc := cX0_fail) (maxL := 1) (ret := none) (by decide) rfl ?_
  intro p e s m args below meth c s₁ B hml htab hv
  obtain ⟨rfl, hsz, hP, hK, hD0, hX⟩ := hv
  subst hsz
  have hts := atoms_spec (ws := Cond.code yX0_fail cX0_fail 1 none :: tT) B.pre
  have hown : s.vm.findClass RX0 = some m.cls := findClass_of_methodNamed B.named
  have E : CallFix p m c cX0_fail 1 s [.ref (ad 16 j)].toArray tT RX0 := ⟨B.exec, B.bytes, hml, hown, fun w hw => hts w (List.mem_cons_of_mem _ hw)⟩
  have hx := E.1
  have hb := E.2.1
  have hr := B.returns
  have hlk := B.notSynchronized
  have hD := hD0.self (sz := s.heap.size)
  have hS : va_S (gFr ks ad σ s.heap.size) s.heap s.heap [] := va_S.rf
  have hl := lv_entry [.ref (ad 16 j)] (n := 1) (Nat.le_of_ble_eq_true rfl)
  rw [lg_entry_eq]
  generalize (lg_sl [.ref (ad 16 j)] ++ List.replicate (1 - (lg_sl [.ref (ad 16 j)]).length) Slot.unset).toArray = ls at hl ⊢
  have hl : lv_has ls 1 [(0, .ref (ad 16 j))] := hl
  show W p l e rX0_fail s m _ below meth c s.heap [] 0 0 _ (F0 m 0 ls [])
  refine lv_aload_n hx hb dX0_fail_0 rfl (lv_at hl 0 rfl) ?_
  refine gfig E hK hP hj wd_2_0 (Or.inl rfl) dX0_fail_1 ?_
  refine lv_if_eq (tgt := 15) hx hb dX0_fail_4 (by decide) (fun c0 => ?_) (fun c0 => ?_)
  · refine vx_ret (W.widen (k := 1) (n := 6) (by decide) (by decide) ?_)
    exact W.vret hx hb hr (fun t ht hW => ⟨⟨(), rfl, fun h => h c0, by rw [ht]; exact hP, hD⟩, hS.F ht⟩) hS.2.2 dX0_fail_15 hlk
  · exact vx_throw0 (own := RX0) (cls := "java/lang/IllegalStateException") (names := ["java/lang/RuntimeException", "java/lang/Exception"]) hx hb hst hown (by decide) (by decide) (E.2.2.2.2 _ wd_5_11) (E.2.2.2.2 _ wd_1_22)
      (x_hat t0A t0Ab E.2.2.2.2 (vx_c (va_Nw.use rfl (hX.2.2.1 _ (by simp [xdec]))) (vx_c (va_Nw.use rfl (hX.2.2.1 _ (by simp [xdec]))) (vx_c (va_Nw.use rfl (hX.2.2.1 _ (by simp [xdec]))) (vx_c (va_Nw.use rfl (hX.2.2.2.1 nISE (by simp))) vx_n))))) (x_good t0Ao)
      hX.1 hX.2.1 hS (hl.1.trans hml.symm) dX0_fail_7 dX0_fail_10 dX0_fail_11 dX0_fail_14 (fun x h => (htab x h).elim) (by decide) (Nat.le_of_ble_eq_true rfl) (by decide) (by decide) hlk
      (fun t hA hz hq => ⟨(), c0, ⟨rfl, hP.kept (fun k q hk => hq q.1 (hP k q hk).lt), hD⟩, hz, fun q h1 _ => hq q h1⟩) (fun z h => by cases h) (by decide) (by decide)
def rX8_fail : Room := { frames := 6, cells := 1, slots := 6, locals := 81 }
set_option maxHeartbeats 4000000 in
theorem cX8_failc {l : Launch} (hst : l.stackTraces = false) {dC : Nat → ClassId} {dI : Nat → Nat → Nat} {ks : Nat → ClassId} {ad : Nat → Nat → Nat} {σ : St} {j : Nat} (hj : j < gS σ 2 0 ∧ okc (gS σ 1 j)) : MXv l dC dI ks ad σ yX8_fail cX8_fail 1 none rX8_fail [.ref (ad 16 j)] nIAE (¬ gI σ 14 0 j = 0) := by
  intro sz
  refine vx_ofW (cc := cX8_fail) (maxL := 1) (ret := none) (by decide) rfl ?_
  intro p e s m args below meth c s₁ B hml htab hv
  obtain ⟨rfl, hsz, hP, hK, hD0, hX⟩ := hv
  subst hsz
  have hts := atoms_spec (ws := Cond.code yX8_fail cX8_fail 1 none :: tT) B.pre
  have hown : s.vm.findClass RX8 = some m.cls := findClass_of_methodNamed B.named
  have E : CallFix p m c cX8_fail 1 s [.ref (ad 16 j)].toArray tT RX8 := ⟨B.exec, B.bytes, hml, hown, fun w hw => hts w (List.mem_cons_of_mem _ hw)⟩
  have hx := E.1
  have hb := E.2.1
  have hr := B.returns
  have hlk := B.notSynchronized
  have hD := hD0.self (sz := s.heap.size)
  have hS : va_S (gFr ks ad σ s.heap.size) s.heap s.heap [] := va_S.rf
  have hl := lv_entry [.ref (ad 16 j)] (n := 1) (Nat.le_of_ble_eq_true rfl)
  rw [lg_entry_eq]
  generalize (lg_sl [.ref (ad 16 j)] ++ List.replicate (1 - (lg_sl [.ref (ad 16 j)]).length) Slot.unset).toArray = ls at hl ⊢
  have hl : lv_has ls 1 [(0, .ref (ad 16 j))] := hl
  show W p l e rX8_fail s m _ below meth c s.heap [] 0 0 _ (F0 m 0 ls [])
  refine lv_aload_n hx hb dX8_fail_0 rfl (lv_at hl 0 rfl) ?_
  refine gfig E hK hP hj wd_2_5 (Or.inr wd_2_6) dX8_fail_1 ?_
  refine lv_if_eq (tgt := 15) hx hb dX8_fail_4 (by decide) (fun c0 => ?_) (fun c0 => ?_)
  · refine vx_ret (W.widen (k := 1) (n := 6) (by decide) (by decide) ?_)
    exact W.vret hx hb hr (fun t ht hW => ⟨⟨(), rfl, fun h => h c0, by rw [ht]; exact hP, hD⟩, hS.F ht⟩) hS.2.2 dX8_fail_15 hlk
  · exact vx_throw0 (own := RX8) (cls := "java/lang/IllegalArgumentException") (names := ["java/lang/RuntimeException", "java/lang/Exception"]) hx hb hst hown (by decide) (by decide) (E.2.2.2.2 _ wd_4_161) (E.2.2.2.2 _ wd_1_21)
      (x_hat t0B t0Bb E.2.2.2.2 (vx_c (va_Nw.use rfl (hX.2.2.1 _ (by simp [xdec]))) (vx_c (va_Nw.use rfl (hX.2.2.1 _ (by simp [xdec]))) (vx_c (va_Nw.use rfl (hX.2.2.1 _ (by simp [xdec]))) (vx_c (va_Nw.use rfl (hX.2.2.2.1 nIAE (by simp))) vx_n))))) (x_good t0Bo)
      hX.1 hX.2.1 hS (hl.1.trans hml.symm) dX8_fail_7 dX8_fail_10 dX8_fail_11 dX8_fail_14 (fun x h => (htab x h).elim) (by decide) (Nat.le_of_ble_eq_true rfl) (by decide) (by decide) hlk
      (fun t hA hz hq => ⟨(), c0, ⟨rfl, hP.kept (fun k q hk => hq q.1 (hP k q hk).lt), hD⟩, hz, fun q h1 _ => hq q h1⟩) (fun z h => by cases h) (by decide) (by decide)
def rX5_fail : Room := { frames := 6, cells := 1, slots := 6, locals := 81 }
set_option maxHeartbeats 4000000 in
theorem cX5_failc {l : Launch} (hst : l.stackTraces = false) {dC : Nat → ClassId} {dI : Nat → Nat → Nat} {ks : Nat → ClassId} {ad : Nat → Nat → Nat} {σ : St} {j : Nat} (hj : j < gS σ 2 0 ∧ okc (gS σ 1 j)) : MXv l dC dI ks ad σ yX5_fail cX5_fail 1 none rX5_fail [.ref (ad 16 j)] nUOE (¬ gI σ 14 0 j = 0) := by
  intro sz
  refine vx_ofW (cc := cX5_fail) (maxL := 1) (ret := none) (by decide) rfl ?_
  intro p e s m args below meth c s₁ B hml htab hv
  obtain ⟨rfl, hsz, hP, hK, hD0, hX⟩ := hv
  subst hsz
  have hts := atoms_spec (ws := Cond.code yX5_fail cX5_fail 1 none :: tT) B.pre
  have hown : s.vm.findClass RX5 = some m.cls := findClass_of_methodNamed B.named
  have E : CallFix p m c cX5_fail 1 s [.ref (ad 16 j)].toArray tT RX5 := ⟨B.exec, B.bytes, hml, hown, fun w hw => hts w (List.mem_cons_of_mem _ hw)⟩
  have hx := E.1
  have hb := E.2.1
  have hr := B.returns
  have hlk := B.notSynchronized
  have hD := hD0.self (sz := s.heap.size)
  have hS : va_S (gFr ks ad σ s.heap.size) s.heap s.heap [] := va_S.rf
  have hl := lv_entry [.ref (ad 16 j)] (n := 1) (Nat.le_of_ble_eq_true rfl)
  rw [lg_entry_eq]
  generalize (lg_sl [.ref (ad 16 j)] ++ List.replicate (1 - (lg_sl [.ref (ad 16 j)]).length) Slot.unset).toArray = ls at hl ⊢
  have hl : lv_has ls 1 [(0, .ref (ad 16 j))] := hl
  show W p l e rX5_fail s m _ below meth c s.heap [] 0 0 _ (F0 m 0 ls [])
  refine lv_aload_n hx hb dX5_fail_0 rfl (lv_at hl 0 rfl) ?_
  refine gfig E hK hP hj wd_2_8 (Or.inr wd_2_9) dX5_fail_1 ?_
  refine lv_if_eq (tgt := 15) hx hb dX5_fail_4 (by decide) (fun c0 => ?_) (fun c0 => ?_)
  · refine vx_ret (W.widen (k := 1) (n := 6) (by decide) (by decide) ?_)
    exact W.vret hx hb hr (fun t ht hW => ⟨⟨(), rfl, fun h => h c0, by rw [ht]; exact hP, hD⟩, hS.F ht⟩) hS.2.2 dX5_fail_15 hlk
  · exact vx_throw0 (own := RX5) (cls := "java/lang/UnsupportedOperationException") (names := ["java/lang/RuntimeException", "java/lang/Exception"]) hx hb hst hown (by decide) (by decide) (E.2.2.2.2 _ wd_4_231) (E.2.2.2.2 _ wd_1_23)
      (x_hat t0C t0Cb E.2.2.2.2 (vx_c (va_Nw.use rfl (hX.2.2.1 _ (by simp [xdec]))) (vx_c (va_Nw.use rfl (hX.2.2.1 _ (by simp [xdec]))) (vx_c (va_Nw.use rfl (hX.2.2.1 _ (by simp [xdec]))) (vx_c (va_Nw.use rfl (hX.2.2.2.1 nUOE (by simp))) vx_n))))) (x_good t0Co)
      hX.1 hX.2.1 hS (hl.1.trans hml.symm) dX5_fail_7 dX5_fail_10 dX5_fail_11 dX5_fail_14 (fun x h => (htab x h).elim) (by decide) (Nat.le_of_ble_eq_true rfl) (by decide) (by decide) hlk
      (fun t hA hz hq => ⟨(), c0, ⟨rfl, hP.kept (fun k q hk => hq q.1 (hP k q hk).lt), hD⟩, hz, fun q h1 _ => hq q h1⟩) (fun z h => by cases h) (by decide) (by decide)
def rX2_fail : Room := { frames := 6, cells := 1, slots := 6, locals := 81 }
theorem cX2_failc {l : Launch} {dC : Nat → ClassId} {dI : Nat → Nat → Nat} {ks : Nat → ClassId} {ad : Nat → Nat → Nat} {σ : St} {j : Nat} : MXv l dC dI ks ad σ yX2_fail cX2_fail 1 none rX2_fail [.ref (ad 16 j)] nISE False := by
  intro sz
  refine vx_ofW (cc := cX2_fail) (maxL := 1) (ret := none) (by decide) rfl ?_
  intro p e s m args below meth c s₁ B hml htab hv
  obtain ⟨rfl, hsz, hP, hK, hD0, hX⟩ := hv
  subst hsz
  have hD := hD0.self (sz := s.heap.size)
  have hS : va_S (gFr ks ad σ s.heap.size) s.heap s.heap [] := va_S.rf
  refine vx_ret (W.widen (k := 1) (n := 6) (Nat.le_of_ble_eq_true rfl) (Nat.le_of_ble_eq_true rfl) ?_)
  exact W.vret B.exec B.bytes B.returns (fun t ht hW => ⟨⟨(), rfl, fun h => h, by rw [ht]; exact hP, hD⟩, hS.F ht⟩) hS.2.2 dX2_fail_0 B.notSynchronized
/-- which exception, and whether -/
def fexc (c : Nat) : String := if c = 0 then nISE else if c = 10 then nISE else if c = 5 then nUOE else nIAE
def fcode (σ : St) (j : Nat) : Prop := ¬ gS σ 1 j = 2 ∧ ¬ gS σ 1 j = 6 ∧ ¬ gI σ 14 0 j = 0
theorem kU_fail_1 : KO RX1 RX0 yX0_fail yX8_fail cX8_fail 1 none 0 cX0_fail 1 none := ⟨wd_4_157, wd_4_155, wd_4_158, wd_4_159, wd_1_9, wd_4_160, wd_5_10, by decide +kernel⟩
theorem kU_fail_2 : KO RX2 RX0 yX0_fail yX2_fail cX2_fail 1 none 0 cX0_fail 1 none := ⟨wd_4_157, wd_4_155, wd_4_225, wd_4_226, wd_1_8, wd_4_227, wd_5_10, by decide +kernel⟩
theorem kU_fail_5 : KO RX5 RX0 yX0_fail yX5_fail cX5_fail 1 none 0 cX0_fail 1 none := ⟨wd_4_157, wd_4_155, wd_4_228, wd_4_229, wd_1_10, wd_4_230, wd_5_10, by decide +kernel⟩
theorem kU_fail_6 : KO RX6 RX0 yX0_fail yX2_fail cX2_fail 1 none 0 cX0_fail 1 none := ⟨wd_4_157, wd_4_155, wd_5_6, wd_4_226, wd_1_8, wd_4_227, wd_5_10, by decide +kernel⟩
theorem kU_fail_7 : KO RX7 RX0 yX0_fail yX8_fail cX8_fail 1 none 0 cX0_fail 1 none := ⟨wd_4_157, wd_4_155, wd_5_7, wd_4_159, wd_1_9, wd_4_160, wd_5_10, by decide +kernel⟩
theorem kU_fail_8 : KO RX8 RX0 yX0_fail yX8_fail cX8_fail 1 none 0 cX0_fail 1 none := ⟨wd_4_157, wd_4_155, wd_5_8, wd_4_159, wd_1_9, wd_4_160, wd_5_10, by decide +kernel⟩
theorem kU_fail_10 : KU RX10 RX0 yX0_fail yX0_fail cX0_fail 1 none 0 := ⟨wd_4_157, wd_5_9, wd_4_155, wd_1_7, wd_5_10, rfl, by decide +kernel⟩
set_option maxHeartbeats 4000000 in
theorem vfail {p : Program} {l : Launch} {e : Env} {R : Room} {s : State} {m : MethodId} {args : Array Value} {below : List Frame} {meth : Method} {c : Code} {H : Heap} {locs : List Loc} {cells slots : Nat} {Q : State → Prop} {cc : ByteArray} {pc nL index j : Nat} {ls : Array Slot} {rest : List Value} {own : String} {dC : Nat → ClassId} {dI : Nat → Nat → Nat} {ks : Nat → ClassId} {ad : Nat → Nat → Nat} {σ : St} {A : Nat → Prop} (hst : l.stackTraces = false) (E : CallFix p m c cc nL s args tT own) (hK : gK dC dI ks s) (hP : va_P (dC, dI) vwCl (wG ks ad σ) H) (hD : va_D A (wG ks ad σ)) (hS : va_S A s.heap H locs) (hA : ∀ q, s.heap.size ≤ q → A q) (hX : gX A s) (hj : j < gS σ 2 0 ∧ okc (gS σ 1 j)) (h1 : Cond.methodLink own index yX0_fail ∈ tT) (hR : 7 ≤ R.frames ∧ 8 + (1 + 11) + 81 ≤ R.locals) (hz : cells + 1 ≤ R.cells ∧ slots + 6 ≤ R.slots) (hls : ls.size = nL) (hW : (rest.map fun v => v.category).sum ≤ 8) (hdg : decode cc pc = .ok (.invokevirtual index, 3))
    (kx : fcode σ j → ∀ (ce : Cell) (q9 : Addr) (H1 : Heap) (locs1 : List Loc), va_P (dC, dI) vwCl (wG ks ad σ) H1 → va_D A (wG ks ad σ) → va_S A s.heap H1 locs1 → H1[q9]? = some ce → ce.vm = .none → s.vm.findClass (fexc (gS σ 1 j)) = some ce.cls → vx_W p l e R s m args below meth c H1 locs1 (cells + 1) (slots + 6) Q (F0 m pc ls rest) q9)
    (kk : ¬ fcode σ j → ∀ (H1 : Heap) (locs1 : List Loc), va_P (dC, dI) vwCl (wG ks ad σ) H1 → va_D A (wG ks ad σ) → va_S A s.heap H1 locs1 → W p l e R s m args below meth c H1 locs1 (cells + 1) (slots + 6) Q (F0 m (pc + 3) ls rest)) : W p l e R s m args below meth c H locs cells slots Q (F0 m pc ls (.ref (ad 16 j) :: rest)) := by
  have he := q_blow ks ad σ hj.1
  have hF := gFree hD hS hA
  have pre : ∀ U : State, U.heap = H → s.WarmedH U.vm → gPe dC dI ks ad σ H.size [.ref (ad 16 j)] #[.ref (ad 16 j)] U := fun U hU hW => ⟨rfl, by rw [hU], by rw [hU]; exact hP, gK.moved hW hK, hD.weaken (fun _ _ _ _ => trivial), gX.to hX hS hW hU hF⟩
  rcases hj.2 with h | h | h | h | h | h | h | h <;> rw [h] at he
  · refine vx_callv (vx_runV (As := []) (rest := rest) E (cX0_failc hst hj H.size) (cwV 0 E.2.2.2.2 (gi_V h1 kV_X0_fail.1 kV_X0_fail.2.1 kV_X0_fail.2.2.1 kV_X0_fail.2.2.2.1) rfl rfl rfl kV_X0_fail.2.2.2.2 hR) ⟨gPe_blind, va_recv hK.1 hP (ci := 0) rfl he, pre⟩ rfl rfl hls rfl (lv_room hW) hdg hz) hS (fun q _ h => hF q h) hF (fun q _ h => hF q h) (fun E9 ce q9 u t H1 locs1 ht hvm hp hB hz1 hk1 hS1 hce hcv hcl => ?_) (fun u t H1 locs1 ht hvm hp hB hz1 hk1 hS1 => ?_)
    · obtain ⟨rfl, hB1, hB2⟩ := hB
      exact kx ⟨by rw [h]; decide, by rw [h]; decide, hp⟩ ce q9 H1 locs1 (by rw [← ht]; exact hB1) (hB2.weaken (fun _ _ _ h => hF _ h)) hS1 hce hcv (by rw [show fexc (gS σ 1 j) = nISE by rw [h]; rfl]; exact hcl)
    · exact kk (fun h9 => hp h9.2.2) H1 locs1 (by rw [← ht]; exact hB.1) (hB.2.weaken (fun _ _ _ h => hF _ h)) hS1
  · refine vx_callv (gx_runU (As := []) (rest := rest) E (cX8_failc hst hj H.size) (va_cwO 0 E.2.2.2.2 (gi_O h1 kU_fail_1.1 kU_fail_1.2.1 kU_fail_1.2.2.1 kU_fail_1.2.2.2.1 kU_fail_1.2.2.2.2.1 kU_fail_1.2.2.2.2.2.1) rfl rfl rfl kU_fail_1.2.2.2.2.2.2.1 kU_fail_1.2.2.2.2.2.2.2 hR) ⟨gPe_blind, va_recv hK.1 hP (ci := 1) rfl he, pre⟩ rfl rfl hls rfl (lv_room hW) hdg hz) hS (fun q _ h => hF q h) hF (fun q _ h => hF q h) (fun E9 ce q9 u t H1 locs1 ht hvm hp hB hz1 hk1 hS1 hce hcv hcl => ?_) (fun u t H1 locs1 ht hvm hp hB hz1 hk1 hS1 => ?_)
    · obtain ⟨rfl, hB1, hB2⟩ := hB
      exact kx ⟨by rw [h]; decide, by rw [h]; decide, hp⟩ ce q9 H1 locs1 (by rw [← ht]; exact hB1) (hB2.weaken (fun _ _ _ h => hF _ h)) hS1 hce hcv (by rw [show fexc (gS σ 1 j) = nIAE by rw [h]; rfl]; exact hcl)
    · exact kk (fun h9 => hp h9.2.2) H1 locs1 (by rw [← ht]; exact hB.1) (hB.2.weaken (fun _ _ _ h => hF _ h)) hS1
  · refine vx_callv (gx_runU (As := []) (rest := rest) E (cX2_failc H.size) (va_cwO 0 E.2.2.2.2 (gi_O h1 kU_fail_2.1 kU_fail_2.2.1 kU_fail_2.2.2.1 kU_fail_2.2.2.2.1 kU_fail_2.2.2.2.2.1 kU_fail_2.2.2.2.2.2.1) rfl rfl rfl kU_fail_2.2.2.2.2.2.2.1 kU_fail_2.2.2.2.2.2.2.2 hR) ⟨gPe_blind, va_recv hK.1 hP (ci := 2) rfl he, pre⟩ rfl rfl hls rfl (lv_room hW) hdg hz) hS (fun q _ h => hF q h) hF (fun q _ h => hF q h) (fun E9 ce q9 u t H1 locs1 ht hvm hp hB hz1 hk1 hS1 hce hcv hcl => ?_) (fun u t H1 locs1 ht hvm hp hB hz1 hk1 hS1 => ?_)
    · obtain ⟨rfl, hB1, hB2⟩ := hB
      exact hp.elim
    · exact kk (fun h9 => h9.1 h) H1 locs1 (by rw [← ht]; exact hB.1) (hB.2.weaken (fun _ _ _ h => hF _ h)) hS1
  · refine vx_callv (gx_runU (As := []) (rest := rest) E (cX5_failc hst hj H.size) (va_cwO 0 E.2.2.2.2 (gi_O h1 kU_fail_5.1 kU_fail_5.2.1 kU_fail_5.2.2.1 kU_fail_5.2.2.2.1 kU_fail_5.2.2.2.2.1 kU_fail_5.2.2.2.2.2.1) rfl rfl rfl kU_fail_5.2.2.2.2.2.2.1 kU_fail_5.2.2.2.2.2.2.2 hR) ⟨gPe_blind, va_recv hK.1 hP (ci := 5) rfl he, pre⟩ rfl rfl hls rfl (lv_room hW) hdg hz) hS (fun q _ h => hF q h) hF (fun q _ h => hF q h) (fun E9 ce q9 u t H1 locs1 ht hvm hp hB hz1 hk1 hS1 hce hcv hcl => ?_) (fun u t H1 locs1 ht hvm hp hB hz1 hk1 hS1 => ?_)
    · obtain ⟨rfl, hB1, hB2⟩ := hB
      exact kx ⟨by rw [h]; decide, by rw [h]; decide, hp⟩ ce q9 H1 locs1 (by rw [← ht]; exact hB1) (hB2.weaken (fun _ _ _ h => hF _ h)) hS1 hce hcv (by rw [show fexc (gS σ 1 j) = nUOE by rw [h]; rfl]; exact hcl)
    · exact kk (fun h9 => hp h9.2.2) H1 locs1 (by rw [← ht]; exact hB.1) (hB.2.weaken (fun _ _ _ h => hF _ h)) hS1
  · refine vx_callv (gx_runU (As := []) (rest := rest) E (cX2_failc H.size) (va_cwO 0 E.2.2.2.2 (gi_O h1 kU_fail_6.1 kU_fail_6.2.1 kU_fail_6.2.2.1 kU_fail_6.2.2.2.1 kU_fail_6.2.2.2.2.1 kU_fail_6.2.2.2.2.2.1) rfl rfl rfl kU_fail_6.2.2.2.2.2.2.1 kU_fail_6.2.2.2.2.2.2.2 hR) ⟨gPe_blind, va_recv hK.1 hP (ci := 6) rfl he, pre⟩ rfl rfl hls rfl (lv_room hW) hdg hz) hS (fun q _ h => hF q h) hF (fun q _ h => hF q h) (fun E9 ce q9 u t H1 locs1 ht hvm hp hB hz1 hk1 hS1 hce hcv hcl => ?_) (fun u t H1 locs1 ht hvm hp hB hz1 hk1 hS1 => ?_)
    · obtain ⟨rfl, hB1, hB2⟩ := hB
      exact hp.elim
    · exact kk (fun h9 => h9.2.1 h) H1 locs1 (by rw [← ht]; exact hB.1) (hB.2.weaken (fun _ _ _ h => hF _ h)) hS1
  · refine vx_callv (gx_runU (As := []) (rest := rest) E (cX8_failc hst hj H.size) (va_cwO 0 E.2.2.2.2 (gi_O h1 kU_fail_7.1 kU_fail_7.2.1 kU_fail_7.2.2.1 kU_fail_7.2.2.2.1 kU_fail_7.2.2.2.2.1 kU_fail_7.2.2.2.2.2.1) rfl rfl rfl kU_fail_7.2.2.2.2.2.2.1 kU_fail_7.2.2.2.2.2.2.2 hR) ⟨gPe_blind, va_recv hK.1 hP (ci := 7) rfl he, pre⟩ rfl rfl hls rfl (lv_room hW) hdg hz) hS (fun q _ h => hF q h) hF (fun q _ h => hF q h) (fun E9 ce q9 u t H1 locs1 ht hvm hp hB hz1 hk1 hS1 hce hcv hcl => ?_) (fun u t H1 locs1 ht hvm hp hB hz1 hk1 hS1 => ?_)
    · obtain ⟨rfl, hB1, hB2⟩ := hB
      exact kx ⟨by rw [h]; decide, by rw [h]; decide, hp⟩ ce q9 H1 locs1 (by rw [← ht]; exact hB1) (hB2.weaken (fun _ _ _ h => hF _ h)) hS1 hce hcv (by rw [show fexc (gS σ 1 j) = nIAE by rw [h]; rfl]; exact hcl)
    · exact kk (fun h9 => hp h9.2.2) H1 locs1 (by rw [← ht]; exact hB.1) (hB.2.weaken (fun _ _ _ h => hF _ h)) hS1
  · refine vx_callv (gx_runU (As := []) (rest := rest) E (cX8_failc hst hj H.size) (va_cwO 0 E.2.2.2.2 (gi_O h1 kU_fail_8.1 kU_fail_8.2.1 kU_fail_8.2.2.1 kU_fail_8.2.2.2.1 kU_fail_8.2.2.2.2.1 kU_fail_8.2.2.2.2.2.1) rfl rfl rfl kU_fail_8.2.2.2.2.2.2.1 kU_fail_8.2.2.2.2.2.2.2 hR) ⟨gPe_blind, va_recv hK.1 hP (ci := 8) rfl he, pre⟩ rfl rfl hls rfl (lv_room hW) hdg hz) hS (fun q _ h => hF q h) hF (fun q _ h => hF q h) (fun E9 ce q9 u t H1 locs1 ht hvm hp hB hz1 hk1 hS1 hce hcv hcl => ?_) (fun u t H1 locs1 ht hvm hp hB hz1 hk1 hS1 => ?_)
    · obtain ⟨rfl, hB1, hB2⟩ := hB
      exact kx ⟨by rw [h]; decide, by rw [h]; decide, hp⟩ ce q9 H1 locs1 (by rw [← ht]; exact hB1) (hB2.weaken (fun _ _ _ h => hF _ h)) hS1 hce hcv (by rw [show fexc (gS σ 1 j) = nIAE by rw [h]; rfl]; exact hcl)
    · exact kk (fun h9 => hp h9.2.2) H1 locs1 (by rw [← ht]; exact hB.1) (hB.2.weaken (fun _ _ _ h => hF _ h)) hS1
  · refine vx_callv (gx_runU (As := []) (rest := rest) E (cX0_failc hst hj H.size) (va_cwU 0 E.2.2.2.2 (gi_U h1 kU_fail_10.1 kU_fail_10.2.1 kU_fail_10.2.2.1 kU_fail_10.2.2.2.1 kU_fail_10.2.2.2.2.1) rfl rfl rfl kU_fail_10.2.2.2.2.2.1 kU_fail_10.2.2.2.2.2.2 hR) ⟨gPe_blind, va_recv hK.1 hP (ci := 10) rfl he, pre⟩ rfl rfl hls rfl (lv_room hW) hdg hz) hS (fun q _ h => hF q h) hF (fun q _ h => hF q h) (fun E9 ce q9 u t H1 locs1 ht hvm hp hB hz1 hk1 hS1 hce hcv hcl => ?_) (fun u t H1 locs1 ht hvm hp hB hz1 hk1 hS1 => ?_)
    · obtain ⟨rfl, hB1, hB2⟩ := hB
      exact kx ⟨by rw [h]; decide, by rw [h]; decide, hp⟩ ce q9 H1 locs1 (by rw [← ht]; exact hB1) (hB2.weaken (fun _ _ _ h => hF _ h)) hS1 hce hcv (by rw [show fexc (gS σ 1 j) = nISE by rw [h]; rfl]; exact hcl)
    · exact kk (fun h9 => hp h9.2.2) H1 locs1 (by rw [← ht]; exact hB.1) (hB.2.weaken (fun _ _ _ h => hF _ h)) hS1
