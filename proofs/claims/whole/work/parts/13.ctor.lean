/-- addresses: those made once, and the blows' -/
def adU (ad : Nat → Nat → Nat) (bl : Nat → Nat) : Nat → Nat → Nat := fun c i => if c = 16 then bl i else ad c i
theorem adU_self (ad : Nat → Nat → Nat) : adU ad (ad 16) = ad := by
  funext c i
  unfold adU
  split
  · next h => rw [h]
  · rfl
/-- every reference to a blow is to one that was made -/
def RefsOk (σ : St) : Prop := ∀ c i k j, gR σ c i k = some j → j < gS σ 2 0
theorem map_up {o : Option Nat} {bl : Nat → Nat} {n q : Nat} {ad : Nat → Nat → Nat} (h : ∀ j, o = some j → j < n) : o.map (adU ad (va_up bl n q) 16) = o.map (adU ad bl 16) := by
  cases o with
  | none => rfl
  | some j =>
    have h2 := h j rfl
    show some (va_up bl n q j) = some (bl j)
    unfold va_up
    rw [if_neg (by omega)]
set_option maxHeartbeats 4000000 in
theorem wG_push {ks : Nat → ClassId} {ad : Nat → Nat → Nat} {bl : Nat → Nat} {σ : St} {q ci : Nat} {k f : Int32} (h : RefsOk σ) : wG ks (adU ad bl) σ ++ [(q, .inr (ci, [.int k, .int f]))] = wG ks (adU ad (va_up bl (gS σ 2 0) q)) (sB σ ci k f) := by
  have e1 : ∀ i, eBlA ks (adU ad bl) σ i = eBlA ks (adU ad (va_up bl (gS σ 2 0) q)) (sB σ ci k f) i := by
    intro i
    have e : (fun k => (gR σ 0 i k).map (adU ad bl 16)) = fun k => (gR σ 0 i k).map (adU ad (va_up bl (gS σ 2 0) q) 16) := by
      funext z
      exact (map_up (fun j hj => h 0 i z j hj)).symm
    show (Sum.inl (ks 2, 6, .inr (.inr (.inr (.inr (fun k => (gR σ 0 i k).map (adU ad bl 16)))))) : va_E) = .inl (ks 2, 6, .inr (.inr (.inr (.inr (fun k => (gR σ 0 i k).map (adU ad (va_up bl (gS σ 2 0) q) 16))))))
    rw [e]
  have e2 : ∀ d, eShelf (adU ad bl) σ d = eShelf (adU ad (va_up bl (gS σ 2 0) q)) (sB σ ci k f) d := by
    intro d
    show (Sum.inr (4, [va_rf ((gR σ 1 d 0).map (adU ad bl 16)), .int (gI σ 8 d 1), .int (gI σ 8 d 2), .int (gI σ 8 d 3), .ref (ad 11 d)]) : va_E) = .inr (4, [va_rf ((gR σ 1 d 0).map (adU ad (va_up bl (gS σ 2 0) q) 16)), .int (gI σ 8 d 1), .int (gI σ 8 d 2), .int (gI σ 8 d 3), .ref (ad 11 d)])
    rw [map_up (fun j hj => h 1 d 0 j hj)]
  have e3 : wF ks (adU ad bl) σ = wF ks (adU ad (va_up bl (gS σ 2 0) q)) (sB σ ci k f) := by
    simp only [wF, wHedge, wShelf, e1, e2]
    rfl
  have e4 : wBl (adU ad bl) σ ++ [(q, .inr (ci, [.int k, .int f]))] = wBl (adU ad (va_up bl (gS σ 2 0) q)) (sB σ ci k f) := by
    show (List.range (gS σ 2 0)).map (bE (adU ad bl) σ) ++ _ = (List.range (gS σ 2 0 + 1)).map (bE (adU ad (va_up bl (gS σ 2 0) q)) (sB σ ci k f))
    rw [List.range_succ, List.map_append]
    congr 1
    · apply List.map_congr_left
      intro j hj
      have hj := List.mem_range.mp hj
      have hne : j ≠ gS σ 2 0 := by omega
      simp [bE, adU, va_up, sB, sS, sI, sA, gI, gS, up2, upd, hne] at *
      simp [hne]
    · simp [bE, adU, va_up, sB, sS, sI, sA, gI, gS, up2, upd]
  show (wF ks (adU ad bl) σ ++ wBl (adU ad bl) σ) ++ _ = wF _ _ _ ++ wBl _ _
  rw [List.append_assoc, e4, e3]
/-- words of a constructor -/
def KI (y : MethodName) (bytes : ByteArray) (maxL : Nat) (n : Nat) : Prop := Cond.instanceMethod y ∈ tT ∧ Cond.initialized y.cls ∈ tT ∧ Cond.code y bytes maxL none ∈ tT ∧ y.name = "<init>" ∧ (y.cls ≠ "java/lang/invoke/MethodHandle" ∧ y.cls ≠ "java/lang/invoke/VarHandle" ∧ (parseMethodDescriptor y.desc).map (fun d => d.parameters.length) = some n)
/-- what begins over any cells -/
def gPx (dC : Nat → ClassId) (dI : Nat → Nat → Nat) (ks : Nat → ClassId) (ws : va_W) (sz : Nat) (av : List Value) : Array Value → State → Prop := va_Pc av (fun U => U.heap.size = sz ∧ va_P (dC, dI) vwCl ws U.heap ∧ gK dC dI ks U ∧ va_D (fun _ => True) ws)
theorem gPx_blind {dC : Nat → ClassId} {dI : Nat → Nat → Nat} {ks : Nat → ClassId} {ws : va_W} {sz : Nat} {av : List Value} : FrameBlind (gPx dC dI ks ws sz av) := fun a U g mk q => ⟨q.1, q.2.1, q.2.2.1, gK.same (s := U) (U := U.calling g mk a) rfl q.2.2.2.1, q.2.2.2.2⟩
theorem gFreeW {ws : va_W} {A : Nat → Prop} {H0 H : Heap} {locs : List Loc} (hD : va_D A ws) (hS : va_S A H0 H locs) (hA : ∀ q, H0.size ≤ q → A q) : ∀ q, va_A ws H.size q → A q := fun q h => h.elim (fun ⟨k, e, hk⟩ => hD.2 k _ hk) (fun h => hA q (Nat.le_trans hS.1 h))
/-- a constructor of a blow: place k of the cells, an object of class ci, gets its two fields -/
def MCt (l : Launch) (dC : Nat → ClassId) (dI : Nat → Nat → Nat) (ks : Nat → ClassId) (y : MethodName) (bytes : ByteArray) (rm : Room) (ws : va_W) (k h0 ci : Nat) (a b : Int32) : Prop := ∀ sz : Nat, Met l y (Cond.code y bytes 3 none :: tT) rm (gPx dC dI ks ws sz [.ref h0, .int a, .int b]) (va_Qv (fun _ : Unit => True) (fun _ t => va_P (dC, dI) vwCl (ws.set k (h0, .inr (ci, [.int a, .int b]))) t.heap ∧ va_D (va_A ws sz) (ws.set k (h0, .inr (ci, [.int a, .int b])))) (va_A ws sz)) 0 0 (va_A ws sz)
section
variable {p : Program} {l : Launch} {e : Env} {R : Room} {s : State} {m : MethodId} {args : Array Value} {below : List Frame} {meth : Method} {c : Code} {H : Heap} {locs : List Loc} {cells slots : Nat} {Q : State → Prop}
variable {cc : ByteArray} {pc nL : Nat} {ls : Array Slot} {rest st : List Value} {own : String}
variable {dC : Nat → ClassId} {dI : Nat → Nat → Nat} {ks : Nat → ClassId} {ad : Nat → Nat → Nat} {bl : Nat → Nat} {σ σ' : St} {A : Nat → Prop} {H0 : Heap} {ws : va_W}
variable {y x : MethodName} {bytes b0 : ByteArray} {maxL n index mc ms m0 : Nat} {ret r0 : Option FieldType} {rm : Room} {b : Nat} {As av : List Value} {C owner : String} {q0 ci : Nat} {fs : List Value} {q : vw_C}
theorem gInit {k h0 : Nat} {a b : Int32} (E : CallFix p m c cc nL s args tT own) (hK : gK dC dI ks s) (hP : va_P (dC, dI) vwCl ws H) (hD : va_D A ws) (hS : va_S A H0 H locs) (hA : ∀ q, H0.size ≤ q → A q) (hM : MCt l dC dI ks y bytes rm ws k h0 ci a b) (hw : KI y bytes 3 2) (h1 : Cond.methodLink own index y ∈ tT) (hrc : rm.cells = 0) (hrs : rm.slots = 0) (hR : rm.frames + 1 ≤ R.frames ∧ 8 + (3 + 11) + rm.locals ≤ R.locals) (hf : cells ≤ R.cells ∧ slots ≤ R.slots) (hls : ls.size = nL) (hW : (rest.map fun v => v.category).sum ≤ 8) (hdg : decode cc pc = .ok (.invokespecial index, 3)) (kk : ∀ (H1 : Heap) (locs1 : List Loc), va_P (dC, dI) vwCl (ws.set k (h0, .inr (ci, [.int a, .int b]))) H1 → va_D A (ws.set k (h0, .inr (ci, [.int a, .int b]))) → va_S A H0 H1 locs1 → W p l e R s m args below meth c H1 locs1 cells slots Q (F0 m (pc + 3) ls rest)) : W p l e R s m args below meth c H locs cells slots Q (F0 m pc ls (.int b :: .int a :: .ref h0 :: rest)) := by
  have hF := gFreeW hD hS hA
  exact va_callv (va_runI (As := [.int a, .int b]) (rest := rest) E (hM H.size) (cwI 2 E.2.2.2.2 (gi_c hw.2.2.1 tT_self) rfl hrc hrs (E.2.2.2.2 _ hw.2.1) (E.2.2.2.2 _ h1) (E.2.2.2.2 _ hw.1) hw.2.2.2.1 hw.2.2.2.2 hR) ⟨gPx_blind, fun U hU hW => ⟨rfl, by rw [hU], by rw [hU]; exact hP, gK.moved hW hK, hD.weaken (fun _ _ _ _ => trivial)⟩⟩ rfl rfl hls rfl (lv_room hW) hdg hf) hS (fun q _ h => hF q h) hF (fun u t H1 locs1 ht hvm hq hB hz hk hS1 => kk H1 locs1 (by rw [← ht]; exact hB.1) (hB.2.weaken (fun _ _ _ h => hF _ h)) hS1)
theorem met_x {Qc : (Nat → Prop) → Array Value → State → Outcome → State → Prop} {sz : Nat} (hy : plainName y.cls = true) (ho : y.cls = own) (hlen : (lg_sl av).length ≤ maxL)
    (body : ∀ (A : Nat → Prop) (p : Program) (e : Env) (s : State) (m : MethodId) (args : Array Value) (below : List Frame) (meth : Method) (c : Code) (ls : Array Slot), CallFix p m c bytes maxL s args tT own → meth.sig.returnType = ret → meth.locks = false → meth.name = y.name → (∀ q, s.heap.size ≤ q → A q) → va_P (dC, dI) vwCl ws s.heap → va_D A ws → va_S A s.heap s.heap [] → gK dC dI ks s → lv_has ls maxL (lv_args 0 av) → W p l e rm s m args below meth c s.heap [] 0 0 (MQ below (Qc A) args s mc ms A) (F0 m 0 ls [])) :
    Met l y (Cond.code y bytes maxL ret :: tT) rm (gPx dC dI ks ws sz av) (Qc (va_A ws sz)) mc ms (va_A ws sz) := by
  refine Met.ofW (cc := bytes) (maxL := maxL) (ret := ret) hy rfl ?_
  intro p e s m args below meth c s₁ B hml hv
  obtain ⟨rfl, hsz, hP, hK, hD⟩ := hv
  subst hsz
  have hts := atoms_spec (ws := Cond.code y bytes maxL ret :: tT) B.pre
  have hown : s.vm.findClass y.cls = some m.cls := findClass_of_methodNamed B.named
  have hl := lv_entry av (n := maxL) hlen
  have hlk := B.notSynchronized
  rw [lg_entry_eq]
  exact body _ p e s m _ below meth c _ ⟨B.exec, B.bytes, hml, by rw [← ho]; exact hown, fun w hw => hts w (List.mem_cons_of_mem _ hw)⟩ B.returns hlk (name_of_methodNamed B.named B.method).1 (fun q h => Or.inr h) hP hD.self va_S.rf hK hl
theorem gput0 {ref C : String} {T : u_T} {N k : Nat} {ty : FieldType} {v : Value} (E : CallFix p m c cc nL s args tT own) (hin : ∀ w ∈ u_ws C T N, w ∈ tT) (ty0 : Nat → FieldType) (hty : ∀ k, k < N → parseFieldDescriptor (T k).2.2.1 = some (ty0 k)) (hnm : ∀ a, a < N → ∀ b, b < N → a ≠ b → (T a).2.1 ≠ (T b).2.1) (hK : gK dC dI ks s) (hP : va_P (dC, dI) vwCl ws H) (hD : va_D A ws) (hS : va_S A H0 H locs) (he : ws[q0]? = some (b, .inr (ci, fs))) (hc : vwCl[ci]? = some (C, T, N)) (hk : k < N) (hlink : Cond.fieldLink own index ref (T k).2.1 (T k).2.2.1 ∈ tT) (hsame : (T k).1 = ref) (hfin : (T k).2.2.2 = true) (hin2 : meth.name = "<init>") (hdecl : (T k).1 = own) (hd : parseFieldDescriptor (T k).2.2.1 = some ty) (hn : narrow ty v = v) (hfit : fits ty v = true) (hl : k < fs.length) (hdg : decode cc pc = .ok (.putfield index, 3)) (kk : ∀ (H1 : Heap) (locs1 : List Loc), va_P (dC, dI) vwCl (ws.set q0 (b, .inr (ci, fs.set k v))) H1 → va_D A (ws.set q0 (b, .inr (ci, fs.set k v))) → va_S A H0 H1 locs1 → W p l e R s m args below meth c H1 locs1 cells slots Q (F0 m (pc + 3) ls rest)) : W p l e R s m args below meth c H locs cells slots Q (F0 m pc ls (v :: .ref b :: rest)) := by
  subst hsame
  exact va_putF E.1 E.2.1 E.2.2.2.2 hin ty0 hty hnm E.2.2.2.1 hK.1 hP hD hS q0 he hc k hk (E.2.2.2.2 _ hlink) (fun _ h9 => h9) hfin hin2 hdecl hd hn hfit hl hdg kk
theorem gObj {b : Nat} (E : CallFix p m c cc nL s args tT own) (h1 : Cond.methodLink own index objectInit ∈ tT) (h2 : Cond.instanceMethod objectInit ∈ tT) (h3 : Cond.code objectInit ⟨#[0xb1]⟩ 1 none ∈ tT) (hls : ls.size = nL) (hR : 1 ≤ R.frames) (hL : (rest.map fun v => v.category).sum + 12 ≤ R.locals) (hdg : decode cc pc = .ok (.invokespecial index, 3)) (kk : W p l e R s m args below meth c H locs cells slots Q (F0 m (pc + 3) ls rest)) : W p l e R s m args below meth c H locs cells slots Q (F0 m pc ls (.ref b :: rest)) := W.objInit E.1 E.2.1 E.2.2.2.1 (E.2.2.2.2 _ h1) (E.2.2.2.2 _ h2) (E.2.2.2.2 _ h3) rfl (hls.trans E.2.2.1.symm) rfl hdg hR (by show 2 * 0 + _ + 12 ≤ _; omega) (W.eq (g2 := F0 m (pc + 3) ls rest) rfl kk)
end
theorem kI_X0_init : KI yX0_init cX0_init 3 2 := ⟨wd_1_235, wd_1_7, wd_1_236, rfl, by decide +kernel⟩
def rX0_init : Room := { frames := 1, cells := 0, slots := 0, locals := 21 }
theorem cX0_init_0 {l : Launch} {dC : Nat → ClassId} {dI : Nat → Nat → Nat} {ks : Nat → ClassId} {ws : va_W} {k h0 : Nat} {x z : Int32} (a b : Int32) (he : ws[k]? = some (h0, .inr (0, [.int x, .int z]))) : MCt l dC dI ks yX0_init cX0_init rX0_init ws k h0 0 a b := by
  intro sz
  refine met_x (Qc := fun A => va_Qv (fun _ : Unit => True) (fun _ t => va_P (dC, dI) vwCl (ws.set k (h0, .inr (0, [.int a, .int b]))) t.heap ∧ va_D A (ws.set k (h0, .inr (0, [.int a, .int b])))) A) (own := RX0) (by decide) rfl (Nat.le_of_ble_eq_true rfl) ?_
  intro A p e s m args below meth c ls E hr hlk hnm hA hP hD hS hK hl
  have hx := E.1
  have hb := E.2.1
  have hl : lv_has ls 3 [(0, .ref h0), (1, .int a), (2, .int b)] := hl
  refine lv_aload_n hx hb dX0_init_0 rfl (lv_at hl 0 rfl) ?_
  refine gObj E wd_1_237 wd_1_30 wd_1_31 hl.1 (Nat.le_of_ble_eq_true rfl) (Nat.le_of_ble_eq_true rfl) dX0_init_1 ?_
  refine lv_aload_n hx hb dX0_init_4 rfl (lv_at hl 0 rfl) ?_
  refine lv_iload_n hx hb dX0_init_5 rfl (lv_at hl 1 rfl) ?_
  refine gput0 (k := 0) E in_X0 tyX0 tyX0_ok nmX0 hK hP hD hS he rfl (by decide) wd_1_238 rfl rfl hnm rfl rfl rfl rfl (Nat.le_of_ble_eq_true rfl) dX0_init_6 (fun H locs hP hD hS => ?_)
  have he2 : (ws.set k (h0, .inr (0, [.int a, .int z])))[k]? = some (h0, .inr (0, [.int a, .int z])) := List.getElem?_set_self (List.getElem?_eq_some_iff.mp he).1
  refine lv_aload_n hx hb dX0_init_9 rfl (lv_at hl 0 rfl) ?_
  refine lv_iload_n hx hb dX0_init_10 rfl (lv_at hl 2 rfl) ?_
  refine gput0 (k := 1) E in_X0 tyX0 tyX0_ok nmX0 hK hP hD hS he2 rfl (by decide) wd_2_0 rfl rfl hnm rfl rfl rfl rfl (Nat.le_of_ble_eq_true rfl) dX0_init_11 (fun H locs hP hD hS => ?_)
  have e3 : ((ws.set k (h0, .inr (0, [.int a, .int z]))).set k (h0, .inr (0, [.int a, .int b]))) = ws.set k (h0, .inr (0, [.int a, .int b])) := List.set_set _
  have hP : va_P (dC, dI) vwCl (ws.set k (h0, .inr (0, [.int a, .int b]))) H := by rw [← e3]; exact hP
  have hD : va_D A (ws.set k (h0, .inr (0, [.int a, .int b]))) := by rw [← e3]; exact hD
  exact W.vret hx hb hr (fun t ht hW => ⟨⟨(), rfl, trivial, by rw [ht]; exact hP, hD⟩, hS.F ht⟩) hS.2.2 dX0_init_14 hlk
theorem cX0_init_1 {l : Launch} {dC : Nat → ClassId} {dI : Nat → Nat → Nat} {ks : Nat → ClassId} {ws : va_W} {k h0 : Nat} {x z : Int32} (a b : Int32) (he : ws[k]? = some (h0, .inr (1, [.int x, .int z]))) : MCt l dC dI ks yX0_init cX0_init rX0_init ws k h0 1 a b := by
  intro sz
  refine met_x (Qc := fun A => va_Qv (fun _ : Unit => True) (fun _ t => va_P (dC, dI) vwCl (ws.set k (h0, .inr (1, [.int a, .int b]))) t.heap ∧ va_D A (ws.set k (h0, .inr (1, [.int a, .int b])))) A) (own := RX0) (by decide) rfl (Nat.le_of_ble_eq_true rfl) ?_
  intro A p e s m args below meth c ls E hr hlk hnm hA hP hD hS hK hl
  have hx := E.1
  have hb := E.2.1
  have hl : lv_has ls 3 [(0, .ref h0), (1, .int a), (2, .int b)] := hl
  refine lv_aload_n hx hb dX0_init_0 rfl (lv_at hl 0 rfl) ?_
  refine gObj E wd_1_237 wd_1_30 wd_1_31 hl.1 (Nat.le_of_ble_eq_true rfl) (Nat.le_of_ble_eq_true rfl) dX0_init_1 ?_
  refine lv_aload_n hx hb dX0_init_4 rfl (lv_at hl 0 rfl) ?_
  refine lv_iload_n hx hb dX0_init_5 rfl (lv_at hl 1 rfl) ?_
  refine gput0 (k := 0) E in_X1 tyX1 tyX1_ok nmX1 hK hP hD hS he rfl (by decide) wd_1_238 rfl rfl hnm rfl rfl rfl rfl (Nat.le_of_ble_eq_true rfl) dX0_init_6 (fun H locs hP hD hS => ?_)
  have he2 : (ws.set k (h0, .inr (1, [.int a, .int z])))[k]? = some (h0, .inr (1, [.int a, .int z])) := List.getElem?_set_self (List.getElem?_eq_some_iff.mp he).1
  refine lv_aload_n hx hb dX0_init_9 rfl (lv_at hl 0 rfl) ?_
  refine lv_iload_n hx hb dX0_init_10 rfl (lv_at hl 2 rfl) ?_
  refine gput0 (k := 1) E in_X1 tyX1 tyX1_ok nmX1 hK hP hD hS he2 rfl (by decide) wd_2_0 rfl rfl hnm rfl rfl rfl rfl (Nat.le_of_ble_eq_true rfl) dX0_init_11 (fun H locs hP hD hS => ?_)
  have e3 : ((ws.set k (h0, .inr (1, [.int a, .int z]))).set k (h0, .inr (1, [.int a, .int b]))) = ws.set k (h0, .inr (1, [.int a, .int b])) := List.set_set _
  have hP : va_P (dC, dI) vwCl (ws.set k (h0, .inr (1, [.int a, .int b]))) H := by rw [← e3]; exact hP
  have hD : va_D A (ws.set k (h0, .inr (1, [.int a, .int b]))) := by rw [← e3]; exact hD
  exact W.vret hx hb hr (fun t ht hW => ⟨⟨(), rfl, trivial, by rw [ht]; exact hP, hD⟩, hS.F ht⟩) hS.2.2 dX0_init_14 hlk
theorem cX0_init_2 {l : Launch} {dC : Nat → ClassId} {dI : Nat → Nat → Nat} {ks : Nat → ClassId} {ws : va_W} {k h0 : Nat} {x z : Int32} (a b : Int32) (he : ws[k]? = some (h0, .inr (2, [.int x, .int z]))) : MCt l dC dI ks yX0_init cX0_init rX0_init ws k h0 2 a b := by
  intro sz
  refine met_x (Qc := fun A => va_Qv (fun _ : Unit => True) (fun _ t => va_P (dC, dI) vwCl (ws.set k (h0, .inr (2, [.int a, .int b]))) t.heap ∧ va_D A (ws.set k (h0, .inr (2, [.int a, .int b])))) A) (own := RX0) (by decide) rfl (Nat.le_of_ble_eq_true rfl) ?_
  intro A p e s m args below meth c ls E hr hlk hnm hA hP hD hS hK hl
  have hx := E.1
  have hb := E.2.1
  have hl : lv_has ls 3 [(0, .ref h0), (1, .int a), (2, .int b)] := hl
  refine lv_aload_n hx hb dX0_init_0 rfl (lv_at hl 0 rfl) ?_
  refine gObj E wd_1_237 wd_1_30 wd_1_31 hl.1 (Nat.le_of_ble_eq_true rfl) (Nat.le_of_ble_eq_true rfl) dX0_init_1 ?_
  refine lv_aload_n hx hb dX0_init_4 rfl (lv_at hl 0 rfl) ?_
  refine lv_iload_n hx hb dX0_init_5 rfl (lv_at hl 1 rfl) ?_
  refine gput0 (k := 0) E in_X2 tyX2 tyX2_ok nmX2 hK hP hD hS he rfl (by decide) wd_1_238 rfl rfl hnm rfl rfl rfl rfl (Nat.le_of_ble_eq_true rfl) dX0_init_6 (fun H locs hP hD hS => ?_)
  have he2 : (ws.set k (h0, .inr (2, [.int a, .int z])))[k]? = some (h0, .inr (2, [.int a, .int z])) := List.getElem?_set_self (List.getElem?_eq_some_iff.mp he).1
  refine lv_aload_n hx hb dX0_init_9 rfl (lv_at hl 0 rfl) ?_
  refine lv_iload_n hx hb dX0_init_10 rfl (lv_at hl 2 rfl) ?_
  refine gput0 (k := 1) E in_X2 tyX2 tyX2_ok nmX2 hK hP hD hS he2 rfl (by decide) wd_2_0 rfl rfl hnm rfl rfl rfl rfl (Nat.le_of_ble_eq_true rfl) dX0_init_11 (fun H locs hP hD hS => ?_)
  have e3 : ((ws.set k (h0, .inr (2, [.int a, .int z]))).set k (h0, .inr (2, [.int a, .int b]))) = ws.set k (h0, .inr (2, [.int a, .int b])) := List.set_set _
  have hP : va_P (dC, dI) vwCl (ws.set k (h0, .inr (2, [.int a, .int b]))) H := by rw [← e3]; exact hP
  have hD : va_D A (ws.set k (h0, .inr (2, [.int a, .int b]))) := by rw [← e3]; exact hD
  exact W.vret hx hb hr (fun t ht hW => ⟨⟨(), rfl, trivial, by rw [ht]; exact hP, hD⟩, hS.F ht⟩) hS.2.2 dX0_init_14 hlk
theorem cX0_init_5 {l : Launch} {dC : Nat → ClassId} {dI : Nat → Nat → Nat} {ks : Nat → ClassId} {ws : va_W} {k h0 : Nat} {x z : Int32} (a b : Int32) (he : ws[k]? = some (h0, .inr (5, [.int x, .int z]))) : MCt l dC dI ks yX0_init cX0_init rX0_init ws k h0 5 a b := by
  intro sz
  refine met_x (Qc := fun A => va_Qv (fun _ : Unit => True) (fun _ t => va_P (dC, dI) vwCl (ws.set k (h0, .inr (5, [.int a, .int b]))) t.heap ∧ va_D A (ws.set k (h0, .inr (5, [.int a, .int b])))) A) (own := RX0) (by decide) rfl (Nat.le_of_ble_eq_true rfl) ?_
  intro A p e s m args below meth c ls E hr hlk hnm hA hP hD hS hK hl
  have hx := E.1
  have hb := E.2.1
  have hl : lv_has ls 3 [(0, .ref h0), (1, .int a), (2, .int b)] := hl
  refine lv_aload_n hx hb dX0_init_0 rfl (lv_at hl 0 rfl) ?_
  refine gObj E wd_1_237 wd_1_30 wd_1_31 hl.1 (Nat.le_of_ble_eq_true rfl) (Nat.le_of_ble_eq_true rfl) dX0_init_1 ?_
  refine lv_aload_n hx hb dX0_init_4 rfl (lv_at hl 0 rfl) ?_
  refine lv_iload_n hx hb dX0_init_5 rfl (lv_at hl 1 rfl) ?_
  refine gput0 (k := 0) E in_X5 tyX5 tyX5_ok nmX5 hK hP hD hS he rfl (by decide) wd_1_238 rfl rfl hnm rfl rfl rfl rfl (Nat.le_of_ble_eq_true rfl) dX0_init_6 (fun H locs hP hD hS => ?_)
  have he2 : (ws.set k (h0, .inr (5, [.int a, .int z])))[k]? = some (h0, .inr (5, [.int a, .int z])) := List.getElem?_set_self (List.getElem?_eq_some_iff.mp he).1
  refine lv_aload_n hx hb dX0_init_9 rfl (lv_at hl 0 rfl) ?_
  refine lv_iload_n hx hb dX0_init_10 rfl (lv_at hl 2 rfl) ?_
  refine gput0 (k := 1) E in_X5 tyX5 tyX5_ok nmX5 hK hP hD hS he2 rfl (by decide) wd_2_0 rfl rfl hnm rfl rfl rfl rfl (Nat.le_of_ble_eq_true rfl) dX0_init_11 (fun H locs hP hD hS => ?_)
  have e3 : ((ws.set k (h0, .inr (5, [.int a, .int z]))).set k (h0, .inr (5, [.int a, .int b]))) = ws.set k (h0, .inr (5, [.int a, .int b])) := List.set_set _
  have hP : va_P (dC, dI) vwCl (ws.set k (h0, .inr (5, [.int a, .int b]))) H := by rw [← e3]; exact hP
  have hD : va_D A (ws.set k (h0, .inr (5, [.int a, .int b]))) := by rw [← e3]; exact hD
  exact W.vret hx hb hr (fun t ht hW => ⟨⟨(), rfl, trivial, by rw [ht]; exact hP, hD⟩, hS.F ht⟩) hS.2.2 dX0_init_14 hlk
theorem cX0_init_6 {l : Launch} {dC : Nat → ClassId} {dI : Nat → Nat → Nat} {ks : Nat → ClassId} {ws : va_W} {k h0 : Nat} {x z : Int32} (a b : Int32) (he : ws[k]? = some (h0, .inr (6, [.int x, .int z]))) : MCt l dC dI ks yX0_init cX0_init rX0_init ws k h0 6 a b := by
  intro sz
  refine met_x (Qc := fun A => va_Qv (fun _ : Unit => True) (fun _ t => va_P (dC, dI) vwCl (ws.set k (h0, .inr (6, [.int a, .int b]))) t.heap ∧ va_D A (ws.set k (h0, .inr (6, [.int a, .int b])))) A) (own := RX0) (by decide) rfl (Nat.le_of_ble_eq_true rfl) ?_
  intro A p e s m args below meth c ls E hr hlk hnm hA hP hD hS hK hl
  have hx := E.1
  have hb := E.2.1
  have hl : lv_has ls 3 [(0, .ref h0), (1, .int a), (2, .int b)] := hl
  refine lv_aload_n hx hb dX0_init_0 rfl (lv_at hl 0 rfl) ?_
  refine gObj E wd_1_237 wd_1_30 wd_1_31 hl.1 (Nat.le_of_ble_eq_true rfl) (Nat.le_of_ble_eq_true rfl) dX0_init_1 ?_
  refine lv_aload_n hx hb dX0_init_4 rfl (lv_at hl 0 rfl) ?_
  refine lv_iload_n hx hb dX0_init_5 rfl (lv_at hl 1 rfl) ?_
  refine gput0 (k := 0) E in_X6 tyX6 tyX6_ok nmX6 hK hP hD hS he rfl (by decide) wd_1_238 rfl rfl hnm rfl rfl rfl rfl (Nat.le_of_ble_eq_true rfl) dX0_init_6 (fun H locs hP hD hS => ?_)
  have he2 : (ws.set k (h0, .inr (6, [.int a, .int z])))[k]? = some (h0, .inr (6, [.int a, .int z])) := List.getElem?_set_self (List.getElem?_eq_some_iff.mp he).1
  refine lv_aload_n hx hb dX0_init_9 rfl (lv_at hl 0 rfl) ?_
  refine lv_iload_n hx hb dX0_init_10 rfl (lv_at hl 2 rfl) ?_
  refine gput0 (k := 1) E in_X6 tyX6 tyX6_ok nmX6 hK hP hD hS he2 rfl (by decide) wd_2_0 rfl rfl hnm rfl rfl rfl rfl (Nat.le_of_ble_eq_true rfl) dX0_init_11 (fun H locs hP hD hS => ?_)
  have e3 : ((ws.set k (h0, .inr (6, [.int a, .int z]))).set k (h0, .inr (6, [.int a, .int b]))) = ws.set k (h0, .inr (6, [.int a, .int b])) := List.set_set _
  have hP : va_P (dC, dI) vwCl (ws.set k (h0, .inr (6, [.int a, .int b]))) H := by rw [← e3]; exact hP
  have hD : va_D A (ws.set k (h0, .inr (6, [.int a, .int b]))) := by rw [← e3]; exact hD
  exact W.vret hx hb hr (fun t ht hW => ⟨⟨(), rfl, trivial, by rw [ht]; exact hP, hD⟩, hS.F ht⟩) hS.2.2 dX0_init_14 hlk
theorem cX0_init_7 {l : Launch} {dC : Nat → ClassId} {dI : Nat → Nat → Nat} {ks : Nat → ClassId} {ws : va_W} {k h0 : Nat} {x z : Int32} (a b : Int32) (he : ws[k]? = some (h0, .inr (7, [.int x, .int z]))) : MCt l dC dI ks yX0_init cX0_init rX0_init ws k h0 7 a b := by
  intro sz
  refine met_x (Qc := fun A => va_Qv (fun _ : Unit => True) (fun _ t => va_P (dC, dI) vwCl (ws.set k (h0, .inr (7, [.int a, .int b]))) t.heap ∧ va_D A (ws.set k (h0, .inr (7, [.int a, .int b])))) A) (own := RX0) (by decide) rfl (Nat.le_of_ble_eq_true rfl) ?_
  intro A p e s m args below meth c ls E hr hlk hnm hA hP hD hS hK hl
  have hx := E.1
  have hb := E.2.1
  have hl : lv_has ls 3 [(0, .ref h0), (1, .int a), (2, .int b)] := hl
  refine lv_aload_n hx hb dX0_init_0 rfl (lv_at hl 0 rfl) ?_
  refine gObj E wd_1_237 wd_1_30 wd_1_31 hl.1 (Nat.le_of_ble_eq_true rfl) (Nat.le_of_ble_eq_true rfl) dX0_init_1 ?_
  refine lv_aload_n hx hb dX0_init_4 rfl (lv_at hl 0 rfl) ?_
  refine lv_iload_n hx hb dX0_init_5 rfl (lv_at hl 1 rfl) ?_
  refine gput0 (k := 0) E in_X7 tyX7 tyX7_ok nmX7 hK hP hD hS he rfl (by decide) wd_1_238 rfl rfl hnm rfl rfl rfl rfl (Nat.le_of_ble_eq_true rfl) dX0_init_6 (fun H locs hP hD hS => ?_)
  have he2 : (ws.set k (h0, .inr (7, [.int a, .int z])))[k]? = some (h0, .inr (7, [.int a, .int z])) := List.getElem?_set_self (List.getElem?_eq_some_iff.mp he).1
  refine lv_aload_n hx hb dX0_init_9 rfl (lv_at hl 0 rfl) ?_
  refine lv_iload_n hx hb dX0_init_10 rfl (lv_at hl 2 rfl) ?_
  refine gput0 (k := 1) E in_X7 tyX7 tyX7_ok nmX7 hK hP hD hS he2 rfl (by decide) wd_2_0 rfl rfl hnm rfl rfl rfl rfl (Nat.le_of_ble_eq_true rfl) dX0_init_11 (fun H locs hP hD hS => ?_)
  have e3 : ((ws.set k (h0, .inr (7, [.int a, .int z]))).set k (h0, .inr (7, [.int a, .int b]))) = ws.set k (h0, .inr (7, [.int a, .int b])) := List.set_set _
  have hP : va_P (dC, dI) vwCl (ws.set k (h0, .inr (7, [.int a, .int b]))) H := by rw [← e3]; exact hP
  have hD : va_D A (ws.set k (h0, .inr (7, [.int a, .int b]))) := by rw [← e3]; exact hD
  exact W.vret hx hb hr (fun t ht hW => ⟨⟨(), rfl, trivial, by rw [ht]; exact hP, hD⟩, hS.F ht⟩) hS.2.2 dX0_init_14 hlk
theorem cX0_init_8 {l : Launch} {dC : Nat → ClassId} {dI : Nat → Nat → Nat} {ks : Nat → ClassId} {ws : va_W} {k h0 : Nat} {x z : Int32} (a b : Int32) (he : ws[k]? = some (h0, .inr (8, [.int x, .int z]))) : MCt l dC dI ks yX0_init cX0_init rX0_init ws k h0 8 a b := by
  intro sz
  refine met_x (Qc := fun A => va_Qv (fun _ : Unit => True) (fun _ t => va_P (dC, dI) vwCl (ws.set k (h0, .inr (8, [.int a, .int b]))) t.heap ∧ va_D A (ws.set k (h0, .inr (8, [.int a, .int b])))) A) (own := RX0) (by decide) rfl (Nat.le_of_ble_eq_true rfl) ?_
  intro A p e s m args below meth c ls E hr hlk hnm hA hP hD hS hK hl
  have hx := E.1
  have hb := E.2.1
  have hl : lv_has ls 3 [(0, .ref h0), (1, .int a), (2, .int b)] := hl
  refine lv_aload_n hx hb dX0_init_0 rfl (lv_at hl 0 rfl) ?_
  refine gObj E wd_1_237 wd_1_30 wd_1_31 hl.1 (Nat.le_of_ble_eq_true rfl) (Nat.le_of_ble_eq_true rfl) dX0_init_1 ?_
  refine lv_aload_n hx hb dX0_init_4 rfl (lv_at hl 0 rfl) ?_
  refine lv_iload_n hx hb dX0_init_5 rfl (lv_at hl 1 rfl) ?_
  refine gput0 (k := 0) E in_X8 tyX8 tyX8_ok nmX8 hK hP hD hS he rfl (by decide) wd_1_238 rfl rfl hnm rfl rfl rfl rfl (Nat.le_of_ble_eq_true rfl) dX0_init_6 (fun H locs hP hD hS => ?_)
  have he2 : (ws.set k (h0, .inr (8, [.int a, .int z])))[k]? = some (h0, .inr (8, [.int a, .int z])) := List.getElem?_set_self (List.getElem?_eq_some_iff.mp he).1
  refine lv_aload_n hx hb dX0_init_9 rfl (lv_at hl 0 rfl) ?_
  refine lv_iload_n hx hb dX0_init_10 rfl (lv_at hl 2 rfl) ?_
  refine gput0 (k := 1) E in_X8 tyX8 tyX8_ok nmX8 hK hP hD hS he2 rfl (by decide) wd_2_0 rfl rfl hnm rfl rfl rfl rfl (Nat.le_of_ble_eq_true rfl) dX0_init_11 (fun H locs hP hD hS => ?_)
  have e3 : ((ws.set k (h0, .inr (8, [.int a, .int z]))).set k (h0, .inr (8, [.int a, .int b]))) = ws.set k (h0, .inr (8, [.int a, .int b])) := List.set_set _
  have hP : va_P (dC, dI) vwCl (ws.set k (h0, .inr (8, [.int a, .int b]))) H := by rw [← e3]; exact hP
  have hD : va_D A (ws.set k (h0, .inr (8, [.int a, .int b]))) := by rw [← e3]; exact hD
  exact W.vret hx hb hr (fun t ht hW => ⟨⟨(), rfl, trivial, by rw [ht]; exact hP, hD⟩, hS.F ht⟩) hS.2.2 dX0_init_14 hlk
theorem cX0_init_10 {l : Launch} {dC : Nat → ClassId} {dI : Nat → Nat → Nat} {ks : Nat → ClassId} {ws : va_W} {k h0 : Nat} {x z : Int32} (a b : Int32) (he : ws[k]? = some (h0, .inr (10, [.int x, .int z]))) : MCt l dC dI ks yX0_init cX0_init rX0_init ws k h0 10 a b := by
  intro sz
  refine met_x (Qc := fun A => va_Qv (fun _ : Unit => True) (fun _ t => va_P (dC, dI) vwCl (ws.set k (h0, .inr (10, [.int a, .int b]))) t.heap ∧ va_D A (ws.set k (h0, .inr (10, [.int a, .int b])))) A) (own := RX0) (by decide) rfl (Nat.le_of_ble_eq_true rfl) ?_
  intro A p e s m args below meth c ls E hr hlk hnm hA hP hD hS hK hl
  have hx := E.1
  have hb := E.2.1
  have hl : lv_has ls 3 [(0, .ref h0), (1, .int a), (2, .int b)] := hl
  refine lv_aload_n hx hb dX0_init_0 rfl (lv_at hl 0 rfl) ?_
  refine gObj E wd_1_237 wd_1_30 wd_1_31 hl.1 (Nat.le_of_ble_eq_true rfl) (Nat.le_of_ble_eq_true rfl) dX0_init_1 ?_
  refine lv_aload_n hx hb dX0_init_4 rfl (lv_at hl 0 rfl) ?_
  refine lv_iload_n hx hb dX0_init_5 rfl (lv_at hl 1 rfl) ?_
  refine gput0 (k := 0) E in_X10 tyX10 tyX10_ok nmX10 hK hP hD hS he rfl (by decide) wd_1_238 rfl rfl hnm rfl rfl rfl rfl (Nat.le_of_ble_eq_true rfl) dX0_init_6 (fun H locs hP hD hS => ?_)
  have he2 : (ws.set k (h0, .inr (10, [.int a, .int z])))[k]? = some (h0, .inr (10, [.int a, .int z])) := List.getElem?_set_self (List.getElem?_eq_some_iff.mp he).1
  refine lv_aload_n hx hb dX0_init_9 rfl (lv_at hl 0 rfl) ?_
  refine lv_iload_n hx hb dX0_init_10 rfl (lv_at hl 2 rfl) ?_
  refine gput0 (k := 1) E in_X10 tyX10 tyX10_ok nmX10 hK hP hD hS he2 rfl (by decide) wd_2_0 rfl rfl hnm rfl rfl rfl rfl (Nat.le_of_ble_eq_true rfl) dX0_init_11 (fun H locs hP hD hS => ?_)
  have e3 : ((ws.set k (h0, .inr (10, [.int a, .int z]))).set k (h0, .inr (10, [.int a, .int b]))) = ws.set k (h0, .inr (10, [.int a, .int b])) := List.set_set _
  have hP : va_P (dC, dI) vwCl (ws.set k (h0, .inr (10, [.int a, .int b]))) H := by rw [← e3]; exact hP
  have hD : va_D A (ws.set k (h0, .inr (10, [.int a, .int b]))) := by rw [← e3]; exact hD
  exact W.vret hx hb hr (fun t ht hW => ⟨⟨(), rfl, trivial, by rw [ht]; exact hP, hD⟩, hS.F ht⟩) hS.2.2 dX0_init_14 hlk
theorem kI_X2_init : KI yX2_init cX2_init 3 2 := ⟨wd_2_18, wd_1_8, wd_2_19, rfl, by decide +kernel⟩
def rX2_init : Room := { frames := 2, cells := 0, slots := 0, locals := 43 }
theorem cX2_init_2 {l : Launch} {dC : Nat → ClassId} {dI : Nat → Nat → Nat} {ks : Nat → ClassId} {ws : va_W} {k h0 : Nat} {x z : Int32} (a b : Int32) (he : ws[k]? = some (h0, .inr (2, [.int x, .int z]))) : MCt l dC dI ks yX2_init cX2_init rX2_init ws k h0 2 a b := by
  intro sz
  refine met_x (Qc := fun A => va_Qv (fun _ : Unit => True) (fun _ t => va_P (dC, dI) vwCl (ws.set k (h0, .inr (2, [.int a, .int b]))) t.heap ∧ va_D A (ws.set k (h0, .inr (2, [.int a, .int b])))) A) (own := RX2) (by decide) rfl (Nat.le_of_ble_eq_true rfl) ?_
  intro A p e s m args below meth c ls E hr hlk hnm hA hP hD hS hK hl
  have hx := E.1
  have hb := E.2.1
  have hl : lv_has ls 3 [(0, .ref h0), (1, .int a), (2, .int b)] := hl
  refine lv_aload_n hx hb dX2_init_0 rfl (lv_at hl 0 rfl) ?_
  refine lv_iload_n hx hb dX2_init_1 rfl (lv_at hl 1 rfl) ?_
  refine lv_iload_n hx hb dX2_init_2 rfl (lv_at hl 2 rfl) ?_
  refine gInit E hK hP hD hS hA (cX0_init_2 a b he) kI_X0_init wd_2_20 rfl rfl ⟨Nat.le_of_ble_eq_true rfl, Nat.le_of_ble_eq_true rfl⟩ ⟨Nat.zero_le _, Nat.zero_le _⟩ hl.1 (Nat.le_of_ble_eq_true rfl) dX2_init_3 (fun H locs hP hD hS => ?_)
  exact W.vret hx hb hr (fun t ht hW => ⟨⟨(), rfl, trivial, by rw [ht]; exact hP, hD⟩, hS.F ht⟩) hS.2.2 dX2_init_6 hlk
theorem cX2_init_6 {l : Launch} {dC : Nat → ClassId} {dI : Nat → Nat → Nat} {ks : Nat → ClassId} {ws : va_W} {k h0 : Nat} {x z : Int32} (a b : Int32) (he : ws[k]? = some (h0, .inr (6, [.int x, .int z]))) : MCt l dC dI ks yX2_init cX2_init rX2_init ws k h0 6 a b := by
  intro sz
  refine met_x (Qc := fun A => va_Qv (fun _ : Unit => True) (fun _ t => va_P (dC, dI) vwCl (ws.set k (h0, .inr (6, [.int a, .int b]))) t.heap ∧ va_D A (ws.set k (h0, .inr (6, [.int a, .int b])))) A) (own := RX2) (by decide) rfl (Nat.le_of_ble_eq_true rfl) ?_
  intro A p e s m args below meth c ls E hr hlk hnm hA hP hD hS hK hl
  have hx := E.1
  have hb := E.2.1
  have hl : lv_has ls 3 [(0, .ref h0), (1, .int a), (2, .int b)] := hl
  refine lv_aload_n hx hb dX2_init_0 rfl (lv_at hl 0 rfl) ?_
  refine lv_iload_n hx hb dX2_init_1 rfl (lv_at hl 1 rfl) ?_
  refine lv_iload_n hx hb dX2_init_2 rfl (lv_at hl 2 rfl) ?_
  refine gInit E hK hP hD hS hA (cX0_init_6 a b he) kI_X0_init wd_2_20 rfl rfl ⟨Nat.le_of_ble_eq_true rfl, Nat.le_of_ble_eq_true rfl⟩ ⟨Nat.zero_le _, Nat.zero_le _⟩ hl.1 (Nat.le_of_ble_eq_true rfl) dX2_init_3 (fun H locs hP hD hS => ?_)
  exact W.vret hx hb hr (fun t ht hW => ⟨⟨(), rfl, trivial, by rw [ht]; exact hP, hD⟩, hS.F ht⟩) hS.2.2 dX2_init_6 hlk
theorem kI_X8_init : KI yX8_init cX8_init 3 2 := ⟨wd_2_27, wd_1_9, wd_2_28, rfl, by decide +kernel⟩
def rX8_init : Room := { frames := 2, cells := 0, slots := 0, locals := 43 }
theorem cX8_init_1 {l : Launch} {dC : Nat → ClassId} {dI : Nat → Nat → Nat} {ks : Nat → ClassId} {ws : va_W} {k h0 : Nat} {x z : Int32} (a b : Int32) (he : ws[k]? = some (h0, .inr (1, [.int x, .int z]))) : MCt l dC dI ks yX8_init cX8_init rX8_init ws k h0 1 a b := by
  intro sz
  refine met_x (Qc := fun A => va_Qv (fun _ : Unit => True) (fun _ t => va_P (dC, dI) vwCl (ws.set k (h0, .inr (1, [.int a, .int b]))) t.heap ∧ va_D A (ws.set k (h0, .inr (1, [.int a, .int b])))) A) (own := RX8) (by decide) rfl (Nat.le_of_ble_eq_true rfl) ?_
  intro A p e s m args below meth c ls E hr hlk hnm hA hP hD hS hK hl
  have hx := E.1
  have hb := E.2.1
  have hl : lv_has ls 3 [(0, .ref h0), (1, .int a), (2, .int b)] := hl
  refine lv_aload_n hx hb dX8_init_0 rfl (lv_at hl 0 rfl) ?_
  refine lv_iload_n hx hb dX8_init_1 rfl (lv_at hl 1 rfl) ?_
  refine lv_iload_n hx hb dX8_init_2 rfl (lv_at hl 2 rfl) ?_
  refine gInit E hK hP hD hS hA (cX0_init_1 a b he) kI_X0_init wd_2_29 rfl rfl ⟨Nat.le_of_ble_eq_true rfl, Nat.le_of_ble_eq_true rfl⟩ ⟨Nat.zero_le _, Nat.zero_le _⟩ hl.1 (Nat.le_of_ble_eq_true rfl) dX8_init_3 (fun H locs hP hD hS => ?_)
  exact W.vret hx hb hr (fun t ht hW => ⟨⟨(), rfl, trivial, by rw [ht]; exact hP, hD⟩, hS.F ht⟩) hS.2.2 dX8_init_6 hlk
theorem cX8_init_5 {l : Launch} {dC : Nat → ClassId} {dI : Nat → Nat → Nat} {ks : Nat → ClassId} {ws : va_W} {k h0 : Nat} {x z : Int32} (a b : Int32) (he : ws[k]? = some (h0, .inr (5, [.int x, .int z]))) : MCt l dC dI ks yX8_init cX8_init rX8_init ws k h0 5 a b := by
  intro sz
  refine met_x (Qc := fun A => va_Qv (fun _ : Unit => True) (fun _ t => va_P (dC, dI) vwCl (ws.set k (h0, .inr (5, [.int a, .int b]))) t.heap ∧ va_D A (ws.set k (h0, .inr (5, [.int a, .int b])))) A) (own := RX8) (by decide) rfl (Nat.le_of_ble_eq_true rfl) ?_
  intro A p e s m args below meth c ls E hr hlk hnm hA hP hD hS hK hl
  have hx := E.1
  have hb := E.2.1
  have hl : lv_has ls 3 [(0, .ref h0), (1, .int a), (2, .int b)] := hl
  refine lv_aload_n hx hb dX8_init_0 rfl (lv_at hl 0 rfl) ?_
  refine lv_iload_n hx hb dX8_init_1 rfl (lv_at hl 1 rfl) ?_
  refine lv_iload_n hx hb dX8_init_2 rfl (lv_at hl 2 rfl) ?_
  refine gInit E hK hP hD hS hA (cX0_init_5 a b he) kI_X0_init wd_2_29 rfl rfl ⟨Nat.le_of_ble_eq_true rfl, Nat.le_of_ble_eq_true rfl⟩ ⟨Nat.zero_le _, Nat.zero_le _⟩ hl.1 (Nat.le_of_ble_eq_true rfl) dX8_init_3 (fun H locs hP hD hS => ?_)
  exact W.vret hx hb hr (fun t ht hW => ⟨⟨(), rfl, trivial, by rw [ht]; exact hP, hD⟩, hS.F ht⟩) hS.2.2 dX8_init_6 hlk
theorem cX8_init_7 {l : Launch} {dC : Nat → ClassId} {dI : Nat → Nat → Nat} {ks : Nat → ClassId} {ws : va_W} {k h0 : Nat} {x z : Int32} (a b : Int32) (he : ws[k]? = some (h0, .inr (7, [.int x, .int z]))) : MCt l dC dI ks yX8_init cX8_init rX8_init ws k h0 7 a b := by
  intro sz
  refine met_x (Qc := fun A => va_Qv (fun _ : Unit => True) (fun _ t => va_P (dC, dI) vwCl (ws.set k (h0, .inr (7, [.int a, .int b]))) t.heap ∧ va_D A (ws.set k (h0, .inr (7, [.int a, .int b])))) A) (own := RX8) (by decide) rfl (Nat.le_of_ble_eq_true rfl) ?_
  intro A p e s m args below meth c ls E hr hlk hnm hA hP hD hS hK hl
  have hx := E.1
  have hb := E.2.1
  have hl : lv_has ls 3 [(0, .ref h0), (1, .int a), (2, .int b)] := hl
  refine lv_aload_n hx hb dX8_init_0 rfl (lv_at hl 0 rfl) ?_
  refine lv_iload_n hx hb dX8_init_1 rfl (lv_at hl 1 rfl) ?_
  refine lv_iload_n hx hb dX8_init_2 rfl (lv_at hl 2 rfl) ?_
  refine gInit E hK hP hD hS hA (cX0_init_7 a b he) kI_X0_init wd_2_29 rfl rfl ⟨Nat.le_of_ble_eq_true rfl, Nat.le_of_ble_eq_true rfl⟩ ⟨Nat.zero_le _, Nat.zero_le _⟩ hl.1 (Nat.le_of_ble_eq_true rfl) dX8_init_3 (fun H locs hP hD hS => ?_)
  exact W.vret hx hb hr (fun t ht hW => ⟨⟨(), rfl, trivial, by rw [ht]; exact hP, hD⟩, hS.F ht⟩) hS.2.2 dX8_init_6 hlk
theorem cX8_init_8 {l : Launch} {dC : Nat → ClassId} {dI : Nat → Nat → Nat} {ks : Nat → ClassId} {ws : va_W} {k h0 : Nat} {x z : Int32} (a b : Int32) (he : ws[k]? = some (h0, .inr (8, [.int x, .int z]))) : MCt l dC dI ks yX8_init cX8_init rX8_init ws k h0 8 a b := by
  intro sz
  refine met_x (Qc := fun A => va_Qv (fun _ : Unit => True) (fun _ t => va_P (dC, dI) vwCl (ws.set k (h0, .inr (8, [.int a, .int b]))) t.heap ∧ va_D A (ws.set k (h0, .inr (8, [.int a, .int b])))) A) (own := RX8) (by decide) rfl (Nat.le_of_ble_eq_true rfl) ?_
  intro A p e s m args below meth c ls E hr hlk hnm hA hP hD hS hK hl
  have hx := E.1
  have hb := E.2.1
  have hl : lv_has ls 3 [(0, .ref h0), (1, .int a), (2, .int b)] := hl
  refine lv_aload_n hx hb dX8_init_0 rfl (lv_at hl 0 rfl) ?_
  refine lv_iload_n hx hb dX8_init_1 rfl (lv_at hl 1 rfl) ?_
  refine lv_iload_n hx hb dX8_init_2 rfl (lv_at hl 2 rfl) ?_
  refine gInit E hK hP hD hS hA (cX0_init_8 a b he) kI_X0_init wd_2_29 rfl rfl ⟨Nat.le_of_ble_eq_true rfl, Nat.le_of_ble_eq_true rfl⟩ ⟨Nat.zero_le _, Nat.zero_le _⟩ hl.1 (Nat.le_of_ble_eq_true rfl) dX8_init_3 (fun H locs hP hD hS => ?_)
  exact W.vret hx hb hr (fun t ht hW => ⟨⟨(), rfl, trivial, by rw [ht]; exact hP, hD⟩, hS.F ht⟩) hS.2.2 dX8_init_6 hlk
theorem kI_X10_init : KI yX10_init cX10_init 3 2 := ⟨wd_2_45, wd_1_11, wd_2_46, rfl, by decide +kernel⟩
def rX10_init : Room := { frames := 2, cells := 0, slots := 0, locals := 43 }
theorem cX10_init_10 {l : Launch} {dC : Nat → ClassId} {dI : Nat → Nat → Nat} {ks : Nat → ClassId} {ws : va_W} {k h0 : Nat} {x z : Int32} (a b : Int32) (he : ws[k]? = some (h0, .inr (10, [.int x, .int z]))) : MCt l dC dI ks yX10_init cX10_init rX10_init ws k h0 10 a b := by
  intro sz
  refine met_x (Qc := fun A => va_Qv (fun _ : Unit => True) (fun _ t => va_P (dC, dI) vwCl (ws.set k (h0, .inr (10, [.int a, .int b]))) t.heap ∧ va_D A (ws.set k (h0, .inr (10, [.int a, .int b])))) A) (own := RX10) (by decide) rfl (Nat.le_of_ble_eq_true rfl) ?_
  intro A p e s m args below meth c ls E hr hlk hnm hA hP hD hS hK hl
  have hx := E.1
  have hb := E.2.1
  have hl : lv_has ls 3 [(0, .ref h0), (1, .int a), (2, .int b)] := hl
  refine lv_aload_n hx hb dX10_init_0 rfl (lv_at hl 0 rfl) ?_
  refine lv_iload_n hx hb dX10_init_1 rfl (lv_at hl 1 rfl) ?_
  refine lv_iload_n hx hb dX10_init_2 rfl (lv_at hl 2 rfl) ?_
  refine gInit E hK hP hD hS hA (cX0_init_10 a b he) kI_X0_init wd_2_47 rfl rfl ⟨Nat.le_of_ble_eq_true rfl, Nat.le_of_ble_eq_true rfl⟩ ⟨Nat.zero_le _, Nat.zero_le _⟩ hl.1 (Nat.le_of_ble_eq_true rfl) dX10_init_3 (fun H locs hP hD hS => ?_)
  exact W.vret hx hb hr (fun t ht hW => ⟨⟨(), rfl, trivial, by rw [ht]; exact hP, hD⟩, hS.F ht⟩) hS.2.2 dX10_init_6 hlk
theorem kI_X1_init : KI yX1_init cX1_init 3 2 := ⟨wd_2_54, wd_1_12, wd_2_55, rfl, by decide +kernel⟩
def rX1_init : Room := { frames := 3, cells := 0, slots := 0, locals := 65 }
theorem cX1_init_1 {l : Launch} {dC : Nat → ClassId} {dI : Nat → Nat → Nat} {ks : Nat → ClassId} {ws : va_W} {k h0 : Nat} {x z : Int32} (a b : Int32) (he : ws[k]? = some (h0, .inr (1, [.int x, .int z]))) : MCt l dC dI ks yX1_init cX1_init rX1_init ws k h0 1 a b := by
  intro sz
  refine met_x (Qc := fun A => va_Qv (fun _ : Unit => True) (fun _ t => va_P (dC, dI) vwCl (ws.set k (h0, .inr (1, [.int a, .int b]))) t.heap ∧ va_D A (ws.set k (h0, .inr (1, [.int a, .int b])))) A) (own := RX1) (by decide) rfl (Nat.le_of_ble_eq_true rfl) ?_
  intro A p e s m args below meth c ls E hr hlk hnm hA hP hD hS hK hl
  have hx := E.1
  have hb := E.2.1
  have hl : lv_has ls 3 [(0, .ref h0), (1, .int a), (2, .int b)] := hl
  refine lv_aload_n hx hb dX1_init_0 rfl (lv_at hl 0 rfl) ?_
  refine lv_iload_n hx hb dX1_init_1 rfl (lv_at hl 1 rfl) ?_
  refine lv_iload_n hx hb dX1_init_2 rfl (lv_at hl 2 rfl) ?_
  refine gInit E hK hP hD hS hA (cX8_init_1 a b he) kI_X8_init wd_2_56 rfl rfl ⟨Nat.le_of_ble_eq_true rfl, Nat.le_of_ble_eq_true rfl⟩ ⟨Nat.zero_le _, Nat.zero_le _⟩ hl.1 (Nat.le_of_ble_eq_true rfl) dX1_init_3 (fun H locs hP hD hS => ?_)
  exact W.vret hx hb hr (fun t ht hW => ⟨⟨(), rfl, trivial, by rw [ht]; exact hP, hD⟩, hS.F ht⟩) hS.2.2 dX1_init_6 hlk
theorem cX1_init_7 {l : Launch} {dC : Nat → ClassId} {dI : Nat → Nat → Nat} {ks : Nat → ClassId} {ws : va_W} {k h0 : Nat} {x z : Int32} (a b : Int32) (he : ws[k]? = some (h0, .inr (7, [.int x, .int z]))) : MCt l dC dI ks yX1_init cX1_init rX1_init ws k h0 7 a b := by
  intro sz
  refine met_x (Qc := fun A => va_Qv (fun _ : Unit => True) (fun _ t => va_P (dC, dI) vwCl (ws.set k (h0, .inr (7, [.int a, .int b]))) t.heap ∧ va_D A (ws.set k (h0, .inr (7, [.int a, .int b])))) A) (own := RX1) (by decide) rfl (Nat.le_of_ble_eq_true rfl) ?_
  intro A p e s m args below meth c ls E hr hlk hnm hA hP hD hS hK hl
  have hx := E.1
  have hb := E.2.1
  have hl : lv_has ls 3 [(0, .ref h0), (1, .int a), (2, .int b)] := hl
  refine lv_aload_n hx hb dX1_init_0 rfl (lv_at hl 0 rfl) ?_
  refine lv_iload_n hx hb dX1_init_1 rfl (lv_at hl 1 rfl) ?_
  refine lv_iload_n hx hb dX1_init_2 rfl (lv_at hl 2 rfl) ?_
  refine gInit E hK hP hD hS hA (cX8_init_7 a b he) kI_X8_init wd_2_56 rfl rfl ⟨Nat.le_of_ble_eq_true rfl, Nat.le_of_ble_eq_true rfl⟩ ⟨Nat.zero_le _, Nat.zero_le _⟩ hl.1 (Nat.le_of_ble_eq_true rfl) dX1_init_3 (fun H locs hP hD hS => ?_)
  exact W.vret hx hb hr (fun t ht hW => ⟨⟨(), rfl, trivial, by rw [ht]; exact hP, hD⟩, hS.F ht⟩) hS.2.2 dX1_init_6 hlk
theorem kI_X5_init : KI yX5_init cX5_init 3 2 := ⟨wd_2_36, wd_1_10, wd_2_37, rfl, by decide +kernel⟩
def rX5_init : Room := { frames := 3, cells := 0, slots := 0, locals := 65 }
theorem cX5_init_5 {l : Launch} {dC : Nat → ClassId} {dI : Nat → Nat → Nat} {ks : Nat → ClassId} {ws : va_W} {k h0 : Nat} {x z : Int32} (a b : Int32) (he : ws[k]? = some (h0, .inr (5, [.int x, .int z]))) : MCt l dC dI ks yX5_init cX5_init rX5_init ws k h0 5 a b := by
  intro sz
  refine met_x (Qc := fun A => va_Qv (fun _ : Unit => True) (fun _ t => va_P (dC, dI) vwCl (ws.set k (h0, .inr (5, [.int a, .int b]))) t.heap ∧ va_D A (ws.set k (h0, .inr (5, [.int a, .int b])))) A) (own := RX5) (by decide) rfl (Nat.le_of_ble_eq_true rfl) ?_
  intro A p e s m args below meth c ls E hr hlk hnm hA hP hD hS hK hl
  have hx := E.1
  have hb := E.2.1
  have hl : lv_has ls 3 [(0, .ref h0), (1, .int a), (2, .int b)] := hl
  refine lv_aload_n hx hb dX5_init_0 rfl (lv_at hl 0 rfl) ?_
  refine lv_iload_n hx hb dX5_init_1 rfl (lv_at hl 1 rfl) ?_
  refine lv_iload_n hx hb dX5_init_2 rfl (lv_at hl 2 rfl) ?_
  refine gInit E hK hP hD hS hA (cX8_init_5 a b he) kI_X8_init wd_2_38 rfl rfl ⟨Nat.le_of_ble_eq_true rfl, Nat.le_of_ble_eq_true rfl⟩ ⟨Nat.zero_le _, Nat.zero_le _⟩ hl.1 (Nat.le_of_ble_eq_true rfl) dX5_init_3 (fun H locs hP hD hS => ?_)
  exact W.vret hx hb hr (fun t ht hW => ⟨⟨(), rfl, trivial, by rw [ht]; exact hP, hD⟩, hS.F ht⟩) hS.2.2 dX5_init_6 hlk
theorem kI_X6_init : KI yX6_init cX6_init 3 2 := ⟨wd_2_72, wd_1_14, wd_2_73, rfl, by decide +kernel⟩
def rX6_init : Room := { frames := 3, cells := 0, slots := 0, locals := 65 }
theorem cX6_init_6 {l : Launch} {dC : Nat → ClassId} {dI : Nat → Nat → Nat} {ks : Nat → ClassId} {ws : va_W} {k h0 : Nat} {x z : Int32} (a b : Int32) (he : ws[k]? = some (h0, .inr (6, [.int x, .int z]))) : MCt l dC dI ks yX6_init cX6_init rX6_init ws k h0 6 a b := by
  intro sz
  refine met_x (Qc := fun A => va_Qv (fun _ : Unit => True) (fun _ t => va_P (dC, dI) vwCl (ws.set k (h0, .inr (6, [.int a, .int b]))) t.heap ∧ va_D A (ws.set k (h0, .inr (6, [.int a, .int b])))) A) (own := RX6) (by decide) rfl (Nat.le_of_ble_eq_true rfl) ?_
  intro A p e s m args below meth c ls E hr hlk hnm hA hP hD hS hK hl
  have hx := E.1
  have hb := E.2.1
  have hl : lv_has ls 3 [(0, .ref h0), (1, .int a), (2, .int b)] := hl
  refine lv_aload_n hx hb dX6_init_0 rfl (lv_at hl 0 rfl) ?_
  refine lv_iload_n hx hb dX6_init_1 rfl (lv_at hl 1 rfl) ?_
  refine lv_iload_n hx hb dX6_init_2 rfl (lv_at hl 2 rfl) ?_
  refine gInit E hK hP hD hS hA (cX2_init_6 a b he) kI_X2_init wd_2_74 rfl rfl ⟨Nat.le_of_ble_eq_true rfl, Nat.le_of_ble_eq_true rfl⟩ ⟨Nat.zero_le _, Nat.zero_le _⟩ hl.1 (Nat.le_of_ble_eq_true rfl) dX6_init_3 (fun H locs hP hD hS => ?_)
  exact W.vret hx hb hr (fun t ht hW => ⟨⟨(), rfl, trivial, by rw [ht]; exact hP, hD⟩, hS.F ht⟩) hS.2.2 dX6_init_6 hlk
theorem kI_X7_init : KI yX7_init cX7_init 3 2 := ⟨wd_2_63, wd_1_13, wd_2_64, rfl, by decide +kernel⟩
def rX7_init : Room := { frames := 4, cells := 0, slots := 0, locals := 87 }
theorem cX7_init_7 {l : Launch} {dC : Nat → ClassId} {dI : Nat → Nat → Nat} {ks : Nat → ClassId} {ws : va_W} {k h0 : Nat} {x z : Int32} (a b : Int32) (he : ws[k]? = some (h0, .inr (7, [.int x, .int z]))) : MCt l dC dI ks yX7_init cX7_init rX7_init ws k h0 7 a b := by
  intro sz
  refine met_x (Qc := fun A => va_Qv (fun _ : Unit => True) (fun _ t => va_P (dC, dI) vwCl (ws.set k (h0, .inr (7, [.int a, .int b]))) t.heap ∧ va_D A (ws.set k (h0, .inr (7, [.int a, .int b])))) A) (own := RX7) (by decide) rfl (Nat.le_of_ble_eq_true rfl) ?_
  intro A p e s m args below meth c ls E hr hlk hnm hA hP hD hS hK hl
  have hx := E.1
  have hb := E.2.1
  have hl : lv_has ls 3 [(0, .ref h0), (1, .int a), (2, .int b)] := hl
  refine lv_aload_n hx hb dX7_init_0 rfl (lv_at hl 0 rfl) ?_
  refine lv_iload_n hx hb dX7_init_1 rfl (lv_at hl 1 rfl) ?_
  refine lv_iload_n hx hb dX7_init_2 rfl (lv_at hl 2 rfl) ?_
  refine gInit E hK hP hD hS hA (cX1_init_7 a b he) kI_X1_init wd_2_65 rfl rfl ⟨Nat.le_of_ble_eq_true rfl, Nat.le_of_ble_eq_true rfl⟩ ⟨Nat.zero_le _, Nat.zero_le _⟩ hl.1 (Nat.le_of_ble_eq_true rfl) dX7_init_3 (fun H locs hP hD hS => ?_)
  exact W.vret hx hb hr (fun t ht hW => ⟨⟨(), rfl, trivial, by rw [ht]; exact hP, hD⟩, hS.F ht⟩) hS.2.2 dX7_init_6 hlk
