/-- contracts of methods that make blows: the addresses of those that were there stay -/
def gBa (dC : Nat → ClassId) (dI : Nat → Nat → Nat) (ks : Nat → ClassId) (ad : Nat → Nat → Nat) (A : Nat → Prop) (u : (Nat → Nat) × St) (t : State) : Prop := gBw dC dI ks (adU ad u.1) A u.2 t
def kept (bl : Nat → Nat) (σ : St) (bl' : Nat → Nat) : Prop := ∀ j, j < gS σ 2 0 → bl' j = bl j
def MAq (l : Launch) (dC : Nat → ClassId) (dI : Nat → Nat → Nat) (ks : Nat → ClassId) (ad : Nat → Nat → Nat) (bl : Nat → Nat) (σ : St) (y : MethodName) (bytes : ByteArray) (maxL : Nat) (ret : Option FieldType) (rm : Room) (av : List Value) (out : Option Nat × St) (mc ms : Nat) : Prop := ∀ sz : Nat, Met l y (Cond.code y bytes maxL ret :: tT) rm (gPw dC dI ks (adU ad bl) σ sz av) (va_Qq (fun r (u : (Nat → Nat) × St) => r = out.1.map u.1 ∧ u.2 = out.2 ∧ kept bl σ u.1) (gBa dC dI ks ad (gFr ks (adU ad bl) σ sz)) (gFr ks (adU ad bl) σ sz)) mc ms (gFr ks (adU ad bl) σ sz)
def MAi (l : Launch) (dC : Nat → ClassId) (dI : Nat → Nat → Nat) (ks : Nat → ClassId) (ad : Nat → Nat → Nat) (bl : Nat → Nat) (σ : St) (y : MethodName) (bytes : ByteArray) (maxL : Nat) (ret : Option FieldType) (rm : Room) (av : List Value) (out : Int32 × St) (mc ms : Nat) : Prop := ∀ sz : Nat, Met l y (Cond.code y bytes maxL ret :: tT) rm (gPw dC dI ks (adU ad bl) σ sz av) (va_Qi (fun r (u : (Nat → Nat) × St) => r = out.1 ∧ u.2 = out.2 ∧ kept bl σ u.1) (gBa dC dI ks ad (gFr ks (adU ad bl) σ sz)) (gFr ks (adU ad bl) σ sz)) mc ms (gFr ks (adU ad bl) σ sz)
section
variable {p : Program} {l : Launch} {e : Env} {R : Room} {s : State} {m : MethodId} {args : Array Value} {below : List Frame} {meth : Method} {c : Code} {H : Heap} {locs : List Loc} {cells slots : Nat} {Q : State → Prop}
variable {cc : ByteArray} {pc nL : Nat} {ls : Array Slot} {rest st : List Value} {own : String}
variable {dC : Nat → ClassId} {dI : Nat → Nat → Nat} {ks : Nat → ClassId} {ad : Nat → Nat → Nat} {bl bl0 : Nat → Nat} {σ σ0 σ' : St} {A : Nat → Prop} {H0 : Heap} {ws : va_W}
variable {y x : MethodName} {bytes b0 : ByteArray} {maxL n index mc ms m0 : Nat} {ret r0 : Option FieldType} {rm : Room} {b : Nat} {As av : List Value} {C owner : String} {q0 ci : Nat} {fs : List Value} {q : vw_C}
theorem gSa_q (E : CallFix p m c cc nL s args tT own) (hK : gK dC dI ks s) (hP : va_P (dC, dI) vwCl (wG ks (adU ad bl) σ) H) (hD : va_D A (wG ks (adU ad bl) σ)) (hS : va_S A H0 H locs) (hA : ∀ q, H0.size ≤ q → A q) {out : Option Nat × St} (hM : MAq l dC dI ks ad bl σ y bytes maxL ret rm As out mc ms) (hw : KS y bytes maxL ret n) (h1 : Cond.methodLink own index y ∈ tT) (hrc : rm.cells = mc) (hrs : rm.slots = ms)  (hn : As.length = n) (hR : rm.frames + 1 ≤ R.frames ∧ 8 + (maxL + 11) + rm.locals ≤ R.locals) (hf : cells + mc ≤ R.cells ∧ slots + ms ≤ R.slots) (hls : ls.size = nL) (hW : (rest.map fun v => v.category).sum ≤ 8) (hst : st = As.reverse ++ rest) (hdg : decode cc pc = .ok (.invokestatic index, 3)) (kk : ∀ (bl1 : Nat → Nat) (H1 : Heap) (locs1 : List Loc), kept bl σ bl1 → va_P (dC, dI) vwCl (wG ks (adU ad bl1) out.2) H1 → va_D A (wG ks (adU ad bl1) out.2) → va_S A H0 H1 locs1 → W p l e R s m args below meth c H1 locs1 (cells + mc) (slots + ms) Q (F0 m (pc + 3) ls (va_rf (out.1.map bl1) :: rest))) : W p l e R s m args below meth c H locs cells slots Q (F0 m pc ls st) := by
  have hF := gFree hD hS hA
  exact va_callq (va_runS (As := As) (rest := rest) E (hM H.size) (va_cwS n E.2.2.2.2 (gi_S h1 hw.1 hw.2.1 hw.2.2.1) rfl hrc hrs hw.2.2.2 hR) ⟨gPw_blind, fun U hU hW => ⟨rfl, by rw [hU], by rw [hU]; exact hP, gK.moved hW hK, hD.weaken (fun _ _ _ _ => trivial)⟩⟩ rfl hn hls hst (lv_room hW) hdg hf) hS (fun q _ h => hF q h) hF (fun r u t H1 locs1 ht hvm hq hB hz hk hS1 => by
    obtain ⟨u1, u2⟩ := u
    obtain ⟨rfl, hu, hkp⟩ := hq
    subst hu
    exact kk u1 H1 locs1 hkp (by rw [← ht]; exact hB.1) (hB.2.weaken (fun _ _ _ h => hF _ h)) hS1)
theorem gVa_i (E : CallFix p m c cc nL s args tT own) (hK : gK dC dI ks s) (hP : va_P (dC, dI) vwCl (wG ks (adU ad bl) σ) H) (hD : va_D A (wG ks (adU ad bl) σ)) (hS : va_S A H0 H locs) (hA : ∀ q, H0.size ≤ q → A q) {out : Int32 × St} (hM : MAi l dC dI ks ad bl σ y bytes maxL ret rm (.ref b :: As) out mc ms) (hw : KV C y bytes maxL ret n) (h1 : Cond.methodLink own index y ∈ tT) (hrc : rm.cells = mc) (hrs : rm.slots = ms) (he : (wG ks (adU ad bl) σ)[q0]? = some (b, .inr (ci, fs))) (hc : vwCl[ci]? = some q) (hq : q.1 = C) (hn : As.length = n) (hR : rm.frames + 1 ≤ R.frames ∧ 8 + (maxL + 11) + rm.locals ≤ R.locals) (hf : cells + mc ≤ R.cells ∧ slots + ms ≤ R.slots) (hls : ls.size = nL) (hW : (rest.map fun v => v.category).sum ≤ 8) (hst : st = As.reverse ++ .ref b :: rest) (hdg : decode cc pc = .ok (.invokevirtual index, 3)) (kk : ∀ (bl1 : Nat → Nat) (H1 : Heap) (locs1 : List Loc), kept bl σ bl1 → va_P (dC, dI) vwCl (wG ks (adU ad bl1) out.2) H1 → va_D A (wG ks (adU ad bl1) out.2) → va_S A H0 H1 locs1 → W p l e R s m args below meth c H1 locs1 (cells + mc) (slots + ms) Q (F0 m (pc + 3) ls (.int out.1 :: rest))) : W p l e R s m args below meth c H locs cells slots Q (F0 m pc ls st) := by
  subst hq
  have hF := gFree hD hS hA
  exact va_calli (va_runV (As := As) (rest := rest) E (hM H.size) (cwV n E.2.2.2.2 (gi_V h1 hw.1 hw.2.1 hw.2.2.1 hw.2.2.2.1) rfl hrc hrs hw.2.2.2.2 hR) ⟨gPw_blind, va_recv hK.1 hP hc he, fun U hU hW => ⟨rfl, by rw [hU], by rw [hU]; exact hP, gK.moved hW hK, hD.weaken (fun _ _ _ _ => trivial)⟩⟩ rfl hn hls hst (lv_room hW) hdg hf) hS (fun q _ h => hF q h) hF (fun r u t H1 locs1 ht hvm hq hB hz hk hS1 => by
    obtain ⟨u1, u2⟩ := u
    obtain ⟨rfl, hu, hkp⟩ := hq
    subst hu
    exact kk u1 H1 locs1 hkp (by rw [← ht]; exact hB.1) (hB.2.weaken (fun _ _ _ h => hF _ h)) hS1)
theorem gaw_q {out : Option Nat × St} {v : Option Nat} {rt : FieldType} (E : CallFix p m c cc nL s args tT own) (hlk : meth.locks = false) (hP : va_P (dC, dI) vwCl (wG ks (adU ad bl) σ) H) (hD : va_D A (wG ks (adU ad bl) σ)) (hS : va_S A s.heap H locs) (hk : kept bl0 σ0 bl) (hr : meth.sig.returnType = some rt) (hrt : (∃ n, rt = .object n) ∨ ∃ t, rt = .array t) (hdg : decode cc pc = .ok (.areturn, 1)) (hq : out = (v, σ)) : W p l e R s m args below meth c H locs cells slots (MQ below (va_Qq (fun r (u : (Nat → Nat) × St) => r = out.1.map u.1 ∧ u.2 = out.2 ∧ kept bl0 σ0 u.1) (gBa dC dI ks ad A) A) args s cells slots A) (F0 m pc ls [va_rf (v.map bl)]) := by
  subst hq
  exact W.aret E.1 E.2.1 hr hrt (va_rf_or _) (fun t ht hW => ⟨⟨_, (bl, σ), rfl, ⟨rfl, rfl, hk⟩, by rw [ht]; exact hP, hD⟩, hS.F ht⟩) hS.2.2 hdg hlk
theorem gaw_i {out : Int32 × St} {v : Int32} (E : CallFix p m c cc nL s args tT own) (hlk : meth.locks = false) (hP : va_P (dC, dI) vwCl (wG ks (adU ad bl) σ) H) (hD : va_D A (wG ks (adU ad bl) σ)) (hS : va_S A s.heap H locs) (hk : kept bl0 σ0 bl) (hr : meth.sig.returnType = some .int) (hdg : decode cc pc = .ok (.ireturn, 1)) (hq : out = (v, σ)) : W p l e R s m args below meth c H locs cells slots (MQ below (va_Qi (fun r (u : (Nat → Nat) × St) => r = out.1 ∧ u.2 = out.2 ∧ kept bl0 σ0 u.1) (gBa dC dI ks ad A) A) args s cells slots A) (F0 m pc ls [.int v]) := by
  subst hq
  exact W.iret E.1 E.2.1 hr (fun t ht hW => ⟨⟨_, (bl, σ), rfl, ⟨rfl, rfl, hk⟩, by rw [ht]; exact hP, hD⟩, hS.F ht⟩) hS.2.2 hdg hlk
theorem gaw_z {out : Int32 × St} {v : Int32} {ty : FieldType} (hn : narrow ty (.int v) = .int v) (E : CallFix p m c cc nL s args tT own) (hlk : meth.locks = false) (hP : va_P (dC, dI) vwCl (wG ks (adU ad bl) σ) H) (hD : va_D A (wG ks (adU ad bl) σ)) (hS : va_S A s.heap H locs) (hk : kept bl0 σ0 bl) (hr : meth.sig.returnType = some ty) (hdg : decode cc pc = .ok (.ireturn, 1)) (hq : out = (v, σ)) : W p l e R s m args below meth c H locs cells slots (MQ below (va_Qi (fun r (u : (Nat → Nat) × St) => r = out.1 ∧ u.2 = out.2 ∧ kept bl0 σ0 u.1) (gBa dC dI ks ad A) A) args s cells slots A) (F0 m pc ls [.int v]) := by
  subst hq
  exact W.zret E.1 E.2.1 hr hn (fun t ht hW => ⟨⟨_, (bl, σ), rfl, ⟨rfl, rfl, hk⟩, by rw [ht]; exact hP, hD⟩, hS.F ht⟩) hS.2.2 hdg hlk
theorem set_last {α : Type} (l : List α) (x z : α) : (l ++ [x]).set l.length z = l ++ [z] := by
  rw [List.set_append_right _ _ (Nat.le_refl _), Nat.sub_self]; rfl
theorem get_last {α : Type} (l : List α) (x : α) : (l ++ [x])[l.length]? = some x := by
  rw [List.getElem?_append_right (Nat.le_refl _), Nat.sub_self]; rfl
end
noncomputable def fX11_newBlow (σ : St) (a1 a2 : Int32) : Option (Option Nat × St) :=
  bd (fX11_isOut σ a2 0 9) fun r1 =>
  if r1 = 0 then if a1 = 0 then ck (RefsOk σ) (some (some (gS σ 2 0), sB σ 0 a1 a2)) else if a1 = 1 then ck (RefsOk σ) (some (some (gS σ 2 0), sB σ 2 a1 a2)) else if a1 = 2 then ck (RefsOk σ) (some (some (gS σ 2 0), sB σ 8 a1 a2)) else if a1 = 3 then ck (RefsOk σ) (some (some (gS σ 2 0), sB σ 5 a1 a2)) else if a1 = 4 then ck (RefsOk σ) (some (some (gS σ 2 0), sB σ 10 a1 a2)) else if a1 = 5 then ck (RefsOk σ) (some (some (gS σ 2 0), sB σ 1 a1 a2)) else if a1 = 6 then ck (RefsOk σ) (some (some (gS σ 2 0), sB σ 7 a1 a2)) else if a1 = 7 then ck (RefsOk σ) (some (some (gS σ 2 0), sB σ 6 a1 a2)) else some (none, σ) else some (none, σ)
def rX11_newBlow : Room := { frames := 5, cells := 1, slots := 2, locals := 109 }
set_option maxHeartbeats 4000000 in
theorem cX11_newBlowc {l : Launch} {dC : Nat → ClassId} {dI : Nat → Nat → Nat} {ks : Nat → ClassId} {ad : Nat → Nat → Nat} {bl : Nat → Nat} {σ : St} (a1 a2 : Int32) {out : Option Nat × St} (hf : fX11_newBlow σ a1 a2 = some out) : MAq l dC dI ks ad bl σ yX11_newBlow cX11_newBlow 2 (some (.object "BladeBetweenThumbs$Blow")) rX11_newBlow [.int a1, .int a2] out 1 2 := by
  intro sz
  refine met_w (Qc := fun A => va_Qq (fun r (u : (Nat → Nat) × St) => r = out.1.map u.1 ∧ u.2 = out.2 ∧ kept bl σ u.1) (gBa dC dI ks ad A) A) (own := RX11) (by decide) rfl (Nat.le_of_ble_eq_true rfl) ?_
  intro A p e s m args below meth c ls E hr hlk hA hP hD hS hK hl
  have hx := E.1
  have hb := E.2.1
  have hl : lv_has ls 2 [(0, .int a1), (1, .int a2)] := hl
  have hkp : kept bl σ bl := fun _ _ => rfl
  unfold fX11_newBlow at hf
  refine lv_iload_n hx hb dX11_newBlow_0 rfl (lv_at hl 1 rfl) ?_
  refine lv_iconst (v := 0) hx hb dX11_newBlow_1 (by decide) ?_
  refine lv_bipush (v := 9) hx hb dX11_newBlow_2 (by decide) ?_
  obtain ⟨r1, er1, hf⟩ := bd_e hf
  refine gSr_i E hK hP (cX11_isOutc _ _ _ er1) kS_X11_isOut wd_1_178 rfl rfl rfl ⟨Nat.le_of_ble_eq_true rfl, Nat.le_of_ble_eq_true rfl⟩ ⟨Nat.zero_le _, Nat.zero_le _⟩ hl.1 (Nat.le_of_ble_eq_true rfl) rfl dX11_newBlow_4 ?_
  refine lv_if_eq (tgt := 12) hx hb dX11_newBlow_7 (by decide) (fun c1 => ?_) (fun c1 => ?_)
  · replace hf := pos_e c1 hf
    refine lv_iload_n hx hb dX11_newBlow_12 rfl (lv_at hl 0 rfl) ?_
    by_cases k0 : a1 = 0
    · replace hf := pos_e k0 hf
      obtain ⟨hro, hf⟩ := ck_e hf
      refine lv_tableIn (tgt := 60) (off := 47) hx hb dX11_newBlow_13 (by rw [k0]; decide) (by rw [k0]; decide) (by rw [k0]; rfl) (by decide) ?_
      refine va_new (ci := 0) (fs := [.int 0, .int 0]) (C := RX0) (T := TX0) (N := 2) hx hb E.2.2.2.2 in_X0 tyX0 tyX0_ok E.2.2.2.1 (E.2.2.2.2 _ wd_1_232) (E.2.2.2.2 _ wd_1_233) (E.2.2.2.2 _ wd_1_7) hK.1 hP hD hS hA rfl (fun j hj => by rcases (show j = 0 ∨ j = 1 by omega) with rfl | rfl <;> rfl) (Nat.le_of_ble_eq_true rfl) (Nat.le_of_ble_eq_true rfl) dX11_newBlow_60 (fun q H hP hD hS => ?_)
      refine lv_dup hx hb dX11_newBlow_63 rfl ?_
      refine lv_iload_n hx hb dX11_newBlow_64 rfl (lv_at hl 0 rfl) ?_
      refine lv_iload_n hx hb dX11_newBlow_65 rfl (lv_at hl 1 rfl) ?_
      refine gInit E hK hP hD hS hA (cX0_init_0 _ _ (get_last _ _)) kI_X0_init wd_1_234 rfl rfl ⟨Nat.le_of_ble_eq_true rfl, Nat.le_of_ble_eq_true rfl⟩ ⟨Nat.le_of_ble_eq_true rfl, Nat.le_of_ble_eq_true rfl⟩ hl.1 (Nat.le_of_ble_eq_true rfl) dX11_newBlow_66 (fun H locs hP hD hS => ?_)
      have e9 := (set_last (wG ks (adU ad bl) σ) (q, .inr (0, [.int 0, .int 0])) (q, .inr (0, [.int a1, .int a2]))).trans (wG_push hro)
      have e8 : va_rf (some q) = va_rf ((some (gS σ 2 0)).map (va_up bl (gS σ 2 0) q)) := by simp [va_up]
      refine W.eq (g2 := F0 m 69 ls [va_rf ((some (gS σ 2 0)).map (va_up bl (gS σ 2 0) q))]) (by rw [← e8]; rfl) ?_
      exact gaw_q (bl0 := bl) (σ0 := σ) (bl := va_up bl (gS σ 2 0) q) E hlk (by rw [← e9]; exact hP) (by rw [← e9]; exact hD) hS (fun j hj => by unfold va_up; rw [if_neg (by omega)]) hr (Or.inl ⟨_, rfl⟩) dX11_newBlow_69 (som_e hf)
    · replace hf := neg_e k0 hf
      by_cases k1 : a1 = 1
      · replace hf := pos_e k1 hf
        obtain ⟨hro, hf⟩ := ck_e hf
        refine lv_tableIn (tgt := 70) (off := 57) hx hb dX11_newBlow_13 (by rw [k1]; decide) (by rw [k1]; decide) (by rw [k1]; rfl) (by decide) ?_
        refine va_new (ci := 2) (fs := [.int 0, .int 0]) (C := RX2) (T := TX2) (N := 2) hx hb E.2.2.2.2 in_X2 tyX2 tyX2_ok E.2.2.2.1 (E.2.2.2.2 _ wd_2_15) (E.2.2.2.2 _ wd_2_16) (E.2.2.2.2 _ wd_1_8) hK.1 hP hD hS hA rfl (fun j hj => by rcases (show j = 0 ∨ j = 1 by omega) with rfl | rfl <;> rfl) (Nat.le_of_ble_eq_true rfl) (Nat.le_of_ble_eq_true rfl) dX11_newBlow_70 (fun q H hP hD hS => ?_)
        refine lv_dup hx hb dX11_newBlow_73 rfl ?_
        refine lv_iload_n hx hb dX11_newBlow_74 rfl (lv_at hl 0 rfl) ?_
        refine lv_iload_n hx hb dX11_newBlow_75 rfl (lv_at hl 1 rfl) ?_
        refine gInit E hK hP hD hS hA (cX2_init_2 _ _ (get_last _ _)) kI_X2_init wd_2_17 rfl rfl ⟨Nat.le_of_ble_eq_true rfl, Nat.le_of_ble_eq_true rfl⟩ ⟨Nat.le_of_ble_eq_true rfl, Nat.le_of_ble_eq_true rfl⟩ hl.1 (Nat.le_of_ble_eq_true rfl) dX11_newBlow_76 (fun H locs hP hD hS => ?_)
        have e9 := (set_last (wG ks (adU ad bl) σ) (q, .inr (2, [.int 0, .int 0])) (q, .inr (2, [.int a1, .int a2]))).trans (wG_push hro)
        have e8 : va_rf (some q) = va_rf ((some (gS σ 2 0)).map (va_up bl (gS σ 2 0) q)) := by simp [va_up]
        refine W.eq (g2 := F0 m 79 ls [va_rf ((some (gS σ 2 0)).map (va_up bl (gS σ 2 0) q))]) (by rw [← e8]; rfl) ?_
        exact gaw_q (bl0 := bl) (σ0 := σ) (bl := va_up bl (gS σ 2 0) q) E hlk (by rw [← e9]; exact hP) (by rw [← e9]; exact hD) hS (fun j hj => by unfold va_up; rw [if_neg (by omega)]) hr (Or.inl ⟨_, rfl⟩) dX11_newBlow_79 (som_e hf)
      · replace hf := neg_e k1 hf
        by_cases k2 : a1 = 2
        · replace hf := pos_e k2 hf
          obtain ⟨hro, hf⟩ := ck_e hf
          refine lv_tableIn (tgt := 80) (off := 67) hx hb dX11_newBlow_13 (by rw [k2]; decide) (by rw [k2]; decide) (by rw [k2]; rfl) (by decide) ?_
          refine va_new (ci := 8) (fs := [.int 0, .int 0]) (C := RX8) (T := TX8) (N := 2) hx hb E.2.2.2.2 in_X8 tyX8 tyX8_ok E.2.2.2.1 (E.2.2.2.2 _ wd_2_24) (E.2.2.2.2 _ wd_2_25) (E.2.2.2.2 _ wd_1_9) hK.1 hP hD hS hA rfl (fun j hj => by rcases (show j = 0 ∨ j = 1 by omega) with rfl | rfl <;> rfl) (Nat.le_of_ble_eq_true rfl) (Nat.le_of_ble_eq_true rfl) dX11_newBlow_80 (fun q H hP hD hS => ?_)
          refine lv_dup hx hb dX11_newBlow_83 rfl ?_
          refine lv_iload_n hx hb dX11_newBlow_84 rfl (lv_at hl 0 rfl) ?_
          refine lv_iload_n hx hb dX11_newBlow_85 rfl (lv_at hl 1 rfl) ?_
          refine gInit E hK hP hD hS hA (cX8_init_8 _ _ (get_last _ _)) kI_X8_init wd_2_26 rfl rfl ⟨Nat.le_of_ble_eq_true rfl, Nat.le_of_ble_eq_true rfl⟩ ⟨Nat.le_of_ble_eq_true rfl, Nat.le_of_ble_eq_true rfl⟩ hl.1 (Nat.le_of_ble_eq_true rfl) dX11_newBlow_86 (fun H locs hP hD hS => ?_)
          have e9 := (set_last (wG ks (adU ad bl) σ) (q, .inr (8, [.int 0, .int 0])) (q, .inr (8, [.int a1, .int a2]))).trans (wG_push hro)
          have e8 : va_rf (some q) = va_rf ((some (gS σ 2 0)).map (va_up bl (gS σ 2 0) q)) := by simp [va_up]
          refine W.eq (g2 := F0 m 89 ls [va_rf ((some (gS σ 2 0)).map (va_up bl (gS σ 2 0) q))]) (by rw [← e8]; rfl) ?_
          exact gaw_q (bl0 := bl) (σ0 := σ) (bl := va_up bl (gS σ 2 0) q) E hlk (by rw [← e9]; exact hP) (by rw [← e9]; exact hD) hS (fun j hj => by unfold va_up; rw [if_neg (by omega)]) hr (Or.inl ⟨_, rfl⟩) dX11_newBlow_89 (som_e hf)
        · replace hf := neg_e k2 hf
          by_cases k3 : a1 = 3
          · replace hf := pos_e k3 hf
            obtain ⟨hro, hf⟩ := ck_e hf
            refine lv_tableIn (tgt := 90) (off := 77) hx hb dX11_newBlow_13 (by rw [k3]; decide) (by rw [k3]; decide) (by rw [k3]; rfl) (by decide) ?_
            refine va_new (ci := 5) (fs := [.int 0, .int 0]) (C := RX5) (T := TX5) (N := 2) hx hb E.2.2.2.2 in_X5 tyX5 tyX5_ok E.2.2.2.1 (E.2.2.2.2 _ wd_2_33) (E.2.2.2.2 _ wd_2_34) (E.2.2.2.2 _ wd_1_10) hK.1 hP hD hS hA rfl (fun j hj => by rcases (show j = 0 ∨ j = 1 by omega) with rfl | rfl <;> rfl) (Nat.le_of_ble_eq_true rfl) (Nat.le_of_ble_eq_true rfl) dX11_newBlow_90 (fun q H hP hD hS => ?_)
            refine lv_dup hx hb dX11_newBlow_93 rfl ?_
            refine lv_iload_n hx hb dX11_newBlow_94 rfl (lv_at hl 0 rfl) ?_
            refine lv_iload_n hx hb dX11_newBlow_95 rfl (lv_at hl 1 rfl) ?_
            refine gInit E hK hP hD hS hA (cX5_init_5 _ _ (get_last _ _)) kI_X5_init wd_2_35 rfl rfl ⟨Nat.le_of_ble_eq_true rfl, Nat.le_of_ble_eq_true rfl⟩ ⟨Nat.le_of_ble_eq_true rfl, Nat.le_of_ble_eq_true rfl⟩ hl.1 (Nat.le_of_ble_eq_true rfl) dX11_newBlow_96 (fun H locs hP hD hS => ?_)
            have e9 := (set_last (wG ks (adU ad bl) σ) (q, .inr (5, [.int 0, .int 0])) (q, .inr (5, [.int a1, .int a2]))).trans (wG_push hro)
            have e8 : va_rf (some q) = va_rf ((some (gS σ 2 0)).map (va_up bl (gS σ 2 0) q)) := by simp [va_up]
            refine W.eq (g2 := F0 m 99 ls [va_rf ((some (gS σ 2 0)).map (va_up bl (gS σ 2 0) q))]) (by rw [← e8]; rfl) ?_
            exact gaw_q (bl0 := bl) (σ0 := σ) (bl := va_up bl (gS σ 2 0) q) E hlk (by rw [← e9]; exact hP) (by rw [← e9]; exact hD) hS (fun j hj => by unfold va_up; rw [if_neg (by omega)]) hr (Or.inl ⟨_, rfl⟩) dX11_newBlow_99 (som_e hf)
          · replace hf := neg_e k3 hf
            by_cases k4 : a1 = 4
            · replace hf := pos_e k4 hf
              obtain ⟨hro, hf⟩ := ck_e hf
              refine lv_tableIn (tgt := 100) (off := 87) hx hb dX11_newBlow_13 (by rw [k4]; decide) (by rw [k4]; decide) (by rw [k4]; rfl) (by decide) ?_
              refine va_new (ci := 10) (fs := [.int 0, .int 0]) (C := RX10) (T := TX10) (N := 2) hx hb E.2.2.2.2 in_X10 tyX10 tyX10_ok E.2.2.2.1 (E.2.2.2.2 _ wd_2_42) (E.2.2.2.2 _ wd_2_43) (E.2.2.2.2 _ wd_1_11) hK.1 hP hD hS hA rfl (fun j hj => by rcases (show j = 0 ∨ j = 1 by omega) with rfl | rfl <;> rfl) (Nat.le_of_ble_eq_true rfl) (Nat.le_of_ble_eq_true rfl) dX11_newBlow_100 (fun q H hP hD hS => ?_)
              refine lv_dup hx hb dX11_newBlow_103 rfl ?_
              refine lv_iload_n hx hb dX11_newBlow_104 rfl (lv_at hl 0 rfl) ?_
              refine lv_iload_n hx hb dX11_newBlow_105 rfl (lv_at hl 1 rfl) ?_
              refine gInit E hK hP hD hS hA (cX10_init_10 _ _ (get_last _ _)) kI_X10_init wd_2_44 rfl rfl ⟨Nat.le_of_ble_eq_true rfl, Nat.le_of_ble_eq_true rfl⟩ ⟨Nat.le_of_ble_eq_true rfl, Nat.le_of_ble_eq_true rfl⟩ hl.1 (Nat.le_of_ble_eq_true rfl) dX11_newBlow_106 (fun H locs hP hD hS => ?_)
              have e9 := (set_last (wG ks (adU ad bl) σ) (q, .inr (10, [.int 0, .int 0])) (q, .inr (10, [.int a1, .int a2]))).trans (wG_push hro)
              have e8 : va_rf (some q) = va_rf ((some (gS σ 2 0)).map (va_up bl (gS σ 2 0) q)) := by simp [va_up]
              refine W.eq (g2 := F0 m 109 ls [va_rf ((some (gS σ 2 0)).map (va_up bl (gS σ 2 0) q))]) (by rw [← e8]; rfl) ?_
              exact gaw_q (bl0 := bl) (σ0 := σ) (bl := va_up bl (gS σ 2 0) q) E hlk (by rw [← e9]; exact hP) (by rw [← e9]; exact hD) hS (fun j hj => by unfold va_up; rw [if_neg (by omega)]) hr (Or.inl ⟨_, rfl⟩) dX11_newBlow_109 (som_e hf)
            · replace hf := neg_e k4 hf
              by_cases k5 : a1 = 5
              · replace hf := pos_e k5 hf
                obtain ⟨hro, hf⟩ := ck_e hf
                refine lv_tableIn (tgt := 110) (off := 97) hx hb dX11_newBlow_13 (by rw [k5]; decide) (by rw [k5]; decide) (by rw [k5]; rfl) (by decide) ?_
                refine va_new (ci := 1) (fs := [.int 0, .int 0]) (C := RX1) (T := TX1) (N := 2) hx hb E.2.2.2.2 in_X1 tyX1 tyX1_ok E.2.2.2.1 (E.2.2.2.2 _ wd_2_51) (E.2.2.2.2 _ wd_2_52) (E.2.2.2.2 _ wd_1_12) hK.1 hP hD hS hA rfl (fun j hj => by rcases (show j = 0 ∨ j = 1 by omega) with rfl | rfl <;> rfl) (Nat.le_of_ble_eq_true rfl) (Nat.le_of_ble_eq_true rfl) dX11_newBlow_110 (fun q H hP hD hS => ?_)
                refine lv_dup hx hb dX11_newBlow_113 rfl ?_
                refine lv_iload_n hx hb dX11_newBlow_114 rfl (lv_at hl 0 rfl) ?_
                refine lv_iload_n hx hb dX11_newBlow_115 rfl (lv_at hl 1 rfl) ?_
                refine gInit E hK hP hD hS hA (cX1_init_1 _ _ (get_last _ _)) kI_X1_init wd_2_53 rfl rfl ⟨Nat.le_of_ble_eq_true rfl, Nat.le_of_ble_eq_true rfl⟩ ⟨Nat.le_of_ble_eq_true rfl, Nat.le_of_ble_eq_true rfl⟩ hl.1 (Nat.le_of_ble_eq_true rfl) dX11_newBlow_116 (fun H locs hP hD hS => ?_)
                have e9 := (set_last (wG ks (adU ad bl) σ) (q, .inr (1, [.int 0, .int 0])) (q, .inr (1, [.int a1, .int a2]))).trans (wG_push hro)
                have e8 : va_rf (some q) = va_rf ((some (gS σ 2 0)).map (va_up bl (gS σ 2 0) q)) := by simp [va_up]
                refine W.eq (g2 := F0 m 119 ls [va_rf ((some (gS σ 2 0)).map (va_up bl (gS σ 2 0) q))]) (by rw [← e8]; rfl) ?_
                exact gaw_q (bl0 := bl) (σ0 := σ) (bl := va_up bl (gS σ 2 0) q) E hlk (by rw [← e9]; exact hP) (by rw [← e9]; exact hD) hS (fun j hj => by unfold va_up; rw [if_neg (by omega)]) hr (Or.inl ⟨_, rfl⟩) dX11_newBlow_119 (som_e hf)
              · replace hf := neg_e k5 hf
                by_cases k6 : a1 = 6
                · replace hf := pos_e k6 hf
                  obtain ⟨hro, hf⟩ := ck_e hf
                  refine lv_tableIn (tgt := 120) (off := 107) hx hb dX11_newBlow_13 (by rw [k6]; decide) (by rw [k6]; decide) (by rw [k6]; rfl) (by decide) ?_
                  refine va_new (ci := 7) (fs := [.int 0, .int 0]) (C := RX7) (T := TX7) (N := 2) hx hb E.2.2.2.2 in_X7 tyX7 tyX7_ok E.2.2.2.1 (E.2.2.2.2 _ wd_2_60) (E.2.2.2.2 _ wd_2_61) (E.2.2.2.2 _ wd_1_13) hK.1 hP hD hS hA rfl (fun j hj => by rcases (show j = 0 ∨ j = 1 by omega) with rfl | rfl <;> rfl) (Nat.le_of_ble_eq_true rfl) (Nat.le_of_ble_eq_true rfl) dX11_newBlow_120 (fun q H hP hD hS => ?_)
                  refine lv_dup hx hb dX11_newBlow_123 rfl ?_
                  refine lv_iload_n hx hb dX11_newBlow_124 rfl (lv_at hl 0 rfl) ?_
                  refine lv_iload_n hx hb dX11_newBlow_125 rfl (lv_at hl 1 rfl) ?_
                  refine gInit E hK hP hD hS hA (cX7_init_7 _ _ (get_last _ _)) kI_X7_init wd_2_62 rfl rfl ⟨Nat.le_of_ble_eq_true rfl, Nat.le_of_ble_eq_true rfl⟩ ⟨Nat.le_of_ble_eq_true rfl, Nat.le_of_ble_eq_true rfl⟩ hl.1 (Nat.le_of_ble_eq_true rfl) dX11_newBlow_126 (fun H locs hP hD hS => ?_)
                  have e9 := (set_last (wG ks (adU ad bl) σ) (q, .inr (7, [.int 0, .int 0])) (q, .inr (7, [.int a1, .int a2]))).trans (wG_push hro)
                  have e8 : va_rf (some q) = va_rf ((some (gS σ 2 0)).map (va_up bl (gS σ 2 0) q)) := by simp [va_up]
                  refine W.eq (g2 := F0 m 129 ls [va_rf ((some (gS σ 2 0)).map (va_up bl (gS σ 2 0) q))]) (by rw [← e8]; rfl) ?_
                  exact gaw_q (bl0 := bl) (σ0 := σ) (bl := va_up bl (gS σ 2 0) q) E hlk (by rw [← e9]; exact hP) (by rw [← e9]; exact hD) hS (fun j hj => by unfold va_up; rw [if_neg (by omega)]) hr (Or.inl ⟨_, rfl⟩) dX11_newBlow_129 (som_e hf)
                · replace hf := neg_e k6 hf
                  by_cases k7 : a1 = 7
                  · replace hf := pos_e k7 hf
                    obtain ⟨hro, hf⟩ := ck_e hf
                    refine lv_tableIn (tgt := 130) (off := 117) hx hb dX11_newBlow_13 (by rw [k7]; decide) (by rw [k7]; decide) (by rw [k7]; rfl) (by decide) ?_
                    refine va_new (ci := 6) (fs := [.int 0, .int 0]) (C := RX6) (T := TX6) (N := 2) hx hb E.2.2.2.2 in_X6 tyX6 tyX6_ok E.2.2.2.1 (E.2.2.2.2 _ wd_2_69) (E.2.2.2.2 _ wd_2_70) (E.2.2.2.2 _ wd_1_14) hK.1 hP hD hS hA rfl (fun j hj => by rcases (show j = 0 ∨ j = 1 by omega) with rfl | rfl <;> rfl) (Nat.le_of_ble_eq_true rfl) (Nat.le_of_ble_eq_true rfl) dX11_newBlow_130 (fun q H hP hD hS => ?_)
                    refine lv_dup hx hb dX11_newBlow_133 rfl ?_
                    refine lv_iload_n hx hb dX11_newBlow_134 rfl (lv_at hl 0 rfl) ?_
                    refine lv_iload_n hx hb dX11_newBlow_135 rfl (lv_at hl 1 rfl) ?_
                    refine gInit E hK hP hD hS hA (cX6_init_6 _ _ (get_last _ _)) kI_X6_init wd_2_71 rfl rfl ⟨Nat.le_of_ble_eq_true rfl, Nat.le_of_ble_eq_true rfl⟩ ⟨Nat.le_of_ble_eq_true rfl, Nat.le_of_ble_eq_true rfl⟩ hl.1 (Nat.le_of_ble_eq_true rfl) dX11_newBlow_136 (fun H locs hP hD hS => ?_)
                    have e9 := (set_last (wG ks (adU ad bl) σ) (q, .inr (6, [.int 0, .int 0])) (q, .inr (6, [.int a1, .int a2]))).trans (wG_push hro)
                    have e8 : va_rf (some q) = va_rf ((some (gS σ 2 0)).map (va_up bl (gS σ 2 0) q)) := by simp [va_up]
                    refine W.eq (g2 := F0 m 139 ls [va_rf ((some (gS σ 2 0)).map (va_up bl (gS σ 2 0) q))]) (by rw [← e8]; rfl) ?_
                    exact gaw_q (bl0 := bl) (σ0 := σ) (bl := va_up bl (gS σ 2 0) q) E hlk (by rw [← e9]; exact hP) (by rw [← e9]; exact hD) hS (fun j hj => by unfold va_up; rw [if_neg (by omega)]) hr (Or.inl ⟨_, rfl⟩) dX11_newBlow_139 (som_e hf)
                  · replace hf := neg_e k7 hf
                    refine lv_tableOut (tgt := 140) hx hb dX11_newBlow_13 (by have q0 := lv_neT k0 (a := 0) rfl; have q1 := lv_neT k1 (a := 1) rfl; have q2 := lv_neT k2 (a := 2) rfl; have q3 := lv_neT k3 (a := 3) rfl; have q4 := lv_neT k4 (a := 4) rfl; have q5 := lv_neT k5 (a := 5) rfl; have q6 := lv_neT k6 (a := 6) rfl; have q7 := lv_neT k7 (a := 7) rfl; omega) (by decide) ?_
                    refine lv_null hx hb dX11_newBlow_140 ?_
                    refine W.widen (k := 1) (n := 2) (by decide) (by decide) ?_
                    exact gaw_q (v := none) (bl0 := bl) (σ0 := σ) (bl := bl) E hlk hP hD hS hkp hr (Or.inl ⟨_, rfl⟩) dX11_newBlow_141 (som_e hf)
  · replace hf := neg_e c1 hf
    refine lv_null hx hb dX11_newBlow_10 ?_
    refine W.widen (k := 1) (n := 2) (by decide) (by decide) ?_
    exact gaw_q (v := none) (bl0 := bl) (σ0 := σ) (bl := bl) E hlk hP hD hS hkp hr (Or.inl ⟨_, rfl⟩) dX11_newBlow_11 (som_e hf)
/-- read off the world with the blows' addresses apart -/
theorem kV_X11_isDoneOnSpare : KV RX11 yX11_isDoneOnSpare cX11_isDoneOnSpare 3 (some .boolean) 2 := ⟨wd_1_208, wp_1_1, wd_1_1, wd_1_209, by decide +kernel⟩
