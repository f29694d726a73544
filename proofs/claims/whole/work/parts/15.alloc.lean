theorem kV_X4_holdNothing : KV RX4 yX4_holdNothing cX4_holdNothing 1 none 0 := ⟨wd_4_74, wd_4_75, wd_1_4, wd_4_76, by decide +kernel⟩
theorem kS_X11_newBlow : KS yX11_newBlow cX11_newBlow 2 (some (.object "BladeBetweenThumbs$Blow")) 2 := ⟨wd_1_230, wd_1_1, wd_1_231, by decide +kernel⟩
theorem kV_X4_holdBlow : KV RX4 yX4_holdBlow cX4_holdBlow 2 none 1 := ⟨wd_4_78, wd_4_79, wd_1_4, wd_4_80, by decide +kernel⟩
theorem kV_X11_isTriedOnSpare : KV RX11 yX11_isTriedOnSpare cX11_isTriedOnSpare 8 (some .boolean) 2 := ⟨wd_2_84, wp_1_2, wd_1_1, wd_2_85, by decide +kernel⟩
theorem kS_X11_firstBadByte : KS yX11_firstBadByte cX11_firstBadByte 5 (some .int) 1 := ⟨wd_1_186, wd_1_1, wd_1_187, by decide +kernel⟩
theorem kS_X11_lengthAt : KS yX11_lengthAt cX11_lengthAt 2 (some .int) 2 := ⟨wd_2_135, wd_1_1, wd_2_136, by decide +kernel⟩
theorem lv_astoreO {p : Program} {l : Launch} {e : Env} {R : Room} {s : State} {m : MethodId} {args : Array Value} {below : List Frame} {meth : Method} {c : Code} {H : Heap} {locs : List Loc} {cells slots : Nat} {Q : State → Prop} {cc : ByteArray} {pc : Nat} {ls : Array Slot} {rest : List Value} {i nL : Nat} {r : Option Nat} {lv lv' : List (Nat × Value)} (hx : p.tables.exec = Jvm.exec) (hb : c.code = cc) (hdg : decode cc pc = .ok (.astore i, 2)) (h : lv_has ls nL lv) (hn : i < nL) (hl : (i, va_rf r) :: lv.filter (fun q => !(q.1 == i) && !(q.1 + 1 == i && q.2.category == 2)) = lv') (kk : ∀ ls' : Array Slot, lv_has ls' nL lv' → W p l e R s m args below meth c H locs cells slots Q (F0 m (pc + 2) ls' rest)) : W p l e R s m args below meth c H locs cells slots Q (F0 m pc ls (va_rf r :: rest)) := by
  cases r with
  | none => exact lv_astoreN hx hb hdg h hn hl kk
  | some a => exact lv_astore hx hb hdg h hn hl kk
theorem kept_t {bl0 bl bl1 : Nat → Nat} {σ0 σ : St} (h : kept bl0 σ0 bl) (hn : gS σ0 2 0 ≤ gS σ 2 0) (h1 : kept bl σ bl1) : kept bl0 σ0 bl1 := fun j hj => (h1 j (by omega)).trans (h j hj)
noncomputable def fX4_holdNothing (σ : St) (d : Nat) : Option (St) :=
  nmv (sR σ 1 d 0 none) fun σ1 =>
  nmv (sI σ1 8 d 1 0) fun σ2 =>
  nmv (sI σ2 8 d 3 0) fun σ3 =>
  some σ3
def rX4_holdNothing : Room := { frames := 0, cells := 0, slots := 0, locals := 0 }
set_option maxHeartbeats 4000000 in
set_option maxRecDepth 100000 in
theorem cX4_holdNothingc {l : Launch} {dC : Nat → ClassId} {dI : Nat → Nat → Nat} {ks : Nat → ClassId} {ad : Nat → Nat → Nat} {σ : St} {d : Nat} (hd : d < 8)  {out : St} (hf : fX4_holdNothing σ d = some out) : MWv l dC dI ks ad σ yX4_holdNothing cX4_holdNothing 1 none rX4_holdNothing [.ref (ad 10 d)] out := by
  intro sz
  refine met_w (Qc := fun A => va_Qv (fun σ' => σ' = out) (gBw dC dI ks ad A) A) (own := RX4) (by decide) rfl (Nat.le_of_ble_eq_true rfl) ?_
  intro A p e s m args below meth c ls E hr hlk hA hP hD hS hK hl
  have hx := E.1
  have hb := E.2.1
  have hl : lv_has ls 1 [(0, .ref (ad 10 d))] := hl
  unfold fX4_holdNothing at hf
  refine lv_aload_n hx hb dX4_holdNothing_0 rfl (lv_at hl 0 rfl) ?_
  refine lv_null hx hb dX4_holdNothing_1 ?_
  obtain ⟨σ1, eσ1, hf⟩ := nmv_e hf
  refine gput (k := 0) E in_X4 tyX4 tyX4_ok nmX4 hK hP hD hS (qs_0 ks ad σ hd) rfl (by decide) wd_1_123 rfl rfl rfl rfl rfl (Nat.le_of_ble_eq_true rfl) (σ' := σ1) (by rw [eσ1]; exact st_s_0 ks ad σ hd none) dX4_holdNothing_2 (fun H locs hP hD hS => ?_)
  refine lv_aload_n hx hb dX4_holdNothing_5 rfl (lv_at hl 0 rfl) ?_
  refine lv_iconst (v := 0) hx hb dX4_holdNothing_6 (by decide) ?_
  obtain ⟨σ2, eσ2, hf⟩ := nmv_e hf
  refine gput (k := 1) E in_X4 tyX4 tyX4_ok nmX4 hK hP hD hS (qs_0 ks ad σ1 hd) rfl (by decide) wd_1_125 rfl rfl rfl rfl rfl (Nat.le_of_ble_eq_true rfl) (σ' := σ2) (by rw [eσ2]; exact st_s_1 ks ad σ1 hd _) dX4_holdNothing_7 (fun H locs hP hD hS => ?_)
  refine lv_aload_n hx hb dX4_holdNothing_10 rfl (lv_at hl 0 rfl) ?_
  refine lv_iconst (v := 0) hx hb dX4_holdNothing_11 (by decide) ?_
  obtain ⟨σ3, eσ3, hf⟩ := nmv_e hf
  refine gput (k := 3) E in_X4 tyX4 tyX4_ok nmX4 hK hP hD hS (qs_0 ks ad σ2 hd) rfl (by decide) wd_1_130 rfl rfl rfl rfl rfl (Nat.le_of_ble_eq_true rfl) (σ' := σ3) (by rw [eσ3]; exact st_s_3 ks ad σ2 hd _) dX4_holdNothing_12 (fun H locs hP hD hS => ?_)
  exact gretw_v E hlk hP hD hS hr dX4_holdNothing_15 (som_e hf)
noncomputable def fX4_holdBlow (σ : St) (d : Nat) (a1 : Option Nat) : Option (St) :=
  bd (fX4_holdNothing σ d) fun r1 =>
  nmv (sR r1 1 d 0 a1) fun σ2 =>
  some σ2
def rX4_holdBlow : Room := { frames := 1, cells := 0, slots := 0, locals := 20 }
set_option maxHeartbeats 4000000 in
set_option maxRecDepth 100000 in
theorem cX4_holdBlowc {l : Launch} {dC : Nat → ClassId} {dI : Nat → Nat → Nat} {ks : Nat → ClassId} {ad : Nat → Nat → Nat} {σ : St} {d : Nat} (hd : d < 8) (a1 : Option Nat)  {out : St} (hf : fX4_holdBlow σ d a1 = some out) : MWv l dC dI ks ad σ yX4_holdBlow cX4_holdBlow 2 none rX4_holdBlow [.ref (ad 10 d), va_rf (a1.map (ad 16))] out := by
  intro sz
  refine met_w (Qc := fun A => va_Qv (fun σ' => σ' = out) (gBw dC dI ks ad A) A) (own := RX4) (by decide) rfl (by cases a1 <;> exact Nat.le_of_ble_eq_true rfl) ?_
  intro A p e s m args below meth c ls E hr hlk hA hP hD hS hK hl
  have hx := E.1
  have hb := E.2.1
  have hl : lv_has ls 2 [(0, .ref (ad 10 d)), (1, va_rf (a1.map (ad 16)))] := hl
  unfold fX4_holdBlow at hf
  refine lv_aload_n hx hb dX4_holdBlow_0 rfl (lv_at hl 0 rfl) ?_
  obtain ⟨r1, er1, hf⟩ := bd_e hf
  refine gVw_v E hK hP hD hS hA (cX4_holdNothingc hd er1) kV_X4_holdNothing wd_4_81 rfl rfl (qs_0 ks ad σ hd) rfl rfl rfl ⟨Nat.le_of_ble_eq_true rfl, Nat.le_of_ble_eq_true rfl⟩ ⟨Nat.zero_le _, Nat.zero_le _⟩ hl.1 (Nat.le_of_ble_eq_true rfl) rfl dX4_holdBlow_1 (fun H locs hP hD hS => ?_)
  refine lv_aload_n hx hb dX4_holdBlow_4 rfl (lv_at hl 0 rfl) ?_
  refine lv_aload_nO hx hb dX4_holdBlow_5 rfl (lv_at hl 1 rfl) ?_
  obtain ⟨σ2, eσ2, hf⟩ := nmv_e hf
  refine gput (k := 0) E in_X4 tyX4 tyX4_ok nmX4 hK hP hD hS (qs_0 ks ad r1 hd) rfl (by decide) wd_1_123 rfl rfl rfl (nm_rf _ _) (ft_rf _ _) (Nat.le_of_ble_eq_true rfl) (σ' := σ2) (by rw [eσ2]; exact st_s_0 ks ad r1 hd a1) dX4_holdBlow_6 (fun H locs hP hD hS => ?_)
  exact gretw_v E hlk hP hD hS hr dX4_holdBlow_9 (som_e hf)
noncomputable def fX11_keep (σ : St) (a1 : Int32) (a2 : Int32) (a3 : Int32) (a4 : Int32) : Option (Int32 × St) :=
  bd (fX11_isOut σ a1 0 7) fun r1 =>
  if r1 = 0 then
  bd (fX11_isOut σ a2 0 1) fun r3 =>
  if r3 = 0 then
  if a2 = 0 then
  ck (vp_in a1 8) <|
  bd (fX4_holdNothing σ a1.toNatClampNeg) fun r12 =>
  some (0, r12)
  else
  ck (gS σ 2 0 ≤ gS σ 2 0) <|
  bd (fX11_newBlow σ a3 a4) fun r6 =>
  obr r6.1 (some ((-1), r6.2)) (fun j8 =>
  ck (vp_in a1 8) <|
  bd (fX4_holdBlow r6.2 a1.toNatClampNeg r6.1) fun r10 =>
  some (0, r10))
  else
  some ((-1), σ)
  else
  some ((-1), σ)
def rX11_keep : Room := { frames := 6, cells := 1, slots := 2, locals := 130 }
set_option maxHeartbeats 4000000 in
set_option maxRecDepth 100000 in
theorem cX11_keepc {l : Launch} {dC : Nat → ClassId} {dI : Nat → Nat → Nat} {ks : Nat → ClassId} {ad : Nat → Nat → Nat} {bl0 : Nat → Nat} {σ : St} (a1 : Int32) (a2 : Int32) (a3 : Int32) (a4 : Int32)  {out : Int32 × St} (hf : fX11_keep σ a1 a2 a3 a4 = some out) : MAi l dC dI ks ad bl0 σ yX11_keep cX11_keep 6 (some .int) rX11_keep [.ref (ad 0 0), .int a1, .int a2, .int a3, .int a4] out 1 2 := by
  intro sz
  refine met_w (Qc := fun A => va_Qi (fun r (u : (Nat → Nat) × St) => r = out.1 ∧ u.2 = out.2 ∧ kept bl0 σ u.1) (gBa dC dI ks ad A) A) (own := RX11) (by decide) rfl (Nat.le_of_ble_eq_true rfl) ?_
  intro A p e s m args below meth c ls E hr hlk hA hP hD hS hK hl
  have hx := E.1
  obtain ⟨bl, hbl⟩ : ∃ bl, bl = bl0 := ⟨_, rfl⟩
  have hkp : kept bl0 σ bl := by rw [hbl]; exact fun _ _ => rfl
  rw [← hbl] at hP hD
  have hb := E.2.1
  have hl : lv_has ls 6 [(0, .ref (adU ad bl 0 0)), (1, .int a1), (2, .int a2), (3, .int a3), (4, .int a4)] := hl
  unfold fX11_keep at hf
  refine lv_iload_n hx hb dX11_keep_0 rfl (lv_at hl 1 rfl) ?_
  refine lv_iconst (v := 0) hx hb dX11_keep_1 (by decide) ?_
  refine lv_bipush (v := 7) hx hb dX11_keep_2 (by decide) ?_
  obtain ⟨r1, er1, hf⟩ := bd_e hf
  refine gSr_i E hK hP (cX11_isOutc _ _ _ er1) kS_X11_isOut wd_1_178 rfl rfl rfl ⟨Nat.le_of_ble_eq_true rfl, Nat.le_of_ble_eq_true rfl⟩ ⟨(by omega : 0 ≤ 1), (by omega : 0 ≤ 2)⟩ hl.1 (Nat.le_of_ble_eq_true rfl) rfl dX11_keep_4 ?_
  refine lv_if_ne (tgt := 19) hx hb dX11_keep_7 (by decide) (fun c2 => ?_) (fun c2 => ?_)
  · replace hf := neg_e c2 hf
    refine lv_iconst (v := -1) hx hb dX11_keep_19 (by decide) ?_
    refine W.widen (k := 1) (n := 2) (by omega) (by omega) ?_
    exact gaw_i (bl := bl) (bl0 := bl0) (σ0 := σ) E hlk hP hD hS hkp hr dX11_keep_20 (som_e hf)
  · replace hf := pos_e c2 hf
    refine lv_iload_n hx hb dX11_keep_10 rfl (lv_at hl 2 rfl) ?_
    refine lv_iconst (v := 0) hx hb dX11_keep_11 (by decide) ?_
    refine lv_iconst (v := 1) hx hb dX11_keep_12 (by decide) ?_
    obtain ⟨r3, er3, hf⟩ := bd_e hf
    refine gSr_i E hK hP (cX11_isOutc _ _ _ er3) kS_X11_isOut wd_1_178 rfl rfl rfl ⟨Nat.le_of_ble_eq_true rfl, Nat.le_of_ble_eq_true rfl⟩ ⟨(by omega : 0 ≤ 1), (by omega : 0 ≤ 2)⟩ hl.1 (Nat.le_of_ble_eq_true rfl) rfl dX11_keep_13 ?_
    refine lv_if_eq (tgt := 21) hx hb dX11_keep_16 (by decide) (fun c4 => ?_) (fun c4 => ?_)
    · replace hf := pos_e c4 hf
      refine lv_iload_n hx hb dX11_keep_21 rfl (lv_at hl 2 rfl) ?_
      refine lv_if_ne (tgt := 36) hx hb dX11_keep_22 (by decide) (fun c5 => ?_) (fun c5 => ?_)
      · replace hf := neg_e c5 hf
        refine lv_iload_n hx hb dX11_keep_36 rfl (lv_at hl 3 rfl) ?_
        refine lv_iload hx hb dX11_keep_37 (lv_at hl 4 rfl) ?_
        obtain ⟨c7, hf⟩ := ck_e hf
        obtain ⟨r6, er6, hf⟩ := bd_e hf
        refine gSa_q (bl := bl) E hK hP hD hS hA (cX11_newBlowc (bl := bl) _ _ er6) kS_X11_newBlow wd_1_229 rfl rfl rfl ⟨Nat.le_of_ble_eq_true rfl, Nat.le_of_ble_eq_true rfl⟩ ⟨(by omega : 0 + 1 ≤ 1), (by omega : 0 + 2 ≤ 2)⟩ hl.1 (Nat.le_of_ble_eq_true rfl) rfl dX11_keep_39 (fun bl1 H locs hkp1 hP hD hS => ?_)
        have hkp := kept_t hkp c7 hkp1
        have hl := hl
        have hl : lv_has ls 6 [(0, .ref ((adU ad bl1) 0 0)), (1, .int a1), (2, .int a2), (3, .int a3), (4, .int a4)] := hl
        generalize bl1 = bl at hP hD hkp hl ⊢
        refine lv_astoreO (lv' := [(5, va_rf (r6.1.map (adU ad bl 16))), (0, .ref (adU ad bl 0 0)), (1, .int a1), (2, .int a2), (3, .int a3), (4, .int a4)]) hx hb dX11_keep_42 hl (by decide) rfl (fun ls hl => ?_)
        refine lv_aloadO hx hb dX11_keep_44 (lv_at hl 0 rfl) ?_
        rcases obr_e hf with ⟨ej8, hf⟩ | ⟨j8, ej8, hf⟩
        · refine lv_nmn ej8 (lv_ifnonnullN hx hb dX11_keep_46 ?_)
          refine lv_iconst (v := -1) hx hb dX11_keep_49 (by decide) ?_
          refine W.widen (k := 1) (n := 2) (by omega) (by omega) ?_
          exact gaw_i (bl := bl) (bl0 := bl0) (σ0 := σ) E hlk hP hD hS hkp hr dX11_keep_50 (som_e hf)
        · refine lv_nmo ej8 (lv_ifnonnull (tgt := 51) hx hb dX11_keep_46 (by decide) ?_)
          refine lv_aload_n hx hb dX11_keep_51 rfl (lv_at hl 1 rfl) ?_
          refine gget E in_X11 hK hP (q_main ks (adU ad bl) r6.2) rfl (k := 4) (by decide) wd_1_149 rfl (v := .ref (adU ad bl 12 0)) rfl dX11_keep_52 ?_
          refine lv_iload_n hx hb dX11_keep_55 rfl (lv_at hl 2 rfl) ?_
          obtain ⟨c9, hf⟩ := ck_e hf
          refine gaaldS E hK hP c9 dX11_keep_56 ?_
          refine lv_aloadO hx hb dX11_keep_57 (lv_at hl 0 rfl) ?_
          obtain ⟨r10, er10, hf⟩ := bd_e hf
          refine gVw_v E hK hP hD hS hA (cX4_holdBlowc (vp_lt c9) _ er10) kV_X4_holdBlow wd_4_77 rfl rfl (qs_0 ks (adU ad bl) r6.2 (vp_lt c9)) rfl rfl rfl ⟨Nat.le_of_ble_eq_true rfl, Nat.le_of_ble_eq_true rfl⟩ ⟨(by omega : 0 + 1 ≤ 1), (by omega : 0 + 2 ≤ 2)⟩ hl.1 (Nat.le_of_ble_eq_true rfl) rfl dX11_keep_59 (fun H locs hP hD hS => ?_)
          refine lv_iconst (v := 0) hx hb dX11_keep_62 (by decide) ?_
          refine W.widen (k := 1) (n := 2) (by omega) (by omega) ?_
          exact gaw_i (bl := bl) (bl0 := bl0) (σ0 := σ) E hlk hP hD hS hkp hr dX11_keep_63 (som_e hf)
      · replace hf := pos_e c5 hf
        refine lv_aload_n hx hb dX11_keep_25 rfl (lv_at hl 0 rfl) ?_
        refine gget E in_X11 hK hP (q_main ks (adU ad bl) σ) rfl (k := 4) (by decide) wd_1_149 rfl (v := .ref (adU ad bl 12 0)) rfl dX11_keep_26 ?_
        refine lv_iload_n hx hb dX11_keep_29 rfl (lv_at hl 1 rfl) ?_
        obtain ⟨c11, hf⟩ := ck_e hf
        refine gaaldS E hK hP c11 dX11_keep_30 ?_
        obtain ⟨r12, er12, hf⟩ := bd_e hf
        refine gVw_v E hK hP hD hS hA (cX4_holdNothingc (vp_lt c11) er12) kV_X4_holdNothing wd_4_73 rfl rfl (qs_0 ks (adU ad bl) σ (vp_lt c11)) rfl rfl rfl ⟨Nat.le_of_ble_eq_true rfl, Nat.le_of_ble_eq_true rfl⟩ ⟨(by omega : 0 ≤ 1), (by omega : 0 ≤ 2)⟩ hl.1 (Nat.le_of_ble_eq_true rfl) rfl dX11_keep_31 (fun H locs hP hD hS => ?_)
        refine lv_iconst (v := 0) hx hb dX11_keep_34 (by decide) ?_
        refine W.widen (k := 1) (n := 2) (by omega) (by omega) ?_
        exact gaw_i (bl := bl) (bl0 := bl0) (σ0 := σ) E hlk hP hD hS hkp hr dX11_keep_35 (som_e hf)
    · replace hf := neg_e c4 hf
      refine lv_iconst (v := -1) hx hb dX11_keep_19 (by decide) ?_
      refine W.widen (k := 1) (n := 2) (by omega) (by omega) ?_
      exact gaw_i (bl := bl) (bl0 := bl0) (σ0 := σ) E hlk hP hD hS hkp hr dX11_keep_20 (som_e hf)
noncomputable def fX11_isDoneOnSpare (σ : St) (a1 : Nat) (a2 : Int32) : Option (Int32 × St) :=
  bd (fX4_byteAt σ a1 a2) fun r1 =>
  if r1 = 98 then
  bd (fX4_twoDigitsAt σ a1 (a2 + 1)) fun r5 =>
  bd (fX4_twoDigitsAt σ a1 (a2 + 3)) fun r6 =>
  bd (fX4_digitAt σ a1 (a2 + 5)) fun r7 =>
  bd (fX3_addBlade σ 2 r5 r6 r7) fun r8 =>
  if r8.1 < 0 then
  some (0, r8.2)
  else
  some (1, r8.2)
  else
  if r1 = 107 then
  bd (fX4_digitAt σ a1 (a2 + 1)) fun r10 =>
  bd (fX4_digitAt σ a1 (a2 + 2)) fun r11 =>
  ck (gS σ 2 0 ≤ gS σ 2 0) <|
  bd (fX11_newBlow σ r10 r11) fun r12 =>
  bd (fX3_addBlow r12.2 2 r12.1) fun r14 =>
  if r14.1 < 0 then
  some (0, r14.2)
  else
  some (1, r14.2)
  else
  if r1 = 116 then
  bd (fX4_digitAt σ a1 (a2 + 1)) fun r16 =>
  bd (fX4_twoDigitsAt σ a1 (a2 + 2)) fun r17 =>
  bd (fX3_addThumbs σ 2 r16 r17) fun r18 =>
  if r18.1 < 0 then
  some (0, r18.2)
  else
  some (1, r18.2)
  else
  bd (fX11_isTriedOnSpare σ a1 a2) fun r20 =>
  ck (r20.1 = 0 ∨ r20.1 = 1) (some (r20.1, r20.2))
def rX11_isDoneOnSpare : Room := { frames := 6, cells := 1, slots := 2, locals := 130 }
set_option maxHeartbeats 4000000 in
set_option maxRecDepth 100000 in
theorem cX11_isDoneOnSparec {l : Launch} {dC : Nat → ClassId} {dI : Nat → Nat → Nat} {ks : Nat → ClassId} {ad : Nat → Nat → Nat} {bl0 : Nat → Nat} {σ : St} {a1 : Nat} (a2 : Int32) (ha1 : a1 < 8) {out : Int32 × St} (hf : fX11_isDoneOnSpare σ a1 a2 = some out) : MAi l dC dI ks ad bl0 σ yX11_isDoneOnSpare cX11_isDoneOnSpare 3 (some .boolean) rX11_isDoneOnSpare [.ref (ad 0 0), .ref (ad 10 a1), .int a2] out 1 2 := by
  intro sz
  refine met_w (Qc := fun A => va_Qi (fun r (u : (Nat → Nat) × St) => r = out.1 ∧ u.2 = out.2 ∧ kept bl0 σ u.1) (gBa dC dI ks ad A) A) (own := RX11) (by decide) rfl (Nat.le_of_ble_eq_true rfl) ?_
  intro A p e s m args below meth c ls E hr hlk hA hP hD hS hK hl
  have hx := E.1
  obtain ⟨bl, hbl⟩ : ∃ bl, bl = bl0 := ⟨_, rfl⟩
  have hkp : kept bl0 σ bl := by rw [hbl]; exact fun _ _ => rfl
  rw [← hbl] at hP hD
  have hb := E.2.1
  have hl : lv_has ls 3 [(0, .ref (adU ad bl 0 0)), (1, .ref (adU ad bl 10 a1)), (2, .int a2)] := hl
  unfold fX11_isDoneOnSpare at hf
  refine lv_aload_n hx hb dX11_isDoneOnSpare_0 rfl (lv_at hl 1 rfl) ?_
  refine lv_iload_n hx hb dX11_isDoneOnSpare_1 rfl (lv_at hl 2 rfl) ?_
  obtain ⟨r1, er1, hf⟩ := bd_e hf
  refine gVr_i E hK hP (cX4_byteAtc ha1 _ er1) kV_X4_byteAt wd_1_188 rfl rfl (qs_0 ks (adU ad bl) σ ha1) rfl rfl rfl ⟨Nat.le_of_ble_eq_true rfl, Nat.le_of_ble_eq_true rfl⟩ ⟨(by omega : 0 ≤ 1), (by omega : 0 ≤ 2)⟩ hl.1 (Nat.le_of_ble_eq_true rfl) rfl dX11_isDoneOnSpare_2 ?_
  by_cases c2 : r1 = 98
  · replace hf := pos_e c2 hf
    refine lv_lookup (tgt := 40) (off := 35) hx hb dX11_isDoneOnSpare_5 (by decide) (by show Op.lookupswitch.offset [(98, 35), (107, 102), (116, 72)] 135 _ = _; rw [Op.lookupswitch.offset_cons, if_pos (by rw [c2]; rfl)]) (by decide) ?_
    refine lv_aload_n hx hb dX11_isDoneOnSpare_40 rfl (lv_at hl 0 rfl) ?_
    refine gget E in_X11 hK hP (q_main ks (adU ad bl) σ) rfl (k := 2) (by decide) wd_1_147 rfl (v := .ref (adU ad bl 1 2)) rfl dX11_isDoneOnSpare_41 ?_
    refine lv_aload_n hx hb dX11_isDoneOnSpare_44 rfl (lv_at hl 1 rfl) ?_
    refine lv_iload_n hx hb dX11_isDoneOnSpare_45 rfl (lv_at hl 2 rfl) ?_
    refine lv_iconst (v := 1) hx hb dX11_isDoneOnSpare_46 (by decide) ?_
    refine lv_iadd hx hb dX11_isDoneOnSpare_47 ?_
    obtain ⟨r5, er5, hf⟩ := bd_e hf
    refine gVr_i E hK hP (cX4_twoDigitsAtc ha1 _ er5) kV_X4_twoDigitsAt wd_1_210 rfl rfl (qs_0 ks (adU ad bl) σ ha1) rfl rfl rfl ⟨Nat.le_of_ble_eq_true rfl, Nat.le_of_ble_eq_true rfl⟩ ⟨(by omega : 0 ≤ 1), (by omega : 0 ≤ 2)⟩ hl.1 (Nat.le_of_ble_eq_true rfl) rfl dX11_isDoneOnSpare_48 ?_
    refine lv_aload_n hx hb dX11_isDoneOnSpare_51 rfl (lv_at hl 1 rfl) ?_
    refine lv_iload_n hx hb dX11_isDoneOnSpare_52 rfl (lv_at hl 2 rfl) ?_
    refine lv_iconst (v := 3) hx hb dX11_isDoneOnSpare_53 (by decide) ?_
    refine lv_iadd hx hb dX11_isDoneOnSpare_54 ?_
    obtain ⟨r6, er6, hf⟩ := bd_e hf
    refine gVr_i E hK hP (cX4_twoDigitsAtc ha1 _ er6) kV_X4_twoDigitsAt wd_1_210 rfl rfl (qs_0 ks (adU ad bl) σ ha1) rfl rfl rfl ⟨Nat.le_of_ble_eq_true rfl, Nat.le_of_ble_eq_true rfl⟩ ⟨(by omega : 0 ≤ 1), (by omega : 0 ≤ 2)⟩ hl.1 (Nat.le_of_ble_eq_true rfl) rfl dX11_isDoneOnSpare_55 ?_
    refine lv_aload_n hx hb dX11_isDoneOnSpare_58 rfl (lv_at hl 1 rfl) ?_
    refine lv_iload_n hx hb dX11_isDoneOnSpare_59 rfl (lv_at hl 2 rfl) ?_
    refine lv_iconst (v := 5) hx hb dX11_isDoneOnSpare_60 (by decide) ?_
    refine lv_iadd hx hb dX11_isDoneOnSpare_61 ?_
    obtain ⟨r7, er7, hf⟩ := bd_e hf
    refine gVr_i E hK hP (cX4_digitAtc ha1 _ er7) kV_X4_digitAt wd_1_219 rfl rfl (qs_0 ks (adU ad bl) σ ha1) rfl rfl rfl ⟨Nat.le_of_ble_eq_true rfl, Nat.le_of_ble_eq_true rfl⟩ ⟨(by omega : 0 ≤ 1), (by omega : 0 ≤ 2)⟩ hl.1 (Nat.le_of_ble_eq_true rfl) rfl dX11_isDoneOnSpare_62 ?_
    obtain ⟨r8, er8, hf⟩ := bd_e hf
    refine gVw_i E hK hP hD hS hA (cX3_addBladec (by decide : (2 : Nat) < 3) _ _ _ er8) kV_X3_addBlade wd_1_220 rfl rfl (qh_0 ks (adU ad bl) σ (by decide : (2 : Nat) < 3)) rfl rfl rfl ⟨Nat.le_of_ble_eq_true rfl, Nat.le_of_ble_eq_true rfl⟩ ⟨(by omega : 0 ≤ 1), (by omega : 0 ≤ 2)⟩ hl.1 (Nat.le_of_ble_eq_true rfl) rfl dX11_isDoneOnSpare_65 (fun H locs hP hD hS => ?_)
    refine lv_if_lt (tgt := 75) hx hb dX11_isDoneOnSpare_68 (by decide) (fun c9 => ?_) (fun c9 => ?_)
    · replace hf := pos_e c9 hf
      refine lv_iconst (v := 0) hx hb dX11_isDoneOnSpare_75 (by decide) ?_
      refine W.widen (k := 1) (n := 2) (by omega) (by omega) ?_
      exact gaw_z (bl := bl) (bl0 := bl0) (σ0 := σ) rfl E hlk hP hD hS hkp hr dX11_isDoneOnSpare_76 (som_e hf)
    · replace hf := neg_e c9 hf
      refine lv_iconst (v := 1) hx hb dX11_isDoneOnSpare_71 (by decide) ?_
      refine lv_goto (tgt := 76) hx hb dX11_isDoneOnSpare_72 (by decide) ?_
      refine W.widen (k := 1) (n := 2) (by omega) (by omega) ?_
      exact gaw_z (bl := bl) (bl0 := bl0) (σ0 := σ) rfl E hlk hP hD hS hkp hr dX11_isDoneOnSpare_76 (som_e hf)
  · replace hf := neg_e c2 hf
    by_cases c3 : r1 = 107
    · replace hf := pos_e c3 hf
      refine lv_lookup (tgt := 107) (off := 102) hx hb dX11_isDoneOnSpare_5 (by decide) (by show Op.lookupswitch.offset [(98, 35), (107, 102), (116, 72)] 135 _ = _; rw [lv_osw c2 (a := 98) rfl]; rw [Op.lookupswitch.offset_cons, if_pos (by rw [c3]; rfl)]) (by decide) ?_
      refine lv_aload_n hx hb dX11_isDoneOnSpare_107 rfl (lv_at hl 0 rfl) ?_
      refine gget E in_X11 hK hP (q_main ks (adU ad bl) σ) rfl (k := 2) (by decide) wd_1_147 rfl (v := .ref (adU ad bl 1 2)) rfl dX11_isDoneOnSpare_108 ?_
      refine lv_aload_n hx hb dX11_isDoneOnSpare_111 rfl (lv_at hl 1 rfl) ?_
      refine lv_iload_n hx hb dX11_isDoneOnSpare_112 rfl (lv_at hl 2 rfl) ?_
      refine lv_iconst (v := 1) hx hb dX11_isDoneOnSpare_113 (by decide) ?_
      refine lv_iadd hx hb dX11_isDoneOnSpare_114 ?_
      obtain ⟨r10, er10, hf⟩ := bd_e hf
      refine gVr_i E hK hP (cX4_digitAtc ha1 _ er10) kV_X4_digitAt wd_1_219 rfl rfl (qs_0 ks (adU ad bl) σ ha1) rfl rfl rfl ⟨Nat.le_of_ble_eq_true rfl, Nat.le_of_ble_eq_true rfl⟩ ⟨(by omega : 0 ≤ 1), (by omega : 0 ≤ 2)⟩ hl.1 (Nat.le_of_ble_eq_true rfl) rfl dX11_isDoneOnSpare_115 ?_
      refine lv_aload_n hx hb dX11_isDoneOnSpare_118 rfl (lv_at hl 1 rfl) ?_
      refine lv_iload_n hx hb dX11_isDoneOnSpare_119 rfl (lv_at hl 2 rfl) ?_
      refine lv_iconst (v := 2) hx hb dX11_isDoneOnSpare_120 (by decide) ?_
      refine lv_iadd hx hb dX11_isDoneOnSpare_121 ?_
      obtain ⟨r11, er11, hf⟩ := bd_e hf
      refine gVr_i E hK hP (cX4_digitAtc ha1 _ er11) kV_X4_digitAt wd_1_219 rfl rfl (qs_0 ks (adU ad bl) σ ha1) rfl rfl rfl ⟨Nat.le_of_ble_eq_true rfl, Nat.le_of_ble_eq_true rfl⟩ ⟨(by omega : 0 ≤ 1), (by omega : 0 ≤ 2)⟩ hl.1 (Nat.le_of_ble_eq_true rfl) rfl dX11_isDoneOnSpare_122 ?_
      obtain ⟨c13, hf⟩ := ck_e hf
      obtain ⟨r12, er12, hf⟩ := bd_e hf
      refine gSa_q (bl := bl) E hK hP hD hS hA (cX11_newBlowc (bl := bl) _ _ er12) kS_X11_newBlow wd_1_229 rfl rfl rfl ⟨Nat.le_of_ble_eq_true rfl, Nat.le_of_ble_eq_true rfl⟩ ⟨(by omega : 0 + 1 ≤ 1), (by omega : 0 + 2 ≤ 2)⟩ hl.1 (Nat.le_of_ble_eq_true rfl) rfl dX11_isDoneOnSpare_125 (fun bl1 H locs hkp1 hP hD hS => ?_)
      have hkp := kept_t hkp c13 hkp1
      have hl := hl
      have hl : lv_has ls 3 [(0, .ref ((adU ad bl1) 0 0)), (1, .ref ((adU ad bl1) 10 a1)), (2, .int a2)] := hl
      generalize bl1 = bl at hP hD hkp hl ⊢
      obtain ⟨r14, er14, hf⟩ := bd_e hf
      refine gVw_i E hK hP hD hS hA (cX3_addBlowc (by decide : (2 : Nat) < 3) _ er14) kV_X3_addBlow wd_2_78 rfl rfl (qh_0 ks (adU ad bl) r12.2 (by decide : (2 : Nat) < 3)) rfl rfl rfl ⟨Nat.le_of_ble_eq_true rfl, Nat.le_of_ble_eq_true rfl⟩ ⟨(by omega : 0 + 1 ≤ 1), (by omega : 0 + 2 ≤ 2)⟩ hl.1 (Nat.le_of_ble_eq_true rfl) rfl dX11_isDoneOnSpare_128 (fun H locs hP hD hS => ?_)
      refine lv_if_lt (tgt := 138) hx hb dX11_isDoneOnSpare_131 (by decide) (fun c15 => ?_) (fun c15 => ?_)
      · replace hf := pos_e c15 hf
        refine lv_iconst (v := 0) hx hb dX11_isDoneOnSpare_138 (by decide) ?_
        refine W.widen (k := 1) (n := 2) (by omega) (by omega) ?_
        exact gaw_z (bl := bl) (bl0 := bl0) (σ0 := σ) rfl E hlk hP hD hS hkp hr dX11_isDoneOnSpare_139 (som_e hf)
      · replace hf := neg_e c15 hf
        refine lv_iconst (v := 1) hx hb dX11_isDoneOnSpare_134 (by decide) ?_
        refine lv_goto (tgt := 139) hx hb dX11_isDoneOnSpare_135 (by decide) ?_
        refine W.widen (k := 1) (n := 2) (by omega) (by omega) ?_
        exact gaw_z (bl := bl) (bl0 := bl0) (σ0 := σ) rfl E hlk hP hD hS hkp hr dX11_isDoneOnSpare_139 (som_e hf)
    · replace hf := neg_e c3 hf
      by_cases c4 : r1 = 116
      · replace hf := pos_e c4 hf
        refine lv_lookup (tgt := 77) (off := 72) hx hb dX11_isDoneOnSpare_5 (by decide) (by show Op.lookupswitch.offset [(98, 35), (107, 102), (116, 72)] 135 _ = _; rw [lv_osw c2 (a := 98) rfl, lv_osw c3 (a := 107) rfl]; rw [Op.lookupswitch.offset_cons, if_pos (by rw [c4]; rfl)]) (by decide) ?_
        refine lv_aload_n hx hb dX11_isDoneOnSpare_77 rfl (lv_at hl 0 rfl) ?_
        refine gget E in_X11 hK hP (q_main ks (adU ad bl) σ) rfl (k := 2) (by decide) wd_1_147 rfl (v := .ref (adU ad bl 1 2)) rfl dX11_isDoneOnSpare_78 ?_
        refine lv_aload_n hx hb dX11_isDoneOnSpare_81 rfl (lv_at hl 1 rfl) ?_
        refine lv_iload_n hx hb dX11_isDoneOnSpare_82 rfl (lv_at hl 2 rfl) ?_
        refine lv_iconst (v := 1) hx hb dX11_isDoneOnSpare_83 (by decide) ?_
        refine lv_iadd hx hb dX11_isDoneOnSpare_84 ?_
        obtain ⟨r16, er16, hf⟩ := bd_e hf
        refine gVr_i E hK hP (cX4_digitAtc ha1 _ er16) kV_X4_digitAt wd_1_219 rfl rfl (qs_0 ks (adU ad bl) σ ha1) rfl rfl rfl ⟨Nat.le_of_ble_eq_true rfl, Nat.le_of_ble_eq_true rfl⟩ ⟨(by omega : 0 ≤ 1), (by omega : 0 ≤ 2)⟩ hl.1 (Nat.le_of_ble_eq_true rfl) rfl dX11_isDoneOnSpare_85 ?_
        refine lv_aload_n hx hb dX11_isDoneOnSpare_88 rfl (lv_at hl 1 rfl) ?_
        refine lv_iload_n hx hb dX11_isDoneOnSpare_89 rfl (lv_at hl 2 rfl) ?_
        refine lv_iconst (v := 2) hx hb dX11_isDoneOnSpare_90 (by decide) ?_
        refine lv_iadd hx hb dX11_isDoneOnSpare_91 ?_
        obtain ⟨r17, er17, hf⟩ := bd_e hf
        refine gVr_i E hK hP (cX4_twoDigitsAtc ha1 _ er17) kV_X4_twoDigitsAt wd_1_210 rfl rfl (qs_0 ks (adU ad bl) σ ha1) rfl rfl rfl ⟨Nat.le_of_ble_eq_true rfl, Nat.le_of_ble_eq_true rfl⟩ ⟨(by omega : 0 ≤ 1), (by omega : 0 ≤ 2)⟩ hl.1 (Nat.le_of_ble_eq_true rfl) rfl dX11_isDoneOnSpare_92 ?_
        obtain ⟨r18, er18, hf⟩ := bd_e hf
        refine gVw_i E hK hP hD hS hA (cX3_addThumbsc (by decide : (2 : Nat) < 3) _ _ er18) kV_X3_addThumbs wd_1_225 rfl rfl (qh_0 ks (adU ad bl) σ (by decide : (2 : Nat) < 3)) rfl rfl rfl ⟨Nat.le_of_ble_eq_true rfl, Nat.le_of_ble_eq_true rfl⟩ ⟨(by omega : 0 ≤ 1), (by omega : 0 ≤ 2)⟩ hl.1 (Nat.le_of_ble_eq_true rfl) rfl dX11_isDoneOnSpare_95 (fun H locs hP hD hS => ?_)
        refine lv_if_lt (tgt := 105) hx hb dX11_isDoneOnSpare_98 (by decide) (fun c19 => ?_) (fun c19 => ?_)
        · replace hf := pos_e c19 hf
          refine lv_iconst (v := 0) hx hb dX11_isDoneOnSpare_105 (by decide) ?_
          refine W.widen (k := 1) (n := 2) (by omega) (by omega) ?_
          exact gaw_z (bl := bl) (bl0 := bl0) (σ0 := σ) rfl E hlk hP hD hS hkp hr dX11_isDoneOnSpare_106 (som_e hf)
        · replace hf := neg_e c19 hf
          refine lv_iconst (v := 1) hx hb dX11_isDoneOnSpare_101 (by decide) ?_
          refine lv_goto (tgt := 106) hx hb dX11_isDoneOnSpare_102 (by decide) ?_
          refine W.widen (k := 1) (n := 2) (by omega) (by omega) ?_
          exact gaw_z (bl := bl) (bl0 := bl0) (σ0 := σ) rfl E hlk hP hD hS hkp hr dX11_isDoneOnSpare_106 (som_e hf)
      · replace hf := neg_e c4 hf
        refine lv_lookup (tgt := 140) (off := 135) hx hb dX11_isDoneOnSpare_5 (by decide) (by show Op.lookupswitch.offset [(98, 35), (107, 102), (116, 72)] 135 _ = _; rw [lv_osw c2 (a := 98) rfl, lv_osw c3 (a := 107) rfl, lv_osw c4 (a := 116) rfl]; rfl) (by decide) ?_
        refine lv_aload_n hx hb dX11_isDoneOnSpare_140 rfl (lv_at hl 0 rfl) ?_
        refine lv_aload_n hx hb dX11_isDoneOnSpare_141 rfl (lv_at hl 1 rfl) ?_
        refine lv_iload_n hx hb dX11_isDoneOnSpare_142 rfl (lv_at hl 2 rfl) ?_
        obtain ⟨r20, er20, hf⟩ := bd_e hf
        refine gVw_i E hK hP hD hS hA (cX11_isTriedOnSparec _ ha1 er20) kV_X11_isTriedOnSpare wd_2_82 rfl rfl (q_main ks (adU ad bl) σ) rfl rfl rfl ⟨Nat.le_of_ble_eq_true rfl, Nat.le_of_ble_eq_true rfl⟩ ⟨(by omega : 0 ≤ 1), (by omega : 0 ≤ 2)⟩ hl.1 (Nat.le_of_ble_eq_true rfl) rfl dX11_isDoneOnSpare_143 (fun H locs hP hD hS => ?_)
        obtain ⟨c21, hf⟩ := ck_e hf
        refine W.widen (k := 1) (n := 2) (by omega) (by omega) ?_
        exact gaw_z (bl := bl) (bl0 := bl0) (σ0 := σ) (nb_z c21) E hlk hP hD hS hkp hr dX11_isDoneOnSpare_146 (som_e hf)
noncomputable def fX11_hedge_L64B (σ : St) (a1 : Int32) (K_64 : Int32 → St → Option (Int32 × St)) (rec_64 : Int32 → Int32 → St → Option (Int32 × St)) (x8 : Int32) (x9 : Int32) (σ10 : St) : Option (Int32 × St) :=
  if (gI σ10 8 a1.toNatClampNeg 3) ≤ x9 then
  K_64 x8 σ10
  else
  ck (gS σ 2 0 ≤ gS σ10 2 0) <|
  bd (fX11_isDoneOnSpare σ10 a1.toNatClampNeg x9) fun r12 =>
  if r12.1 = 0 then
  some ((-2000) - x9, r12.2)
  else
  nmv (x8 + 1) fun v15 =>
  bd (fX11_lengthAt r12.2 a1.toNatClampNeg x9) fun r16 =>
  nmv (x9 + r16) fun v17 =>
  rec_64 v15 v17 r12.2
noncomputable def fX11_hedge_L64 (σ : St) (a1 : Int32) (K_64 : Int32 → St → Option (Int32 × St)) : Nat → Int32 → Int32 → St → Option (Int32 × St)
  | 0 => fun _ _ _ => none
  | n + 1 => fX11_hedge_L64B σ a1 K_64 (fX11_hedge_L64 σ a1 K_64 n)
noncomputable def fX11_hedge (σ : St) (a1 : Int32) : Option (Int32 × St) :=
  bd (fX11_rowRefusal σ a1) fun r1 =>
  if 0 ≤ r1 then
  ck (vp_in a1 8) <|
  if (gI σ 8 a1.toNatClampNeg 2) = 0 then
  bd (fX11_firstBadByte σ a1.toNatClampNeg) fun r5 =>
  if r5 < 0 then
  bd (fX3_become σ 2 0) fun r7 =>
  fX11_hedge_L64 σ a1 (fun y18 σ19 => bd (fX3_become σ19 0 2) fun r20 =>
  some (y18, r20)) FU 0 0 r7
  else
  some ((-1000) - r5, σ)
  else
  some ((-12), σ)
  else
  some (r1, σ)
def rX11_hedge : Room := { frames := 7, cells := 1000, slots := 2000, locals := 152 }
set_option maxHeartbeats 4000000 in
set_option maxRecDepth 100000 in
theorem cX11_hedgec {l : Launch} {dC : Nat → ClassId} {dI : Nat → Nat → Nat} {ks : Nat → ClassId} {ad : Nat → Nat → Nat} {bl0 : Nat → Nat} {σ : St} (a1 : Int32)  {out : Int32 × St} (hf : fX11_hedge σ a1 = some out) : MAi l dC dI ks ad bl0 σ yX11_hedge cX11_hedge 7 (some .int) rX11_hedge [.ref (ad 0 0), .int a1] out 1000 2000 := by
  intro sz
  refine met_w (Qc := fun A => va_Qi (fun r (u : (Nat → Nat) × St) => r = out.1 ∧ u.2 = out.2 ∧ kept bl0 σ u.1) (gBa dC dI ks ad A) A) (own := RX11) (by decide) rfl (Nat.le_of_ble_eq_true rfl) ?_
  intro A p e s m args below meth c ls E hr hlk hA hP hD hS hK hl
  have hx := E.1
  obtain ⟨bl, hbl⟩ : ∃ bl, bl = bl0 := ⟨_, rfl⟩
  have hkp : kept bl0 σ bl := by rw [hbl]; exact fun _ _ => rfl
  rw [← hbl] at hP hD
  have hb := E.2.1
  have hl : lv_has ls 7 [(0, .ref (adU ad bl 0 0)), (1, .int a1)] := hl
  unfold fX11_hedge at hf
  refine lv_aload_n hx hb dX11_hedge_0 rfl (lv_at hl 0 rfl) ?_
  refine lv_iload_n hx hb dX11_hedge_1 rfl (lv_at hl 1 rfl) ?_
  obtain ⟨r1, er1, hf⟩ := bd_e hf
  refine gVr_i E hK hP (cX11_rowRefusalc _ er1) kV_X11_rowRefusal wd_1_174 rfl rfl (q_main ks (adU ad bl) σ) rfl rfl rfl ⟨Nat.le_of_ble_eq_true rfl, Nat.le_of_ble_eq_true rfl⟩ ⟨(by omega : 0 ≤ 1000), (by omega : 0 ≤ 2000)⟩ hl.1 (Nat.le_of_ble_eq_true rfl) rfl dX11_hedge_2 ?_
  refine lv_istore_n (lv' := [(2, .int r1), (0, .ref (adU ad bl 0 0)), (1, .int a1)]) hx hb dX11_hedge_5 rfl hl (by decide) rfl (fun ls hl => ?_)
  refine lv_iload_n hx hb dX11_hedge_6 rfl (lv_at hl 0 rfl) ?_
  refine lv_if_ge (tgt := 12) hx hb dX11_hedge_7 (by decide) (fun c2 => ?_) (fun c2 => ?_)
  · replace hf := pos_e c2 hf
    refine lv_aload_n hx hb dX11_hedge_12 rfl (lv_at hl 1 rfl) ?_
    refine gget E in_X11 hK hP (q_main ks (adU ad bl) σ) rfl (k := 4) (by decide) wd_1_149 rfl (v := .ref (adU ad bl 12 0)) rfl dX11_hedge_13 ?_
    refine lv_iload_n hx hb dX11_hedge_16 rfl (lv_at hl 2 rfl) ?_
    obtain ⟨c3, hf⟩ := ck_e hf
    refine gaaldS E hK hP c3 dX11_hedge_17 ?_
    refine lv_astore_n (lv' := [(3, .ref (adU ad bl 10 a1.toNatClampNeg)), (2, .int r1), (0, .ref (adU ad bl 0 0)), (1, .int a1)]) hx hb dX11_hedge_18 rfl hl (by decide) rfl (fun ls hl => ?_)
    refine lv_aload_n hx hb dX11_hedge_19 rfl (lv_at hl 0 rfl) ?_
    refine gget E in_X4 hK hP (qs_0 ks (adU ad bl) σ (vp_lt c3)) rfl (k := 2) (by decide) wd_1_127 rfl (v := .int (gI σ 8 a1.toNatClampNeg 2)) rfl dX11_hedge_20 ?_
    refine lv_if_eq (tgt := 29) hx hb dX11_hedge_23 (by decide) (fun c4 => ?_) (fun c4 => ?_)
    · replace hf := pos_e c4 hf
      refine lv_aload_n hx hb dX11_hedge_29 rfl (lv_at hl 0 rfl) ?_
      obtain ⟨r5, er5, hf⟩ := bd_e hf
      refine gSr_i E hK hP (cX11_firstBadBytec (vp_lt c3) er5) kS_X11_firstBadByte wd_1_185 rfl rfl rfl ⟨Nat.le_of_ble_eq_true rfl, Nat.le_of_ble_eq_true rfl⟩ ⟨(by omega : 0 ≤ 1000), (by omega : 0 ≤ 2000)⟩ hl.1 (Nat.le_of_ble_eq_true rfl) rfl dX11_hedge_30 ?_
      refine lv_istore (lv' := [(4, .int r5), (3, .ref (adU ad bl 10 a1.toNatClampNeg)), (2, .int r1), (0, .ref (adU ad bl 0 0)), (1, .int a1)]) hx hb dX11_hedge_33 hl (by decide) rfl (fun ls hl => ?_)
      refine lv_iload hx hb dX11_hedge_35 (lv_at hl 0 rfl) ?_
      refine lv_if_lt (tgt := 47) hx hb dX11_hedge_37 (by decide) (fun c6 => ?_) (fun c6 => ?_)
      · replace hf := pos_e c6 hf
        refine lv_aload_n hx hb dX11_hedge_47 rfl (lv_at hl 3 rfl) ?_
        refine gget E in_X11 hK hP (q_main ks (adU ad bl) σ) rfl (k := 2) (by decide) wd_1_147 rfl (v := .ref (adU ad bl 1 2)) rfl dX11_hedge_48 ?_
        refine lv_aload_n hx hb dX11_hedge_51 rfl (lv_at hl 3 rfl) ?_
        refine gget E in_X11 hK hP (q_main ks (adU ad bl) σ) rfl (k := 0) (by decide) wd_1_145 rfl (v := .ref (adU ad bl 1 0)) rfl dX11_hedge_52 ?_
        obtain ⟨r7, er7, hf⟩ := bd_e hf
        refine gVw_v E hK hP hD hS hA (cX3_becomec (by decide : (2 : Nat) < 3) (by decide : (0 : Nat) < 3) er7) kV_X3_become wd_1_199 rfl rfl (qh_0 ks (adU ad bl) σ (by decide : (2 : Nat) < 3)) rfl rfl rfl ⟨Nat.le_of_ble_eq_true rfl, Nat.le_of_ble_eq_true rfl⟩ ⟨(by omega : 0 ≤ 1000), (by omega : 0 ≤ 2000)⟩ hl.1 (Nat.le_of_ble_eq_true rfl) rfl dX11_hedge_55 (fun H locs hP hD hS => ?_)
        refine lv_iconst (v := 0) hx hb dX11_hedge_58 (by decide) ?_
        refine lv_istore (lv' := [(5, .int 0), (4, .int r5), (3, .ref (adU ad bl 10 a1.toNatClampNeg)), (2, .int r1), (0, .ref (adU ad bl 0 0)), (1, .int a1)]) hx hb dX11_hedge_59 hl (by decide) rfl (fun ls hl => ?_)
        refine lv_iconst (v := 0) hx hb dX11_hedge_61 (by decide) ?_
        refine lv_istore (lv' := [(6, .int 0), (5, .int 0), (4, .int r5), (3, .ref (adU ad bl 10 a1.toNatClampNeg)), (2, .int r1), (0, .ref (adU ad bl 0 0)), (1, .int a1)]) hx hb dX11_hedge_62 hl (by decide) rfl (fun ls hl => ?_)
        have loop_64 : ∀ (K_64 : Int32 → St → Option (Int32 × St)) (hK_64 : (∀ (y18 : Int32) (bl : Nat → Nat) (k1 k2 : Nat) (hk : k1 ≤ 1000 ∧ k2 ≤ 2000) (hkp : kept bl0 σ bl) (σ19 : St) (H : Heap) (locs : List Loc) (hP : va_P (dC, dI) vwCl (wG ks (adU ad bl) σ19) H) (hD : va_D A (wG ks (adU ad bl) σ19)) (hS : va_S A s.heap H locs) (hf : K_64 y18 σ19 = some out) (ls : Array Slot), lv_has ls 7 [(0, .ref (adU ad bl 0 0)), (5, .int y18)] → W p l e rX11_hedge s m args below meth c H locs k1 k2 (MQ below (va_Qi (fun r (u : (Nat → Nat) × St) => r = out.1 ∧ u.2 = out.2 ∧ kept bl0 σ u.1) (gBa dC dI ks ad A) A) args s 1000 2000 A) (F0 m 107 ls []))) (n_64 : Nat) (x8 : Int32) (x9 : Int32) (bl : Nat → Nat) (k1 k2 : Nat) (hk : k1 + n_64 ≤ 1000 ∧ k2 + 2 * n_64 ≤ 2000) (hkp : kept bl0 σ bl) (σ10 : St) (H : Heap) (locs : List Loc) (hP : va_P (dC, dI) vwCl (wG ks (adU ad bl) σ10) H) (hD : va_D A (wG ks (adU ad bl) σ10)) (hS : va_S A s.heap H locs) (hf : fX11_hedge_L64 σ a1 K_64 n_64 x8 x9 σ10 = some out) (ls : Array Slot), lv_has ls 7 [(0, .ref (adU ad bl 0 0)), (3, .ref (adU ad bl 10 a1.toNatClampNeg)), (5, .int x8), (6, .int x9)] → W p l e rX11_hedge s m args below meth c H locs k1 k2 (MQ below (va_Qi (fun r (u : (Nat → Nat) × St) => r = out.1 ∧ u.2 = out.2 ∧ kept bl0 σ u.1) (gBa dC dI ks ad A) A) args s 1000 2000 A) (F0 m 64 ls []) := by
          intro K_64 hK_64 n_64
          induction n_64 with
          | zero => intro x8 x9 bl k1 k2 hk hkp σ10 H locs hP hD hS hf; cases hf
          | succ n_64 ih_64 =>
            intro x8 x9 bl k1 k2 hk hkp σ10 H locs hP hD hS hf ls hl
            have hf : fX11_hedge_L64B σ a1 K_64 (fX11_hedge_L64 σ a1 K_64 n_64) x8 x9 σ10 = some out := hf
            unfold fX11_hedge_L64B at hf
            refine lv_iload hx hb dX11_hedge_64 (lv_at hl 3 rfl) ?_
            refine lv_aload_n hx hb dX11_hedge_66 rfl (lv_at hl 1 rfl) ?_
            refine gget E in_X4 hK hP (qs_0 ks (adU ad bl) σ10 (vp_lt c3)) rfl (k := 3) (by decide) wd_1_129 rfl (v := .int (gI σ10 8 a1.toNatClampNeg 3)) rfl dX11_hedge_67 ?_
            refine lv_icmp_ge (tgt := 107) hx hb dX11_hedge_70 (by decide) (fun c11 => ?_) (fun c11 => ?_)
            · replace hf := pos_e c11 hf
              exact hK_64 _ _ k1 k2 (by first | omega | exact ⟨Nat.le_of_ble_eq_true rfl, Nat.le_of_ble_eq_true rfl⟩) hkp _ _ _ hP hD hS hf _ (lv_sub hl [0, 2] rfl)
            · replace hf := neg_e c11 hf
              refine lv_aload_n hx hb dX11_hedge_73 rfl (lv_at hl 0 rfl) ?_
              refine lv_aload_n hx hb dX11_hedge_74 rfl (lv_at hl 1 rfl) ?_
              refine lv_iload hx hb dX11_hedge_75 (lv_at hl 3 rfl) ?_
              obtain ⟨c13, hf⟩ := ck_e hf
              obtain ⟨r12, er12, hf⟩ := bd_e hf
              refine gVa_i (bl := bl) E hK hP hD hS hA (cX11_isDoneOnSparec (bl0 := bl) _ (vp_lt c3) er12) kV_X11_isDoneOnSpare wd_1_206 rfl rfl (q_main ks (adU ad bl) σ10) rfl rfl rfl ⟨Nat.le_of_ble_eq_true rfl, Nat.le_of_ble_eq_true rfl⟩ ⟨(by omega : k1 + 1 ≤ 1000), (by omega : k2 + 2 ≤ 2000)⟩ hl.1 (Nat.le_of_ble_eq_true rfl) rfl dX11_hedge_77 (fun bl1 H locs hkp1 hP hD hS => ?_)
              have hkp := kept_t hkp c13 hkp1
              have hl := hl
              have hl : lv_has ls 7 [(0, .ref ((adU ad bl1) 0 0)), (3, .ref ((adU ad bl1) 10 a1.toNatClampNeg)), (5, .int x8), (6, .int x9)] := hl
              generalize bl1 = bl at hP hD hkp hl ⊢
              refine lv_if_ne (tgt := 90) hx hb dX11_hedge_80 (by decide) (fun c14 => ?_) (fun c14 => ?_)
              · replace hf := neg_e c14 hf
                obtain ⟨v15, ev15, hf⟩ := nmv_e hf
                refine lv_iinc (v := v15) (lv' := [(5, .int v15), (0, .ref (adU ad bl 0 0)), (3, .ref (adU ad bl 10 a1.toNatClampNeg)), (6, .int x9)]) hx hb dX11_hedge_90 hl (k := 2) rfl (by rw [ev15]; rfl) (by decide) rfl (fun ls hl => ?_)
                refine lv_iload hx hb dX11_hedge_93 (lv_at hl 3 rfl) ?_
                refine lv_aload_n hx hb dX11_hedge_95 rfl (lv_at hl 2 rfl) ?_
                refine lv_iload hx hb dX11_hedge_96 (lv_at hl 3 rfl) ?_
                obtain ⟨r16, er16, hf⟩ := bd_e hf
                refine gSr_i E hK hP (cX11_lengthAtc _ (vp_lt c3) er16) kS_X11_lengthAt wd_2_134 rfl rfl rfl ⟨Nat.le_of_ble_eq_true rfl, Nat.le_of_ble_eq_true rfl⟩ ⟨(by omega : k1 + 1 ≤ 1000), (by omega : k2 + 2 ≤ 2000)⟩ hl.1 (Nat.le_of_ble_eq_true rfl) rfl dX11_hedge_98 ?_
                refine lv_iadd hx hb dX11_hedge_101 ?_
                obtain ⟨v17, ev17, hf⟩ := nmv_e hf
                refine lv_nmi ev17 ?_
                refine lv_istore (lv' := [(6, .int v17), (5, .int v15), (0, .ref (adU ad bl 0 0)), (3, .ref (adU ad bl 10 a1.toNatClampNeg))]) hx hb dX11_hedge_102 hl (by decide) rfl (fun ls hl => ?_)
                refine lv_goto (tgt := 64) hx hb dX11_hedge_104 (by decide) ?_
                exact ih_64 _ _ _ (k1 + 1) (k2 + 2) (by first | omega | exact ⟨Nat.le_of_ble_eq_true rfl, Nat.le_of_ble_eq_true rfl⟩) hkp _ _ _ hP hD hS hf _ (lv_sub hl [2, 3, 1, 0] rfl)
              · replace hf := pos_e c14 hf
                refine lv_sipush (v := -2000) hx hb dX11_hedge_83 (by decide) ?_
                refine lv_iload hx hb dX11_hedge_86 (lv_at hl 3 rfl) ?_
                refine lv_isub hx hb dX11_hedge_88 ?_
                refine W.widen (k := 1000) (n := 2000) (by omega) (by omega) ?_
                exact gaw_i (bl := bl) (bl0 := bl0) (σ0 := σ) E hlk hP hD hS hkp hr dX11_hedge_89 (som_e hf)
        refine loop_64 _ (fun y18 bl k1 k2 hk hkp σ19 H locs hP hD hS hf ls hl => ?_) _ _ _ _ 0 0 (by first | omega | exact ⟨Nat.le_of_ble_eq_true rfl, Nat.le_of_ble_eq_true rfl⟩) hkp _ _ _ hP hD hS hf _ (lv_sub hl [5, 3, 1, 0] rfl)
        refine lv_aload_n hx hb dX11_hedge_107 rfl (lv_at hl 0 rfl) ?_
        refine gget E in_X11 hK hP (q_main ks (adU ad bl) σ19) rfl (k := 0) (by decide) wd_1_145 rfl (v := .ref (adU ad bl 1 0)) rfl dX11_hedge_108 ?_
        refine lv_aload_n hx hb dX11_hedge_111 rfl (lv_at hl 0 rfl) ?_
        refine gget E in_X11 hK hP (q_main ks (adU ad bl) σ19) rfl (k := 2) (by decide) wd_1_147 rfl (v := .ref (adU ad bl 1 2)) rfl dX11_hedge_112 ?_
        obtain ⟨r20, er20, hf⟩ := bd_e hf
        refine gVw_v E hK hP hD hS hA (cX3_becomec (by decide : (0 : Nat) < 3) (by decide : (2 : Nat) < 3) er20) kV_X3_become wd_1_199 rfl rfl (qh_0 ks (adU ad bl) σ19 (by decide : (0 : Nat) < 3)) rfl rfl rfl ⟨Nat.le_of_ble_eq_true rfl, Nat.le_of_ble_eq_true rfl⟩ ⟨(by omega : k1 ≤ 1000), (by omega : k2 ≤ 2000)⟩ hl.1 (Nat.le_of_ble_eq_true rfl) rfl dX11_hedge_115 (fun H locs hP hD hS => ?_)
        refine lv_iload hx hb dX11_hedge_118 (lv_at hl 1 rfl) ?_
        refine W.widen (k := 1000) (n := 2000) (by omega) (by omega) ?_
        exact gaw_i (bl := bl) (bl0 := bl0) (σ0 := σ) E hlk hP hD hS hkp hr dX11_hedge_120 (som_e hf)
      · replace hf := neg_e c6 hf
        refine lv_sipush (v := -1000) hx hb dX11_hedge_40 (by decide) ?_
        refine lv_iload hx hb dX11_hedge_43 (lv_at hl 0 rfl) ?_
        refine lv_isub hx hb dX11_hedge_45 ?_
        refine W.widen (k := 1000) (n := 2000) (by omega) (by omega) ?_
        exact gaw_i (bl := bl) (bl0 := bl0) (σ0 := σ) E hlk hP hD hS hkp hr dX11_hedge_46 (som_e hf)
    · replace hf := neg_e c4 hf
      refine lv_bipush (v := -12) hx hb dX11_hedge_26 (by decide) ?_
      refine W.widen (k := 1000) (n := 2000) (by omega) (by omega) ?_
      exact gaw_i (bl := bl) (bl0 := bl0) (σ0 := σ) E hlk hP hD hS hkp hr dX11_hedge_28 (som_e hf)
  · replace hf := neg_e c2 hf
    refine lv_iload_n hx hb dX11_hedge_10 rfl (lv_at hl 0 rfl) ?_
    refine W.widen (k := 1000) (n := 2000) (by omega) (by omega) ?_
    exact gaw_i (bl := bl) (bl0 := bl0) (σ0 := σ) E hlk hP hD hS hkp hr dX11_hedge_11 (som_e hf)
