noncomputable def fX11_areTenths (σ : St) (a1 : Int32) : Option (Int32) :=
  if a1 < 0 then
  some 0
  else
  if 10 < ((a1 / 100) + (a1 - a1 / 100 * 100)) then
  some 0
  else
  some 1
def rX11_areTenths : Room := { frames := 0, cells := 0, slots := 0, locals := 0 }
set_option maxHeartbeats 4000000 in
set_option maxRecDepth 100000 in
theorem cX11_areTenthsc {l : Launch} {dC : Nat → ClassId} {dI : Nat → Nat → Nat} {ks : Nat → ClassId} {ad : Nat → Nat → Nat} {σ : St} (a1 : Int32)  {out : Int32} (hf : fX11_areTenths σ a1 = some out) : MRi l dC dI ks ad σ yX11_areTenths cX11_areTenths 1 (some .boolean) rX11_areTenths [.int a1] out := by
  refine met_r (own := RX11) (by decide) rfl (Nat.le_of_ble_eq_true rfl) ?_
  intro p e s m args below meth c ls E hr hlk hP hK hl
  have hx := E.1
  have hb := E.2.1
  have hl : lv_has ls 1 [(0, .int a1)] := hl
  unfold fX11_areTenths at hf
  refine lv_iload_n hx hb dX11_areTenths_0 rfl (lv_at hl 0 rfl) ?_
  refine lv_if_lt (tgt := 22) hx hb dX11_areTenths_1 (by decide) (fun c1 => ?_) (fun c1 => ?_)
  · replace hf := pos_e c1 hf
    refine lv_iconst (v := 0) hx hb dX11_areTenths_22 (by decide) ?_
    exact gret_z rfl E hr hlk dX11_areTenths_23 (som_e hf).symm
  · replace hf := neg_e c1 hf
    refine lv_iload_n hx hb dX11_areTenths_4 rfl (lv_at hl 0 rfl) ?_
    refine lv_bipush (v := 100) hx hb dX11_areTenths_5 (by decide) ?_
    refine lv_idiv hx hb dX11_areTenths_7 (by decide) ?_
    refine lv_iload_n hx hb dX11_areTenths_8 rfl (lv_at hl 0 rfl) ?_
    refine lv_bipush (v := 100) hx hb dX11_areTenths_9 (by decide) ?_
    refine lv_irem hx hb dX11_areTenths_11 (by decide) ?_
    refine lv_iadd hx hb dX11_areTenths_12 ?_
    refine lv_bipush (v := 10) hx hb dX11_areTenths_13 (by decide) ?_
    refine lv_icmp_gt (tgt := 22) hx hb dX11_areTenths_15 (by decide) (fun c2 => ?_) (fun c2 => ?_)
    · replace hf := pos_e c2 hf
      refine lv_iconst (v := 0) hx hb dX11_areTenths_22 (by decide) ?_
      exact gret_z rfl E hr hlk dX11_areTenths_23 (som_e hf).symm
    · replace hf := neg_e c2 hf
      refine lv_iconst (v := 1) hx hb dX11_areTenths_18 (by decide) ?_
      refine lv_goto (tgt := 23) hx hb dX11_areTenths_19 (by decide) ?_
      exact gret_z rfl E hr hlk dX11_areTenths_23 (som_e hf).symm
noncomputable def fJ7_fill_d0a16_L6B (a1 : Nat) (a2 : Int64) (v1 : Int32) (K_6 : St → Option (St)) (rec_6 : Int32 → St → Option (St)) (x2 : Int32) (σ3 : St) : Option (St) :=
  if v1 ≤ x2 then
  K_6 σ3
  else
  ck (vp_in x2 13) <|
  nmv (sL σ3 a1 x2.toNatClampNeg a2) fun σ6 =>
  nmv (x2 + 1) fun v7 =>
  rec_6 v7 σ6
noncomputable def fJ7_fill_d0a16_L6 (a1 : Nat) (a2 : Int64) (v1 : Int32) (K_6 : St → Option (St)) : Nat → Int32 → St → Option (St)
  | 0 => fun _ _ => none
  | n + 1 => fJ7_fill_d0a16_L6B a1 a2 v1 K_6 (fJ7_fill_d0a16_L6 a1 a2 v1 K_6 n)
noncomputable def fJ7_fill_d0a16 (σ : St) (a1 : Nat) (a2 : Int64) : Option (St) :=
  nmv (nI 13) fun v1 =>
  fJ7_fill_d0a16_L6 a1 a2 v1 (fun σ8 => some σ8) FU 0 σ
def rJ7_fill_d0a16 : Room := { frames := 0, cells := 0, slots := 0, locals := 0 }
set_option maxHeartbeats 4000000 in
set_option maxRecDepth 100000 in
theorem cJ7_fill_d0a16c {l : Launch} {dC : Nat → ClassId} {dI : Nat → Nat → Nat} {ks : Nat → ClassId} {ad : Nat → Nat → Nat} {σ : St} {a1 : Nat} (a2 : Int64) (ha1 : a1 < 2) {out : St} (hf : fJ7_fill_d0a16 σ a1 a2 = some out) : MWv l dC dI ks ad σ yJ7_fill_d0a16 cJ7_fill_d0a16 5 none rJ7_fill_d0a16 [.ref (ad 13 a1), .long a2] out := by
  intro sz
  refine met_w (Qc := fun A => va_Qv (fun σ' => σ' = out) (gBw dC dI ks ad A) A) (own := RJ7) (by decide) rfl (Nat.le_of_ble_eq_true rfl) ?_
  intro A p e s m args below meth c ls E hr hlk hA hP hD hS hK hl
  have hx := E.1
  have hb := E.2.1
  have hl : lv_has ls 5 [(0, .ref (ad 13 a1)), (1, .long a2)] := hl
  unfold fJ7_fill_d0a16 at hf
  refine lv_iconst (v := 0) hx hb dJ7_fill_d0a16_0 (by decide) ?_
  refine lv_istore_n (lv' := [(3, .int 0), (0, .ref (ad 13 a1)), (1, .long a2)]) hx hb dJ7_fill_d0a16_1 rfl hl (by decide) rfl (fun ls hl => ?_)
  refine lv_aload_n hx hb dJ7_fill_d0a16_2 rfl (lv_at hl 1 rfl) ?_
  refine galenL E hK hP (q_Lc ks ad σ ha1) dJ7_fill_d0a16_3 ?_
  obtain ⟨v1, ev1, hf⟩ := nmv_e hf
  refine lv_nmi ev1 ?_
  refine lv_istore (lv' := [(4, .int v1), (3, .int 0), (0, .ref (ad 13 a1)), (1, .long a2)]) hx hb dJ7_fill_d0a16_4 hl (by decide) rfl (fun ls hl => ?_)
  have loop_6 : ∀ (K_6 : St → Option (St)) (hK_6 : (∀ (σ8 : St) (H : Heap) (locs : List Loc) (hP : va_P (dC, dI) vwCl (wG ks ad σ8) H) (hD : va_D A (wG ks ad σ8)) (hS : va_S A s.heap H locs) (hf : K_6 σ8 = some out) (ls : Array Slot), lv_has ls 5 [] → W p l e rJ7_fill_d0a16 s m args below meth c H locs 0 0 (MQ below (va_Qv (fun σ' => σ' = out) (gBw dC dI ks ad A) A) args s 0 0 A) (F0 m 22 ls []))) (n_6 : Nat) (x2 : Int32) (σ3 : St) (H : Heap) (locs : List Loc) (hP : va_P (dC, dI) vwCl (wG ks ad σ3) H) (hD : va_D A (wG ks ad σ3)) (hS : va_S A s.heap H locs) (hf : fJ7_fill_d0a16_L6 a1 a2 v1 K_6 n_6 x2 σ3 = some out) (ls : Array Slot), lv_has ls 5 [(0, .ref (ad 13 a1)), (1, .long a2), (3, .int x2), (4, .int v1)] → W p l e rJ7_fill_d0a16 s m args below meth c H locs 0 0 (MQ below (va_Qv (fun σ' => σ' = out) (gBw dC dI ks ad A) A) args s 0 0 A) (F0 m 6 ls []) := by
    intro K_6 hK_6 n_6
    induction n_6 with
    | zero => intro x2 σ3 H locs hP hD hS hf; cases hf
    | succ n_6 ih_6 =>
      intro x2 σ3 H locs hP hD hS hf ls hl
      have hf : fJ7_fill_d0a16_L6B a1 a2 v1 K_6 (fJ7_fill_d0a16_L6 a1 a2 v1 K_6 n_6) x2 σ3 = some out := hf
      unfold fJ7_fill_d0a16_L6B at hf
      refine lv_iload_n hx hb dJ7_fill_d0a16_6 rfl (lv_at hl 2 rfl) ?_
      refine lv_iload hx hb dJ7_fill_d0a16_7 (lv_at hl 3 rfl) ?_
      refine lv_icmp_ge (tgt := 22) hx hb dJ7_fill_d0a16_9 (by decide) (fun c4 => ?_) (fun c4 => ?_)
      · replace hf := pos_e c4 hf
        exact hK_6 _ _ _ hP hD hS hf _ (lv_sub hl [] rfl)
      · replace hf := neg_e c4 hf
        refine lv_aload_n hx hb dJ7_fill_d0a16_12 rfl (lv_at hl 0 rfl) ?_
        refine lv_iload_n hx hb dJ7_fill_d0a16_13 rfl (lv_at hl 2 rfl) ?_
        refine lv_lload_n hx hb dJ7_fill_d0a16_14 rfl (lv_at hl 1 rfl) ?_
        obtain ⟨c5, hf⟩ := ck_e hf
        obtain ⟨σ6, eσ6, hf⟩ := nmv_e hf
        refine glast E hK hP hD hS (q_Lc ks ad σ3 ha1) c5 (σ' := σ6) (by rw [eσ6]; exact st_Lc ks ad σ3 ha1 _) dJ7_fill_d0a16_15 (fun H locs hP hD hS => ?_)
        obtain ⟨v7, ev7, hf⟩ := nmv_e hf
        refine lv_iinc (v := v7) (lv' := [(3, .int v7), (0, .ref (ad 13 a1)), (1, .long a2), (4, .int v1)]) hx hb dJ7_fill_d0a16_16 hl (k := 2) rfl (by rw [ev7]; rfl) (by decide) rfl (fun ls hl => ?_)
        refine lv_goto (tgt := 6) hx hb dJ7_fill_d0a16_19 (by decide) ?_
        exact ih_6 _ _ _ _ hP hD hS hf _ (lv_sub hl [1, 2, 0, 3] rfl)
  refine loop_6 _ (fun σ8 H locs hP hD hS hf ls hl => ?_) _ _ _ _ _ hP hD hS hf _ (lv_sub hl [2, 3, 1, 0] rfl)
  exact gretw_v E hlk hP hD hS hr dJ7_fill_d0a16_22 (som_e hf)
noncomputable def fX11_callOnce_L26B (a1 : Int32) (a2 : Int32) (K_26 : St → Option (St)) (rec_26 : Int32 → St → Option (St)) (x8 : Int32) (σ9 : St) : Option (St) :=
  if 12 < x8 then
  K_26 σ9
  else
  ck (gS σ9 0 1 < 2) <|
  ck (vp_in (x8 - 1) 13) <|
  ck (gS σ9 0 0 < 2) <|
  ck (vp_in x8 13) <|
  ck (vp_in (x8 - 1) 13) <|
  nmv (sL σ9 (gS σ9 0 1) (x8 - 1).toNatClampNeg ((gL σ9 (gS σ9 0 1) (x8 - 1).toNatClampNeg) + (a1.toInt64 * (gL σ9 (gS σ9 0 0) x8.toNatClampNeg)))) fun σ16 =>
  ck (gS σ16 0 1 < 2) <|
  nmv (if 12 < (x8 + 1) then 12 else x8 + 1) fun v18 =>
  ck (vp_in v18 13) <|
  ck (gS σ16 0 0 < 2) <|
  ck (vp_in x8 13) <|
  ck (vp_in v18 13) <|
  nmv (sL σ16 (gS σ16 0 1) v18.toNatClampNeg ((gL σ16 (gS σ16 0 1) v18.toNatClampNeg) + (a2.toInt64 * (gL σ16 (gS σ16 0 0) x8.toNatClampNeg)))) fun σ23 =>
  ck (gS σ23 0 1 < 2) <|
  ck (vp_in x8 13) <|
  ck (gS σ23 0 0 < 2) <|
  ck (vp_in x8 13) <|
  ck (vp_in x8 13) <|
  nmv (sL σ23 (gS σ23 0 1) x8.toNatClampNeg ((gL σ23 (gS σ23 0 1) x8.toNatClampNeg) + ((((10 - a1) - a2).toInt64) * (gL σ23 (gS σ23 0 0) x8.toNatClampNeg)))) fun σ29 =>
  nmv (x8 + 1) fun v30 =>
  rec_26 v30 σ29
noncomputable def fX11_callOnce_L26 (a1 : Int32) (a2 : Int32) (K_26 : St → Option (St)) : Nat → Int32 → St → Option (St)
  | 0 => fun _ _ => none
  | n + 1 => fX11_callOnce_L26B a1 a2 K_26 (fX11_callOnce_L26 a1 a2 K_26 n)
noncomputable def fX11_callOnce (σ : St) (a1 : Int32) (a2 : Int32) : Option (St) :=
  ck (gS σ 0 1 < 2) <|
  bd (fJ7_fill_d0a16 σ (gS σ 0 1) 0) fun r2 =>
  ck (gS r2 0 1 < 2) <|
  ck (gS r2 0 0 < 2) <|
  ck (vp_in 0 13) <|
  ck (vp_in 0 13) <|
  nmv (sL r2 (gS r2 0 1) (0 : Int32).toNatClampNeg (10 * (gL r2 (gS r2 0 0) (0 : Int32).toNatClampNeg))) fun σ7 =>
  fX11_callOnce_L26 a1 a2 (fun σ31 => ck (gS σ31 0 0 < 2) <|
  ck (gS σ31 0 1 < 2) <|
  nmv (sS σ31 0 0 (gS σ31 0 1)) fun σ34 =>
  nmv (sS σ34 0 1 (gS σ31 0 0)) fun σ35 =>
  some σ35) FU 1 σ7
def rX11_callOnce : Room := { frames := 1, cells := 0, slots := 0, locals := 27 }
set_option maxHeartbeats 4000000 in
set_option maxRecDepth 100000 in
theorem cX11_callOncec {l : Launch} {dC : Nat → ClassId} {dI : Nat → Nat → Nat} {ks : Nat → ClassId} {ad : Nat → Nat → Nat} {σ : St} (a1 : Int32) (a2 : Int32)  {out : St} (hf : fX11_callOnce σ a1 a2 = some out) : MWv l dC dI ks ad σ yX11_callOnce cX11_callOnce 4 none rX11_callOnce [.ref (ad 0 0), .int a1, .int a2] out := by
  intro sz
  refine met_w (Qc := fun A => va_Qv (fun σ' => σ' = out) (gBw dC dI ks ad A) A) (own := RX11) (by decide) rfl (Nat.le_of_ble_eq_true rfl) ?_
  intro A p e s m args below meth c ls E hr hlk hA hP hD hS hK hl
  have hx := E.1
  have hb := E.2.1
  have hl : lv_has ls 4 [(0, .ref (ad 0 0)), (1, .int a1), (2, .int a2)] := hl
  unfold fX11_callOnce at hf
  refine lv_aload_n hx hb dX11_callOnce_0 rfl (lv_at hl 0 rfl) ?_
  obtain ⟨c1, hf⟩ := ck_e hf
  refine gget E in_X11 hK hP (q_main ks ad σ) rfl (k := 6) (by decide) wd_1_151 rfl (v := .ref (ad 13 (gS σ 0 1))) rfl dX11_callOnce_1 ?_
  refine lv_lconst (v := 0) hx hb dX11_callOnce_4 (by decide) ?_
  obtain ⟨r2, er2, hf⟩ := bd_e hf
  refine gSw_v E hK hP hD hS hA (cJ7_fill_d0a16c _ c1 er2) kS_J7_fill_d0a16 wd_3_180 rfl rfl rfl ⟨Nat.le_of_ble_eq_true rfl, Nat.le_of_ble_eq_true rfl⟩ ⟨Nat.zero_le _, Nat.zero_le _⟩ hl.1 (Nat.le_of_ble_eq_true rfl) rfl dX11_callOnce_5 (fun H locs hP hD hS => ?_)
  refine lv_aload_n hx hb dX11_callOnce_8 rfl (lv_at hl 0 rfl) ?_
  obtain ⟨c3, hf⟩ := ck_e hf
  refine gget E in_X11 hK hP (q_main ks ad r2) rfl (k := 6) (by decide) wd_1_151 rfl (v := .ref (ad 13 (gS r2 0 1))) rfl dX11_callOnce_9 ?_
  refine lv_iconst (v := 0) hx hb dX11_callOnce_12 (by decide) ?_
  refine lv_ldc2 (v := 10) hx hb E.2.2.2.1 (E.2.2.2.2 _ wd_3_187) dX11_callOnce_13 ?_
  refine lv_aload_n hx hb dX11_callOnce_16 rfl (lv_at hl 0 rfl) ?_
  obtain ⟨c4, hf⟩ := ck_e hf
  refine gget E in_X11 hK hP (q_main ks ad r2) rfl (k := 5) (by decide) wd_1_150 rfl (v := .ref (ad 13 (gS r2 0 0))) rfl dX11_callOnce_17 ?_
  refine lv_iconst (v := 0) hx hb dX11_callOnce_20 (by decide) ?_
  obtain ⟨c5, hf⟩ := ck_e hf
  refine glald E hK hP (q_Lc ks ad r2 c4) c5 dX11_callOnce_21 ?_
  refine lv_lmul hx hb dX11_callOnce_22 ?_
  obtain ⟨c6, hf⟩ := ck_e hf
  obtain ⟨σ7, eσ7, hf⟩ := nmv_e hf
  refine glast E hK hP hD hS (q_Lc ks ad r2 c3) c6 (σ' := σ7) (by rw [eσ7]; exact st_Lc ks ad r2 c3 _) dX11_callOnce_23 (fun H locs hP hD hS => ?_)
  refine lv_iconst (v := 1) hx hb dX11_callOnce_24 (by decide) ?_
  refine lv_istore_n (lv' := [(3, .int 1), (0, .ref (ad 0 0)), (1, .int a1), (2, .int a2)]) hx hb dX11_callOnce_25 rfl hl (by decide) rfl (fun ls hl => ?_)
  have loop_26 : ∀ (K_26 : St → Option (St)) (hK_26 : (∀ (σ31 : St) (H : Heap) (locs : List Loc) (hP : va_P (dC, dI) vwCl (wG ks ad σ31) H) (hD : va_D A (wG ks ad σ31)) (hS : va_S A s.heap H locs) (hf : K_26 σ31 = some out) (ls : Array Slot), lv_has ls 4 [(0, .ref (ad 0 0))] → W p l e rX11_callOnce s m args below meth c H locs 0 0 (MQ below (va_Qv (fun σ' => σ' = out) (gBw dC dI ks ad A) A) args s 0 0 A) (F0 m 106 ls []))) (n_26 : Nat) (x8 : Int32) (σ9 : St) (H : Heap) (locs : List Loc) (hP : va_P (dC, dI) vwCl (wG ks ad σ9) H) (hD : va_D A (wG ks ad σ9)) (hS : va_S A s.heap H locs) (hf : fX11_callOnce_L26 a1 a2 K_26 n_26 x8 σ9 = some out) (ls : Array Slot), lv_has ls 4 [(0, .ref (ad 0 0)), (1, .int a1), (2, .int a2), (3, .int x8)] → W p l e rX11_callOnce s m args below meth c H locs 0 0 (MQ below (va_Qv (fun σ' => σ' = out) (gBw dC dI ks ad A) A) args s 0 0 A) (F0 m 26 ls []) := by
    intro K_26 hK_26 n_26
    induction n_26 with
    | zero => intro x8 σ9 H locs hP hD hS hf; cases hf
    | succ n_26 ih_26 =>
      intro x8 σ9 H locs hP hD hS hf ls hl
      have hf : fX11_callOnce_L26B a1 a2 K_26 (fX11_callOnce_L26 a1 a2 K_26 n_26) x8 σ9 = some out := hf
      unfold fX11_callOnce_L26B at hf
      refine lv_iload_n hx hb dX11_callOnce_26 rfl (lv_at hl 3 rfl) ?_
      refine lv_bipush (v := 12) hx hb dX11_callOnce_27 (by decide) ?_
      refine lv_icmp_gt (tgt := 106) hx hb dX11_callOnce_29 (by decide) (fun c10 => ?_) (fun c10 => ?_)
      · replace hf := pos_e c10 hf
        exact hK_26 _ _ _ hP hD hS hf _ (lv_sub hl [0] rfl)
      · replace hf := neg_e c10 hf
        refine lv_aload_n hx hb dX11_callOnce_32 rfl (lv_at hl 0 rfl) ?_
        obtain ⟨c11, hf⟩ := ck_e hf
        refine gget E in_X11 hK hP (q_main ks ad σ9) rfl (k := 6) (by decide) wd_1_151 rfl (v := .ref (ad 13 (gS σ9 0 1))) rfl dX11_callOnce_33 ?_
        refine lv_iload_n hx hb dX11_callOnce_36 rfl (lv_at hl 3 rfl) ?_
        refine lv_iconst (v := 1) hx hb dX11_callOnce_37 (by decide) ?_
        refine lv_isub hx hb dX11_callOnce_38 ?_
        refine lv_dup2_11 hx hb dX11_callOnce_39 rfl rfl ?_
        obtain ⟨c12, hf⟩ := ck_e hf
        refine glald E hK hP (q_Lc ks ad σ9 c11) c12 dX11_callOnce_40 ?_
        refine lv_iload_n hx hb dX11_callOnce_41 rfl (lv_at hl 1 rfl) ?_
        refine lv_i2l hx hb dX11_callOnce_42 rfl ?_
        refine lv_aload_n hx hb dX11_callOnce_43 rfl (lv_at hl 0 rfl) ?_
        obtain ⟨c13, hf⟩ := ck_e hf
        refine gget E in_X11 hK hP (q_main ks ad σ9) rfl (k := 5) (by decide) wd_1_150 rfl (v := .ref (ad 13 (gS σ9 0 0))) rfl dX11_callOnce_44 ?_
        refine lv_iload_n hx hb dX11_callOnce_47 rfl (lv_at hl 3 rfl) ?_
        obtain ⟨c14, hf⟩ := ck_e hf
        refine glald E hK hP (q_Lc ks ad σ9 c13) c14 dX11_callOnce_48 ?_
        refine lv_lmul hx hb dX11_callOnce_49 ?_
        refine lv_ladd hx hb dX11_callOnce_50 ?_
        obtain ⟨c15, hf⟩ := ck_e hf
        obtain ⟨σ16, eσ16, hf⟩ := nmv_e hf
        refine glast E hK hP hD hS (q_Lc ks ad σ9 c11) c15 (σ' := σ16) (by rw [eσ16]; exact st_Lc ks ad σ9 c11 _) dX11_callOnce_51 (fun H locs hP hD hS => ?_)
        refine lv_aload_n hx hb dX11_callOnce_52 rfl (lv_at hl 0 rfl) ?_
        obtain ⟨c17, hf⟩ := ck_e hf
        refine gget E in_X11 hK hP (q_main ks ad σ16) rfl (k := 6) (by decide) wd_1_151 rfl (v := .ref (ad 13 (gS σ16 0 1))) rfl dX11_callOnce_53 ?_
        refine lv_iload_n hx hb dX11_callOnce_56 rfl (lv_at hl 3 rfl) ?_
        refine lv_iconst (v := 1) hx hb dX11_callOnce_57 (by decide) ?_
        refine lv_iadd hx hb dX11_callOnce_58 ?_
        refine lv_bipush (v := 12) hx hb dX11_callOnce_59 (by decide) ?_
        refine gmin E hl.1 wd_3_115 wd_3_87 wd_1_15 wd_3_88 (Nat.le_of_ble_eq_true rfl) (Nat.le_of_ble_eq_true rfl) ⟨Nat.zero_le _, Nat.zero_le _⟩ dX11_callOnce_61 ?_
        obtain ⟨v18, ev18, hf⟩ := nmv_e hf
        refine lv_nmi ev18 ?_
        refine lv_dup2_11 hx hb dX11_callOnce_64 rfl rfl ?_
        obtain ⟨c19, hf⟩ := ck_e hf
        refine glald E hK hP (q_Lc ks ad σ16 c17) c19 dX11_callOnce_65 ?_
        refine lv_iload_n hx hb dX11_callOnce_66 rfl (lv_at hl 2 rfl) ?_
        refine lv_i2l hx hb dX11_callOnce_67 rfl ?_
        refine lv_aload_n hx hb dX11_callOnce_68 rfl (lv_at hl 0 rfl) ?_
        obtain ⟨c20, hf⟩ := ck_e hf
        refine gget E in_X11 hK hP (q_main ks ad σ16) rfl (k := 5) (by decide) wd_1_150 rfl (v := .ref (ad 13 (gS σ16 0 0))) rfl dX11_callOnce_69 ?_
        refine lv_iload_n hx hb dX11_callOnce_72 rfl (lv_at hl 3 rfl) ?_
        obtain ⟨c21, hf⟩ := ck_e hf
        refine glald E hK hP (q_Lc ks ad σ16 c20) c21 dX11_callOnce_73 ?_
        refine lv_lmul hx hb dX11_callOnce_74 ?_
        refine lv_ladd hx hb dX11_callOnce_75 ?_
        obtain ⟨c22, hf⟩ := ck_e hf
        obtain ⟨σ23, eσ23, hf⟩ := nmv_e hf
        refine glast E hK hP hD hS (q_Lc ks ad σ16 c17) c22 (σ' := σ23) (by rw [eσ23]; exact st_Lc ks ad σ16 c17 _) dX11_callOnce_76 (fun H locs hP hD hS => ?_)
        refine lv_aload_n hx hb dX11_callOnce_77 rfl (lv_at hl 0 rfl) ?_
        obtain ⟨c24, hf⟩ := ck_e hf
        refine gget E in_X11 hK hP (q_main ks ad σ23) rfl (k := 6) (by decide) wd_1_151 rfl (v := .ref (ad 13 (gS σ23 0 1))) rfl dX11_callOnce_78 ?_
        refine lv_iload_n hx hb dX11_callOnce_81 rfl (lv_at hl 3 rfl) ?_
        refine lv_dup2_11 hx hb dX11_callOnce_82 rfl rfl ?_
        obtain ⟨c25, hf⟩ := ck_e hf
        refine glald E hK hP (q_Lc ks ad σ23 c24) c25 dX11_callOnce_83 ?_
        refine lv_bipush (v := 10) hx hb dX11_callOnce_84 (by decide) ?_
        refine lv_iload_n hx hb dX11_callOnce_86 rfl (lv_at hl 1 rfl) ?_
        refine lv_isub hx hb dX11_callOnce_87 ?_
        refine lv_iload_n hx hb dX11_callOnce_88 rfl (lv_at hl 2 rfl) ?_
        refine lv_isub hx hb dX11_callOnce_89 ?_
        refine lv_i2l hx hb dX11_callOnce_90 rfl ?_
        refine lv_aload_n hx hb dX11_callOnce_91 rfl (lv_at hl 0 rfl) ?_
        obtain ⟨c26, hf⟩ := ck_e hf
        refine gget E in_X11 hK hP (q_main ks ad σ23) rfl (k := 5) (by decide) wd_1_150 rfl (v := .ref (ad 13 (gS σ23 0 0))) rfl dX11_callOnce_92 ?_
        refine lv_iload_n hx hb dX11_callOnce_95 rfl (lv_at hl 3 rfl) ?_
        obtain ⟨c27, hf⟩ := ck_e hf
        refine glald E hK hP (q_Lc ks ad σ23 c26) c27 dX11_callOnce_96 ?_
        refine lv_lmul hx hb dX11_callOnce_97 ?_
        refine lv_ladd hx hb dX11_callOnce_98 ?_
        obtain ⟨c28, hf⟩ := ck_e hf
        obtain ⟨σ29, eσ29, hf⟩ := nmv_e hf
        refine glast E hK hP hD hS (q_Lc ks ad σ23 c24) c28 (σ' := σ29) (by rw [eσ29]; exact st_Lc ks ad σ23 c24 _) dX11_callOnce_99 (fun H locs hP hD hS => ?_)
        obtain ⟨v30, ev30, hf⟩ := nmv_e hf
        refine lv_iinc (v := v30) (lv' := [(3, .int v30), (0, .ref (ad 0 0)), (1, .int a1), (2, .int a2)]) hx hb dX11_callOnce_100 hl (k := 3) rfl (by rw [ev30]; rfl) (by decide) rfl (fun ls hl => ?_)
        refine lv_goto (tgt := 26) hx hb dX11_callOnce_103 (by decide) ?_
        exact ih_26 _ _ _ _ hP hD hS hf _ (lv_sub hl [1, 2, 3, 0] rfl)
  refine loop_26 _ (fun σ31 H locs hP hD hS hf ls hl => ?_) _ _ _ _ _ hP hD hS hf _ (lv_sub hl [1, 2, 3, 0] rfl)
  refine lv_aload_n hx hb dX11_callOnce_106 rfl (lv_at hl 0 rfl) ?_
  obtain ⟨c32, hf⟩ := ck_e hf
  refine gget E in_X11 hK hP (q_main ks ad σ31) rfl (k := 5) (by decide) wd_1_150 rfl (v := .ref (ad 13 (gS σ31 0 0))) rfl dX11_callOnce_107 ?_
  refine lv_astore_n (lv' := [(3, .ref (ad 13 (gS σ31 0 0))), (0, .ref (ad 0 0))]) hx hb dX11_callOnce_110 rfl hl (by decide) rfl (fun ls hl => ?_)
  refine lv_aload_n hx hb dX11_callOnce_111 rfl (lv_at hl 1 rfl) ?_
  refine lv_aload_n hx hb dX11_callOnce_112 rfl (lv_at hl 1 rfl) ?_
  obtain ⟨c33, hf⟩ := ck_e hf
  refine gget E in_X11 hK hP (q_main ks ad σ31) rfl (k := 6) (by decide) wd_1_151 rfl (v := .ref (ad 13 (gS σ31 0 1))) rfl dX11_callOnce_113 ?_
  obtain ⟨σ34, eσ34, hf⟩ := nmv_e hf
  refine gput (k := 5) E in_X11 tyX11 tyX11_ok nmX11 hK hP hD hS (q_main ks ad σ31) rfl (by decide) wd_1_150 rfl rfl rfl rfl rfl (Nat.le_of_ble_eq_true rfl) (σ' := σ34) (by rw [eσ34]; exact st_sw_0 ks ad σ31 _) dX11_callOnce_116 (fun H locs hP hD hS => ?_)
  refine lv_aload_n hx hb dX11_callOnce_119 rfl (lv_at hl 1 rfl) ?_
  refine lv_aload_n hx hb dX11_callOnce_120 rfl (lv_at hl 0 rfl) ?_
  obtain ⟨σ35, eσ35, hf⟩ := nmv_e hf
  refine gput (k := 6) E in_X11 tyX11 tyX11_ok nmX11 hK hP hD hS (q_main ks ad σ34) rfl (by decide) wd_1_151 rfl rfl rfl rfl rfl (Nat.le_of_ble_eq_true rfl) (σ' := σ35) (by rw [eσ35]; exact st_sw_1 ks ad σ34 _) dX11_callOnce_121 (fun H locs hP hD hS => ?_)
  exact gretw_v E hlk hP hD hS hr dX11_callOnce_124 (som_e hf)
noncomputable def fX11_arrivals_L18B (a2 : Int32) (a3 : Int32) (K_18 : St → Option (Int64 × St)) (rec_18 : Int32 → St → Option (Int64 × St)) (x6 : Int32) (σ7 : St) : Option (Int64 × St) :=
  if a3 ≤ x6 then
  K_18 σ7
  else
  bd (fX11_callOnce σ7 (a2 / 100) (a2 - a2 / 100 * 100)) fun r9 =>
  nmv (x6 + 1) fun v10 =>
  rec_18 v10 r9
noncomputable def fX11_arrivals_L18 (a2 : Int32) (a3 : Int32) (K_18 : St → Option (Int64 × St)) : Nat → Int32 → St → Option (Int64 × St)
  | 0 => fun _ _ => none
  | n + 1 => fX11_arrivals_L18B a2 a3 K_18 (fX11_arrivals_L18 a2 a3 K_18 n)
noncomputable def fX11_arrivals (σ : St) (a1 : Int32) (a2 : Int32) (a3 : Int32) : Option (Int64 × St) :=
  ck (gS σ 0 0 < 2) <|
  bd (fJ7_fill_d0a16 σ (gS σ 0 0) 0) fun r2 =>
  ck (gS r2 0 0 < 2) <|
  ck (vp_in a1 13) <|
  nmv (sL r2 (gS r2 0 0) a1.toNatClampNeg 1) fun σ5 =>
  fX11_arrivals_L18 a2 a3 (fun σ11 => ck (gS σ11 0 0 < 2) <|
  ck (vp_in 0 13) <|
  some (gL σ11 (gS σ11 0 0) (0 : Int32).toNatClampNeg, σ11)) FU 0 σ5
def rX11_arrivals : Room := { frames := 2, cells := 0, slots := 0, locals := 50 }
set_option maxHeartbeats 4000000 in
set_option maxRecDepth 100000 in
theorem cX11_arrivalsc {l : Launch} {dC : Nat → ClassId} {dI : Nat → Nat → Nat} {ks : Nat → ClassId} {ad : Nat → Nat → Nat} {σ : St} (a1 : Int32) (a2 : Int32) (a3 : Int32)  {out : Int64 × St} (hf : fX11_arrivals σ a1 a2 a3 = some out) : MWl l dC dI ks ad σ yX11_arrivals cX11_arrivals 5 (some .long) rX11_arrivals [.ref (ad 0 0), .int a1, .int a2, .int a3] out := by
  intro sz
  refine met_w (Qc := fun A => va_Ql (fun r σ' => r = out.1 ∧ σ' = out.2) (gBw dC dI ks ad A) A) (own := RX11) (by decide) rfl (Nat.le_of_ble_eq_true rfl) ?_
  intro A p e s m args below meth c ls E hr hlk hA hP hD hS hK hl
  have hx := E.1
  have hb := E.2.1
  have hl : lv_has ls 5 [(0, .ref (ad 0 0)), (1, .int a1), (2, .int a2), (3, .int a3)] := hl
  unfold fX11_arrivals at hf
  refine lv_aload_n hx hb dX11_arrivals_0 rfl (lv_at hl 0 rfl) ?_
  obtain ⟨c1, hf⟩ := ck_e hf
  refine gget E in_X11 hK hP (q_main ks ad σ) rfl (k := 5) (by decide) wd_1_150 rfl (v := .ref (ad 13 (gS σ 0 0))) rfl dX11_arrivals_1 ?_
  refine lv_lconst (v := 0) hx hb dX11_arrivals_4 (by decide) ?_
  obtain ⟨r2, er2, hf⟩ := bd_e hf
  refine gSw_v E hK hP hD hS hA (cJ7_fill_d0a16c _ c1 er2) kS_J7_fill_d0a16 wd_3_180 rfl rfl rfl ⟨Nat.le_of_ble_eq_true rfl, Nat.le_of_ble_eq_true rfl⟩ ⟨Nat.zero_le _, Nat.zero_le _⟩ hl.1 (Nat.le_of_ble_eq_true rfl) rfl dX11_arrivals_5 (fun H locs hP hD hS => ?_)
  refine lv_aload_n hx hb dX11_arrivals_8 rfl (lv_at hl 0 rfl) ?_
  obtain ⟨c3, hf⟩ := ck_e hf
  refine gget E in_X11 hK hP (q_main ks ad r2) rfl (k := 5) (by decide) wd_1_150 rfl (v := .ref (ad 13 (gS r2 0 0))) rfl dX11_arrivals_9 ?_
  refine lv_iload_n hx hb dX11_arrivals_12 rfl (lv_at hl 1 rfl) ?_
  refine lv_lconst (v := 1) hx hb dX11_arrivals_13 (by decide) ?_
  obtain ⟨c4, hf⟩ := ck_e hf
  obtain ⟨σ5, eσ5, hf⟩ := nmv_e hf
  refine glast E hK hP hD hS (q_Lc ks ad r2 c3) c4 (σ' := σ5) (by rw [eσ5]; exact st_Lc ks ad r2 c3 _) dX11_arrivals_14 (fun H locs hP hD hS => ?_)
  refine lv_iconst (v := 0) hx hb dX11_arrivals_15 (by decide) ?_
  refine lv_istore (lv' := [(4, .int 0), (0, .ref (ad 0 0)), (1, .int a1), (2, .int a2), (3, .int a3)]) hx hb dX11_arrivals_16 hl (by decide) rfl (fun ls hl => ?_)
  have loop_18 : ∀ (K_18 : St → Option (Int64 × St)) (hK_18 : (∀ (σ11 : St) (H : Heap) (locs : List Loc) (hP : va_P (dC, dI) vwCl (wG ks ad σ11) H) (hD : va_D A (wG ks ad σ11)) (hS : va_S A s.heap H locs) (hf : K_18 σ11 = some out) (ls : Array Slot), lv_has ls 5 [(0, .ref (ad 0 0))] → W p l e rX11_arrivals s m args below meth c H locs 0 0 (MQ below (va_Ql (fun r σ' => r = out.1 ∧ σ' = out.2) (gBw dC dI ks ad A) A) args s 0 0 A) (F0 m 42 ls []))) (n_18 : Nat) (x6 : Int32) (σ7 : St) (H : Heap) (locs : List Loc) (hP : va_P (dC, dI) vwCl (wG ks ad σ7) H) (hD : va_D A (wG ks ad σ7)) (hS : va_S A s.heap H locs) (hf : fX11_arrivals_L18 a2 a3 K_18 n_18 x6 σ7 = some out) (ls : Array Slot), lv_has ls 5 [(0, .ref (ad 0 0)), (2, .int a2), (3, .int a3), (4, .int x6)] → W p l e rX11_arrivals s m args below meth c H locs 0 0 (MQ below (va_Ql (fun r σ' => r = out.1 ∧ σ' = out.2) (gBw dC dI ks ad A) A) args s 0 0 A) (F0 m 18 ls []) := by
    intro K_18 hK_18 n_18
    induction n_18 with
    | zero => intro x6 σ7 H locs hP hD hS hf; cases hf
    | succ n_18 ih_18 =>
      intro x6 σ7 H locs hP hD hS hf ls hl
      have hf : fX11_arrivals_L18B a2 a3 K_18 (fX11_arrivals_L18 a2 a3 K_18 n_18) x6 σ7 = some out := hf
      unfold fX11_arrivals_L18B at hf
      refine lv_iload hx hb dX11_arrivals_18 (lv_at hl 3 rfl) ?_
      refine lv_iload_n hx hb dX11_arrivals_20 rfl (lv_at hl 2 rfl) ?_
      refine lv_icmp_ge (tgt := 42) hx hb dX11_arrivals_21 (by decide) (fun c8 => ?_) (fun c8 => ?_)
      · replace hf := pos_e c8 hf
        exact hK_18 _ _ _ hP hD hS hf _ (lv_sub hl [0] rfl)
      · replace hf := neg_e c8 hf
        refine lv_aload_n hx hb dX11_arrivals_24 rfl (lv_at hl 0 rfl) ?_
        refine lv_iload_n hx hb dX11_arrivals_25 rfl (lv_at hl 1 rfl) ?_
        refine lv_bipush (v := 100) hx hb dX11_arrivals_26 (by decide) ?_
        refine lv_idiv hx hb dX11_arrivals_28 (by decide) ?_
        refine lv_iload_n hx hb dX11_arrivals_29 rfl (lv_at hl 1 rfl) ?_
        refine lv_bipush (v := 100) hx hb dX11_arrivals_30 (by decide) ?_
        refine lv_irem hx hb dX11_arrivals_32 (by decide) ?_
        obtain ⟨r9, er9, hf⟩ := bd_e hf
        refine gVw_v E hK hP hD hS hA (cX11_callOncec _ _ er9) kV_X11_callOnce wd_3_183 rfl rfl (q_main ks ad σ7) rfl rfl rfl ⟨Nat.le_of_ble_eq_true rfl, Nat.le_of_ble_eq_true rfl⟩ ⟨Nat.zero_le _, Nat.zero_le _⟩ hl.1 (Nat.le_of_ble_eq_true rfl) rfl dX11_arrivals_33 (fun H locs hP hD hS => ?_)
        obtain ⟨v10, ev10, hf⟩ := nmv_e hf
        refine lv_iinc (v := v10) (lv' := [(4, .int v10), (0, .ref (ad 0 0)), (2, .int a2), (3, .int a3)]) hx hb dX11_arrivals_36 hl (k := 3) rfl (by rw [ev10]; rfl) (by decide) rfl (fun ls hl => ?_)
        refine lv_goto (tgt := 18) hx hb dX11_arrivals_39 (by decide) ?_
        exact ih_18 _ _ _ _ hP hD hS hf _ (lv_sub hl [1, 2, 3, 0] rfl)
  refine loop_18 _ (fun σ11 H locs hP hD hS hf ls hl => ?_) _ _ _ _ _ hP hD hS hf _ (lv_sub hl [1, 3, 4, 0] rfl)
  refine lv_aload_n hx hb dX11_arrivals_42 rfl (lv_at hl 0 rfl) ?_
  obtain ⟨c12, hf⟩ := ck_e hf
  refine gget E in_X11 hK hP (q_main ks ad σ11) rfl (k := 5) (by decide) wd_1_150 rfl (v := .ref (ad 13 (gS σ11 0 0))) rfl dX11_arrivals_43 ?_
  refine lv_iconst (v := 0) hx hb dX11_arrivals_46 (by decide) ?_
  obtain ⟨c13, hf⟩ := ck_e hf
  refine glald E hK hP (q_Lc ks ad σ11 c12) c13 dX11_arrivals_47 ?_
  exact gretw_l E hlk hP hD hS hr dX11_arrivals_48 (som_e hf)
noncomputable def fX11_powerOf10_L4B (a1 : Int32) (K_4 : Int64 → Option (Int64)) (rec_4 : Int64 → Int32 → Option (Int64)) (x1 : Int64) (x2 : Int32) : Option (Int64) :=
  if a1 ≤ x2 then
  K_4 x1
  else
  nmv (x1 * 10) fun v4 =>
  nmv (x2 + 1) fun v5 =>
  rec_4 v4 v5
noncomputable def fX11_powerOf10_L4 (a1 : Int32) (K_4 : Int64 → Option (Int64)) : Nat → Int64 → Int32 → Option (Int64)
  | 0 => fun _ _ => none
  | n + 1 => fX11_powerOf10_L4B a1 K_4 (fX11_powerOf10_L4 a1 K_4 n)
noncomputable def fX11_powerOf10 (σ : St) (a1 : Int32) : Option (Int64) :=
  fX11_powerOf10_L4 a1 (fun y6 => some y6) FU 1 0
def rX11_powerOf10 : Room := { frames := 0, cells := 0, slots := 0, locals := 0 }
set_option maxHeartbeats 4000000 in
set_option maxRecDepth 100000 in
theorem cX11_powerOf10c {l : Launch} {dC : Nat → ClassId} {dI : Nat → Nat → Nat} {ks : Nat → ClassId} {ad : Nat → Nat → Nat} {σ : St} (a1 : Int32)  {out : Int64} (hf : fX11_powerOf10 σ a1 = some out) : MRl l dC dI ks ad σ yX11_powerOf10 cX11_powerOf10 4 (some .long) rX11_powerOf10 [.int a1] out := by
  refine met_r (own := RX11) (by decide) rfl (Nat.le_of_ble_eq_true rfl) ?_
  intro p e s m args below meth c ls E hr hlk hP hK hl
  have hx := E.1
  have hb := E.2.1
  have hl : lv_has ls 4 [(0, .int a1)] := hl
  unfold fX11_powerOf10 at hf
  refine lv_lconst (v := 1) hx hb dX11_powerOf10_0 (by decide) ?_
  refine lv_lstore_n (lv' := [(1, .long 1), (0, .int a1)]) hx hb dX11_powerOf10_1 rfl hl (by decide) rfl (fun ls hl => ?_)
  refine lv_iconst (v := 0) hx hb dX11_powerOf10_2 (by decide) ?_
  refine lv_istore_n (lv' := [(3, .int 0), (1, .long 1), (0, .int a1)]) hx hb dX11_powerOf10_3 rfl hl (by decide) rfl (fun ls hl => ?_)
  have loop_4 : ∀ (K_4 : Int64 → Option (Int64)) (hK_4 : (∀ (y6 : Int64) (hf : K_4 y6 = some out) (ls : Array Slot), lv_has ls 4 [(1, .long y6)] → W p l e rX11_powerOf10 s m args below meth c s.heap [] 0 0 (MQ below (vp_Sl (fun r => r = out)) args s 0 0 (fun _ => False)) (F0 m 21 ls []))) (n_4 : Nat) (x1 : Int64) (x2 : Int32) (hf : fX11_powerOf10_L4 a1 K_4 n_4 x1 x2 = some out) (ls : Array Slot), lv_has ls 4 [(0, .int a1), (1, .long x1), (3, .int x2)] → W p l e rX11_powerOf10 s m args below meth c s.heap [] 0 0 (MQ below (vp_Sl (fun r => r = out)) args s 0 0 (fun _ => False)) (F0 m 4 ls []) := by
    intro K_4 hK_4 n_4
    induction n_4 with
    | zero => intro x1 x2 hf; cases hf
    | succ n_4 ih_4 =>
      intro x1 x2 hf ls hl
      have hf : fX11_powerOf10_L4B a1 K_4 (fX11_powerOf10_L4 a1 K_4 n_4) x1 x2 = some out := hf
      unfold fX11_powerOf10_L4B at hf
      refine lv_iload_n hx hb dX11_powerOf10_4 rfl (lv_at hl 2 rfl) ?_
      refine lv_iload_n hx hb dX11_powerOf10_5 rfl (lv_at hl 0 rfl) ?_
      refine lv_icmp_ge (tgt := 21) hx hb dX11_powerOf10_6 (by decide) (fun c3 => ?_) (fun c3 => ?_)
      · replace hf := pos_e c3 hf
        exact hK_4 _ hf _ (lv_sub hl [1] rfl)
      · replace hf := neg_e c3 hf
        refine lv_lload_n hx hb dX11_powerOf10_9 rfl (lv_at hl 1 rfl) ?_
        refine lv_ldc2 (v := 10) hx hb E.2.2.2.1 (E.2.2.2.2 _ wd_3_187) dX11_powerOf10_10 ?_
        refine lv_lmul hx hb dX11_powerOf10_13 ?_
        obtain ⟨v4, ev4, hf⟩ := nmv_e hf
        refine lv_nml ev4 ?_
        refine lv_lstore_n (lv' := [(1, .long v4), (0, .int a1), (3, .int x2)]) hx hb dX11_powerOf10_14 rfl hl (by decide) rfl (fun ls hl => ?_)
        obtain ⟨v5, ev5, hf⟩ := nmv_e hf
        refine lv_iinc (v := v5) (lv' := [(3, .int v5), (1, .long v4), (0, .int a1)]) hx hb dX11_powerOf10_15 hl (k := 2) rfl (by rw [ev5]; rfl) (by decide) rfl (fun ls hl => ?_)
        refine lv_goto (tgt := 4) hx hb dX11_powerOf10_18 (by decide) ?_
        exact ih_4 _ _ hf _ (lv_sub hl [2, 1, 0] rfl)
  refine loop_4 _ (fun y6 hf ls hl => ?_) _ _ _ hf _ (lv_sub hl [2, 1, 0] rfl)
  refine lv_lload_n hx hb dX11_powerOf10_21 rfl (lv_at hl 0 rfl) ?_
  exact gret_l E hr hlk dX11_powerOf10_22 (som_e hf).symm
noncomputable def fX11_inLeastTerms_L9B (K_9 : Int64 → Option (Int64)) (rec_9 : Int64 → Int64 → Int32 → Option (Int64)) (x1 : Int64) (x2 : Int64) (x3 : Int32) : Option (Int64) :=
  if 100 ≤ x3 then
  K_9 x1
  else
  if (lg_cmp x2 0) = 0 then
  K_9 x1
  else
  ck (¬ x2 = 0) <|
  nmv (x1 - x1 / x2 * x2) fun v7 =>
  nmv (x3 + 1) fun v8 =>
  rec_9 x2 v7 v8
noncomputable def fX11_inLeastTerms_L9 (K_9 : Int64 → Option (Int64)) : Nat → Int64 → Int64 → Int32 → Option (Int64)
  | 0 => fun _ _ _ => none
  | n + 1 => fX11_inLeastTerms_L9B K_9 (fX11_inLeastTerms_L9 K_9 n)
noncomputable def fX11_inLeastTerms_J54 (y9 : Int64) (z10 : Int64) : Option (Int64) :=
  if (lg_cmp y9 0) = 0 then
  some z10
  else
  ck (¬ y9 = 0) <|
  some (z10 / y9)
noncomputable def fX11_inLeastTerms (σ : St) (a1 : Int64) (a2 : Int64) (a3 : Int32) : Option (Int64) :=
  fX11_inLeastTerms_L9 (fun y9 => if a3 = 0 then
  fX11_inLeastTerms_J54 y9 a1
  else
  fX11_inLeastTerms_J54 y9 a2) FU a2 a1 0
def rX11_inLeastTerms : Room := { frames := 0, cells := 0, slots := 0, locals := 0 }
set_option maxHeartbeats 4000000 in
set_option maxRecDepth 100000 in
theorem cX11_inLeastTermsc {l : Launch} {dC : Nat → ClassId} {dI : Nat → Nat → Nat} {ks : Nat → ClassId} {ad : Nat → Nat → Nat} {σ : St} (a1 : Int64) (a2 : Int64) (a3 : Int32)  {out : Int64} (hf : fX11_inLeastTerms σ a1 a2 a3 = some out) : MRl l dC dI ks ad σ yX11_inLeastTerms cX11_inLeastTerms 12 (some .long) rX11_inLeastTerms [.long a1, .long a2, .int a3] out := by
  refine met_r (own := RX11) (by decide) rfl (Nat.le_of_ble_eq_true rfl) ?_
  intro p e s m args below meth c ls E hr hlk hP hK hl
  have hx := E.1
  have hb := E.2.1
  have hl : lv_has ls 12 [(0, .long a1), (2, .long a2), (4, .int a3)] := hl
  unfold fX11_inLeastTerms at hf
  refine lv_lload_n hx hb dX11_inLeastTerms_0 rfl (lv_at hl 1 rfl) ?_
  refine lv_lstore (lv' := [(5, .long a2), (0, .long a1), (2, .long a2), (4, .int a3)]) hx hb dX11_inLeastTerms_1 hl (by decide) rfl (fun ls hl => ?_)
  refine lv_lload_n hx hb dX11_inLeastTerms_3 rfl (lv_at hl 1 rfl) ?_
  refine lv_lstore (lv' := [(7, .long a1), (5, .long a2), (0, .long a1), (2, .long a2), (4, .int a3)]) hx hb dX11_inLeastTerms_4 hl (by decide) rfl (fun ls hl => ?_)
  refine lv_iconst (v := 0) hx hb dX11_inLeastTerms_6 (by decide) ?_
  refine lv_istore (lv' := [(9, .int 0), (7, .long a1), (5, .long a2), (0, .long a1), (2, .long a2), (4, .int a3)]) hx hb dX11_inLeastTerms_7 hl (by decide) rfl (fun ls hl => ?_)
  have loop_9 : ∀ (K_9 : Int64 → Option (Int64)) (hK_9 : (∀ (y9 : Int64) (hf : K_9 y9 = some out) (ls : Array Slot), lv_has ls 12 [(0, .long a1), (2, .long a2), (4, .int a3), (5, .long y9)] → W p l e rX11_inLeastTerms s m args below meth c s.heap [] 0 0 (MQ below (vp_Sl (fun r => r = out)) args s 0 0 (fun _ => False)) (F0 m 44 ls []))) (n_9 : Nat) (x1 : Int64) (x2 : Int64) (x3 : Int32) (hf : fX11_inLeastTerms_L9 K_9 n_9 x1 x2 x3 = some out) (ls : Array Slot), lv_has ls 12 [(0, .long a1), (2, .long a2), (4, .int a3), (5, .long x1), (7, .long x2), (9, .int x3)] → W p l e rX11_inLeastTerms s m args below meth c s.heap [] 0 0 (MQ below (vp_Sl (fun r => r = out)) args s 0 0 (fun _ => False)) (F0 m 9 ls []) := by
    intro K_9 hK_9 n_9
    induction n_9 with
    | zero => intro x1 x2 x3 hf; cases hf
    | succ n_9 ih_9 =>
      intro x1 x2 x3 hf ls hl
      have hf : fX11_inLeastTerms_L9B K_9 (fX11_inLeastTerms_L9 K_9 n_9) x1 x2 x3 = some out := hf
      unfold fX11_inLeastTerms_L9B at hf
      refine lv_iload hx hb dX11_inLeastTerms_9 (lv_at hl 5 rfl) ?_
      refine lv_bipush (v := 100) hx hb dX11_inLeastTerms_11 (by decide) ?_
      refine lv_icmp_ge (tgt := 44) hx hb dX11_inLeastTerms_13 (by decide) (fun c4 => ?_) (fun c4 => ?_)
      · replace hf := pos_e c4 hf
        exact hK_9 _ hf _ (lv_sub hl [0, 1, 2, 3] rfl)
      · replace hf := neg_e c4 hf
        refine lv_lload hx hb dX11_inLeastTerms_16 (lv_at hl 4 rfl) ?_
        refine lv_lconst (v := 0) hx hb dX11_inLeastTerms_18 (by decide) ?_
        refine W.lcmp hx hb dX11_inLeastTerms_19 ?_
        refine lv_if_eq (tgt := 44) hx hb dX11_inLeastTerms_20 (by decide) (fun c5 => ?_) (fun c5 => ?_)
        · replace hf := pos_e c5 hf
          exact hK_9 _ hf _ (lv_sub hl [0, 1, 2, 3] rfl)
        · replace hf := neg_e c5 hf
          refine lv_lload hx hb dX11_inLeastTerms_23 (lv_at hl 3 rfl) ?_
          refine lv_lload hx hb dX11_inLeastTerms_25 (lv_at hl 4 rfl) ?_
          obtain ⟨c6, hf⟩ := ck_e hf
          refine lv_lrem hx hb dX11_inLeastTerms_27 c6 ?_
          obtain ⟨v7, ev7, hf⟩ := nmv_e hf
          refine lv_nml ev7 ?_
          refine lv_lstore (lv' := [(10, .long v7), (0, .long a1), (2, .long a2), (4, .int a3), (5, .long x1), (7, .long x2), (9, .int x3)]) hx hb dX11_inLeastTerms_28 hl (by decide) rfl (fun ls hl => ?_)
          refine lv_lload hx hb dX11_inLeastTerms_30 (lv_at hl 5 rfl) ?_
          refine lv_lstore (lv' := [(5, .long x2), (10, .long v7), (0, .long a1), (2, .long a2), (4, .int a3), (7, .long x2), (9, .int x3)]) hx hb dX11_inLeastTerms_32 hl (by decide) rfl (fun ls hl => ?_)
          refine lv_lload hx hb dX11_inLeastTerms_34 (lv_at hl 1 rfl) ?_
          refine lv_lstore (lv' := [(7, .long v7), (5, .long x2), (10, .long v7), (0, .long a1), (2, .long a2), (4, .int a3), (9, .int x3)]) hx hb dX11_inLeastTerms_36 hl (by decide) rfl (fun ls hl => ?_)
          obtain ⟨v8, ev8, hf⟩ := nmv_e hf
          refine lv_iinc (v := v8) (lv' := [(9, .int v8), (7, .long v7), (5, .long x2), (10, .long v7), (0, .long a1), (2, .long a2), (4, .int a3)]) hx hb dX11_inLeastTerms_38 hl (k := 6) rfl (by rw [ev8]; rfl) (by decide) rfl (fun ls hl => ?_)
          refine lv_goto (tgt := 9) hx hb dX11_inLeastTerms_41 (by decide) ?_
          exact ih_9 _ _ _ hf _ (lv_sub hl [4, 5, 6, 2, 1, 0] rfl)
  refine loop_9 _ (fun y9 hf ls hl => ?_) _ _ _ _ hf _ (lv_sub hl [3, 4, 5, 2, 1, 0] rfl)
  refine lv_iload hx hb dX11_inLeastTerms_44 (lv_at hl 2 rfl) ?_
  have hJ_54 : ∀ (z10 : Int64) (hf : fX11_inLeastTerms_J54 y9 z10 = some out) (ls : Array Slot), lv_has ls 12 [(5, .long y9)] → W p l e rX11_inLeastTerms s m args below meth c s.heap [] 0 0 (MQ below (vp_Sl (fun r => r = out)) args s 0 0 (fun _ => False)) (F0 m 54 ls [.long z10]) := by
    intro z10 hf ls hl
    unfold fX11_inLeastTerms_J54 at hf
    refine lv_lstore (lv' := [(9, .long z10), (5, .long y9)]) hx hb dX11_inLeastTerms_54 hl (by decide) rfl (fun ls hl => ?_)
    refine lv_lload hx hb dX11_inLeastTerms_56 (lv_at hl 1 rfl) ?_
    refine lv_lconst (v := 0) hx hb dX11_inLeastTerms_58 (by decide) ?_
    refine W.lcmp hx hb dX11_inLeastTerms_59 ?_
    refine lv_if_ne (tgt := 68) hx hb dX11_inLeastTerms_60 (by decide) (fun c11 => ?_) (fun c11 => ?_)
    · replace hf := neg_e c11 hf
      refine lv_lload hx hb dX11_inLeastTerms_68 (lv_at hl 0 rfl) ?_
      refine lv_lload hx hb dX11_inLeastTerms_70 (lv_at hl 1 rfl) ?_
      obtain ⟨c12, hf⟩ := ck_e hf
      refine lv_ldiv hx hb dX11_inLeastTerms_72 c12 ?_
      exact gret_l E hr hlk dX11_inLeastTerms_73 (som_e hf).symm
    · replace hf := pos_e c11 hf
      refine lv_lload hx hb dX11_inLeastTerms_63 (lv_at hl 0 rfl) ?_
      refine lv_goto (tgt := 73) hx hb dX11_inLeastTerms_65 (by decide) ?_
      exact gret_l E hr hlk dX11_inLeastTerms_73 (som_e hf).symm
  refine lv_if_ne (tgt := 53) hx hb dX11_inLeastTerms_46 (by decide) (fun c13 => ?_) (fun c13 => ?_)
  · replace hf := neg_e c13 hf
    refine lv_lload_n hx hb dX11_inLeastTerms_53 rfl (lv_at hl 1 rfl) ?_
    exact hJ_54 _ hf _ (lv_sub hl [3] rfl)
  · replace hf := pos_e c13 hf
    refine lv_lload_n hx hb dX11_inLeastTerms_49 rfl (lv_at hl 0 rfl) ?_
    refine lv_goto (tgt := 54) hx hb dX11_inLeastTerms_50 (by decide) ?_
    exact hJ_54 _ hf _ (lv_sub hl [3] rfl)
noncomputable def fX11_nearer (σ : St) (a1 : Int32) (a2 : Int32) (a3 : Int32) (a4 : Int32) : Option (Int64 × St) :=
  bd (fX11_isOut σ a1 0 12) fun r1 =>
  if r1 = 0 then
  bd (fX11_areTenths σ a2) fun r3 =>
  if r3 = 0 then
  some (1000000001, σ)
  else
  bd (fX11_isOut σ a3 0 9) fun r5 =>
  if r5 = 0 then
  bd (fX11_isOut σ a4 0 1) fun r7 =>
  if r7 = 0 then
  bd (fX11_arrivals σ a1 a2 a3) fun r9 =>
  bd (fX11_powerOf10 r9.2 a3) fun r10 =>
  bd (fX11_inLeastTerms r9.2 r9.1 r10 a4) fun r11 =>
  some (r11, r9.2)
  else
  some (1000000001, σ)
  else
  some (1000000001, σ)
  else
  some (1000000001, σ)
def rX11_nearer : Room := { frames := 3, cells := 0, slots := 0, locals := 74 }
set_option maxHeartbeats 4000000 in
set_option maxRecDepth 100000 in
theorem cX11_nearerc {l : Launch} {dC : Nat → ClassId} {dI : Nat → Nat → Nat} {ks : Nat → ClassId} {ad : Nat → Nat → Nat} {σ : St} (a1 : Int32) (a2 : Int32) (a3 : Int32) (a4 : Int32)  {out : Int64 × St} (hf : fX11_nearer σ a1 a2 a3 a4 = some out) : MWl l dC dI ks ad σ yX11_nearer cX11_nearer 5 (some .long) rX11_nearer [.ref (ad 0 0), .int a1, .int a2, .int a3, .int a4] out := by
  intro sz
  refine met_w (Qc := fun A => va_Ql (fun r σ' => r = out.1 ∧ σ' = out.2) (gBw dC dI ks ad A) A) (own := RX11) (by decide) rfl (Nat.le_of_ble_eq_true rfl) ?_
  intro A p e s m args below meth c ls E hr hlk hA hP hD hS hK hl
  have hx := E.1
  have hb := E.2.1
  have hl : lv_has ls 5 [(0, .ref (ad 0 0)), (1, .int a1), (2, .int a2), (3, .int a3), (4, .int a4)] := hl
  unfold fX11_nearer at hf
  refine lv_iload_n hx hb dX11_nearer_0 rfl (lv_at hl 1 rfl) ?_
  refine lv_iconst (v := 0) hx hb dX11_nearer_1 (by decide) ?_
  refine lv_bipush (v := 12) hx hb dX11_nearer_2 (by decide) ?_
  obtain ⟨r1, er1, hf⟩ := bd_e hf
  refine gSr_i E hK hP (cX11_isOutc _ _ _ er1) kS_X11_isOut wd_1_178 rfl rfl rfl ⟨Nat.le_of_ble_eq_true rfl, Nat.le_of_ble_eq_true rfl⟩ ⟨Nat.zero_le _, Nat.zero_le _⟩ hl.1 (Nat.le_of_ble_eq_true rfl) rfl dX11_nearer_4 ?_
  refine lv_if_ne (tgt := 37) hx hb dX11_nearer_7 (by decide) (fun c2 => ?_) (fun c2 => ?_)
  · replace hf := neg_e c2 hf
    refine lv_ldc2 (v := 1000000001) hx hb E.2.2.2.1 (E.2.2.2.2 _ wd_3_175) dX11_nearer_37 ?_
    exact gretw_l E hlk hP hD hS hr dX11_nearer_40 (som_e hf)
  · replace hf := pos_e c2 hf
    refine lv_iload_n hx hb dX11_nearer_10 rfl (lv_at hl 2 rfl) ?_
    obtain ⟨r3, er3, hf⟩ := bd_e hf
    refine gSr_i E hK hP (cX11_areTenthsc _ er3) kS_X11_areTenths wd_3_172 rfl rfl rfl ⟨Nat.le_of_ble_eq_true rfl, Nat.le_of_ble_eq_true rfl⟩ ⟨Nat.zero_le _, Nat.zero_le _⟩ hl.1 (Nat.le_of_ble_eq_true rfl) rfl dX11_nearer_11 ?_
    refine lv_if_eq (tgt := 37) hx hb dX11_nearer_14 (by decide) (fun c4 => ?_) (fun c4 => ?_)
    · replace hf := pos_e c4 hf
      refine lv_ldc2 (v := 1000000001) hx hb E.2.2.2.1 (E.2.2.2.2 _ wd_3_175) dX11_nearer_37 ?_
      exact gretw_l E hlk hP hD hS hr dX11_nearer_40 (som_e hf)
    · replace hf := neg_e c4 hf
      refine lv_iload_n hx hb dX11_nearer_17 rfl (lv_at hl 3 rfl) ?_
      refine lv_iconst (v := 0) hx hb dX11_nearer_18 (by decide) ?_
      refine lv_bipush (v := 9) hx hb dX11_nearer_19 (by decide) ?_
      obtain ⟨r5, er5, hf⟩ := bd_e hf
      refine gSr_i E hK hP (cX11_isOutc _ _ _ er5) kS_X11_isOut wd_1_178 rfl rfl rfl ⟨Nat.le_of_ble_eq_true rfl, Nat.le_of_ble_eq_true rfl⟩ ⟨Nat.zero_le _, Nat.zero_le _⟩ hl.1 (Nat.le_of_ble_eq_true rfl) rfl dX11_nearer_21 ?_
      refine lv_if_ne (tgt := 37) hx hb dX11_nearer_24 (by decide) (fun c6 => ?_) (fun c6 => ?_)
      · replace hf := neg_e c6 hf
        refine lv_ldc2 (v := 1000000001) hx hb E.2.2.2.1 (E.2.2.2.2 _ wd_3_175) dX11_nearer_37 ?_
        exact gretw_l E hlk hP hD hS hr dX11_nearer_40 (som_e hf)
      · replace hf := pos_e c6 hf
        refine lv_iload hx hb dX11_nearer_27 (lv_at hl 4 rfl) ?_
        refine lv_iconst (v := 0) hx hb dX11_nearer_29 (by decide) ?_
        refine lv_iconst (v := 1) hx hb dX11_nearer_30 (by decide) ?_
        obtain ⟨r7, er7, hf⟩ := bd_e hf
        refine gSr_i E hK hP (cX11_isOutc _ _ _ er7) kS_X11_isOut wd_1_178 rfl rfl rfl ⟨Nat.le_of_ble_eq_true rfl, Nat.le_of_ble_eq_true rfl⟩ ⟨Nat.zero_le _, Nat.zero_le _⟩ hl.1 (Nat.le_of_ble_eq_true rfl) rfl dX11_nearer_31 ?_
        refine lv_if_eq (tgt := 41) hx hb dX11_nearer_34 (by decide) (fun c8 => ?_) (fun c8 => ?_)
        · replace hf := pos_e c8 hf
          refine lv_aload_n hx hb dX11_nearer_41 rfl (lv_at hl 0 rfl) ?_
          refine lv_iload_n hx hb dX11_nearer_42 rfl (lv_at hl 1 rfl) ?_
          refine lv_iload_n hx hb dX11_nearer_43 rfl (lv_at hl 2 rfl) ?_
          refine lv_iload_n hx hb dX11_nearer_44 rfl (lv_at hl 3 rfl) ?_
          obtain ⟨r9, er9, hf⟩ := bd_e hf
          refine gVw_l E hK hP hD hS hA (cX11_arrivalsc _ _ _ er9) kV_X11_arrivals wd_3_176 rfl rfl (q_main ks ad σ) rfl rfl rfl ⟨Nat.le_of_ble_eq_true rfl, Nat.le_of_ble_eq_true rfl⟩ ⟨Nat.zero_le _, Nat.zero_le _⟩ hl.1 (Nat.le_of_ble_eq_true rfl) rfl dX11_nearer_45 (fun H locs hP hD hS => ?_)
          refine lv_iload_n hx hb dX11_nearer_48 rfl (lv_at hl 3 rfl) ?_
          obtain ⟨r10, er10, hf⟩ := bd_e hf
          refine gSr_l E hK hP (cX11_powerOf10c _ er10) kS_X11_powerOf10 wd_3_188 rfl rfl rfl ⟨Nat.le_of_ble_eq_true rfl, Nat.le_of_ble_eq_true rfl⟩ ⟨Nat.zero_le _, Nat.zero_le _⟩ hl.1 (Nat.le_of_ble_eq_true rfl) rfl dX11_nearer_49 ?_
          refine lv_iload hx hb dX11_nearer_52 (lv_at hl 4 rfl) ?_
          obtain ⟨r11, er11, hf⟩ := bd_e hf
          refine gSr_l E hK hP (cX11_inLeastTermsc _ _ _ er11) kS_X11_inLeastTerms wd_3_191 rfl rfl rfl ⟨Nat.le_of_ble_eq_true rfl, Nat.le_of_ble_eq_true rfl⟩ ⟨Nat.zero_le _, Nat.zero_le _⟩ hl.1 (Nat.le_of_ble_eq_true rfl) rfl dX11_nearer_54 ?_
          exact gretw_l E hlk hP hD hS hr dX11_nearer_57 (som_e hf)
        · replace hf := neg_e c8 hf
          refine lv_ldc2 (v := 1000000001) hx hb E.2.2.2.1 (E.2.2.2.2 _ wd_3_175) dX11_nearer_37 ?_
          exact gretw_l E hlk hP hD hS hr dX11_nearer_40 (som_e hf)
noncomputable def fX11_often_L21B (a1 : Int32) (a2 : Int32) (K_21 : St → Option (Int32 × St)) (rec_21 : Int32 → St → Option (Int32 × St)) (x5 : Int32) (σ6 : St) : Option (Int32 × St) :=
  if 9 < x5 then
  K_21 σ6
  else
  bd (fX11_arrivals σ6 a1 a2 x5) fun r8 =>
  bd (fX11_powerOf10 r8.2 x5) fun r9 =>
  if (lg_cmp (2 * r8.1) r9) < 0 then
  nmv (x5 + 1) fun v11 =>
  rec_21 v11 r8.2
  else
  some (x5, r8.2)
noncomputable def fX11_often_L21 (a1 : Int32) (a2 : Int32) (K_21 : St → Option (Int32 × St)) : Nat → Int32 → St → Option (Int32 × St)
  | 0 => fun _ _ => none
  | n + 1 => fX11_often_L21B a1 a2 K_21 (fX11_often_L21 a1 a2 K_21 n)
noncomputable def fX11_often (σ : St) (a1 : Int32) (a2 : Int32) : Option (Int32 × St) :=
  bd (fX11_isOut σ a1 0 12) fun r1 =>
  if r1 = 0 then
  bd (fX11_areTenths σ a2) fun r3 =>
  if r3 = 0 then
  some ((-1), σ)
  else
  fX11_often_L21 a1 a2 (fun σ12 => some ((-4), σ12)) FU 0 σ
  else
  some ((-1), σ)
def rX11_often : Room := { frames := 3, cells := 0, slots := 0, locals := 74 }
set_option maxHeartbeats 4000000 in
set_option maxRecDepth 100000 in
theorem cX11_oftenc {l : Launch} {dC : Nat → ClassId} {dI : Nat → Nat → Nat} {ks : Nat → ClassId} {ad : Nat → Nat → Nat} {σ : St} (a1 : Int32) (a2 : Int32)  {out : Int32 × St} (hf : fX11_often σ a1 a2 = some out) : MWi l dC dI ks ad σ yX11_often cX11_often 4 (some .int) rX11_often [.ref (ad 0 0), .int a1, .int a2] out := by
  intro sz
  refine met_w (Qc := fun A => va_Qi (fun r σ' => r = out.1 ∧ σ' = out.2) (gBw dC dI ks ad A) A) (own := RX11) (by decide) rfl (Nat.le_of_ble_eq_true rfl) ?_
  intro A p e s m args below meth c ls E hr hlk hA hP hD hS hK hl
  have hx := E.1
  have hb := E.2.1
  have hl : lv_has ls 4 [(0, .ref (ad 0 0)), (1, .int a1), (2, .int a2)] := hl
  unfold fX11_often at hf
  refine lv_iload_n hx hb dX11_often_0 rfl (lv_at hl 1 rfl) ?_
  refine lv_iconst (v := 0) hx hb dX11_often_1 (by decide) ?_
  refine lv_bipush (v := 12) hx hb dX11_often_2 (by decide) ?_
  obtain ⟨r1, er1, hf⟩ := bd_e hf
  refine gSr_i E hK hP (cX11_isOutc _ _ _ er1) kS_X11_isOut wd_1_178 rfl rfl rfl ⟨Nat.le_of_ble_eq_true rfl, Nat.le_of_ble_eq_true rfl⟩ ⟨Nat.zero_le _, Nat.zero_le _⟩ hl.1 (Nat.le_of_ble_eq_true rfl) rfl dX11_often_4 ?_
  refine lv_if_ne (tgt := 17) hx hb dX11_often_7 (by decide) (fun c2 => ?_) (fun c2 => ?_)
  · replace hf := neg_e c2 hf
    refine lv_iconst (v := -1) hx hb dX11_often_17 (by decide) ?_
    exact gretw_i E hlk hP hD hS hr dX11_often_18 (som_e hf)
  · replace hf := pos_e c2 hf
    refine lv_iload_n hx hb dX11_often_10 rfl (lv_at hl 2 rfl) ?_
    obtain ⟨r3, er3, hf⟩ := bd_e hf
    refine gSr_i E hK hP (cX11_areTenthsc _ er3) kS_X11_areTenths wd_3_172 rfl rfl rfl ⟨Nat.le_of_ble_eq_true rfl, Nat.le_of_ble_eq_true rfl⟩ ⟨Nat.zero_le _, Nat.zero_le _⟩ hl.1 (Nat.le_of_ble_eq_true rfl) rfl dX11_often_11 ?_
    refine lv_if_ne (tgt := 19) hx hb dX11_often_14 (by decide) (fun c4 => ?_) (fun c4 => ?_)
    · replace hf := neg_e c4 hf
      refine lv_iconst (v := 0) hx hb dX11_often_19 (by decide) ?_
      refine lv_istore_n (lv' := [(3, .int 0), (0, .ref (ad 0 0)), (1, .int a1), (2, .int a2)]) hx hb dX11_often_20 rfl hl (by decide) rfl (fun ls hl => ?_)
      have loop_21 : ∀ (K_21 : St → Option (Int32 × St)) (hK_21 : (∀ (σ12 : St) (H : Heap) (locs : List Loc) (hP : va_P (dC, dI) vwCl (wG ks ad σ12) H) (hD : va_D A (wG ks ad σ12)) (hS : va_S A s.heap H locs) (hf : K_21 σ12 = some out) (ls : Array Slot), lv_has ls 4 [] → W p l e rX11_often s m args below meth c H locs 0 0 (MQ below (va_Qi (fun r σ' => r = out.1 ∧ σ' = out.2) (gBw dC dI ks ad A) A) args s 0 0 A) (F0 m 54 ls []))) (n_21 : Nat) (x5 : Int32) (σ6 : St) (H : Heap) (locs : List Loc) (hP : va_P (dC, dI) vwCl (wG ks ad σ6) H) (hD : va_D A (wG ks ad σ6)) (hS : va_S A s.heap H locs) (hf : fX11_often_L21 a1 a2 K_21 n_21 x5 σ6 = some out) (ls : Array Slot), lv_has ls 4 [(0, .ref (ad 0 0)), (1, .int a1), (2, .int a2), (3, .int x5)] → W p l e rX11_often s m args below meth c H locs 0 0 (MQ below (va_Qi (fun r σ' => r = out.1 ∧ σ' = out.2) (gBw dC dI ks ad A) A) args s 0 0 A) (F0 m 21 ls []) := by
        intro K_21 hK_21 n_21
        induction n_21 with
        | zero => intro x5 σ6 H locs hP hD hS hf; cases hf
        | succ n_21 ih_21 =>
          intro x5 σ6 H locs hP hD hS hf ls hl
          have hf : fX11_often_L21B a1 a2 K_21 (fX11_often_L21 a1 a2 K_21 n_21) x5 σ6 = some out := hf
          unfold fX11_often_L21B at hf
          refine lv_iload_n hx hb dX11_often_21 rfl (lv_at hl 3 rfl) ?_
          refine lv_bipush (v := 9) hx hb dX11_often_22 (by decide) ?_
          refine lv_icmp_gt (tgt := 54) hx hb dX11_often_24 (by decide) (fun c7 => ?_) (fun c7 => ?_)
          · replace hf := pos_e c7 hf
            exact hK_21 _ _ _ hP hD hS hf _ (lv_sub hl [] rfl)
          · replace hf := neg_e c7 hf
            refine lv_ldc2 (v := 2) hx hb E.2.2.2.1 (E.2.2.2.2 _ wd_3_198) dX11_often_27 ?_
            refine lv_aload_n hx hb dX11_often_30 rfl (lv_at hl 0 rfl) ?_
            refine lv_iload_n hx hb dX11_often_31 rfl (lv_at hl 1 rfl) ?_
            refine lv_iload_n hx hb dX11_often_32 rfl (lv_at hl 2 rfl) ?_
            refine lv_iload_n hx hb dX11_often_33 rfl (lv_at hl 3 rfl) ?_
            obtain ⟨r8, er8, hf⟩ := bd_e hf
            refine gVw_l E hK hP hD hS hA (cX11_arrivalsc _ _ _ er8) kV_X11_arrivals wd_3_176 rfl rfl (q_main ks ad σ6) rfl rfl rfl ⟨Nat.le_of_ble_eq_true rfl, Nat.le_of_ble_eq_true rfl⟩ ⟨Nat.zero_le _, Nat.zero_le _⟩ hl.1 (Nat.le_of_ble_eq_true rfl) rfl dX11_often_34 (fun H locs hP hD hS => ?_)
            refine lv_lmul hx hb dX11_often_37 ?_
            refine lv_iload_n hx hb dX11_often_38 rfl (lv_at hl 3 rfl) ?_
            obtain ⟨r9, er9, hf⟩ := bd_e hf
            refine gSr_l E hK hP (cX11_powerOf10c _ er9) kS_X11_powerOf10 wd_3_188 rfl rfl rfl ⟨Nat.le_of_ble_eq_true rfl, Nat.le_of_ble_eq_true rfl⟩ ⟨Nat.zero_le _, Nat.zero_le _⟩ hl.1 (Nat.le_of_ble_eq_true rfl) rfl dX11_often_39 ?_
            refine W.lcmp hx hb dX11_often_42 ?_
            refine lv_if_lt (tgt := 48) hx hb dX11_often_43 (by decide) (fun c10 => ?_) (fun c10 => ?_)
            · replace hf := pos_e c10 hf
              obtain ⟨v11, ev11, hf⟩ := nmv_e hf
              refine lv_iinc (v := v11) (lv' := [(3, .int v11), (0, .ref (ad 0 0)), (1, .int a1), (2, .int a2)]) hx hb dX11_often_48 hl (k := 3) rfl (by rw [ev11]; rfl) (by decide) rfl (fun ls hl => ?_)
              refine lv_goto (tgt := 21) hx hb dX11_often_51 (by decide) ?_
              exact ih_21 _ _ _ _ hP hD hS hf _ (lv_sub hl [1, 2, 3, 0] rfl)
            · replace hf := neg_e c10 hf
              refine lv_iload_n hx hb dX11_often_46 rfl (lv_at hl 3 rfl) ?_
              exact gretw_i E hlk hP hD hS hr dX11_often_47 (som_e hf)
      refine loop_21 _ (fun σ12 H locs hP hD hS hf ls hl => ?_) _ _ _ _ _ hP hD hS hf _ (lv_sub hl [1, 2, 3, 0] rfl)
      refine lv_bipush (v := -4) hx hb dX11_often_54 (by decide) ?_
      exact gretw_i E hlk hP hD hS hr dX11_often_56 (som_e hf)
    · replace hf := pos_e c4 hf
      refine lv_iconst (v := -1) hx hb dX11_often_17 (by decide) ?_
      exact gretw_i E hlk hP hD hS hr dX11_often_18 (som_e hf)
noncomputable def fX11_answer_J69 (σ : St) (a3 : Int32) (z7 : Int32) (z8 : Int32) : Option (Int64) :=
  bd (fX11_inLeastTerms σ z8.toInt64 (((z7 + z8) + 3).toInt64) a3) fun r9 =>
  some r9
noncomputable def fX11_answer_J48 (σ : St) (a2 : Int32) (a3 : Int32) (z7 : Int32) : Option (Int64) :=
  if a2 = 1 then
  fX11_answer_J69 σ a3 z7 10
  else
  if a2 = 0 then
  fX11_answer_J69 σ a3 z7 5
  else
  fX11_answer_J69 σ a3 z7 0
noncomputable def fX11_answer_J47 (σ : St) (a2 : Int32) (a3 : Int32) : Option (Int64) :=
  fX11_answer_J48 σ a2 a3 0
noncomputable def fX11_answer (σ : St) (a1 : Int32) (a2 : Int32) (a3 : Int32) : Option (Int64) :=
  bd (fX11_isOut σ a1 0 9) fun r1 =>
  if r1 = 0 then
  bd (fX11_isOut σ a2 0 9) fun r3 =>
  if r3 = 0 then
  bd (fX11_isOut σ a3 0 1) fun r5 =>
  if r5 = 0 then
  if a2 = 0 then
  if a1 = 2 then
  fX11_answer_J48 σ a2 a3 10
  else
  fX11_answer_J47 σ a2 a3
  else
  fX11_answer_J47 σ a2 a3
  else
  some 1000000001
  else
  some 1000000001
  else
  some 1000000001
def rX11_answer : Room := { frames := 1, cells := 0, slots := 0, locals := 31 }
set_option maxHeartbeats 4000000 in
set_option maxRecDepth 100000 in
theorem cX11_answerc {l : Launch} {dC : Nat → ClassId} {dI : Nat → Nat → Nat} {ks : Nat → ClassId} {ad : Nat → Nat → Nat} {σ : St} (a1 : Int32) (a2 : Int32) (a3 : Int32)  {out : Int64} (hf : fX11_answer σ a1 a2 a3 = some out) : MRl l dC dI ks ad σ yX11_answer cX11_answer 7 (some .long) rX11_answer [.ref (ad 0 0), .int a1, .int a2, .int a3] out := by
  refine met_r (own := RX11) (by decide) rfl (Nat.le_of_ble_eq_true rfl) ?_
  intro p e s m args below meth c ls E hr hlk hP hK hl
  have hx := E.1
  have hb := E.2.1
  have hl : lv_has ls 7 [(0, .ref (ad 0 0)), (1, .int a1), (2, .int a2), (3, .int a3)] := hl
  unfold fX11_answer at hf
  refine lv_iload_n hx hb dX11_answer_0 rfl (lv_at hl 1 rfl) ?_
  refine lv_iconst (v := 0) hx hb dX11_answer_1 (by decide) ?_
  refine lv_bipush (v := 9) hx hb dX11_answer_2 (by decide) ?_
  obtain ⟨r1, er1, hf⟩ := bd_e hf
  refine gSr_i E hK hP (cX11_isOutc _ _ _ er1) kS_X11_isOut wd_1_178 rfl rfl rfl ⟨Nat.le_of_ble_eq_true rfl, Nat.le_of_ble_eq_true rfl⟩ ⟨Nat.zero_le _, Nat.zero_le _⟩ hl.1 (Nat.le_of_ble_eq_true rfl) rfl dX11_answer_4 ?_
  refine lv_if_ne (tgt := 29) hx hb dX11_answer_7 (by decide) (fun c2 => ?_) (fun c2 => ?_)
  · replace hf := neg_e c2 hf
    refine lv_ldc2 (v := 1000000001) hx hb E.2.2.2.1 (E.2.2.2.2 _ wd_3_175) dX11_answer_29 ?_
    exact gret_l E hr hlk dX11_answer_32 (som_e hf).symm
  · replace hf := pos_e c2 hf
    refine lv_iload_n hx hb dX11_answer_10 rfl (lv_at hl 2 rfl) ?_
    refine lv_iconst (v := 0) hx hb dX11_answer_11 (by decide) ?_
    refine lv_bipush (v := 9) hx hb dX11_answer_12 (by decide) ?_
    obtain ⟨r3, er3, hf⟩ := bd_e hf
    refine gSr_i E hK hP (cX11_isOutc _ _ _ er3) kS_X11_isOut wd_1_178 rfl rfl rfl ⟨Nat.le_of_ble_eq_true rfl, Nat.le_of_ble_eq_true rfl⟩ ⟨Nat.zero_le _, Nat.zero_le _⟩ hl.1 (Nat.le_of_ble_eq_true rfl) rfl dX11_answer_14 ?_
    refine lv_if_ne (tgt := 29) hx hb dX11_answer_17 (by decide) (fun c4 => ?_) (fun c4 => ?_)
    · replace hf := neg_e c4 hf
      refine lv_ldc2 (v := 1000000001) hx hb E.2.2.2.1 (E.2.2.2.2 _ wd_3_175) dX11_answer_29 ?_
      exact gret_l E hr hlk dX11_answer_32 (som_e hf).symm
    · replace hf := pos_e c4 hf
      refine lv_iload_n hx hb dX11_answer_20 rfl (lv_at hl 3 rfl) ?_
      refine lv_iconst (v := 0) hx hb dX11_answer_21 (by decide) ?_
      refine lv_iconst (v := 1) hx hb dX11_answer_22 (by decide) ?_
      obtain ⟨r5, er5, hf⟩ := bd_e hf
      refine gSr_i E hK hP (cX11_isOutc _ _ _ er5) kS_X11_isOut wd_1_178 rfl rfl rfl ⟨Nat.le_of_ble_eq_true rfl, Nat.le_of_ble_eq_true rfl⟩ ⟨Nat.zero_le _, Nat.zero_le _⟩ hl.1 (Nat.le_of_ble_eq_true rfl) rfl dX11_answer_23 ?_
      refine lv_if_eq (tgt := 33) hx hb dX11_answer_26 (by decide) (fun c6 => ?_) (fun c6 => ?_)
      · replace hf := pos_e c6 hf
        refine lv_iload_n hx hb dX11_answer_33 rfl (lv_at hl 2 rfl) ?_
        have hJ_48 : ∀ (z7 : Int32) (hf : fX11_answer_J48 σ a2 a3 z7 = some out) (ls : Array Slot), lv_has ls 7 [(2, .int a2), (3, .int a3)] → W p l e rX11_answer s m args below meth c s.heap [] 0 0 (MQ below (vp_Sl (fun r => r = out)) args s 0 0 (fun _ => False)) (F0 m 48 ls [.int z7]) := by
          intro z7 hf ls hl
          unfold fX11_answer_J48 at hf
          refine lv_istore (lv' := [(4, .int z7), (2, .int a2), (3, .int a3)]) hx hb dX11_answer_48 hl (by decide) rfl (fun ls hl => ?_)
          refine lv_iload_n hx hb dX11_answer_50 rfl (lv_at hl 1 rfl) ?_
          refine lv_iconst (v := 1) hx hb dX11_answer_51 (by decide) ?_
          have hJ_69 : ∀ (z8 : Int32) (hf : fX11_answer_J69 σ a3 z7 z8 = some out) (ls : Array Slot), lv_has ls 7 [(3, .int a3), (4, .int z7)] → W p l e rX11_answer s m args below meth c s.heap [] 0 0 (MQ below (vp_Sl (fun r => r = out)) args s 0 0 (fun _ => False)) (F0 m 69 ls [.int z8]) := by
            intro z8 hf ls hl
            unfold fX11_answer_J69 at hf
            refine lv_istore (lv' := [(5, .int z8), (3, .int a3), (4, .int z7)]) hx hb dX11_answer_69 hl (by decide) rfl (fun ls hl => ?_)
            refine lv_iconst (v := 3) hx hb dX11_answer_71 (by decide) ?_
            refine lv_istore (lv' := [(6, .int 3), (5, .int z8), (3, .int a3), (4, .int z7)]) hx hb dX11_answer_72 hl (by decide) rfl (fun ls hl => ?_)
            refine lv_iload hx hb dX11_answer_74 (lv_at hl 1 rfl) ?_
            refine lv_i2l hx hb dX11_answer_76 rfl ?_
            refine lv_iload hx hb dX11_answer_77 (lv_at hl 3 rfl) ?_
            refine lv_iload hx hb dX11_answer_79 (lv_at hl 1 rfl) ?_
            refine lv_iadd hx hb dX11_answer_81 ?_
            refine lv_iload hx hb dX11_answer_82 (lv_at hl 0 rfl) ?_
            refine lv_iadd hx hb dX11_answer_84 ?_
            refine lv_i2l hx hb dX11_answer_85 rfl ?_
            refine lv_iload_n hx hb dX11_answer_86 rfl (lv_at hl 2 rfl) ?_
            obtain ⟨r9, er9, hf⟩ := bd_e hf
            refine gSr_l E hK hP (cX11_inLeastTermsc _ _ _ er9) kS_X11_inLeastTerms wd_3_191 rfl rfl rfl ⟨Nat.le_of_ble_eq_true rfl, Nat.le_of_ble_eq_true rfl⟩ ⟨Nat.zero_le _, Nat.zero_le _⟩ hl.1 (Nat.le_of_ble_eq_true rfl) rfl dX11_answer_87 ?_
            exact gret_l E hr hlk dX11_answer_90 (som_e hf).symm
          refine lv_icmp_ne (tgt := 60) hx hb dX11_answer_52 (by decide) (fun c10 => ?_) (fun c10 => ?_)
          · replace hf := neg_e c10 hf
            refine lv_iload_n hx hb dX11_answer_60 rfl (lv_at hl 1 rfl) ?_
            refine lv_if_ne (tgt := 68) hx hb dX11_answer_61 (by decide) (fun c11 => ?_) (fun c11 => ?_)
            · replace hf := neg_e c11 hf
              refine lv_iconst (v := 0) hx hb dX11_answer_68 (by decide) ?_
              exact hJ_69 _ hf _ (lv_sub hl [2, 0] rfl)
            · replace hf := pos_e c11 hf
              refine lv_iconst (v := 5) hx hb dX11_answer_64 (by decide) ?_
              refine lv_goto (tgt := 69) hx hb dX11_answer_65 (by decide) ?_
              exact hJ_69 _ hf _ (lv_sub hl [2, 0] rfl)
          · replace hf := pos_e c10 hf
            refine lv_bipush (v := 10) hx hb dX11_answer_55 (by decide) ?_
            refine lv_goto (tgt := 69) hx hb dX11_answer_57 (by decide) ?_
            exact hJ_69 _ hf _ (lv_sub hl [2, 0] rfl)
        have hJ_47 : ∀ (hf : fX11_answer_J47 σ a2 a3 = some out) (ls : Array Slot), lv_has ls 7 [(2, .int a2), (3, .int a3)] → W p l e rX11_answer s m args below meth c s.heap [] 0 0 (MQ below (vp_Sl (fun r => r = out)) args s 0 0 (fun _ => False)) (F0 m 47 ls []) := by
          intro hf ls hl
          unfold fX11_answer_J47 at hf
          refine lv_iconst (v := 0) hx hb dX11_answer_47 (by decide) ?_
          exact hJ_48 _ hf _ (lv_sub hl [0, 1] rfl)
        refine lv_if_ne (tgt := 47) hx hb dX11_answer_34 (by decide) (fun c12 => ?_) (fun c12 => ?_)
        · replace hf := neg_e c12 hf
          exact hJ_47 hf _ (lv_sub hl [2, 3] rfl)
        · replace hf := pos_e c12 hf
          refine lv_iload_n hx hb dX11_answer_37 rfl (lv_at hl 1 rfl) ?_
          refine lv_iconst (v := 2) hx hb dX11_answer_38 (by decide) ?_
          refine lv_icmp_ne (tgt := 47) hx hb dX11_answer_39 (by decide) (fun c13 => ?_) (fun c13 => ?_)
          · replace hf := neg_e c13 hf
            exact hJ_47 hf _ (lv_sub hl [2, 3] rfl)
          · replace hf := pos_e c13 hf
            refine lv_bipush (v := 10) hx hb dX11_answer_42 (by decide) ?_
            refine lv_goto (tgt := 48) hx hb dX11_answer_44 (by decide) ?_
            exact hJ_48 _ hf _ (lv_sub hl [2, 3] rfl)
      · replace hf := neg_e c6 hf
        refine lv_ldc2 (v := 1000000001) hx hb E.2.2.2.1 (E.2.2.2.2 _ wd_3_175) dX11_answer_29 ?_
        exact gret_l E hr hlk dX11_answer_32 (som_e hf).symm
noncomputable def fX3_become_L114B (h : Nat) (a1 : Nat) (K_114 : St → Option (St)) (rec_114 : Int32 → St → Option (St)) (x16 : Int32) (σ17 : St) : Option (St) :=
  if 6 ≤ x16 then
  K_114 σ17
  else
  ck (vp_in x16 6) <|
  ck (vp_in x16 6) <|
  ck (∀ j, gR σ17 0 a1 x16.toNatClampNeg = some j → j < gS σ17 2 0 ∧ okc (gS σ17 1 j)) <|
  nmv (sR σ17 0 h x16.toNatClampNeg (gR σ17 0 a1 x16.toNatClampNeg)) fun σ21 =>
  nmv (x16 + 1) fun v23 =>
  rec_114 v23 σ21
noncomputable def fX3_become_L114 (h : Nat) (a1 : Nat) (K_114 : St → Option (St)) : Nat → Int32 → St → Option (St)
  | 0 => fun _ _ => none
  | n + 1 => fX3_become_L114B h a1 K_114 (fX3_become_L114 h a1 K_114 n)
noncomputable def fX3_become (σ : St) (h : Nat) (a1 : Nat) : Option (St) :=
  nmv (sI σ 0 h 0 (gI σ 0 a1 0)) fun σ1 =>
  ck (¬ (0 : Int32) < 0 ∧ ¬ (0 : Int32) < 0 ∧ ¬ (6 : Int32) < 0 ∧ (0 : Int32).toNatClampNeg + (6 : Int32).toNatClampNeg ≤ 6 ∧ (0 : Int32).toNatClampNeg + (6 : Int32).toNatClampNeg ≤ 6) <|
  nmv (sA σ1 1 h (va_cpy (gI σ1 1 a1) (gI σ1 1 h) (0 : Int32).toNatClampNeg (0 : Int32).toNatClampNeg (6 : Int32).toNatClampNeg)) fun σ3 =>
  ck (¬ (0 : Int32) < 0 ∧ ¬ (0 : Int32) < 0 ∧ ¬ (6 : Int32) < 0 ∧ (0 : Int32).toNatClampNeg + (6 : Int32).toNatClampNeg ≤ 6 ∧ (0 : Int32).toNatClampNeg + (6 : Int32).toNatClampNeg ≤ 6) <|
  nmv (sA σ3 2 h (va_cpy (gI σ3 2 a1) (gI σ3 2 h) (0 : Int32).toNatClampNeg (0 : Int32).toNatClampNeg (6 : Int32).toNatClampNeg)) fun σ5 =>
  ck (¬ (0 : Int32) < 0 ∧ ¬ (0 : Int32) < 0 ∧ ¬ (6 : Int32) < 0 ∧ (0 : Int32).toNatClampNeg + (6 : Int32).toNatClampNeg ≤ 6 ∧ (0 : Int32).toNatClampNeg + (6 : Int32).toNatClampNeg ≤ 6) <|
  nmv (sA σ5 3 h (va_cpy (gI σ5 3 a1) (gI σ5 3 h) (0 : Int32).toNatClampNeg (0 : Int32).toNatClampNeg (6 : Int32).toNatClampNeg)) fun σ7 =>
  ck (¬ (0 : Int32) < 0 ∧ ¬ (0 : Int32) < 0 ∧ ¬ (6 : Int32) < 0 ∧ (0 : Int32).toNatClampNeg + (6 : Int32).toNatClampNeg ≤ 6 ∧ (0 : Int32).toNatClampNeg + (6 : Int32).toNatClampNeg ≤ 6) <|
  nmv (sA σ7 4 h (va_cpy (gI σ7 4 a1) (gI σ7 4 h) (0 : Int32).toNatClampNeg (0 : Int32).toNatClampNeg (6 : Int32).toNatClampNeg)) fun σ9 =>
  nmv (sI σ9 0 h 5 (gI σ9 0 a1 5)) fun σ10 =>
  ck (¬ (0 : Int32) < 0 ∧ ¬ (0 : Int32) < 0 ∧ ¬ (4 : Int32) < 0 ∧ (0 : Int32).toNatClampNeg + (4 : Int32).toNatClampNeg ≤ 4 ∧ (0 : Int32).toNatClampNeg + (4 : Int32).toNatClampNeg ≤ 4) <|
  nmv (sA σ10 5 h (va_cpy (gI σ10 5 a1) (gI σ10 5 h) (0 : Int32).toNatClampNeg (0 : Int32).toNatClampNeg (4 : Int32).toNatClampNeg)) fun σ12 =>
  ck (¬ (0 : Int32) < 0 ∧ ¬ (0 : Int32) < 0 ∧ ¬ (4 : Int32) < 0 ∧ (0 : Int32).toNatClampNeg + (4 : Int32).toNatClampNeg ≤ 4 ∧ (0 : Int32).toNatClampNeg + (4 : Int32).toNatClampNeg ≤ 4) <|
  nmv (sA σ12 6 h (va_cpy (gI σ12 6 a1) (gI σ12 6 h) (0 : Int32).toNatClampNeg (0 : Int32).toNatClampNeg (4 : Int32).toNatClampNeg)) fun σ14 =>
  nmv (sI σ14 0 h 8 (gI σ14 0 a1 8)) fun σ15 =>
  fX3_become_L114 h a1 (fun σ24 => some σ24) FU 0 σ15
def rX3_become : Room := { frames := 1, cells := 0, slots := 0, locals := 40 }
set_option maxHeartbeats 4000000 in
set_option maxRecDepth 100000 in
theorem cX3_becomec {l : Launch} {dC : Nat → ClassId} {dI : Nat → Nat → Nat} {ks : Nat → ClassId} {ad : Nat → Nat → Nat} {σ : St} {h : Nat} (hh : h < 3) {a1 : Nat} (ha1 : a1 < 3) {out : St} (hf : fX3_become σ h a1 = some out) : MWv l dC dI ks ad σ yX3_become cX3_become 3 none rX3_become [.ref (ad 1 h), .ref (ad 1 a1)] out := by
  intro sz
  refine met_w (Qc := fun A => va_Qv (fun σ' => σ' = out) (gBw dC dI ks ad A) A) (own := RX3) (by decide) rfl (Nat.le_of_ble_eq_true rfl) ?_
  intro A p e s m args below meth c ls E hr hlk hA hP hD hS hK hl
  have hx := E.1
  have hb := E.2.1
  have hl : lv_has ls 3 [(0, .ref (ad 1 h)), (1, .ref (ad 1 a1))] := hl
  unfold fX3_become at hf
  refine lv_aload_n hx hb dX3_become_0 rfl (lv_at hl 0 rfl) ?_
  refine lv_aload_n hx hb dX3_become_1 rfl (lv_at hl 1 rfl) ?_
  refine gget E in_X3 hK hP (qh_0 ks ad σ ha1) rfl (k := 0) (by decide) wd_1_72 rfl (v := .int (gI σ 0 a1 0)) rfl dX3_become_2 ?_
  obtain ⟨σ1, eσ1, hf⟩ := nmv_e hf
  refine gput (k := 0) E in_X3 tyX3 tyX3_ok nmX3 hK hP hD hS (qh_0 ks ad σ hh) rfl (by decide) wd_1_72 rfl rfl rfl rfl rfl (Nat.le_of_ble_eq_true rfl) (σ' := σ1) (by rw [eσ1]; exact st_h_0 ks ad σ hh _) dX3_become_5 (fun H locs hP hD hS => ?_)
  refine lv_aload_n hx hb dX3_become_8 rfl (lv_at hl 1 rfl) ?_
  refine gget E in_X3 hK hP (qh_0 ks ad σ1 ha1) rfl (k := 1) (by decide) wd_1_74 rfl (v := .ref (ad 2 a1)) rfl dX3_become_9 ?_
  refine lv_iconst (v := 0) hx hb dX3_become_12 (by decide) ?_
  refine lv_aload_n hx hb dX3_become_13 rfl (lv_at hl 0 rfl) ?_
  refine gget E in_X3 hK hP (qh_0 ks ad σ1 hh) rfl (k := 1) (by decide) wd_1_74 rfl (v := .ref (ad 2 h)) rfl dX3_become_14 ?_
  refine lv_iconst (v := 0) hx hb dX3_become_17 (by decide) ?_
  refine lv_bipush (v := 6) hx hb dX3_become_18 (by decide) ?_
  obtain ⟨c2, hf⟩ := ck_e hf
  obtain ⟨σ3, eσ3, hf⟩ := nmv_e hf
  refine gacopy E hK hP hD hS hl.1 wd_1_203 wd_1_205 wd_1_204 wd_1_6 (qh_1 ks ad σ1 ha1) (qh_1 ks ad σ1 hh) c2 (σ' := σ3) (by rw [eσ3]; exact st_ha_1 ks ad σ1 hh _) (Nat.le_of_ble_eq_true rfl) (by decide) dX3_become_20 (fun H locs hP hD hS => ?_)
  refine lv_aload_n hx hb dX3_become_23 rfl (lv_at hl 1 rfl) ?_
  refine gget E in_X3 hK hP (qh_0 ks ad σ3 ha1) rfl (k := 2) (by decide) wd_1_76 rfl (v := .ref (ad 3 a1)) rfl dX3_become_24 ?_
  refine lv_iconst (v := 0) hx hb dX3_become_27 (by decide) ?_
  refine lv_aload_n hx hb dX3_become_28 rfl (lv_at hl 0 rfl) ?_
  refine gget E in_X3 hK hP (qh_0 ks ad σ3 hh) rfl (k := 2) (by decide) wd_1_76 rfl (v := .ref (ad 3 h)) rfl dX3_become_29 ?_
  refine lv_iconst (v := 0) hx hb dX3_become_32 (by decide) ?_
  refine lv_bipush (v := 6) hx hb dX3_become_33 (by decide) ?_
  obtain ⟨c4, hf⟩ := ck_e hf
  obtain ⟨σ5, eσ5, hf⟩ := nmv_e hf
  refine gacopy E hK hP hD hS hl.1 wd_1_203 wd_1_205 wd_1_204 wd_1_6 (qh_2 ks ad σ3 ha1) (qh_2 ks ad σ3 hh) c4 (σ' := σ5) (by rw [eσ5]; exact st_ha_2 ks ad σ3 hh _) (Nat.le_of_ble_eq_true rfl) (by decide) dX3_become_35 (fun H locs hP hD hS => ?_)
  refine lv_aload_n hx hb dX3_become_38 rfl (lv_at hl 1 rfl) ?_
  refine gget E in_X3 hK hP (qh_0 ks ad σ5 ha1) rfl (k := 3) (by decide) wd_1_78 rfl (v := .ref (ad 4 a1)) rfl dX3_become_39 ?_
  refine lv_iconst (v := 0) hx hb dX3_become_42 (by decide) ?_
  refine lv_aload_n hx hb dX3_become_43 rfl (lv_at hl 0 rfl) ?_
  refine gget E in_X3 hK hP (qh_0 ks ad σ5 hh) rfl (k := 3) (by decide) wd_1_78 rfl (v := .ref (ad 4 h)) rfl dX3_become_44 ?_
  refine lv_iconst (v := 0) hx hb dX3_become_47 (by decide) ?_
  refine lv_bipush (v := 6) hx hb dX3_become_48 (by decide) ?_
  obtain ⟨c6, hf⟩ := ck_e hf
  obtain ⟨σ7, eσ7, hf⟩ := nmv_e hf
  refine gacopy E hK hP hD hS hl.1 wd_1_203 wd_1_205 wd_1_204 wd_1_6 (qh_3 ks ad σ5 ha1) (qh_3 ks ad σ5 hh) c6 (σ' := σ7) (by rw [eσ7]; exact st_ha_3 ks ad σ5 hh _) (Nat.le_of_ble_eq_true rfl) (by decide) dX3_become_50 (fun H locs hP hD hS => ?_)
  refine lv_aload_n hx hb dX3_become_53 rfl (lv_at hl 1 rfl) ?_
  refine gget E in_X3 hK hP (qh_0 ks ad σ7 ha1) rfl (k := 4) (by decide) wd_1_80 rfl (v := .ref (ad 5 a1)) rfl dX3_become_54 ?_
  refine lv_iconst (v := 0) hx hb dX3_become_57 (by decide) ?_
  refine lv_aload_n hx hb dX3_become_58 rfl (lv_at hl 0 rfl) ?_
  refine gget E in_X3 hK hP (qh_0 ks ad σ7 hh) rfl (k := 4) (by decide) wd_1_80 rfl (v := .ref (ad 5 h)) rfl dX3_become_59 ?_
  refine lv_iconst (v := 0) hx hb dX3_become_62 (by decide) ?_
  refine lv_bipush (v := 6) hx hb dX3_become_63 (by decide) ?_
  obtain ⟨c8, hf⟩ := ck_e hf
  obtain ⟨σ9, eσ9, hf⟩ := nmv_e hf
  refine gacopy E hK hP hD hS hl.1 wd_1_203 wd_1_205 wd_1_204 wd_1_6 (qh_4 ks ad σ7 ha1) (qh_4 ks ad σ7 hh) c8 (σ' := σ9) (by rw [eσ9]; exact st_ha_4 ks ad σ7 hh _) (Nat.le_of_ble_eq_true rfl) (by decide) dX3_become_65 (fun H locs hP hD hS => ?_)
  refine lv_aload_n hx hb dX3_become_68 rfl (lv_at hl 0 rfl) ?_
  refine lv_aload_n hx hb dX3_become_69 rfl (lv_at hl 1 rfl) ?_
  refine gget E in_X3 hK hP (qh_0 ks ad σ9 ha1) rfl (k := 5) (by decide) wd_1_82 rfl (v := .int (gI σ9 0 a1 5)) rfl dX3_become_70 ?_
  obtain ⟨σ10, eσ10, hf⟩ := nmv_e hf
  refine gput (k := 5) E in_X3 tyX3 tyX3_ok nmX3 hK hP hD hS (qh_0 ks ad σ9 hh) rfl (by decide) wd_1_82 rfl rfl rfl rfl rfl (Nat.le_of_ble_eq_true rfl) (σ' := σ10) (by rw [eσ10]; exact st_h_5 ks ad σ9 hh _) dX3_become_73 (fun H locs hP hD hS => ?_)
  refine lv_aload_n hx hb dX3_become_76 rfl (lv_at hl 1 rfl) ?_
  refine gget E in_X3 hK hP (qh_0 ks ad σ10 ha1) rfl (k := 6) (by decide) wd_1_84 rfl (v := .ref (ad 6 a1)) rfl dX3_become_77 ?_
  refine lv_iconst (v := 0) hx hb dX3_become_80 (by decide) ?_
  refine lv_aload_n hx hb dX3_become_81 rfl (lv_at hl 0 rfl) ?_
  refine gget E in_X3 hK hP (qh_0 ks ad σ10 hh) rfl (k := 6) (by decide) wd_1_84 rfl (v := .ref (ad 6 h)) rfl dX3_become_82 ?_
  refine lv_iconst (v := 0) hx hb dX3_become_85 (by decide) ?_
  refine lv_iconst (v := 4) hx hb dX3_become_86 (by decide) ?_
  obtain ⟨c11, hf⟩ := ck_e hf
  obtain ⟨σ12, eσ12, hf⟩ := nmv_e hf
  refine gacopy E hK hP hD hS hl.1 wd_1_203 wd_1_205 wd_1_204 wd_1_6 (qh_5 ks ad σ10 ha1) (qh_5 ks ad σ10 hh) c11 (σ' := σ12) (by rw [eσ12]; exact st_ha_5 ks ad σ10 hh _) (Nat.le_of_ble_eq_true rfl) (by decide) dX3_become_87 (fun H locs hP hD hS => ?_)
  refine lv_aload_n hx hb dX3_become_90 rfl (lv_at hl 1 rfl) ?_
  refine gget E in_X3 hK hP (qh_0 ks ad σ12 ha1) rfl (k := 7) (by decide) wd_1_86 rfl (v := .ref (ad 7 a1)) rfl dX3_become_91 ?_
  refine lv_iconst (v := 0) hx hb dX3_become_94 (by decide) ?_
  refine lv_aload_n hx hb dX3_become_95 rfl (lv_at hl 0 rfl) ?_
  refine gget E in_X3 hK hP (qh_0 ks ad σ12 hh) rfl (k := 7) (by decide) wd_1_86 rfl (v := .ref (ad 7 h)) rfl dX3_become_96 ?_
  refine lv_iconst (v := 0) hx hb dX3_become_99 (by decide) ?_
  refine lv_iconst (v := 4) hx hb dX3_become_100 (by decide) ?_
  obtain ⟨c13, hf⟩ := ck_e hf
  obtain ⟨σ14, eσ14, hf⟩ := nmv_e hf
  refine gacopy E hK hP hD hS hl.1 wd_1_203 wd_1_205 wd_1_204 wd_1_6 (qh_6 ks ad σ12 ha1) (qh_6 ks ad σ12 hh) c13 (σ' := σ14) (by rw [eσ14]; exact st_ha_6 ks ad σ12 hh _) (Nat.le_of_ble_eq_true rfl) (by decide) dX3_become_101 (fun H locs hP hD hS => ?_)
  refine lv_aload_n hx hb dX3_become_104 rfl (lv_at hl 0 rfl) ?_
  refine lv_aload_n hx hb dX3_become_105 rfl (lv_at hl 1 rfl) ?_
  refine gget E in_X3 hK hP (qh_0 ks ad σ14 ha1) rfl (k := 8) (by decide) wd_1_88 rfl (v := .int (gI σ14 0 a1 8)) rfl dX3_become_106 ?_
  obtain ⟨σ15, eσ15, hf⟩ := nmv_e hf
  refine gput (k := 8) E in_X3 tyX3 tyX3_ok nmX3 hK hP hD hS (qh_0 ks ad σ14 hh) rfl (by decide) wd_1_88 rfl rfl rfl rfl rfl (Nat.le_of_ble_eq_true rfl) (σ' := σ15) (by rw [eσ15]; exact st_h_8 ks ad σ14 hh _) dX3_become_109 (fun H locs hP hD hS => ?_)
  refine lv_iconst (v := 0) hx hb dX3_become_112 (by decide) ?_
  refine lv_istore_n (lv' := [(2, .int 0), (0, .ref (ad 1 h)), (1, .ref (ad 1 a1))]) hx hb dX3_become_113 rfl hl (by decide) rfl (fun ls hl => ?_)
  have loop_114 : ∀ (K_114 : St → Option (St)) (hK_114 : (∀ (σ24 : St) (H : Heap) (locs : List Loc) (hP : va_P (dC, dI) vwCl (wG ks ad σ24) H) (hD : va_D A (wG ks ad σ24)) (hS : va_S A s.heap H locs) (hf : K_114 σ24 = some out) (ls : Array Slot), lv_has ls 3 [] → W p l e rX3_become s m args below meth c H locs 0 0 (MQ below (va_Qv (fun σ' => σ' = out) (gBw dC dI ks ad A) A) args s 0 0 A) (F0 m 138 ls []))) (n_114 : Nat) (x16 : Int32) (σ17 : St) (H : Heap) (locs : List Loc) (hP : va_P (dC, dI) vwCl (wG ks ad σ17) H) (hD : va_D A (wG ks ad σ17)) (hS : va_S A s.heap H locs) (hf : fX3_become_L114 h a1 K_114 n_114 x16 σ17 = some out) (ls : Array Slot), lv_has ls 3 [(0, .ref (ad 1 h)), (1, .ref (ad 1 a1)), (2, .int x16)] → W p l e rX3_become s m args below meth c H locs 0 0 (MQ below (va_Qv (fun σ' => σ' = out) (gBw dC dI ks ad A) A) args s 0 0 A) (F0 m 114 ls []) := by
    intro K_114 hK_114 n_114
    induction n_114 with
    | zero => intro x16 σ17 H locs hP hD hS hf; cases hf
    | succ n_114 ih_114 =>
      intro x16 σ17 H locs hP hD hS hf ls hl
      have hf : fX3_become_L114B h a1 K_114 (fX3_become_L114 h a1 K_114 n_114) x16 σ17 = some out := hf
      unfold fX3_become_L114B at hf
      refine lv_iload_n hx hb dX3_become_114 rfl (lv_at hl 2 rfl) ?_
      refine lv_bipush (v := 6) hx hb dX3_become_115 (by decide) ?_
      refine lv_icmp_ge (tgt := 138) hx hb dX3_become_117 (by decide) (fun c18 => ?_) (fun c18 => ?_)
      · replace hf := pos_e c18 hf
        exact hK_114 _ _ _ hP hD hS hf _ (lv_sub hl [] rfl)
      · replace hf := neg_e c18 hf
        refine lv_aload_n hx hb dX3_become_120 rfl (lv_at hl 0 rfl) ?_
        refine gget E in_X3 hK hP (qh_0 ks ad σ17 hh) rfl (k := 9) (by decide) wd_1_90 rfl (v := .ref (ad 8 h)) rfl dX3_become_121 ?_
        refine lv_iload_n hx hb dX3_become_124 rfl (lv_at hl 2 rfl) ?_
        refine lv_aload_n hx hb dX3_become_125 rfl (lv_at hl 1 rfl) ?_
        refine gget E in_X3 hK hP (qh_0 ks ad σ17 ha1) rfl (k := 9) (by decide) wd_1_90 rfl (v := .ref (ad 8 a1)) rfl dX3_become_126 ?_
        refine lv_iload_n hx hb dX3_become_129 rfl (lv_at hl 2 rfl) ?_
        obtain ⟨c19, hf⟩ := ck_e hf
        refine gaaldB ha1 E hK hP c19 dX3_become_130 ?_
        obtain ⟨c20, hf⟩ := ck_e hf
        obtain ⟨c22, hf⟩ := ck_e hf
        obtain ⟨σ21, eσ21, hf⟩ := nmv_e hf
        refine gaast (o := (gR σ17 0 a1 x16.toNatClampNeg)) hh E hK hP hD hS c20 c22 eσ21 dX3_become_131 (fun H locs hP hD hS => ?_)
        obtain ⟨v23, ev23, hf⟩ := nmv_e hf
        refine lv_iinc (v := v23) (lv' := [(2, .int v23), (0, .ref (ad 1 h)), (1, .ref (ad 1 a1))]) hx hb dX3_become_132 hl (k := 2) rfl (by rw [ev23]; rfl) (by decide) rfl (fun ls hl => ?_)
        refine lv_goto (tgt := 114) hx hb dX3_become_135 (by decide) ?_
        exact ih_114 _ _ _ _ hP hD hS hf _ (lv_sub hl [1, 2, 0] rfl)
  refine loop_114 _ (fun σ24 H locs hP hD hS hf ls hl => ?_) _ _ _ _ _ hP hD hS hf _ (lv_sub hl [1, 2, 0] rfl)
  exact gretw_v E hlk hP hD hS hr dX3_become_138 (som_e hf)
noncomputable def fX11_pairsWhenTold_J75 (a1 : Int32) (a2 : Int32) (a3 : Int32) (a4 : Int32) (σ2 : St) : Option (Int32 × St) :=
  bd (fX3_spanOf σ2 2 a1 a2 a3) fun r3 =>
  if a4 = 0 then
  nmv (if 0 < ((gI r3 7 2 0) - 2) then (gI r3 7 2 0) - 2 else 0) fun v6 =>
  nmv (sI r3 7 2 0 v6) fun σ7 =>
  bd (fX9_pairs σ7 2) fun r8 =>
  some (r8, σ7)
  else
  bd (fX9_pairs r3 2) fun r5 =>
  some (r5, r3)
noncomputable def fX11_pairsWhenTold (σ : St) (a1 : Int32) (a2 : Int32) (a3 : Int32) (a4 : Int32) : Option (Int32 × St) :=
  bd (fX3_become σ 2 0) fun r1 =>
  if a4 = 1 then
  ck (vp_in a2 4) <|
  nmv (if ((gI r1 6 2 a2.toNatClampNeg) + 5) < 60 then (gI r1 6 2 a2.toNatClampNeg) + 5 else 60) fun v16 =>
  ck (vp_in a2 4) <|
  nmv (sI r1 6 2 a2.toNatClampNeg v16) fun σ18 =>
  fX11_pairsWhenTold_J75 a1 a2 a3 a4 σ18
  else
  if a4 = 2 then
  ck (vp_in a2 4) <|
  nmv (if 0 < ((gI r1 5 2 a2.toNatClampNeg) - 1) then (gI r1 5 2 a2.toNatClampNeg) - 1 else 0) fun v12 =>
  ck (vp_in a2 4) <|
  nmv (sI r1 5 2 a2.toNatClampNeg v12) fun σ14 =>
  fX11_pairsWhenTold_J75 a1 a2 a3 a4 σ14
  else
  fX11_pairsWhenTold_J75 a1 a2 a3 a4 r1
def rX11_pairsWhenTold : Room := { frames := 4, cells := 0, slots := 0, locals := 94 }
set_option maxHeartbeats 4000000 in
set_option maxRecDepth 100000 in
theorem cX11_pairsWhenToldc {l : Launch} {dC : Nat → ClassId} {dI : Nat → Nat → Nat} {ks : Nat → ClassId} {ad : Nat → Nat → Nat} {σ : St} (a1 : Int32) (a2 : Int32) (a3 : Int32) (a4 : Int32)  {out : Int32 × St} (hf : fX11_pairsWhenTold σ a1 a2 a3 a4 = some out) : MWi l dC dI ks ad σ yX11_pairsWhenTold cX11_pairsWhenTold 6 (some .int) rX11_pairsWhenTold [.ref (ad 0 0), .int a1, .int a2, .int a3, .int a4] out := by
  intro sz
  refine met_w (Qc := fun A => va_Qi (fun r σ' => r = out.1 ∧ σ' = out.2) (gBw dC dI ks ad A) A) (own := RX11) (by decide) rfl (Nat.le_of_ble_eq_true rfl) ?_
  intro A p e s m args below meth c ls E hr hlk hA hP hD hS hK hl
  have hx := E.1
  have hb := E.2.1
  have hl : lv_has ls 6 [(0, .ref (ad 0 0)), (1, .int a1), (2, .int a2), (3, .int a3), (4, .int a4)] := hl
  unfold fX11_pairsWhenTold at hf
  refine lv_aload_n hx hb dX11_pairsWhenTold_0 rfl (lv_at hl 0 rfl) ?_
  refine gget E in_X11 hK hP (q_main ks ad σ) rfl (k := 2) (by decide) wd_1_147 rfl (v := .ref (ad 1 2)) rfl dX11_pairsWhenTold_1 ?_
  refine lv_aload_n hx hb dX11_pairsWhenTold_4 rfl (lv_at hl 0 rfl) ?_
  refine gget E in_X11 hK hP (q_main ks ad σ) rfl (k := 0) (by decide) wd_1_145 rfl (v := .ref (ad 1 0)) rfl dX11_pairsWhenTold_5 ?_
  obtain ⟨r1, er1, hf⟩ := bd_e hf
  refine gVw_v E hK hP hD hS hA (cX3_becomec (by decide : (2 : Nat) < 3) (by decide : (0 : Nat) < 3) er1) kV_X3_become wd_1_199 rfl rfl (qh_0 ks ad σ (by decide : (2 : Nat) < 3)) rfl rfl rfl ⟨Nat.le_of_ble_eq_true rfl, Nat.le_of_ble_eq_true rfl⟩ ⟨Nat.zero_le _, Nat.zero_le _⟩ hl.1 (Nat.le_of_ble_eq_true rfl) rfl dX11_pairsWhenTold_8 (fun H locs hP hD hS => ?_)
  refine lv_iload hx hb dX11_pairsWhenTold_11 (lv_at hl 4 rfl) ?_
  refine lv_iconst (v := 1) hx hb dX11_pairsWhenTold_13 (by decide) ?_
  have hJ_75 : ∀ (σ2 : St) (H : Heap) (locs : List Loc) (hP : va_P (dC, dI) vwCl (wG ks ad σ2) H) (hD : va_D A (wG ks ad σ2)) (hS : va_S A s.heap H locs) (hf : fX11_pairsWhenTold_J75 a1 a2 a3 a4 σ2 = some out) (ls : Array Slot), lv_has ls 6 [(0, .ref (ad 0 0)), (1, .int a1), (2, .int a2), (3, .int a3), (4, .int a4)] → W p l e rX11_pairsWhenTold s m args below meth c H locs 0 0 (MQ below (va_Qi (fun r σ' => r = out.1 ∧ σ' = out.2) (gBw dC dI ks ad A) A) args s 0 0 A) (F0 m 75 ls []) := by
    intro σ2 H locs hP hD hS hf ls hl
    unfold fX11_pairsWhenTold_J75 at hf
    refine lv_aload_n hx hb dX11_pairsWhenTold_75 rfl (lv_at hl 0 rfl) ?_
    refine gget E in_X11 hK hP (q_main ks ad σ2) rfl (k := 2) (by decide) wd_1_147 rfl (v := .ref (ad 1 2)) rfl dX11_pairsWhenTold_76 ?_
    refine lv_iload_n hx hb dX11_pairsWhenTold_79 rfl (lv_at hl 1 rfl) ?_
    refine lv_iload_n hx hb dX11_pairsWhenTold_80 rfl (lv_at hl 2 rfl) ?_
    refine lv_iload_n hx hb dX11_pairsWhenTold_81 rfl (lv_at hl 3 rfl) ?_
    obtain ⟨r3, er3, hf⟩ := bd_e hf
    refine gVw_f E hK hP hD hS hA (cX3_spanOfc (by decide : (2 : Nat) < 3) _ _ _ er3) kV_X3_spanOf wd_2_179 rfl rfl (qh_0 ks ad σ2 (by decide : (2 : Nat) < 3)) rfl rfl rfl ⟨Nat.le_of_ble_eq_true rfl, Nat.le_of_ble_eq_true rfl⟩ ⟨Nat.zero_le _, Nat.zero_le _⟩ hl.1 (Nat.le_of_ble_eq_true rfl) rfl dX11_pairsWhenTold_82 (fun H locs hP hD hS => ?_)
    refine lv_astore (lv' := [(5, .ref (ad 9 2)), (0, .ref (ad 0 0)), (1, .int a1), (2, .int a2), (3, .int a3), (4, .int a4)]) hx hb dX11_pairsWhenTold_85 hl (by decide) rfl (fun ls hl => ?_)
    refine lv_iload hx hb dX11_pairsWhenTold_87 (lv_at hl 5 rfl) ?_
    refine lv_if_ne (tgt := 108) hx hb dX11_pairsWhenTold_89 (by decide) (fun c4 => ?_) (fun c4 => ?_)
    · replace hf := neg_e c4 hf
      refine lv_aload hx hb dX11_pairsWhenTold_108 (lv_at hl 0 rfl) ?_
      obtain ⟨r5, er5, hf⟩ := bd_e hf
      refine gVr_i E hK hP (cX9_pairsc (by decide : (2 : Nat) < 3) er5) kV_X9_pairs wd_3_78 rfl rfl (qh_8 ks ad r3 (by decide : (2 : Nat) < 3)) rfl rfl rfl ⟨Nat.le_of_ble_eq_true rfl, Nat.le_of_ble_eq_true rfl⟩ ⟨Nat.zero_le _, Nat.zero_le _⟩ hl.1 (Nat.le_of_ble_eq_true rfl) rfl dX11_pairsWhenTold_110 ?_
      exact gretw_i E hlk hP hD hS hr dX11_pairsWhenTold_113 (som_e hf)
    · replace hf := pos_e c4 hf
      refine lv_aload hx hb dX11_pairsWhenTold_92 (lv_at hl 0 rfl) ?_
      refine lv_iconst (v := 0) hx hb dX11_pairsWhenTold_94 (by decide) ?_
      refine lv_aload hx hb dX11_pairsWhenTold_95 (lv_at hl 0 rfl) ?_
      refine gget E in_X9 hK hP (qh_8 ks ad r3 (by decide : (2 : Nat) < 3)) rfl (k := 0) (by decide) wd_1_47 rfl (v := .int (gI r3 7 2 0)) rfl dX11_pairsWhenTold_97 ?_
      refine lv_iconst (v := 2) hx hb dX11_pairsWhenTold_100 (by decide) ?_
      refine lv_isub hx hb dX11_pairsWhenTold_101 ?_
      refine gmax E hl.1 wd_2_137 wd_2_138 wd_1_15 wd_2_139 (Nat.le_of_ble_eq_true rfl) (Nat.le_of_ble_eq_true rfl) ⟨Nat.zero_le _, Nat.zero_le _⟩ dX11_pairsWhenTold_102 ?_
      obtain ⟨v6, ev6, hf⟩ := nmv_e hf
      refine lv_nmi ev6 ?_
      obtain ⟨σ7, eσ7, hf⟩ := nmv_e hf
      refine gput (k := 0) E in_X9 tyX9 tyX9_ok nmX9 hK hP hD hS (qh_8 ks ad r3 (by decide : (2 : Nat) < 3)) rfl (by decide) wd_1_47 rfl rfl rfl rfl rfl (Nat.le_of_ble_eq_true rfl) (σ' := σ7) (by rw [eσ7]; exact st_sp_0 ks ad r3 (by decide : (2 : Nat) < 3) _) dX11_pairsWhenTold_105 (fun H locs hP hD hS => ?_)
      refine lv_aload hx hb dX11_pairsWhenTold_108 (lv_at hl 0 rfl) ?_
      obtain ⟨r8, er8, hf⟩ := bd_e hf
      refine gVr_i E hK hP (cX9_pairsc (by decide : (2 : Nat) < 3) er8) kV_X9_pairs wd_3_78 rfl rfl (qh_8 ks ad σ7 (by decide : (2 : Nat) < 3)) rfl rfl rfl ⟨Nat.le_of_ble_eq_true rfl, Nat.le_of_ble_eq_true rfl⟩ ⟨Nat.zero_le _, Nat.zero_le _⟩ hl.1 (Nat.le_of_ble_eq_true rfl) rfl dX11_pairsWhenTold_110 ?_
      exact gretw_i E hlk hP hD hS hr dX11_pairsWhenTold_113 (som_e hf)
  refine lv_icmp_ne (tgt := 45) hx hb dX11_pairsWhenTold_14 (by decide) (fun c9 => ?_) (fun c9 => ?_)
  · replace hf := neg_e c9 hf
    refine lv_iload hx hb dX11_pairsWhenTold_45 (lv_at hl 4 rfl) ?_
    refine lv_iconst (v := 2) hx hb dX11_pairsWhenTold_47 (by decide) ?_
    refine lv_icmp_ne (tgt := 75) hx hb dX11_pairsWhenTold_48 (by decide) (fun c10 => ?_) (fun c10 => ?_)
    · replace hf := neg_e c10 hf
      exact hJ_75 _ _ _ hP hD hS hf _ (lv_sub hl [0, 1, 2, 3, 4] rfl)
    · replace hf := pos_e c10 hf
      refine lv_aload_n hx hb dX11_pairsWhenTold_51 rfl (lv_at hl 0 rfl) ?_
      refine gget E in_X11 hK hP (q_main ks ad r1) rfl (k := 2) (by decide) wd_1_147 rfl (v := .ref (ad 1 2)) rfl dX11_pairsWhenTold_52 ?_
      refine gget E in_X3 hK hP (qh_0 ks ad r1 (by decide : (2 : Nat) < 3)) rfl (k := 6) (by decide) wd_1_85 rfl (v := .ref (ad 6 2)) rfl dX11_pairsWhenTold_55 ?_
      refine lv_iload_n hx hb dX11_pairsWhenTold_58 rfl (lv_at hl 2 rfl) ?_
      refine lv_iconst (v := 0) hx hb dX11_pairsWhenTold_59 (by decide) ?_
      refine lv_aload_n hx hb dX11_pairsWhenTold_60 rfl (lv_at hl 0 rfl) ?_
      refine gget E in_X11 hK hP (q_main ks ad r1) rfl (k := 2) (by decide) wd_1_147 rfl (v := .ref (ad 1 2)) rfl dX11_pairsWhenTold_61 ?_
      refine gget E in_X3 hK hP (qh_0 ks ad r1 (by decide : (2 : Nat) < 3)) rfl (k := 6) (by decide) wd_1_85 rfl (v := .ref (ad 6 2)) rfl dX11_pairsWhenTold_64 ?_
      refine lv_iload_n hx hb dX11_pairsWhenTold_67 rfl (lv_at hl 2 rfl) ?_
      obtain ⟨c11, hf⟩ := ck_e hf
      refine giald E hK hP (qh_5 ks ad r1 (by decide : (2 : Nat) < 3)) c11 dX11_pairsWhenTold_68 ?_
      refine lv_iconst (v := 1) hx hb dX11_pairsWhenTold_69 (by decide) ?_
      refine lv_isub hx hb dX11_pairsWhenTold_70 ?_
      refine gmax E hl.1 wd_2_137 wd_2_138 wd_1_15 wd_2_139 (Nat.le_of_ble_eq_true rfl) (Nat.le_of_ble_eq_true rfl) ⟨Nat.zero_le _, Nat.zero_le _⟩ dX11_pairsWhenTold_71 ?_
      obtain ⟨v12, ev12, hf⟩ := nmv_e hf
      refine lv_nmi ev12 ?_
      obtain ⟨c13, hf⟩ := ck_e hf
      obtain ⟨σ14, eσ14, hf⟩ := nmv_e hf
      refine giast E hK hP hD hS (qh_5 ks ad r1 (by decide : (2 : Nat) < 3)) c13 (σ' := σ14) (by rw [eσ14]; exact st_ha_5 ks ad r1 (by decide : (2 : Nat) < 3) _) dX11_pairsWhenTold_74 (fun H locs hP hD hS => ?_)
      exact hJ_75 _ _ _ hP hD hS hf _ (lv_sub hl [0, 1, 2, 3, 4] rfl)
  · replace hf := pos_e c9 hf
    refine lv_aload_n hx hb dX11_pairsWhenTold_17 rfl (lv_at hl 0 rfl) ?_
    refine gget E in_X11 hK hP (q_main ks ad r1) rfl (k := 2) (by decide) wd_1_147 rfl (v := .ref (ad 1 2)) rfl dX11_pairsWhenTold_18 ?_
    refine gget E in_X3 hK hP (qh_0 ks ad r1 (by decide : (2 : Nat) < 3)) rfl (k := 7) (by decide) wd_1_87 rfl (v := .ref (ad 7 2)) rfl dX11_pairsWhenTold_21 ?_
    refine lv_iload_n hx hb dX11_pairsWhenTold_24 rfl (lv_at hl 2 rfl) ?_
    refine lv_bipush (v := 60) hx hb dX11_pairsWhenTold_25 (by decide) ?_
    refine lv_aload_n hx hb dX11_pairsWhenTold_27 rfl (lv_at hl 0 rfl) ?_
    refine gget E in_X11 hK hP (q_main ks ad r1) rfl (k := 2) (by decide) wd_1_147 rfl (v := .ref (ad 1 2)) rfl dX11_pairsWhenTold_28 ?_
    refine gget E in_X3 hK hP (qh_0 ks ad r1 (by decide : (2 : Nat) < 3)) rfl (k := 7) (by decide) wd_1_87 rfl (v := .ref (ad 7 2)) rfl dX11_pairsWhenTold_31 ?_
    refine lv_iload_n hx hb dX11_pairsWhenTold_34 rfl (lv_at hl 2 rfl) ?_
    obtain ⟨c15, hf⟩ := ck_e hf
    refine giald E hK hP (qh_6 ks ad r1 (by decide : (2 : Nat) < 3)) c15 dX11_pairsWhenTold_35 ?_
    refine lv_iconst (v := 5) hx hb dX11_pairsWhenTold_36 (by decide) ?_
    refine lv_iadd hx hb dX11_pairsWhenTold_37 ?_
    refine gmin E hl.1 wd_3_115 wd_3_87 wd_1_15 wd_3_88 (Nat.le_of_ble_eq_true rfl) (Nat.le_of_ble_eq_true rfl) ⟨Nat.zero_le _, Nat.zero_le _⟩ dX11_pairsWhenTold_38 ?_
    obtain ⟨v16, ev16, hf⟩ := nmv_e hf
    refine lv_nmi ev16 ?_
    obtain ⟨c17, hf⟩ := ck_e hf
    obtain ⟨σ18, eσ18, hf⟩ := nmv_e hf
    refine giast E hK hP hD hS (qh_6 ks ad r1 (by decide : (2 : Nat) < 3)) c17 (σ' := σ18) (by rw [eσ18]; exact st_ha_6 ks ad r1 (by decide : (2 : Nat) < 3) _) dX11_pairsWhenTold_41 (fun H locs hP hD hS => ?_)
    refine lv_goto (tgt := 75) hx hb dX11_pairsWhenTold_42 (by decide) ?_
    exact hJ_75 _ _ _ hP hD hS hf _ (lv_sub hl [0, 1, 2, 3, 4] rfl)
noncomputable def fX11_telling_J83 (x8 : Int32) (rec_51 : Int32 → Int32 → Int32 → St → Option (Int32 × St)) (z12 : Int32) (z13 : Int32) (σ14 : St) : Option (Int32 × St) :=
  nmv (x8 + 1) fun v15 =>
  rec_51 z12 z13 v15 σ14
noncomputable def fX11_telling_L51B (a1 : Int32) (a2 : Int32) (a3 : Int32) (K_51 : Int32 → St → Option (Int32 × St)) (rec_51 : Int32 → Int32 → Int32 → St → Option (Int32 × St)) (x6 : Int32) (x7 : Int32) (x8 : Int32) (σ9 : St) : Option (Int32 × St) :=
  if 3 ≤ x8 then
  K_51 x6 σ9
  else
  bd (fX11_pairsWhenTold σ9 a1 a2 a3 x8) fun r11 =>
  if r11.1 ≤ x7 then
  fX11_telling_J83 x8 rec_51 x6 x7 r11.2
  else
  fX11_telling_J83 x8 rec_51 x8 r11.1 r11.2
noncomputable def fX11_telling_L51 (a1 : Int32) (a2 : Int32) (a3 : Int32) (K_51 : Int32 → St → Option (Int32 × St)) : Nat → Int32 → Int32 → Int32 → St → Option (Int32 × St)
  | 0 => fun _ _ _ _ => none
  | n + 1 => fX11_telling_L51B a1 a2 a3 K_51 (fX11_telling_L51 a1 a2 a3 K_51 n)
noncomputable def fX11_telling (σ : St) (a1 : Int32) (a2 : Int32) (a3 : Int32) (a4 : Int32) : Option (Int32 × St) :=
  bd (fX3_hasAll σ 0 a1 a2 a3) fun r1 =>
  if r1 = 0 then
  some ((-1), σ)
  else
  bd (fX11_isOut σ a4 0 3) fun r3 =>
  if r3 = 0 then
  if 3 ≤ a4 then
  fX11_telling_L51 a1 a2 a3 (fun y17 σ18 => some (y17, σ18)) FU (-4) 0 0 σ
  else
  bd (fX11_pairsWhenTold σ a1 a2 a3 a4) fun r19 =>
  some (r19.1, r19.2)
  else
  some ((-1), σ)
def rX11_telling : Room := { frames := 5, cells := 0, slots := 0, locals := 119 }
set_option maxHeartbeats 4000000 in
set_option maxRecDepth 100000 in
theorem cX11_tellingc {l : Launch} {dC : Nat → ClassId} {dI : Nat → Nat → Nat} {ks : Nat → ClassId} {ad : Nat → Nat → Nat} {σ : St} (a1 : Int32) (a2 : Int32) (a3 : Int32) (a4 : Int32)  {out : Int32 × St} (hf : fX11_telling σ a1 a2 a3 a4 = some out) : MWi l dC dI ks ad σ yX11_telling cX11_telling 9 (some .int) rX11_telling [.ref (ad 0 0), .int a1, .int a2, .int a3, .int a4] out := by
  intro sz
  refine met_w (Qc := fun A => va_Qi (fun r σ' => r = out.1 ∧ σ' = out.2) (gBw dC dI ks ad A) A) (own := RX11) (by decide) rfl (Nat.le_of_ble_eq_true rfl) ?_
  intro A p e s m args below meth c ls E hr hlk hA hP hD hS hK hl
  have hx := E.1
  have hb := E.2.1
  have hl : lv_has ls 9 [(0, .ref (ad 0 0)), (1, .int a1), (2, .int a2), (3, .int a3), (4, .int a4)] := hl
  unfold fX11_telling at hf
  refine lv_aload_n hx hb dX11_telling_0 rfl (lv_at hl 0 rfl) ?_
  refine gget E in_X11 hK hP (q_main ks ad σ) rfl (k := 0) (by decide) wd_1_145 rfl (v := .ref (ad 1 0)) rfl dX11_telling_1 ?_
  refine lv_iload_n hx hb dX11_telling_4 rfl (lv_at hl 1 rfl) ?_
  refine lv_iload_n hx hb dX11_telling_5 rfl (lv_at hl 2 rfl) ?_
  refine lv_iload_n hx hb dX11_telling_6 rfl (lv_at hl 3 rfl) ?_
  obtain ⟨r1, er1, hf⟩ := bd_e hf
  refine gVr_i E hK hP (cX3_hasAllc (by decide : (0 : Nat) < 3) _ _ _ er1) kV_X3_hasAll wd_2_86 rfl rfl (qh_0 ks ad σ (by decide : (0 : Nat) < 3)) rfl rfl rfl ⟨Nat.le_of_ble_eq_true rfl, Nat.le_of_ble_eq_true rfl⟩ ⟨Nat.zero_le _, Nat.zero_le _⟩ hl.1 (Nat.le_of_ble_eq_true rfl) rfl dX11_telling_7 ?_
  refine lv_if_eq (tgt := 23) hx hb dX11_telling_10 (by decide) (fun c2 => ?_) (fun c2 => ?_)
  · replace hf := pos_e c2 hf
    refine lv_iconst (v := -1) hx hb dX11_telling_23 (by decide) ?_
    exact gretw_i E hlk hP hD hS hr dX11_telling_24 (som_e hf)
  · replace hf := neg_e c2 hf
    refine lv_iload hx hb dX11_telling_13 (lv_at hl 4 rfl) ?_
    refine lv_iconst (v := 0) hx hb dX11_telling_15 (by decide) ?_
    refine lv_iconst (v := 3) hx hb dX11_telling_16 (by decide) ?_
    obtain ⟨r3, er3, hf⟩ := bd_e hf
    refine gSr_i E hK hP (cX11_isOutc _ _ _ er3) kS_X11_isOut wd_1_178 rfl rfl rfl ⟨Nat.le_of_ble_eq_true rfl, Nat.le_of_ble_eq_true rfl⟩ ⟨Nat.zero_le _, Nat.zero_le _⟩ hl.1 (Nat.le_of_ble_eq_true rfl) rfl dX11_telling_17 ?_
    refine lv_if_eq (tgt := 25) hx hb dX11_telling_20 (by decide) (fun c4 => ?_) (fun c4 => ?_)
    · replace hf := pos_e c4 hf
      refine lv_iload hx hb dX11_telling_25 (lv_at hl 4 rfl) ?_
      refine lv_iconst (v := 3) hx hb dX11_telling_27 (by decide) ?_
      refine lv_icmp_ge (tgt := 41) hx hb dX11_telling_28 (by decide) (fun c5 => ?_) (fun c5 => ?_)
      · replace hf := pos_e c5 hf
        refine lv_bipush (v := -4) hx hb dX11_telling_41 (by decide) ?_
        refine lv_istore (lv' := [(5, .int (-4)), (0, .ref (ad 0 0)), (1, .int a1), (2, .int a2), (3, .int a3), (4, .int a4)]) hx hb dX11_telling_43 hl (by decide) rfl (fun ls hl => ?_)
        refine lv_iconst (v := 0) hx hb dX11_telling_45 (by decide) ?_
        refine lv_istore (lv' := [(6, .int 0), (5, .int (-4)), (0, .ref (ad 0 0)), (1, .int a1), (2, .int a2), (3, .int a3), (4, .int a4)]) hx hb dX11_telling_46 hl (by decide) rfl (fun ls hl => ?_)
        refine lv_iconst (v := 0) hx hb dX11_telling_48 (by decide) ?_
        refine lv_istore (lv' := [(7, .int 0), (6, .int 0), (5, .int (-4)), (0, .ref (ad 0 0)), (1, .int a1), (2, .int a2), (3, .int a3), (4, .int a4)]) hx hb dX11_telling_49 hl (by decide) rfl (fun ls hl => ?_)
        have loop_51 : ∀ (K_51 : Int32 → St → Option (Int32 × St)) (hK_51 : (∀ (y17 : Int32) (σ18 : St) (H : Heap) (locs : List Loc) (hP : va_P (dC, dI) vwCl (wG ks ad σ18) H) (hD : va_D A (wG ks ad σ18)) (hS : va_S A s.heap H locs) (hf : K_51 y17 σ18 = some out) (ls : Array Slot), lv_has ls 9 [(5, .int y17)] → W p l e rX11_telling s m args below meth c H locs 0 0 (MQ below (va_Qi (fun r σ' => r = out.1 ∧ σ' = out.2) (gBw dC dI ks ad A) A) args s 0 0 A) (F0 m 89 ls []))) (n_51 : Nat) (x6 : Int32) (x7 : Int32) (x8 : Int32) (σ9 : St) (H : Heap) (locs : List Loc) (hP : va_P (dC, dI) vwCl (wG ks ad σ9) H) (hD : va_D A (wG ks ad σ9)) (hS : va_S A s.heap H locs) (hf : fX11_telling_L51 a1 a2 a3 K_51 n_51 x6 x7 x8 σ9 = some out) (ls : Array Slot), lv_has ls 9 [(0, .ref (ad 0 0)), (1, .int a1), (2, .int a2), (3, .int a3), (5, .int x6), (6, .int x7), (7, .int x8)] → W p l e rX11_telling s m args below meth c H locs 0 0 (MQ below (va_Qi (fun r σ' => r = out.1 ∧ σ' = out.2) (gBw dC dI ks ad A) A) args s 0 0 A) (F0 m 51 ls []) := by
          intro K_51 hK_51 n_51
          induction n_51 with
          | zero => intro x6 x7 x8 σ9 H locs hP hD hS hf; cases hf
          | succ n_51 ih_51 =>
            intro x6 x7 x8 σ9 H locs hP hD hS hf ls hl
            have hf : fX11_telling_L51B a1 a2 a3 K_51 (fX11_telling_L51 a1 a2 a3 K_51 n_51) x6 x7 x8 σ9 = some out := hf
            unfold fX11_telling_L51B at hf
            refine lv_iload hx hb dX11_telling_51 (lv_at hl 6 rfl) ?_
            refine lv_iconst (v := 3) hx hb dX11_telling_53 (by decide) ?_
            refine lv_icmp_ge (tgt := 89) hx hb dX11_telling_54 (by decide) (fun c10 => ?_) (fun c10 => ?_)
            · replace hf := pos_e c10 hf
              exact hK_51 _ _ _ _ hP hD hS hf _ (lv_sub hl [4] rfl)
            · replace hf := neg_e c10 hf
              refine lv_aload_n hx hb dX11_telling_57 rfl (lv_at hl 0 rfl) ?_
              refine lv_iload_n hx hb dX11_telling_58 rfl (lv_at hl 1 rfl) ?_
              refine lv_iload_n hx hb dX11_telling_59 rfl (lv_at hl 2 rfl) ?_
              refine lv_iload_n hx hb dX11_telling_60 rfl (lv_at hl 3 rfl) ?_
              refine lv_iload hx hb dX11_telling_61 (lv_at hl 6 rfl) ?_
              obtain ⟨r11, er11, hf⟩ := bd_e hf
              refine gVw_i E hK hP hD hS hA (cX11_pairsWhenToldc _ _ _ _ er11) kV_X11_pairsWhenTold wd_3_207 rfl rfl (q_main ks ad σ9) rfl rfl rfl ⟨Nat.le_of_ble_eq_true rfl, Nat.le_of_ble_eq_true rfl⟩ ⟨Nat.zero_le _, Nat.zero_le _⟩ hl.1 (Nat.le_of_ble_eq_true rfl) rfl dX11_telling_63 (fun H locs hP hD hS => ?_)
              refine lv_istore (lv' := [(8, .int r11.1), (0, .ref (ad 0 0)), (1, .int a1), (2, .int a2), (3, .int a3), (5, .int x6), (6, .int x7), (7, .int x8)]) hx hb dX11_telling_66 hl (by decide) rfl (fun ls hl => ?_)
              refine lv_iload hx hb dX11_telling_68 (lv_at hl 0 rfl) ?_
              refine lv_iload hx hb dX11_telling_70 (lv_at hl 6 rfl) ?_
              have hJ_83 : ∀ (z12 : Int32) (z13 : Int32) (σ14 : St) (H : Heap) (locs : List Loc) (hP : va_P (dC, dI) vwCl (wG ks ad σ14) H) (hD : va_D A (wG ks ad σ14)) (hS : va_S A s.heap H locs) (hf : fX11_telling_J83 x8 (fX11_telling_L51 a1 a2 a3 K_51 n_51) z12 z13 σ14 = some out) (ls : Array Slot), lv_has ls 9 [(0, .ref (ad 0 0)), (1, .int a1), (2, .int a2), (3, .int a3), (5, .int z12), (6, .int z13), (7, .int x8)] → W p l e rX11_telling s m args below meth c H locs 0 0 (MQ below (va_Qi (fun r σ' => r = out.1 ∧ σ' = out.2) (gBw dC dI ks ad A) A) args s 0 0 A) (F0 m 83 ls []) := by
                intro z12 z13 σ14 H locs hP hD hS hf ls hl
                unfold fX11_telling_J83 at hf
                obtain ⟨v15, ev15, hf⟩ := nmv_e hf
                refine lv_iinc (v := v15) (lv' := [(7, .int v15), (0, .ref (ad 0 0)), (1, .int a1), (2, .int a2), (3, .int a3), (5, .int z12), (6, .int z13)]) hx hb dX11_telling_83 hl (k := 6) rfl (by rw [ev15]; rfl) (by decide) rfl (fun ls hl => ?_)
                refine lv_goto (tgt := 51) hx hb dX11_telling_86 (by decide) ?_
                exact ih_51 _ _ _ _ _ _ hP hD hS hf _ (lv_sub hl [1, 2, 3, 4, 5, 6, 0] rfl)
              refine lv_icmp_le (tgt := 83) hx hb dX11_telling_72 (by decide) (fun c16 => ?_) (fun c16 => ?_)
              · replace hf := pos_e c16 hf
                exact hJ_83 _ _ _ _ _ hP hD hS hf _ (lv_sub hl [1, 2, 3, 4, 5, 6, 7] rfl)
              · replace hf := neg_e c16 hf
                refine lv_iload hx hb dX11_telling_75 (lv_at hl 0 rfl) ?_
                refine lv_istore (lv' := [(6, .int r11.1), (8, .int r11.1), (0, .ref (ad 0 0)), (1, .int a1), (2, .int a2), (3, .int a3), (5, .int x6), (7, .int x8)]) hx hb dX11_telling_77 hl (by decide) rfl (fun ls hl => ?_)
                refine lv_iload hx hb dX11_telling_79 (lv_at hl 7 rfl) ?_
                refine lv_istore (lv' := [(5, .int x8), (6, .int r11.1), (8, .int r11.1), (0, .ref (ad 0 0)), (1, .int a1), (2, .int a2), (3, .int a3), (7, .int x8)]) hx hb dX11_telling_81 hl (by decide) rfl (fun ls hl => ?_)
                exact hJ_83 _ _ _ _ _ hP hD hS hf _ (lv_sub hl [3, 4, 5, 6, 0, 1, 7] rfl)
        refine loop_51 _ (fun y17 σ18 H locs hP hD hS hf ls hl => ?_) _ _ _ _ _ _ _ hP hD hS hf _ (lv_sub hl [3, 4, 5, 6, 2, 1, 0] rfl)
        refine lv_iload hx hb dX11_telling_89 (lv_at hl 0 rfl) ?_
        exact gretw_i E hlk hP hD hS hr dX11_telling_91 (som_e hf)
      · replace hf := neg_e c5 hf
        refine lv_aload_n hx hb dX11_telling_31 rfl (lv_at hl 0 rfl) ?_
        refine lv_iload_n hx hb dX11_telling_32 rfl (lv_at hl 1 rfl) ?_
        refine lv_iload_n hx hb dX11_telling_33 rfl (lv_at hl 2 rfl) ?_
        refine lv_iload_n hx hb dX11_telling_34 rfl (lv_at hl 3 rfl) ?_
        refine lv_iload hx hb dX11_telling_35 (lv_at hl 4 rfl) ?_
        obtain ⟨r19, er19, hf⟩ := bd_e hf
        refine gVw_i E hK hP hD hS hA (cX11_pairsWhenToldc _ _ _ _ er19) kV_X11_pairsWhenTold wd_3_207 rfl rfl (q_main ks ad σ) rfl rfl rfl ⟨Nat.le_of_ble_eq_true rfl, Nat.le_of_ble_eq_true rfl⟩ ⟨Nat.zero_le _, Nat.zero_le _⟩ hl.1 (Nat.le_of_ble_eq_true rfl) rfl dX11_telling_37 (fun H locs hP hD hS => ?_)
        exact gretw_i E hlk hP hD hS hr dX11_telling_40 (som_e hf)
    · replace hf := neg_e c4 hf
      refine lv_iconst (v := -1) hx hb dX11_telling_23 (by decide) ?_
      exact gretw_i E hlk hP hD hS hr dX11_telling_24 (som_e hf)
noncomputable def fX11_pairsInGrip (σ : St) (a1 : Int32) : Option (Int32) :=
  ck (vp_in a1 4) <|
  some (((gI σ 6 0 a1.toNatClampNeg) + 1) * 61)
def rX11_pairsInGrip : Room := { frames := 0, cells := 0, slots := 0, locals := 0 }
set_option maxHeartbeats 4000000 in
set_option maxRecDepth 100000 in
theorem cX11_pairsInGripc {l : Launch} {dC : Nat → ClassId} {dI : Nat → Nat → Nat} {ks : Nat → ClassId} {ad : Nat → Nat → Nat} {σ : St} (a1 : Int32)  {out : Int32} (hf : fX11_pairsInGrip σ a1 = some out) : MRi l dC dI ks ad σ yX11_pairsInGrip cX11_pairsInGrip 2 (some .int) rX11_pairsInGrip [.ref (ad 0 0), .int a1] out := by
  refine met_r (own := RX11) (by decide) rfl (Nat.le_of_ble_eq_true rfl) ?_
  intro p e s m args below meth c ls E hr hlk hP hK hl
  have hx := E.1
  have hb := E.2.1
  have hl : lv_has ls 2 [(0, .ref (ad 0 0)), (1, .int a1)] := hl
  unfold fX11_pairsInGrip at hf
  refine lv_aload_n hx hb dX11_pairsInGrip_0 rfl (lv_at hl 0 rfl) ?_
  refine gget E in_X11 hK hP (q_main ks ad σ) rfl (k := 0) (by decide) wd_1_145 rfl (v := .ref (ad 1 0)) rfl dX11_pairsInGrip_1 ?_
  refine gget E in_X3 hK hP (qh_0 ks ad σ (by decide : (0 : Nat) < 3)) rfl (k := 7) (by decide) wd_1_87 rfl (v := .ref (ad 7 0)) rfl dX11_pairsInGrip_4 ?_
  refine lv_iload_n hx hb dX11_pairsInGrip_7 rfl (lv_at hl 1 rfl) ?_
  obtain ⟨c1, hf⟩ := ck_e hf
  refine giald E hK hP (qh_6 ks ad σ (by decide : (0 : Nat) < 3)) c1 dX11_pairsInGrip_8 ?_
  refine lv_iconst (v := 1) hx hb dX11_pairsInGrip_9 (by decide) ?_
  refine lv_iadd hx hb dX11_pairsInGrip_10 ?_
  refine lv_bipush (v := 61) hx hb dX11_pairsInGrip_11 (by decide) ?_
  refine lv_imul hx hb dX11_pairsInGrip_13 ?_
  exact gret_i E hr hlk dX11_pairsInGrip_14 (som_e hf).symm
noncomputable def fX11_odds (σ : St) (a1 : Int32) (a2 : Int32) (a3 : Int32) (a4 : Int32) : Option (Int64 × St) :=
  bd (fX3_hasAll σ 0 a1 a2 a3) fun r1 =>
  if r1 = 0 then
  some (1000000001, σ)
  else
  bd (fX11_isOut σ a4 0 1) fun r3 =>
  if r3 = 0 then
  bd (fX3_spanOf σ 0 a1 a2 a3) fun r5 =>
  bd (fX9_pairs r5 0) fun r6 =>
  bd (fX11_pairsInGrip r5 a2) fun r7 =>
  bd (fX11_inLeastTerms r5 r6.toInt64 r7.toInt64 a4) fun r8 =>
  some (r8, r5)
  else
  some (1000000001, σ)
def rX11_odds : Room := { frames := 4, cells := 0, slots := 0, locals := 94 }
set_option maxHeartbeats 4000000 in
set_option maxRecDepth 100000 in
theorem cX11_oddsc {l : Launch} {dC : Nat → ClassId} {dI : Nat → Nat → Nat} {ks : Nat → ClassId} {ad : Nat → Nat → Nat} {σ : St} (a1 : Int32) (a2 : Int32) (a3 : Int32) (a4 : Int32)  {out : Int64 × St} (hf : fX11_odds σ a1 a2 a3 a4 = some out) : MWl l dC dI ks ad σ yX11_odds cX11_odds 5 (some .long) rX11_odds [.ref (ad 0 0), .int a1, .int a2, .int a3, .int a4] out := by
  intro sz
  refine met_w (Qc := fun A => va_Ql (fun r σ' => r = out.1 ∧ σ' = out.2) (gBw dC dI ks ad A) A) (own := RX11) (by decide) rfl (Nat.le_of_ble_eq_true rfl) ?_
  intro A p e s m args below meth c ls E hr hlk hA hP hD hS hK hl
  have hx := E.1
  have hb := E.2.1
  have hl : lv_has ls 5 [(0, .ref (ad 0 0)), (1, .int a1), (2, .int a2), (3, .int a3), (4, .int a4)] := hl
  unfold fX11_odds at hf
  refine lv_aload_n hx hb dX11_odds_0 rfl (lv_at hl 0 rfl) ?_
  refine gget E in_X11 hK hP (q_main ks ad σ) rfl (k := 0) (by decide) wd_1_145 rfl (v := .ref (ad 1 0)) rfl dX11_odds_1 ?_
  refine lv_iload_n hx hb dX11_odds_4 rfl (lv_at hl 1 rfl) ?_
  refine lv_iload_n hx hb dX11_odds_5 rfl (lv_at hl 2 rfl) ?_
  refine lv_iload_n hx hb dX11_odds_6 rfl (lv_at hl 3 rfl) ?_
  obtain ⟨r1, er1, hf⟩ := bd_e hf
  refine gVr_i E hK hP (cX3_hasAllc (by decide : (0 : Nat) < 3) _ _ _ er1) kV_X3_hasAll wd_2_86 rfl rfl (qh_0 ks ad σ (by decide : (0 : Nat) < 3)) rfl rfl rfl ⟨Nat.le_of_ble_eq_true rfl, Nat.le_of_ble_eq_true rfl⟩ ⟨Nat.zero_le _, Nat.zero_le _⟩ hl.1 (Nat.le_of_ble_eq_true rfl) rfl dX11_odds_7 ?_
  refine lv_if_eq (tgt := 23) hx hb dX11_odds_10 (by decide) (fun c2 => ?_) (fun c2 => ?_)
  · replace hf := pos_e c2 hf
    refine lv_ldc2 (v := 1000000001) hx hb E.2.2.2.1 (E.2.2.2.2 _ wd_3_175) dX11_odds_23 ?_
    exact gretw_l E hlk hP hD hS hr dX11_odds_26 (som_e hf)
  · replace hf := neg_e c2 hf
    refine lv_iload hx hb dX11_odds_13 (lv_at hl 4 rfl) ?_
    refine lv_iconst (v := 0) hx hb dX11_odds_15 (by decide) ?_
    refine lv_iconst (v := 1) hx hb dX11_odds_16 (by decide) ?_
    obtain ⟨r3, er3, hf⟩ := bd_e hf
    refine gSr_i E hK hP (cX11_isOutc _ _ _ er3) kS_X11_isOut wd_1_178 rfl rfl rfl ⟨Nat.le_of_ble_eq_true rfl, Nat.le_of_ble_eq_true rfl⟩ ⟨Nat.zero_le _, Nat.zero_le _⟩ hl.1 (Nat.le_of_ble_eq_true rfl) rfl dX11_odds_17 ?_
    refine lv_if_eq (tgt := 27) hx hb dX11_odds_20 (by decide) (fun c4 => ?_) (fun c4 => ?_)
    · replace hf := pos_e c4 hf
      refine lv_aload_n hx hb dX11_odds_27 rfl (lv_at hl 0 rfl) ?_
      refine gget E in_X11 hK hP (q_main ks ad σ) rfl (k := 0) (by decide) wd_1_145 rfl (v := .ref (ad 1 0)) rfl dX11_odds_28 ?_
      refine lv_iload_n hx hb dX11_odds_31 rfl (lv_at hl 1 rfl) ?_
      refine lv_iload_n hx hb dX11_odds_32 rfl (lv_at hl 2 rfl) ?_
      refine lv_iload_n hx hb dX11_odds_33 rfl (lv_at hl 3 rfl) ?_
      obtain ⟨r5, er5, hf⟩ := bd_e hf
      refine gVw_f E hK hP hD hS hA (cX3_spanOfc (by decide : (0 : Nat) < 3) _ _ _ er5) kV_X3_spanOf wd_2_179 rfl rfl (qh_0 ks ad σ (by decide : (0 : Nat) < 3)) rfl rfl rfl ⟨Nat.le_of_ble_eq_true rfl, Nat.le_of_ble_eq_true rfl⟩ ⟨Nat.zero_le _, Nat.zero_le _⟩ hl.1 (Nat.le_of_ble_eq_true rfl) rfl dX11_odds_34 (fun H locs hP hD hS => ?_)
      obtain ⟨r6, er6, hf⟩ := bd_e hf
      refine gVr_i E hK hP (cX9_pairsc (by decide : (0 : Nat) < 3) er6) kV_X9_pairs wd_3_78 rfl rfl (qh_8 ks ad r5 (by decide : (0 : Nat) < 3)) rfl rfl rfl ⟨Nat.le_of_ble_eq_true rfl, Nat.le_of_ble_eq_true rfl⟩ ⟨Nat.zero_le _, Nat.zero_le _⟩ hl.1 (Nat.le_of_ble_eq_true rfl) rfl dX11_odds_37 ?_
      refine lv_i2l hx hb dX11_odds_40 rfl ?_
      refine lv_aload_n hx hb dX11_odds_41 rfl (lv_at hl 0 rfl) ?_
      refine lv_iload_n hx hb dX11_odds_42 rfl (lv_at hl 2 rfl) ?_
      obtain ⟨r7, er7, hf⟩ := bd_e hf
      refine gVr_i E hK hP (cX11_pairsInGripc _ er7) kV_X11_pairsInGrip wd_3_215 rfl rfl (q_main ks ad r5) rfl rfl rfl ⟨Nat.le_of_ble_eq_true rfl, Nat.le_of_ble_eq_true rfl⟩ ⟨Nat.zero_le _, Nat.zero_le _⟩ hl.1 (Nat.le_of_ble_eq_true rfl) rfl dX11_odds_43 ?_
      refine lv_i2l hx hb dX11_odds_46 rfl ?_
      refine lv_iload hx hb dX11_odds_47 (lv_at hl 4 rfl) ?_
      obtain ⟨r8, er8, hf⟩ := bd_e hf
      refine gSr_l E hK hP (cX11_inLeastTermsc _ _ _ er8) kS_X11_inLeastTerms wd_3_191 rfl rfl rfl ⟨Nat.le_of_ble_eq_true rfl, Nat.le_of_ble_eq_true rfl⟩ ⟨Nat.zero_le _, Nat.zero_le _⟩ hl.1 (Nat.le_of_ble_eq_true rfl) rfl dX11_odds_49 ?_
      exact gretw_l E hlk hP hD hS hr dX11_odds_52 (som_e hf)
    · replace hf := neg_e c4 hf
      refine lv_ldc2 (v := 1000000001) hx hb E.2.2.2.1 (E.2.2.2.2 _ wd_3_175) dX11_odds_23 ?_
      exact gretw_l E hlk hP hD hS hr dX11_odds_26 (som_e hf)
noncomputable def fX11_enough_L33B (a2 : Int32) (r4 : Int32) (K_33 : St → Option (Int32 × St)) (rec_33 : Int32 → St → Option (Int32 × St)) (x5 : Int32) (σ6 : St) : Option (Int32 × St) :=
  if 50 < x5 then
  K_33 σ6
  else
  bd (fX11_pairsInGrip σ6 a2) fun r8 =>
  if (x5 * r4) < r8 then
  nmv (x5 + 1) fun v10 =>
  rec_33 v10 σ6
  else
  some (x5, σ6)
noncomputable def fX11_enough_L33 (a2 : Int32) (r4 : Int32) (K_33 : St → Option (Int32 × St)) : Nat → Int32 → St → Option (Int32 × St)
  | 0 => fun _ _ => none
  | n + 1 => fX11_enough_L33B a2 r4 K_33 (fX11_enough_L33 a2 r4 K_33 n)
noncomputable def fX11_enough (σ : St) (a1 : Int32) (a2 : Int32) (a3 : Int32) : Option (Int32 × St) :=
  bd (fX3_hasAll σ 0 a1 a2 a3) fun r1 =>
  if r1 = 0 then
  some ((-1), σ)
  else
  bd (fX3_spanOf σ 0 a1 a2 a3) fun r3 =>
  bd (fX9_pairs r3 0) fun r4 =>
  fX11_enough_L33 a2 r4 (fun σ11 => some ((-4), σ11)) FU 1 r3
def rX11_enough : Room := { frames := 4, cells := 0, slots := 0, locals := 94 }
set_option maxHeartbeats 4000000 in
set_option maxRecDepth 100000 in
theorem cX11_enoughc {l : Launch} {dC : Nat → ClassId} {dI : Nat → Nat → Nat} {ks : Nat → ClassId} {ad : Nat → Nat → Nat} {σ : St} (a1 : Int32) (a2 : Int32) (a3 : Int32)  {out : Int32 × St} (hf : fX11_enough σ a1 a2 a3 = some out) : MWi l dC dI ks ad σ yX11_enough cX11_enough 6 (some .int) rX11_enough [.ref (ad 0 0), .int a1, .int a2, .int a3] out := by
  intro sz
  refine met_w (Qc := fun A => va_Qi (fun r σ' => r = out.1 ∧ σ' = out.2) (gBw dC dI ks ad A) A) (own := RX11) (by decide) rfl (Nat.le_of_ble_eq_true rfl) ?_
  intro A p e s m args below meth c ls E hr hlk hA hP hD hS hK hl
  have hx := E.1
  have hb := E.2.1
  have hl : lv_has ls 6 [(0, .ref (ad 0 0)), (1, .int a1), (2, .int a2), (3, .int a3)] := hl
  unfold fX11_enough at hf
  refine lv_aload_n hx hb dX11_enough_0 rfl (lv_at hl 0 rfl) ?_
  refine gget E in_X11 hK hP (q_main ks ad σ) rfl (k := 0) (by decide) wd_1_145 rfl (v := .ref (ad 1 0)) rfl dX11_enough_1 ?_
  refine lv_iload_n hx hb dX11_enough_4 rfl (lv_at hl 1 rfl) ?_
  refine lv_iload_n hx hb dX11_enough_5 rfl (lv_at hl 2 rfl) ?_
  refine lv_iload_n hx hb dX11_enough_6 rfl (lv_at hl 3 rfl) ?_
  obtain ⟨r1, er1, hf⟩ := bd_e hf
  refine gVr_i E hK hP (cX3_hasAllc (by decide : (0 : Nat) < 3) _ _ _ er1) kV_X3_hasAll wd_2_86 rfl rfl (qh_0 ks ad σ (by decide : (0 : Nat) < 3)) rfl rfl rfl ⟨Nat.le_of_ble_eq_true rfl, Nat.le_of_ble_eq_true rfl⟩ ⟨Nat.zero_le _, Nat.zero_le _⟩ hl.1 (Nat.le_of_ble_eq_true rfl) rfl dX11_enough_7 ?_
  refine lv_if_ne (tgt := 15) hx hb dX11_enough_10 (by decide) (fun c2 => ?_) (fun c2 => ?_)
  · replace hf := neg_e c2 hf
    refine lv_aload_n hx hb dX11_enough_15 rfl (lv_at hl 0 rfl) ?_
    refine gget E in_X11 hK hP (q_main ks ad σ) rfl (k := 0) (by decide) wd_1_145 rfl (v := .ref (ad 1 0)) rfl dX11_enough_16 ?_
    refine lv_iload_n hx hb dX11_enough_19 rfl (lv_at hl 1 rfl) ?_
    refine lv_iload_n hx hb dX11_enough_20 rfl (lv_at hl 2 rfl) ?_
    refine lv_iload_n hx hb dX11_enough_21 rfl (lv_at hl 3 rfl) ?_
    obtain ⟨r3, er3, hf⟩ := bd_e hf
    refine gVw_f E hK hP hD hS hA (cX3_spanOfc (by decide : (0 : Nat) < 3) _ _ _ er3) kV_X3_spanOf wd_2_179 rfl rfl (qh_0 ks ad σ (by decide : (0 : Nat) < 3)) rfl rfl rfl ⟨Nat.le_of_ble_eq_true rfl, Nat.le_of_ble_eq_true rfl⟩ ⟨Nat.zero_le _, Nat.zero_le _⟩ hl.1 (Nat.le_of_ble_eq_true rfl) rfl dX11_enough_22 (fun H locs hP hD hS => ?_)
    obtain ⟨r4, er4, hf⟩ := bd_e hf
    refine gVr_i E hK hP (cX9_pairsc (by decide : (0 : Nat) < 3) er4) kV_X9_pairs wd_3_78 rfl rfl (qh_8 ks ad r3 (by decide : (0 : Nat) < 3)) rfl rfl rfl ⟨Nat.le_of_ble_eq_true rfl, Nat.le_of_ble_eq_true rfl⟩ ⟨Nat.zero_le _, Nat.zero_le _⟩ hl.1 (Nat.le_of_ble_eq_true rfl) rfl dX11_enough_25 ?_
    refine lv_istore (lv' := [(4, .int r4), (0, .ref (ad 0 0)), (1, .int a1), (2, .int a2), (3, .int a3)]) hx hb dX11_enough_28 hl (by decide) rfl (fun ls hl => ?_)
    refine lv_iconst (v := 1) hx hb dX11_enough_30 (by decide) ?_
    refine lv_istore (lv' := [(5, .int 1), (4, .int r4), (0, .ref (ad 0 0)), (1, .int a1), (2, .int a2), (3, .int a3)]) hx hb dX11_enough_31 hl (by decide) rfl (fun ls hl => ?_)
    have loop_33 : ∀ (K_33 : St → Option (Int32 × St)) (hK_33 : (∀ (σ11 : St) (H : Heap) (locs : List Loc) (hP : va_P (dC, dI) vwCl (wG ks ad σ11) H) (hD : va_D A (wG ks ad σ11)) (hS : va_S A s.heap H locs) (hf : K_33 σ11 = some out) (ls : Array Slot), lv_has ls 6 [] → W p l e rX11_enough s m args below meth c H locs 0 0 (MQ below (va_Qi (fun r σ' => r = out.1 ∧ σ' = out.2) (gBw dC dI ks ad A) A) args s 0 0 A) (F0 m 62 ls []))) (n_33 : Nat) (x5 : Int32) (σ6 : St) (H : Heap) (locs : List Loc) (hP : va_P (dC, dI) vwCl (wG ks ad σ6) H) (hD : va_D A (wG ks ad σ6)) (hS : va_S A s.heap H locs) (hf : fX11_enough_L33 a2 r4 K_33 n_33 x5 σ6 = some out) (ls : Array Slot), lv_has ls 6 [(0, .ref (ad 0 0)), (2, .int a2), (4, .int r4), (5, .int x5)] → W p l e rX11_enough s m args below meth c H locs 0 0 (MQ below (va_Qi (fun r σ' => r = out.1 ∧ σ' = out.2) (gBw dC dI ks ad A) A) args s 0 0 A) (F0 m 33 ls []) := by
      intro K_33 hK_33 n_33
      induction n_33 with
      | zero => intro x5 σ6 H locs hP hD hS hf; cases hf
      | succ n_33 ih_33 =>
        intro x5 σ6 H locs hP hD hS hf ls hl
        have hf : fX11_enough_L33B a2 r4 K_33 (fX11_enough_L33 a2 r4 K_33 n_33) x5 σ6 = some out := hf
        unfold fX11_enough_L33B at hf
        refine lv_iload hx hb dX11_enough_33 (lv_at hl 3 rfl) ?_
        refine lv_bipush (v := 50) hx hb dX11_enough_35 (by decide) ?_
        refine lv_icmp_gt (tgt := 62) hx hb dX11_enough_37 (by decide) (fun c7 => ?_) (fun c7 => ?_)
        · replace hf := pos_e c7 hf
          exact hK_33 _ _ _ hP hD hS hf _ (lv_sub hl [] rfl)
        · replace hf := neg_e c7 hf
          refine lv_iload hx hb dX11_enough_40 (lv_at hl 3 rfl) ?_
          refine lv_iload hx hb dX11_enough_42 (lv_at hl 2 rfl) ?_
          refine lv_imul hx hb dX11_enough_44 ?_
          refine lv_aload_n hx hb dX11_enough_45 rfl (lv_at hl 0 rfl) ?_
          refine lv_iload_n hx hb dX11_enough_46 rfl (lv_at hl 1 rfl) ?_
          obtain ⟨r8, er8, hf⟩ := bd_e hf
          refine gVr_i E hK hP (cX11_pairsInGripc _ er8) kV_X11_pairsInGrip wd_3_215 rfl rfl (q_main ks ad σ6) rfl rfl rfl ⟨Nat.le_of_ble_eq_true rfl, Nat.le_of_ble_eq_true rfl⟩ ⟨Nat.zero_le _, Nat.zero_le _⟩ hl.1 (Nat.le_of_ble_eq_true rfl) rfl dX11_enough_47 ?_
          refine lv_icmp_lt (tgt := 56) hx hb dX11_enough_50 (by decide) (fun c9 => ?_) (fun c9 => ?_)
          · replace hf := pos_e c9 hf
            obtain ⟨v10, ev10, hf⟩ := nmv_e hf
            refine lv_iinc (v := v10) (lv' := [(5, .int v10), (0, .ref (ad 0 0)), (2, .int a2), (4, .int r4)]) hx hb dX11_enough_56 hl (k := 3) rfl (by rw [ev10]; rfl) (by decide) rfl (fun ls hl => ?_)
            refine lv_goto (tgt := 33) hx hb dX11_enough_59 (by decide) ?_
            exact ih_33 _ _ _ _ hP hD hS hf _ (lv_sub hl [1, 2, 3, 0] rfl)
          · replace hf := neg_e c9 hf
            refine lv_iload hx hb dX11_enough_53 (lv_at hl 3 rfl) ?_
            exact gretw_i E hlk hP hD hS hr dX11_enough_55 (som_e hf)
    refine loop_33 _ (fun σ11 H locs hP hD hS hf ls hl => ?_) _ _ _ _ _ hP hD hS hf _ (lv_sub hl [2, 4, 1, 0] rfl)
    refine lv_bipush (v := -4) hx hb dX11_enough_62 (by decide) ?_
    exact gretw_i E hlk hP hD hS hr dX11_enough_64 (som_e hf)
  · replace hf := pos_e c2 hf
    refine lv_iconst (v := -1) hx hb dX11_enough_13 (by decide) ?_
    exact gretw_i E hlk hP hD hS hr dX11_enough_14 (som_e hf)
noncomputable def fX11_rowRefusal (σ : St) (a1 : Int32) : Option (Int32) :=
  bd (fX11_isOut σ a1 0 7) fun r1 =>
  if r1 = 0 then
  ck (vp_in a1 8) <|
  bd (fX4_isEmpty σ a1.toNatClampNeg) fun r4 =>
  if r4 = 0 then
  ck (vp_in a1 8) <|
  if (gI σ 8 a1.toNatClampNeg 1) = 0 then
  some (-12)
  else
  some 0
  else
  some (-11)
  else
  some (-1)
def rX11_rowRefusal : Room := { frames := 1, cells := 0, slots := 0, locals := 22 }
set_option maxHeartbeats 4000000 in
set_option maxRecDepth 100000 in
theorem cX11_rowRefusalc {l : Launch} {dC : Nat → ClassId} {dI : Nat → Nat → Nat} {ks : Nat → ClassId} {ad : Nat → Nat → Nat} {σ : St} (a1 : Int32)  {out : Int32} (hf : fX11_rowRefusal σ a1 = some out) : MRi l dC dI ks ad σ yX11_rowRefusal cX11_rowRefusal 2 (some .int) rX11_rowRefusal [.ref (ad 0 0), .int a1] out := by
  refine met_r (own := RX11) (by decide) rfl (Nat.le_of_ble_eq_true rfl) ?_
  intro p e s m args below meth c ls E hr hlk hP hK hl
  have hx := E.1
  have hb := E.2.1
  have hl : lv_has ls 2 [(0, .ref (ad 0 0)), (1, .int a1)] := hl
  unfold fX11_rowRefusal at hf
  refine lv_iload_n hx hb dX11_rowRefusal_0 rfl (lv_at hl 1 rfl) ?_
  refine lv_iconst (v := 0) hx hb dX11_rowRefusal_1 (by decide) ?_
  refine lv_bipush (v := 7) hx hb dX11_rowRefusal_2 (by decide) ?_
  obtain ⟨r1, er1, hf⟩ := bd_e hf
  refine gSr_i E hK hP (cX11_isOutc _ _ _ er1) kS_X11_isOut wd_1_178 rfl rfl rfl ⟨Nat.le_of_ble_eq_true rfl, Nat.le_of_ble_eq_true rfl⟩ ⟨Nat.zero_le _, Nat.zero_le _⟩ hl.1 (Nat.le_of_ble_eq_true rfl) rfl dX11_rowRefusal_4 ?_
  refine lv_if_eq (tgt := 12) hx hb dX11_rowRefusal_7 (by decide) (fun c2 => ?_) (fun c2 => ?_)
  · replace hf := pos_e c2 hf
    refine lv_aload_n hx hb dX11_rowRefusal_12 rfl (lv_at hl 0 rfl) ?_
    refine gget E in_X11 hK hP (q_main ks ad σ) rfl (k := 4) (by decide) wd_1_149 rfl (v := .ref (ad 12 0)) rfl dX11_rowRefusal_13 ?_
    refine lv_iload_n hx hb dX11_rowRefusal_16 rfl (lv_at hl 1 rfl) ?_
    obtain ⟨c3, hf⟩ := ck_e hf
    refine gaaldS E hK hP c3 dX11_rowRefusal_17 ?_
    obtain ⟨r4, er4, hf⟩ := bd_e hf
    refine gVr_i E hK hP (cX4_isEmptyc (vp_lt c3) er4) kV_X4_isEmpty wd_1_181 rfl rfl (qs_0 ks ad σ (vp_lt c3)) rfl rfl rfl ⟨Nat.le_of_ble_eq_true rfl, Nat.le_of_ble_eq_true rfl⟩ ⟨Nat.zero_le _, Nat.zero_le _⟩ hl.1 (Nat.le_of_ble_eq_true rfl) rfl dX11_rowRefusal_18 ?_
    refine lv_if_eq (tgt := 27) hx hb dX11_rowRefusal_21 (by decide) (fun c5 => ?_) (fun c5 => ?_)
    · replace hf := pos_e c5 hf
      refine lv_aload_n hx hb dX11_rowRefusal_27 rfl (lv_at hl 0 rfl) ?_
      refine gget E in_X11 hK hP (q_main ks ad σ) rfl (k := 4) (by decide) wd_1_149 rfl (v := .ref (ad 12 0)) rfl dX11_rowRefusal_28 ?_
      refine lv_iload_n hx hb dX11_rowRefusal_31 rfl (lv_at hl 1 rfl) ?_
      obtain ⟨c6, hf⟩ := ck_e hf
      refine gaaldS E hK hP c6 dX11_rowRefusal_32 ?_
      refine gget E in_X4 hK hP (qs_0 ks ad σ (vp_lt c6)) rfl (k := 1) (by decide) wd_1_126 rfl (v := .int (gI σ 8 a1.toNatClampNeg 1)) rfl dX11_rowRefusal_33 ?_
      refine lv_if_eq (tgt := 43) hx hb dX11_rowRefusal_36 (by decide) (fun c7 => ?_) (fun c7 => ?_)
      · replace hf := pos_e c7 hf
        refine lv_bipush (v := -12) hx hb dX11_rowRefusal_43 (by decide) ?_
        exact gret_i E hr hlk dX11_rowRefusal_45 (som_e hf).symm
      · replace hf := neg_e c7 hf
        refine lv_iconst (v := 0) hx hb dX11_rowRefusal_39 (by decide) ?_
        refine lv_goto (tgt := 45) hx hb dX11_rowRefusal_40 (by decide) ?_
        exact gret_i E hr hlk dX11_rowRefusal_45 (som_e hf).symm
    · replace hf := neg_e c5 hf
      refine lv_bipush (v := -11) hx hb dX11_rowRefusal_24 (by decide) ?_
      exact gret_i E hr hlk dX11_rowRefusal_26 (som_e hf).symm
  · replace hf := neg_e c2 hf
    refine lv_iconst (v := -1) hx hb dX11_rowRefusal_10 (by decide) ?_
    exact gret_i E hr hlk dX11_rowRefusal_11 (som_e hf).symm
noncomputable def fX11_leastForceThatFits_L2B (σ : St) (a1 : Int32) (a2 : Int32) (K_2 : Option (Int32)) (rec_2 : Int32 → Option (Int32)) (x1 : Int32) : Option (Int32) :=
  if 60 < x1 then
  K_2
  else
  ck (vp_in a1 6) <|
  bd (gR σ 0 0 a1.toNatClampNeg) fun j4 =>
  ck (j4 < gS σ 2 0 ∧ okc (gS σ 1 j4)) <|
  bd (fvwearBy σ j4 x1) fun r5 =>
  if r5 = a2 then
  some x1
  else
  nmv (x1 + 1) fun v7 =>
  rec_2 v7
noncomputable def fX11_leastForceThatFits_L2 (σ : St) (a1 : Int32) (a2 : Int32) (K_2 : Option (Int32)) : Nat → Int32 → Option (Int32)
  | 0 => fun _ => none
  | n + 1 => fX11_leastForceThatFits_L2B σ a1 a2 K_2 (fX11_leastForceThatFits_L2 σ a1 a2 K_2 n)
noncomputable def fX11_leastForceThatFits (σ : St) (a1 : Int32) (a2 : Int32) : Option (Int32) :=
  fX11_leastForceThatFits_L2 σ a1 a2 (some (-4)) FU 0
def rX11_leastForceThatFits : Room := { frames := 3, cells := 0, slots := 0, locals := 63 }
set_option maxHeartbeats 4000000 in
set_option maxRecDepth 100000 in
theorem cX11_leastForceThatFitsc {l : Launch} {dC : Nat → ClassId} {dI : Nat → Nat → Nat} {ks : Nat → ClassId} {ad : Nat → Nat → Nat} {σ : St} (a1 : Int32) (a2 : Int32)  {out : Int32} (hf : fX11_leastForceThatFits σ a1 a2 = some out) : MRi l dC dI ks ad σ yX11_leastForceThatFits cX11_leastForceThatFits 4 (some .int) rX11_leastForceThatFits [.ref (ad 0 0), .int a1, .int a2] out := by
  refine met_r (own := RX11) (by decide) rfl (Nat.le_of_ble_eq_true rfl) ?_
  intro p e s m args below meth c ls E hr hlk hP hK hl
  have hx := E.1
  have hb := E.2.1
  have hl : lv_has ls 4 [(0, .ref (ad 0 0)), (1, .int a1), (2, .int a2)] := hl
  unfold fX11_leastForceThatFits at hf
  refine lv_iconst (v := 0) hx hb dX11_leastForceThatFits_0 (by decide) ?_
  refine lv_istore_n (lv' := [(3, .int 0), (0, .ref (ad 0 0)), (1, .int a1), (2, .int a2)]) hx hb dX11_leastForceThatFits_1 rfl hl (by decide) rfl (fun ls hl => ?_)
  have loop_2 : ∀ (K_2 : Option (Int32)) (hK_2 : (∀ (hf : K_2 = some out) (ls : Array Slot), lv_has ls 4 [] → W p l e rX11_leastForceThatFits s m args below meth c s.heap [] 0 0 (MQ below (vp_Si (fun r => r = out)) args s 0 0 (fun _ => False)) (F0 m 33 ls []))) (n_2 : Nat) (x1 : Int32) (hf : fX11_leastForceThatFits_L2 σ a1 a2 K_2 n_2 x1 = some out) (ls : Array Slot), lv_has ls 4 [(0, .ref (ad 0 0)), (1, .int a1), (2, .int a2), (3, .int x1)] → W p l e rX11_leastForceThatFits s m args below meth c s.heap [] 0 0 (MQ below (vp_Si (fun r => r = out)) args s 0 0 (fun _ => False)) (F0 m 2 ls []) := by
    intro K_2 hK_2 n_2
    induction n_2 with
    | zero => intro x1 hf; cases hf
    | succ n_2 ih_2 =>
      intro x1 hf ls hl
      have hf : fX11_leastForceThatFits_L2B σ a1 a2 K_2 (fX11_leastForceThatFits_L2 σ a1 a2 K_2 n_2) x1 = some out := hf
      unfold fX11_leastForceThatFits_L2B at hf
      refine lv_iload_n hx hb dX11_leastForceThatFits_2 rfl (lv_at hl 3 rfl) ?_
      refine lv_bipush (v := 60) hx hb dX11_leastForceThatFits_3 (by decide) ?_
      refine lv_icmp_gt (tgt := 33) hx hb dX11_leastForceThatFits_5 (by decide) (fun c2 => ?_) (fun c2 => ?_)
      · replace hf := pos_e c2 hf
        exact hK_2 hf _ (lv_sub hl [] rfl)
      · replace hf := neg_e c2 hf
        refine lv_aload_n hx hb dX11_leastForceThatFits_8 rfl (lv_at hl 0 rfl) ?_
        refine gget E in_X11 hK hP (q_main ks ad σ) rfl (k := 0) (by decide) wd_1_145 rfl (v := .ref (ad 1 0)) rfl dX11_leastForceThatFits_9 ?_
        refine gget E in_X3 hK hP (qh_0 ks ad σ (by decide : (0 : Nat) < 3)) rfl (k := 9) (by decide) wd_1_91 rfl (v := .ref (ad 8 0)) rfl dX11_leastForceThatFits_12 ?_
        refine lv_iload_n hx hb dX11_leastForceThatFits_15 rfl (lv_at hl 1 rfl) ?_
        obtain ⟨c3, hf⟩ := ck_e hf
        refine gaaldB (by decide : (0 : Nat) < 3) E hK hP c3 dX11_leastForceThatFits_16 ?_
        obtain ⟨j4, ej4, hf⟩ := bd_e hf
        obtain ⟨hj4, hf⟩ := ck_e hf
        refine lv_nmo ej4 ?_
        refine lv_iload_n hx hb dX11_leastForceThatFits_17 rfl (lv_at hl 3 rfl) ?_
        obtain ⟨r5, er5, hf⟩ := bd_e hf
        refine vwearBy E hK hP hj4 er5 wd_2_106 ⟨Nat.le_of_ble_eq_true rfl, Nat.le_of_ble_eq_true rfl⟩ ⟨Nat.zero_le _, Nat.zero_le _⟩ hl.1 (Nat.le_of_ble_eq_true rfl) rfl dX11_leastForceThatFits_18 ?_
        refine lv_iload_n hx hb dX11_leastForceThatFits_21 rfl (lv_at hl 2 rfl) ?_
        refine lv_icmp_ne (tgt := 27) hx hb dX11_leastForceThatFits_22 (by decide) (fun c6 => ?_) (fun c6 => ?_)
        · replace hf := neg_e c6 hf
          obtain ⟨v7, ev7, hf⟩ := nmv_e hf
          refine lv_iinc (v := v7) (lv' := [(3, .int v7), (0, .ref (ad 0 0)), (1, .int a1), (2, .int a2)]) hx hb dX11_leastForceThatFits_27 hl (k := 3) rfl (by rw [ev7]; rfl) (by decide) rfl (fun ls hl => ?_)
          refine lv_goto (tgt := 2) hx hb dX11_leastForceThatFits_30 (by decide) ?_
          exact ih_2 _ hf _ (lv_sub hl [1, 2, 3, 0] rfl)
        · replace hf := pos_e c6 hf
          refine lv_iload_n hx hb dX11_leastForceThatFits_25 rfl (lv_at hl 3 rfl) ?_
          exact gret_i E hr hlk dX11_leastForceThatFits_26 (som_e hf).symm
  refine loop_2 _ (fun hf ls hl => ?_) _ _ hf _ (lv_sub hl [1, 2, 3, 0] rfl)
  refine lv_bipush (v := -4) hx hb dX11_leastForceThatFits_33 (by decide) ?_
  exact gret_i E hr hlk dX11_leastForceThatFits_35 (som_e hf).symm
noncomputable def fX11_firstForged_L2B (σ : St) (a1 : Int32) (a2 : Nat) (K_2 : Option (Int32)) (rec_2 : Int32 → Option (Int32)) (x1 : Int32) : Option (Int32) :=
  if (gI σ 8 a2 3) ≤ x1 then
  K_2
  else
  ck (vp_in x1 100) <|
  bd (fX11_leastForceThatFits σ a1 (gI σ 9 a2 x1.toNatClampNeg)) fun r4 =>
  if 0 ≤ r4 then
  nmv (x1 + 1) fun v6 =>
  rec_2 v6
  else
  some x1
noncomputable def fX11_firstForged_L2 (σ : St) (a1 : Int32) (a2 : Nat) (K_2 : Option (Int32)) : Nat → Int32 → Option (Int32)
  | 0 => fun _ => none
  | n + 1 => fX11_firstForged_L2B σ a1 a2 K_2 (fX11_firstForged_L2 σ a1 a2 K_2 n)
noncomputable def fX11_firstForged (σ : St) (a1 : Int32) (a2 : Nat) : Option (Int32) :=
  fX11_firstForged_L2 σ a1 a2 (some (-4)) FU 0
def rX11_firstForged : Room := { frames := 4, cells := 0, slots := 0, locals := 86 }
set_option maxHeartbeats 4000000 in
set_option maxRecDepth 100000 in
theorem cX11_firstForgedc {l : Launch} {dC : Nat → ClassId} {dI : Nat → Nat → Nat} {ks : Nat → ClassId} {ad : Nat → Nat → Nat} {σ : St} (a1 : Int32) {a2 : Nat} (ha2 : a2 < 8) {out : Int32} (hf : fX11_firstForged σ a1 a2 = some out) : MRi l dC dI ks ad σ yX11_firstForged cX11_firstForged 4 (some .int) rX11_firstForged [.ref (ad 0 0), .int a1, .ref (ad 10 a2)] out := by
  refine met_r (own := RX11) (by decide) rfl (Nat.le_of_ble_eq_true rfl) ?_
  intro p e s m args below meth c ls E hr hlk hP hK hl
  have hx := E.1
  have hb := E.2.1
  have hl : lv_has ls 4 [(0, .ref (ad 0 0)), (1, .int a1), (2, .ref (ad 10 a2))] := hl
  unfold fX11_firstForged at hf
  refine lv_iconst (v := 0) hx hb dX11_firstForged_0 (by decide) ?_
  refine lv_istore_n (lv' := [(3, .int 0), (0, .ref (ad 0 0)), (1, .int a1), (2, .ref (ad 10 a2))]) hx hb dX11_firstForged_1 rfl hl (by decide) rfl (fun ls hl => ?_)
  have loop_2 : ∀ (K_2 : Option (Int32)) (hK_2 : (∀ (hf : K_2 = some out) (ls : Array Slot), lv_has ls 4 [] → W p l e rX11_firstForged s m args below meth c s.heap [] 0 0 (MQ below (vp_Si (fun r => r = out)) args s 0 0 (fun _ => False)) (F0 m 32 ls []))) (n_2 : Nat) (x1 : Int32) (hf : fX11_firstForged_L2 σ a1 a2 K_2 n_2 x1 = some out) (ls : Array Slot), lv_has ls 4 [(0, .ref (ad 0 0)), (1, .int a1), (2, .ref (ad 10 a2)), (3, .int x1)] → W p l e rX11_firstForged s m args below meth c s.heap [] 0 0 (MQ below (vp_Si (fun r => r = out)) args s 0 0 (fun _ => False)) (F0 m 2 ls []) := by
    intro K_2 hK_2 n_2
    induction n_2 with
    | zero => intro x1 hf; cases hf
    | succ n_2 ih_2 =>
      intro x1 hf ls hl
      have hf : fX11_firstForged_L2B σ a1 a2 K_2 (fX11_firstForged_L2 σ a1 a2 K_2 n_2) x1 = some out := hf
      unfold fX11_firstForged_L2B at hf
      refine lv_iload_n hx hb dX11_firstForged_2 rfl (lv_at hl 3 rfl) ?_
      refine lv_aload_n hx hb dX11_firstForged_3 rfl (lv_at hl 2 rfl) ?_
      refine gget E in_X4 hK hP (qs_0 ks ad σ ha2) rfl (k := 3) (by decide) wd_1_129 rfl (v := .int (gI σ 8 a2 3)) rfl dX11_firstForged_4 ?_
      refine lv_icmp_ge (tgt := 32) hx hb dX11_firstForged_7 (by decide) (fun c2 => ?_) (fun c2 => ?_)
      · replace hf := pos_e c2 hf
        exact hK_2 hf _ (lv_sub hl [] rfl)
      · replace hf := neg_e c2 hf
        refine lv_aload_n hx hb dX11_firstForged_10 rfl (lv_at hl 0 rfl) ?_
        refine lv_iload_n hx hb dX11_firstForged_11 rfl (lv_at hl 1 rfl) ?_
        refine lv_aload_n hx hb dX11_firstForged_12 rfl (lv_at hl 2 rfl) ?_
        refine gget E in_X4 hK hP (qs_0 ks ad σ ha2) rfl (k := 4) (by decide) wd_1_132 rfl (v := .ref (ad 11 a2)) rfl dX11_firstForged_13 ?_
        refine lv_iload_n hx hb dX11_firstForged_16 rfl (lv_at hl 3 rfl) ?_
        obtain ⟨c3, hf⟩ := ck_e hf
        refine giald E hK hP (qs_1 ks ad σ ha2) c3 dX11_firstForged_17 ?_
        obtain ⟨r4, er4, hf⟩ := bd_e hf
        refine gVr_i E hK hP (cX11_leastForceThatFitsc _ _ er4) kV_X11_leastForceThatFits wd_3_231 rfl rfl (q_main ks ad σ) rfl rfl rfl ⟨Nat.le_of_ble_eq_true rfl, Nat.le_of_ble_eq_true rfl⟩ ⟨Nat.zero_le _, Nat.zero_le _⟩ hl.1 (Nat.le_of_ble_eq_true rfl) rfl dX11_firstForged_18 ?_
        refine lv_if_ge (tgt := 26) hx hb dX11_firstForged_21 (by decide) (fun c5 => ?_) (fun c5 => ?_)
        · replace hf := pos_e c5 hf
          obtain ⟨v6, ev6, hf⟩ := nmv_e hf
          refine lv_iinc (v := v6) (lv' := [(3, .int v6), (0, .ref (ad 0 0)), (1, .int a1), (2, .ref (ad 10 a2))]) hx hb dX11_firstForged_26 hl (k := 3) rfl (by rw [ev6]; rfl) (by decide) rfl (fun ls hl => ?_)
          refine lv_goto (tgt := 2) hx hb dX11_firstForged_29 (by decide) ?_
          exact ih_2 _ hf _ (lv_sub hl [1, 2, 3, 0] rfl)
        · replace hf := neg_e c5 hf
          refine lv_iload_n hx hb dX11_firstForged_24 rfl (lv_at hl 3 rfl) ?_
          exact gret_i E hr hlk dX11_firstForged_25 (som_e hf).symm
  refine loop_2 _ (fun hf ls hl => ?_) _ _ hf _ (lv_sub hl [1, 2, 3, 0] rfl)
  refine lv_bipush (v := -4) hx hb dX11_firstForged_32 (by decide) ?_
  exact gret_i E hr hlk dX11_firstForged_34 (som_e hf).symm
noncomputable def fX11_forcesThatFit_J33 (x2 : Int32) (rec_5 : Int32 → Int32 → Option (Int32)) (z7 : Int32) : Option (Int32) :=
  nmv (x2 + 1) fun v8 =>
  rec_5 z7 v8
noncomputable def fX11_forcesThatFit_L5B (σ : St) (a1 : Int32) (a2 : Int32) (K_5 : Int32 → Option (Int32)) (rec_5 : Int32 → Int32 → Option (Int32)) (x1 : Int32) (x2 : Int32) : Option (Int32) :=
  if 60 < x2 then
  K_5 x1
  else
  ck (vp_in a1 6) <|
  bd (gR σ 0 0 a1.toNatClampNeg) fun j5 =>
  ck (j5 < gS σ 2 0 ∧ okc (gS σ 1 j5)) <|
  bd (fvwearBy σ j5 x2) fun r6 =>
  if r6 = a2 then
  nmv (x1 + 1) fun v10 =>
  fX11_forcesThatFit_J33 x2 rec_5 v10
  else
  fX11_forcesThatFit_J33 x2 rec_5 x1
noncomputable def fX11_forcesThatFit_L5 (σ : St) (a1 : Int32) (a2 : Int32) (K_5 : Int32 → Option (Int32)) : Nat → Int32 → Int32 → Option (Int32)
  | 0 => fun _ _ => none
  | n + 1 => fX11_forcesThatFit_L5B σ a1 a2 K_5 (fX11_forcesThatFit_L5 σ a1 a2 K_5 n)
noncomputable def fX11_forcesThatFit (σ : St) (a1 : Int32) (a2 : Int32) : Option (Int32) :=
  fX11_forcesThatFit_L5 σ a1 a2 (fun y11 => some y11) FU 0 0
def rX11_forcesThatFit : Room := { frames := 3, cells := 0, slots := 0, locals := 63 }
set_option maxHeartbeats 4000000 in
set_option maxRecDepth 100000 in
theorem cX11_forcesThatFitc {l : Launch} {dC : Nat → ClassId} {dI : Nat → Nat → Nat} {ks : Nat → ClassId} {ad : Nat → Nat → Nat} {σ : St} (a1 : Int32) (a2 : Int32)  {out : Int32} (hf : fX11_forcesThatFit σ a1 a2 = some out) : MRi l dC dI ks ad σ yX11_forcesThatFit cX11_forcesThatFit 5 (some .int) rX11_forcesThatFit [.ref (ad 0 0), .int a1, .int a2] out := by
  refine met_r (own := RX11) (by decide) rfl (Nat.le_of_ble_eq_true rfl) ?_
  intro p e s m args below meth c ls E hr hlk hP hK hl
  have hx := E.1
  have hb := E.2.1
  have hl : lv_has ls 5 [(0, .ref (ad 0 0)), (1, .int a1), (2, .int a2)] := hl
  unfold fX11_forcesThatFit at hf
  refine lv_iconst (v := 0) hx hb dX11_forcesThatFit_0 (by decide) ?_
  refine lv_istore_n (lv' := [(3, .int 0), (0, .ref (ad 0 0)), (1, .int a1), (2, .int a2)]) hx hb dX11_forcesThatFit_1 rfl hl (by decide) rfl (fun ls hl => ?_)
  refine lv_iconst (v := 0) hx hb dX11_forcesThatFit_2 (by decide) ?_
  refine lv_istore (lv' := [(4, .int 0), (3, .int 0), (0, .ref (ad 0 0)), (1, .int a1), (2, .int a2)]) hx hb dX11_forcesThatFit_3 hl (by decide) rfl (fun ls hl => ?_)
  have loop_5 : ∀ (K_5 : Int32 → Option (Int32)) (hK_5 : (∀ (y11 : Int32) (hf : K_5 y11 = some out) (ls : Array Slot), lv_has ls 5 [(3, .int y11)] → W p l e rX11_forcesThatFit s m args below meth c s.heap [] 0 0 (MQ below (vp_Si (fun r => r = out)) args s 0 0 (fun _ => False)) (F0 m 39 ls []))) (n_5 : Nat) (x1 : Int32) (x2 : Int32) (hf : fX11_forcesThatFit_L5 σ a1 a2 K_5 n_5 x1 x2 = some out) (ls : Array Slot), lv_has ls 5 [(0, .ref (ad 0 0)), (1, .int a1), (2, .int a2), (3, .int x1), (4, .int x2)] → W p l e rX11_forcesThatFit s m args below meth c s.heap [] 0 0 (MQ below (vp_Si (fun r => r = out)) args s 0 0 (fun _ => False)) (F0 m 5 ls []) := by
    intro K_5 hK_5 n_5
    induction n_5 with
    | zero => intro x1 x2 hf; cases hf
    | succ n_5 ih_5 =>
      intro x1 x2 hf ls hl
      have hf : fX11_forcesThatFit_L5B σ a1 a2 K_5 (fX11_forcesThatFit_L5 σ a1 a2 K_5 n_5) x1 x2 = some out := hf
      unfold fX11_forcesThatFit_L5B at hf
      refine lv_iload hx hb dX11_forcesThatFit_5 (lv_at hl 4 rfl) ?_
      refine lv_bipush (v := 60) hx hb dX11_forcesThatFit_7 (by decide) ?_
      refine lv_icmp_gt (tgt := 39) hx hb dX11_forcesThatFit_9 (by decide) (fun c3 => ?_) (fun c3 => ?_)
      · replace hf := pos_e c3 hf
        exact hK_5 _ hf _ (lv_sub hl [3] rfl)
      · replace hf := neg_e c3 hf
        refine lv_aload_n hx hb dX11_forcesThatFit_12 rfl (lv_at hl 0 rfl) ?_
        refine gget E in_X11 hK hP (q_main ks ad σ) rfl (k := 0) (by decide) wd_1_145 rfl (v := .ref (ad 1 0)) rfl dX11_forcesThatFit_13 ?_
        refine gget E in_X3 hK hP (qh_0 ks ad σ (by decide : (0 : Nat) < 3)) rfl (k := 9) (by decide) wd_1_91 rfl (v := .ref (ad 8 0)) rfl dX11_forcesThatFit_16 ?_
        refine lv_iload_n hx hb dX11_forcesThatFit_19 rfl (lv_at hl 1 rfl) ?_
        obtain ⟨c4, hf⟩ := ck_e hf
        refine gaaldB (by decide : (0 : Nat) < 3) E hK hP c4 dX11_forcesThatFit_20 ?_
        obtain ⟨j5, ej5, hf⟩ := bd_e hf
        obtain ⟨hj5, hf⟩ := ck_e hf
        refine lv_nmo ej5 ?_
        refine lv_iload hx hb dX11_forcesThatFit_21 (lv_at hl 4 rfl) ?_
        obtain ⟨r6, er6, hf⟩ := bd_e hf
        refine vwearBy E hK hP hj5 er6 wd_2_106 ⟨Nat.le_of_ble_eq_true rfl, Nat.le_of_ble_eq_true rfl⟩ ⟨Nat.zero_le _, Nat.zero_le _⟩ hl.1 (Nat.le_of_ble_eq_true rfl) rfl dX11_forcesThatFit_23 ?_
        refine lv_iload_n hx hb dX11_forcesThatFit_26 rfl (lv_at hl 2 rfl) ?_
        have hJ_33 : ∀ (z7 : Int32) (hf : fX11_forcesThatFit_J33 x2 (fX11_forcesThatFit_L5 σ a1 a2 K_5 n_5) z7 = some out) (ls : Array Slot), lv_has ls 5 [(0, .ref (ad 0 0)), (1, .int a1), (2, .int a2), (3, .int z7), (4, .int x2)] → W p l e rX11_forcesThatFit s m args below meth c s.heap [] 0 0 (MQ below (vp_Si (fun r => r = out)) args s 0 0 (fun _ => False)) (F0 m 33 ls []) := by
          intro z7 hf ls hl
          unfold fX11_forcesThatFit_J33 at hf
          obtain ⟨v8, ev8, hf⟩ := nmv_e hf
          refine lv_iinc (v := v8) (lv' := [(4, .int v8), (0, .ref (ad 0 0)), (1, .int a1), (2, .int a2), (3, .int z7)]) hx hb dX11_forcesThatFit_33 hl (k := 4) rfl (by rw [ev8]; rfl) (by decide) rfl (fun ls hl => ?_)
          refine lv_goto (tgt := 5) hx hb dX11_forcesThatFit_36 (by decide) ?_
          exact ih_5 _ _ hf _ (lv_sub hl [1, 2, 3, 4, 0] rfl)
        refine lv_icmp_ne (tgt := 33) hx hb dX11_forcesThatFit_27 (by decide) (fun c9 => ?_) (fun c9 => ?_)
        · replace hf := neg_e c9 hf
          exact hJ_33 _ hf _ (lv_sub hl [0, 1, 2, 3, 4] rfl)
        · replace hf := pos_e c9 hf
          obtain ⟨v10, ev10, hf⟩ := nmv_e hf
          refine lv_iinc (v := v10) (lv' := [(3, .int v10), (0, .ref (ad 0 0)), (1, .int a1), (2, .int a2), (4, .int x2)]) hx hb dX11_forcesThatFit_30 hl (k := 3) rfl (by rw [ev10]; rfl) (by decide) rfl (fun ls hl => ?_)
          exact hJ_33 _ hf _ (lv_sub hl [1, 2, 3, 0, 4] rfl)
  refine loop_5 _ (fun y11 hf ls hl => ?_) _ _ _ hf _ (lv_sub hl [2, 3, 4, 1, 0] rfl)
  refine lv_iload_n hx hb dX11_forcesThatFit_39 rfl (lv_at hl 0 rfl) ?_
  exact gret_i E hr hlk dX11_forcesThatFit_40 (som_e hf).symm
noncomputable def fX11_heap_J125 (x12 : Int32) (rec_95 : Int32 → Int32 → Option (Int32)) (z16 : Int32) : Option (Int32) :=
  nmv (x12 + 1) fun v17 =>
  rec_95 z16 v17
noncomputable def fX11_heap_L95B (σ : St) (a1 : Int32) (a2 : Int32) (K_95 : Int32 → Option (Int32)) (rec_95 : Int32 → Int32 → Option (Int32)) (x11 : Int32) (x12 : Int32) : Option (Int32) :=
  if (gI σ 8 a2.toNatClampNeg 3) ≤ x12 then
  K_95 x11
  else
  ck (vp_in x12 100) <|
  bd (fX11_forcesThatFit σ a1 (gI σ 9 a2.toNatClampNeg x12.toNatClampNeg)) fun r15 =>
  if r15 = 1 then
  nmv (x11 + 1) fun v19 =>
  fX11_heap_J125 x12 rec_95 v19
  else
  fX11_heap_J125 x12 rec_95 x11
noncomputable def fX11_heap_L95 (σ : St) (a1 : Int32) (a2 : Int32) (K_95 : Int32 → Option (Int32)) : Nat → Int32 → Int32 → Option (Int32)
  | 0 => fun _ _ => none
  | n + 1 => fX11_heap_L95B σ a1 a2 K_95 (fX11_heap_L95 σ a1 a2 K_95 n)
noncomputable def fX11_heap (σ : St) (a1 : Int32) (a2 : Int32) (a3 : Int32) : Option (Int32) :=
  bd (fX3_hasBlow σ 0 a1) fun r1 =>
  if r1 = 0 then
  some (-1)
  else
  bd (fX11_isOut σ a3 0 1) fun r3 =>
  if r3 = 0 then
  bd (fX11_rowRefusal σ a2) fun r5 =>
  if 0 ≤ r5 then
  ck (vp_in a2 8) <|
  bd (fX11_firstForged σ a1 a2.toNatClampNeg) fun r8 =>
  if r8 < 0 then
  if a3 = 1 then
  if (gI σ 8 a2.toNatClampNeg 3) = 0 then
  some (-4)
  else
  ck (vp_in 0 100) <|
  bd (fX11_leastForceThatFits σ a1 (gI σ 9 a2.toNatClampNeg (0 : Int32).toNatClampNeg)) fun r23 =>
  some r23
  else
  fX11_heap_L95 σ a1 a2 (fun y20 => some y20) FU 0 0
  else
  some (-4)
  else
  some r5
  else
  some (-1)
def rX11_heap : Room := { frames := 5, cells := 0, slots := 0, locals := 109 }
set_option maxHeartbeats 4000000 in
set_option maxRecDepth 100000 in
theorem cX11_heapc {l : Launch} {dC : Nat → ClassId} {dI : Nat → Nat → Nat} {ks : Nat → ClassId} {ad : Nat → Nat → Nat} {σ : St} (a1 : Int32) (a2 : Int32) (a3 : Int32)  {out : Int32} (hf : fX11_heap σ a1 a2 a3 = some out) : MRi l dC dI ks ad σ yX11_heap cX11_heap 8 (some .int) rX11_heap [.ref (ad 0 0), .int a1, .int a2, .int a3] out := by
  refine met_r (own := RX11) (by decide) rfl (Nat.le_of_ble_eq_true rfl) ?_
  intro p e s m args below meth c ls E hr hlk hP hK hl
  have hx := E.1
  have hb := E.2.1
  have hl : lv_has ls 8 [(0, .ref (ad 0 0)), (1, .int a1), (2, .int a2), (3, .int a3)] := hl
  unfold fX11_heap at hf
  refine lv_aload_n hx hb dX11_heap_0 rfl (lv_at hl 0 rfl) ?_
  refine gget E in_X11 hK hP (q_main ks ad σ) rfl (k := 0) (by decide) wd_1_145 rfl (v := .ref (ad 1 0)) rfl dX11_heap_1 ?_
  refine lv_iload_n hx hb dX11_heap_4 rfl (lv_at hl 1 rfl) ?_
  obtain ⟨r1, er1, hf⟩ := bd_e hf
  refine gVr_i E hK hP (cX3_hasBlowc (by decide : (0 : Nat) < 3) _ er1) kV_X3_hasBlow wd_2_154 rfl rfl (qh_0 ks ad σ (by decide : (0 : Nat) < 3)) rfl rfl rfl ⟨Nat.le_of_ble_eq_true rfl, Nat.le_of_ble_eq_true rfl⟩ ⟨Nat.zero_le _, Nat.zero_le _⟩ hl.1 (Nat.le_of_ble_eq_true rfl) rfl dX11_heap_5 ?_
  refine lv_if_eq (tgt := 20) hx hb dX11_heap_8 (by decide) (fun c2 => ?_) (fun c2 => ?_)
  · replace hf := pos_e c2 hf
    refine lv_iconst (v := -1) hx hb dX11_heap_20 (by decide) ?_
    exact gret_i E hr hlk dX11_heap_21 (som_e hf).symm
  · replace hf := neg_e c2 hf
    refine lv_iload_n hx hb dX11_heap_11 rfl (lv_at hl 3 rfl) ?_
    refine lv_iconst (v := 0) hx hb dX11_heap_12 (by decide) ?_
    refine lv_iconst (v := 1) hx hb dX11_heap_13 (by decide) ?_
    obtain ⟨r3, er3, hf⟩ := bd_e hf
    refine gSr_i E hK hP (cX11_isOutc _ _ _ er3) kS_X11_isOut wd_1_178 rfl rfl rfl ⟨Nat.le_of_ble_eq_true rfl, Nat.le_of_ble_eq_true rfl⟩ ⟨Nat.zero_le _, Nat.zero_le _⟩ hl.1 (Nat.le_of_ble_eq_true rfl) rfl dX11_heap_14 ?_
    refine lv_if_eq (tgt := 22) hx hb dX11_heap_17 (by decide) (fun c4 => ?_) (fun c4 => ?_)
    · replace hf := pos_e c4 hf
      refine lv_aload_n hx hb dX11_heap_22 rfl (lv_at hl 0 rfl) ?_
      refine lv_iload_n hx hb dX11_heap_23 rfl (lv_at hl 2 rfl) ?_
      obtain ⟨r5, er5, hf⟩ := bd_e hf
      refine gVr_i E hK hP (cX11_rowRefusalc _ er5) kV_X11_rowRefusal wd_1_174 rfl rfl (q_main ks ad σ) rfl rfl rfl ⟨Nat.le_of_ble_eq_true rfl, Nat.le_of_ble_eq_true rfl⟩ ⟨Nat.zero_le _, Nat.zero_le _⟩ hl.1 (Nat.le_of_ble_eq_true rfl) rfl dX11_heap_24 ?_
      refine lv_istore (lv' := [(4, .int r5), (0, .ref (ad 0 0)), (1, .int a1), (2, .int a2), (3, .int a3)]) hx hb dX11_heap_27 hl (by decide) rfl (fun ls hl => ?_)
      refine lv_iload hx hb dX11_heap_29 (lv_at hl 0 rfl) ?_
      refine lv_if_ge (tgt := 37) hx hb dX11_heap_31 (by decide) (fun c6 => ?_) (fun c6 => ?_)
      · replace hf := pos_e c6 hf
        refine lv_aload_n hx hb dX11_heap_37 rfl (lv_at hl 1 rfl) ?_
        refine gget E in_X11 hK hP (q_main ks ad σ) rfl (k := 4) (by decide) wd_1_149 rfl (v := .ref (ad 12 0)) rfl dX11_heap_38 ?_
        refine lv_iload_n hx hb dX11_heap_41 rfl (lv_at hl 3 rfl) ?_
        obtain ⟨c7, hf⟩ := ck_e hf
        refine gaaldS E hK hP c7 dX11_heap_42 ?_
        refine lv_astore (lv' := [(5, .ref (ad 10 a2.toNatClampNeg)), (4, .int r5), (0, .ref (ad 0 0)), (1, .int a1), (2, .int a2), (3, .int a3)]) hx hb dX11_heap_43 hl (by decide) rfl (fun ls hl => ?_)
        refine lv_aload_n hx hb dX11_heap_45 rfl (lv_at hl 2 rfl) ?_
        refine lv_iload_n hx hb dX11_heap_46 rfl (lv_at hl 3 rfl) ?_
        refine lv_aload hx hb dX11_heap_47 (lv_at hl 0 rfl) ?_
        obtain ⟨r8, er8, hf⟩ := bd_e hf
        refine gVr_i E hK hP (cX11_firstForgedc _ (vp_lt c7) er8) kV_X11_firstForged wd_3_227 rfl rfl (q_main ks ad σ) rfl rfl rfl ⟨Nat.le_of_ble_eq_true rfl, Nat.le_of_ble_eq_true rfl⟩ ⟨Nat.zero_le _, Nat.zero_le _⟩ hl.1 (Nat.le_of_ble_eq_true rfl) rfl dX11_heap_49 ?_
        refine lv_if_lt (tgt := 58) hx hb dX11_heap_52 (by decide) (fun c9 => ?_) (fun c9 => ?_)
        · replace hf := pos_e c9 hf
          refine lv_iload_n hx hb dX11_heap_58 rfl (lv_at hl 5 rfl) ?_
          refine lv_iconst (v := 1) hx hb dX11_heap_59 (by decide) ?_
          refine lv_icmp_ne (tgt := 89) hx hb dX11_heap_60 (by decide) (fun c10 => ?_) (fun c10 => ?_)
          · replace hf := neg_e c10 hf
            refine lv_iconst (v := 0) hx hb dX11_heap_89 (by decide) ?_
            refine lv_istore (lv' := [(6, .int 0), (5, .ref (ad 10 a2.toNatClampNeg)), (4, .int r5), (0, .ref (ad 0 0)), (1, .int a1), (2, .int a2), (3, .int a3)]) hx hb dX11_heap_90 hl (by decide) rfl (fun ls hl => ?_)
            refine lv_iconst (v := 0) hx hb dX11_heap_92 (by decide) ?_
            refine lv_istore (lv' := [(7, .int 0), (6, .int 0), (5, .ref (ad 10 a2.toNatClampNeg)), (4, .int r5), (0, .ref (ad 0 0)), (1, .int a1), (2, .int a2), (3, .int a3)]) hx hb dX11_heap_93 hl (by decide) rfl (fun ls hl => ?_)
            have loop_95 : ∀ (K_95 : Int32 → Option (Int32)) (hK_95 : (∀ (y20 : Int32) (hf : K_95 y20 = some out) (ls : Array Slot), lv_has ls 8 [(6, .int y20)] → W p l e rX11_heap s m args below meth c s.heap [] 0 0 (MQ below (vp_Si (fun r => r = out)) args s 0 0 (fun _ => False)) (F0 m 131 ls []))) (n_95 : Nat) (x11 : Int32) (x12 : Int32) (hf : fX11_heap_L95 σ a1 a2 K_95 n_95 x11 x12 = some out) (ls : Array Slot), lv_has ls 8 [(0, .ref (ad 0 0)), (1, .int a1), (5, .ref (ad 10 a2.toNatClampNeg)), (6, .int x11), (7, .int x12)] → W p l e rX11_heap s m args below meth c s.heap [] 0 0 (MQ below (vp_Si (fun r => r = out)) args s 0 0 (fun _ => False)) (F0 m 95 ls []) := by
              intro K_95 hK_95 n_95
              induction n_95 with
              | zero => intro x11 x12 hf; cases hf
              | succ n_95 ih_95 =>
                intro x11 x12 hf ls hl
                have hf : fX11_heap_L95B σ a1 a2 K_95 (fX11_heap_L95 σ a1 a2 K_95 n_95) x11 x12 = some out := hf
                unfold fX11_heap_L95B at hf
                refine lv_iload hx hb dX11_heap_95 (lv_at hl 4 rfl) ?_
                refine lv_aload hx hb dX11_heap_97 (lv_at hl 2 rfl) ?_
                refine gget E in_X4 hK hP (qs_0 ks ad σ (vp_lt c7)) rfl (k := 3) (by decide) wd_1_129 rfl (v := .int (gI σ 8 a2.toNatClampNeg 3)) rfl dX11_heap_99 ?_
                refine lv_icmp_ge (tgt := 131) hx hb dX11_heap_102 (by decide) (fun c13 => ?_) (fun c13 => ?_)
                · replace hf := pos_e c13 hf
                  exact hK_95 _ hf _ (lv_sub hl [3] rfl)
                · replace hf := neg_e c13 hf
                  refine lv_aload_n hx hb dX11_heap_105 rfl (lv_at hl 0 rfl) ?_
                  refine lv_iload_n hx hb dX11_heap_106 rfl (lv_at hl 1 rfl) ?_
                  refine lv_aload hx hb dX11_heap_107 (lv_at hl 2 rfl) ?_
                  refine gget E in_X4 hK hP (qs_0 ks ad σ (vp_lt c7)) rfl (k := 4) (by decide) wd_1_132 rfl (v := .ref (ad 11 a2.toNatClampNeg)) rfl dX11_heap_109 ?_
                  refine lv_iload hx hb dX11_heap_112 (lv_at hl 4 rfl) ?_
                  obtain ⟨c14, hf⟩ := ck_e hf
                  refine giald E hK hP (qs_1 ks ad σ (vp_lt c7)) c14 dX11_heap_114 ?_
                  obtain ⟨r15, er15, hf⟩ := bd_e hf
                  refine gVr_i E hK hP (cX11_forcesThatFitc _ _ er15) kV_X11_forcesThatFit wd_3_235 rfl rfl (q_main ks ad σ) rfl rfl rfl ⟨Nat.le_of_ble_eq_true rfl, Nat.le_of_ble_eq_true rfl⟩ ⟨Nat.zero_le _, Nat.zero_le _⟩ hl.1 (Nat.le_of_ble_eq_true rfl) rfl dX11_heap_115 ?_
                  refine lv_iconst (v := 1) hx hb dX11_heap_118 (by decide) ?_
                  have hJ_125 : ∀ (z16 : Int32) (hf : fX11_heap_J125 x12 (fX11_heap_L95 σ a1 a2 K_95 n_95) z16 = some out) (ls : Array Slot), lv_has ls 8 [(0, .ref (ad 0 0)), (1, .int a1), (5, .ref (ad 10 a2.toNatClampNeg)), (6, .int z16), (7, .int x12)] → W p l e rX11_heap s m args below meth c s.heap [] 0 0 (MQ below (vp_Si (fun r => r = out)) args s 0 0 (fun _ => False)) (F0 m 125 ls []) := by
                    intro z16 hf ls hl
                    unfold fX11_heap_J125 at hf
                    obtain ⟨v17, ev17, hf⟩ := nmv_e hf
                    refine lv_iinc (v := v17) (lv' := [(7, .int v17), (0, .ref (ad 0 0)), (1, .int a1), (5, .ref (ad 10 a2.toNatClampNeg)), (6, .int z16)]) hx hb dX11_heap_125 hl (k := 4) rfl (by rw [ev17]; rfl) (by decide) rfl (fun ls hl => ?_)
                    refine lv_goto (tgt := 95) hx hb dX11_heap_128 (by decide) ?_
                    exact ih_95 _ _ hf _ (lv_sub hl [1, 2, 3, 4, 0] rfl)
                  refine lv_icmp_ne (tgt := 125) hx hb dX11_heap_119 (by decide) (fun c18 => ?_) (fun c18 => ?_)
                  · replace hf := neg_e c18 hf
                    exact hJ_125 _ hf _ (lv_sub hl [0, 1, 2, 3, 4] rfl)
                  · replace hf := pos_e c18 hf
                    obtain ⟨v19, ev19, hf⟩ := nmv_e hf
                    refine lv_iinc (v := v19) (lv' := [(6, .int v19), (0, .ref (ad 0 0)), (1, .int a1), (5, .ref (ad 10 a2.toNatClampNeg)), (7, .int x12)]) hx hb dX11_heap_122 hl (k := 3) rfl (by rw [ev19]; rfl) (by decide) rfl (fun ls hl => ?_)
                    exact hJ_125 _ hf _ (lv_sub hl [1, 2, 3, 0, 4] rfl)
            refine loop_95 _ (fun y20 hf ls hl => ?_) _ _ _ hf _ (lv_sub hl [4, 5, 2, 1, 0] rfl)
            refine lv_iload hx hb dX11_heap_131 (lv_at hl 0 rfl) ?_
            exact gret_i E hr hlk dX11_heap_133 (som_e hf).symm
          · replace hf := pos_e c10 hf
            refine lv_aload hx hb dX11_heap_63 (lv_at hl 0 rfl) ?_
            refine gget E in_X4 hK hP (qs_0 ks ad σ (vp_lt c7)) rfl (k := 3) (by decide) wd_1_129 rfl (v := .int (gI σ 8 a2.toNatClampNeg 3)) rfl dX11_heap_65 ?_
            refine lv_if_ne (tgt := 76) hx hb dX11_heap_68 (by decide) (fun c21 => ?_) (fun c21 => ?_)
            · replace hf := neg_e c21 hf
              refine lv_aload_n hx hb dX11_heap_76 rfl (lv_at hl 2 rfl) ?_
              refine lv_iload_n hx hb dX11_heap_77 rfl (lv_at hl 3 rfl) ?_
              refine lv_aload hx hb dX11_heap_78 (lv_at hl 0 rfl) ?_
              refine gget E in_X4 hK hP (qs_0 ks ad σ (vp_lt c7)) rfl (k := 4) (by decide) wd_1_132 rfl (v := .ref (ad 11 a2.toNatClampNeg)) rfl dX11_heap_80 ?_
              refine lv_iconst (v := 0) hx hb dX11_heap_83 (by decide) ?_
              obtain ⟨c22, hf⟩ := ck_e hf
              refine giald E hK hP (qs_1 ks ad σ (vp_lt c7)) c22 dX11_heap_84 ?_
              obtain ⟨r23, er23, hf⟩ := bd_e hf
              refine gVr_i E hK hP (cX11_leastForceThatFitsc _ _ er23) kV_X11_leastForceThatFits wd_3_231 rfl rfl (q_main ks ad σ) rfl rfl rfl ⟨Nat.le_of_ble_eq_true rfl, Nat.le_of_ble_eq_true rfl⟩ ⟨Nat.zero_le _, Nat.zero_le _⟩ hl.1 (Nat.le_of_ble_eq_true rfl) rfl dX11_heap_85 ?_
              exact gret_i E hr hlk dX11_heap_88 (som_e hf).symm
            · replace hf := pos_e c21 hf
              refine lv_bipush (v := -4) hx hb dX11_heap_71 (by decide) ?_
              refine lv_goto (tgt := 88) hx hb dX11_heap_73 (by decide) ?_
              exact gret_i E hr hlk dX11_heap_88 (som_e hf).symm
        · replace hf := neg_e c9 hf
          refine lv_bipush (v := -4) hx hb dX11_heap_55 (by decide) ?_
          exact gret_i E hr hlk dX11_heap_57 (som_e hf).symm
      · replace hf := neg_e c6 hf
        refine lv_iload hx hb dX11_heap_34 (lv_at hl 0 rfl) ?_
        exact gret_i E hr hlk dX11_heap_36 (som_e hf).symm
    · replace hf := neg_e c4 hf
      refine lv_iconst (v := -1) hx hb dX11_heap_20 (by decide) ?_
      exact gret_i E hr hlk dX11_heap_21 (som_e hf).symm
noncomputable def fX11_forged (σ : St) (a1 : Int32) (a2 : Int32) : Option (Int32) :=
  bd (fX3_hasBlow σ 0 a1) fun r1 =>
  if r1 = 0 then
  some (-1)
  else
  bd (fX11_rowRefusal σ a2) fun r3 =>
  if 0 ≤ r3 then
  ck (vp_in a2 8) <|
  bd (fX11_firstForged σ a1 a2.toNatClampNeg) fun r6 =>
  some r6
  else
  some r3
def rX11_forged : Room := { frames := 5, cells := 0, slots := 0, locals := 109 }
set_option maxHeartbeats 4000000 in
set_option maxRecDepth 100000 in
theorem cX11_forgedc {l : Launch} {dC : Nat → ClassId} {dI : Nat → Nat → Nat} {ks : Nat → ClassId} {ad : Nat → Nat → Nat} {σ : St} (a1 : Int32) (a2 : Int32)  {out : Int32} (hf : fX11_forged σ a1 a2 = some out) : MRi l dC dI ks ad σ yX11_forged cX11_forged 4 (some .int) rX11_forged [.ref (ad 0 0), .int a1, .int a2] out := by
  refine met_r (own := RX11) (by decide) rfl (Nat.le_of_ble_eq_true rfl) ?_
  intro p e s m args below meth c ls E hr hlk hP hK hl
  have hx := E.1
  have hb := E.2.1
  have hl : lv_has ls 4 [(0, .ref (ad 0 0)), (1, .int a1), (2, .int a2)] := hl
  unfold fX11_forged at hf
  refine lv_aload_n hx hb dX11_forged_0 rfl (lv_at hl 0 rfl) ?_
  refine gget E in_X11 hK hP (q_main ks ad σ) rfl (k := 0) (by decide) wd_1_145 rfl (v := .ref (ad 1 0)) rfl dX11_forged_1 ?_
  refine lv_iload_n hx hb dX11_forged_4 rfl (lv_at hl 1 rfl) ?_
  obtain ⟨r1, er1, hf⟩ := bd_e hf
  refine gVr_i E hK hP (cX3_hasBlowc (by decide : (0 : Nat) < 3) _ er1) kV_X3_hasBlow wd_2_154 rfl rfl (qh_0 ks ad σ (by decide : (0 : Nat) < 3)) rfl rfl rfl ⟨Nat.le_of_ble_eq_true rfl, Nat.le_of_ble_eq_true rfl⟩ ⟨Nat.zero_le _, Nat.zero_le _⟩ hl.1 (Nat.le_of_ble_eq_true rfl) rfl dX11_forged_5 ?_
  refine lv_if_ne (tgt := 13) hx hb dX11_forged_8 (by decide) (fun c2 => ?_) (fun c2 => ?_)
  · replace hf := neg_e c2 hf
    refine lv_aload_n hx hb dX11_forged_13 rfl (lv_at hl 0 rfl) ?_
    refine lv_iload_n hx hb dX11_forged_14 rfl (lv_at hl 2 rfl) ?_
    obtain ⟨r3, er3, hf⟩ := bd_e hf
    refine gVr_i E hK hP (cX11_rowRefusalc _ er3) kV_X11_rowRefusal wd_1_174 rfl rfl (q_main ks ad σ) rfl rfl rfl ⟨Nat.le_of_ble_eq_true rfl, Nat.le_of_ble_eq_true rfl⟩ ⟨Nat.zero_le _, Nat.zero_le _⟩ hl.1 (Nat.le_of_ble_eq_true rfl) rfl dX11_forged_15 ?_
    refine lv_istore_n (lv' := [(3, .int r3), (0, .ref (ad 0 0)), (1, .int a1), (2, .int a2)]) hx hb dX11_forged_18 rfl hl (by decide) rfl (fun ls hl => ?_)
    refine lv_iload_n hx hb dX11_forged_19 rfl (lv_at hl 0 rfl) ?_
    refine lv_if_ge (tgt := 27) hx hb dX11_forged_20 (by decide) (fun c4 => ?_) (fun c4 => ?_)
    · replace hf := pos_e c4 hf
      refine lv_aload_n hx hb dX11_forged_27 rfl (lv_at hl 1 rfl) ?_
      refine lv_iload_n hx hb dX11_forged_28 rfl (lv_at hl 2 rfl) ?_
      refine lv_aload_n hx hb dX11_forged_29 rfl (lv_at hl 1 rfl) ?_
      refine gget E in_X11 hK hP (q_main ks ad σ) rfl (k := 4) (by decide) wd_1_149 rfl (v := .ref (ad 12 0)) rfl dX11_forged_30 ?_
      refine lv_iload_n hx hb dX11_forged_33 rfl (lv_at hl 3 rfl) ?_
      obtain ⟨c5, hf⟩ := ck_e hf
      refine gaaldS E hK hP c5 dX11_forged_34 ?_
      obtain ⟨r6, er6, hf⟩ := bd_e hf
      refine gVr_i E hK hP (cX11_firstForgedc _ (vp_lt c5) er6) kV_X11_firstForged wd_3_227 rfl rfl (q_main ks ad σ) rfl rfl rfl ⟨Nat.le_of_ble_eq_true rfl, Nat.le_of_ble_eq_true rfl⟩ ⟨Nat.zero_le _, Nat.zero_le _⟩ hl.1 (Nat.le_of_ble_eq_true rfl) rfl dX11_forged_35 ?_
      exact gret_i E hr hlk dX11_forged_38 (som_e hf).symm
    · replace hf := neg_e c4 hf
      refine lv_iload_n hx hb dX11_forged_23 rfl (lv_at hl 0 rfl) ?_
      refine lv_goto (tgt := 38) hx hb dX11_forged_24 (by decide) ?_
      exact gret_i E hr hlk dX11_forged_38 (som_e hf).symm
  · replace hf := pos_e c2 hf
    refine lv_iconst (v := -1) hx hb dX11_forged_11 (by decide) ?_
    exact gret_i E hr hlk dX11_forged_12 (som_e hf).symm
noncomputable def fX4_hasPlace (σ : St) (d : Nat) (a1 : Int32) : Option (Int32) :=
  if a1 < 0 then
  some 0
  else
  if (gI σ 8 d 3) ≤ a1 then
  some 0
  else
  some 1
def rX4_hasPlace : Room := { frames := 0, cells := 0, slots := 0, locals := 0 }
set_option maxHeartbeats 4000000 in
set_option maxRecDepth 100000 in
theorem cX4_hasPlacec {l : Launch} {dC : Nat → ClassId} {dI : Nat → Nat → Nat} {ks : Nat → ClassId} {ad : Nat → Nat → Nat} {σ : St} {d : Nat} (hd : d < 8) (a1 : Int32)  {out : Int32} (hf : fX4_hasPlace σ d a1 = some out) : MRi l dC dI ks ad σ yX4_hasPlace cX4_hasPlace 2 (some .boolean) rX4_hasPlace [.ref (ad 10 d), .int a1] out := by
  refine met_r (own := RX4) (by decide) rfl (Nat.le_of_ble_eq_true rfl) ?_
  intro p e s m args below meth c ls E hr hlk hP hK hl
  have hx := E.1
  have hb := E.2.1
  have hl : lv_has ls 2 [(0, .ref (ad 10 d)), (1, .int a1)] := hl
  unfold fX4_hasPlace at hf
  refine lv_iload_n hx hb dX4_hasPlace_0 rfl (lv_at hl 1 rfl) ?_
  refine lv_if_lt (tgt := 16) hx hb dX4_hasPlace_1 (by decide) (fun c1 => ?_) (fun c1 => ?_)
  · replace hf := pos_e c1 hf
    refine lv_iconst (v := 0) hx hb dX4_hasPlace_16 (by decide) ?_
    exact gret_z rfl E hr hlk dX4_hasPlace_17 (som_e hf).symm
  · replace hf := neg_e c1 hf
    refine lv_iload_n hx hb dX4_hasPlace_4 rfl (lv_at hl 1 rfl) ?_
    refine lv_aload_n hx hb dX4_hasPlace_5 rfl (lv_at hl 0 rfl) ?_
    refine gget E in_X4 hK hP (qs_0 ks ad σ hd) rfl (k := 3) (by decide) wd_1_130 rfl (v := .int (gI σ 8 d 3)) rfl dX4_hasPlace_6 ?_
    refine lv_icmp_ge (tgt := 16) hx hb dX4_hasPlace_9 (by decide) (fun c2 => ?_) (fun c2 => ?_)
    · replace hf := pos_e c2 hf
      refine lv_iconst (v := 0) hx hb dX4_hasPlace_16 (by decide) ?_
      exact gret_z rfl E hr hlk dX4_hasPlace_17 (som_e hf).symm
    · replace hf := neg_e c2 hf
      refine lv_iconst (v := 1) hx hb dX4_hasPlace_12 (by decide) ?_
      refine lv_goto (tgt := 17) hx hb dX4_hasPlace_13 (by decide) ?_
      exact gret_z rfl E hr hlk dX4_hasPlace_17 (som_e hf).symm
noncomputable def fX11_remainder (σ : St) (a1 : Int32) (a2 : Int32) (a3 : Int32) : Option (Int32) :=
  bd (fX11_rowRefusal σ a1) fun r1 =>
  if 0 ≤ r1 then
  ck (vp_in a1 8) <|
  bd (fX4_hasPlace σ a1.toNatClampNeg a2) fun r4 =>
  if r4 = 0 then
  some 1000000013
  else
  bd (fX4_hasPlace σ a1.toNatClampNeg a3) fun r6 =>
  if r6 = 0 then
  some 1000000013
  else
  ck (vp_in a3 100) <|
  nmv (gI σ 9 a1.toNatClampNeg a3.toNatClampNeg) fun v9 =>
  if v9 = 0 then
  some 1000000016
  else
  ck (vp_in a2 100) <|
  ck (¬ v9 = 0) <|
  some ((gI σ 9 a1.toNatClampNeg a2.toNatClampNeg) - (gI σ 9 a1.toNatClampNeg a2.toNatClampNeg) / v9 * v9)
  else
  some (1000000000 - r1)
def rX11_remainder : Room := { frames := 2, cells := 0, slots := 0, locals := 43 }
set_option maxHeartbeats 4000000 in
set_option maxRecDepth 100000 in
theorem cX11_remainderc {l : Launch} {dC : Nat → ClassId} {dI : Nat → Nat → Nat} {ks : Nat → ClassId} {ad : Nat → Nat → Nat} {σ : St} (a1 : Int32) (a2 : Int32) (a3 : Int32)  {out : Int32} (hf : fX11_remainder σ a1 a2 a3 = some out) : MRi l dC dI ks ad σ yX11_remainder cX11_remainder 7 (some .int) rX11_remainder [.ref (ad 0 0), .int a1, .int a2, .int a3] out := by
  refine met_r (own := RX11) (by decide) rfl (Nat.le_of_ble_eq_true rfl) ?_
  intro p e s m args below meth c ls E hr hlk hP hK hl
  have hx := E.1
  have hb := E.2.1
  have hl : lv_has ls 7 [(0, .ref (ad 0 0)), (1, .int a1), (2, .int a2), (3, .int a3)] := hl
  unfold fX11_remainder at hf
  refine lv_aload_n hx hb dX11_remainder_0 rfl (lv_at hl 0 rfl) ?_
  refine lv_iload_n hx hb dX11_remainder_1 rfl (lv_at hl 1 rfl) ?_
  obtain ⟨r1, er1, hf⟩ := bd_e hf
  refine gVr_i E hK hP (cX11_rowRefusalc _ er1) kV_X11_rowRefusal wd_1_174 rfl rfl (q_main ks ad σ) rfl rfl rfl ⟨Nat.le_of_ble_eq_true rfl, Nat.le_of_ble_eq_true rfl⟩ ⟨Nat.zero_le _, Nat.zero_le _⟩ hl.1 (Nat.le_of_ble_eq_true rfl) rfl dX11_remainder_2 ?_
  refine lv_istore (lv' := [(4, .int r1), (0, .ref (ad 0 0)), (1, .int a1), (2, .int a2), (3, .int a3)]) hx hb dX11_remainder_5 hl (by decide) rfl (fun ls hl => ?_)
  refine lv_iload hx hb dX11_remainder_7 (lv_at hl 0 rfl) ?_
  refine lv_if_ge (tgt := 18) hx hb dX11_remainder_9 (by decide) (fun c2 => ?_) (fun c2 => ?_)
  · replace hf := pos_e c2 hf
    refine lv_aload_n hx hb dX11_remainder_18 rfl (lv_at hl 1 rfl) ?_
    refine gget E in_X11 hK hP (q_main ks ad σ) rfl (k := 4) (by decide) wd_1_149 rfl (v := .ref (ad 12 0)) rfl dX11_remainder_19 ?_
    refine lv_iload_n hx hb dX11_remainder_22 rfl (lv_at hl 2 rfl) ?_
    obtain ⟨c3, hf⟩ := ck_e hf
    refine gaaldS E hK hP c3 dX11_remainder_23 ?_
    refine lv_astore (lv' := [(5, .ref (ad 10 a1.toNatClampNeg)), (4, .int r1), (0, .ref (ad 0 0)), (1, .int a1), (2, .int a2), (3, .int a3)]) hx hb dX11_remainder_24 hl (by decide) rfl (fun ls hl => ?_)
    refine lv_aload hx hb dX11_remainder_26 (lv_at hl 0 rfl) ?_
    refine lv_iload_n hx hb dX11_remainder_28 rfl (lv_at hl 4 rfl) ?_
    obtain ⟨r4, er4, hf⟩ := bd_e hf
    refine gVr_i E hK hP (cX4_hasPlacec (vp_lt c3) _ er4) kV_X4_hasPlace wd_4_8 rfl rfl (qs_0 ks ad σ (vp_lt c3)) rfl rfl rfl ⟨Nat.le_of_ble_eq_true rfl, Nat.le_of_ble_eq_true rfl⟩ ⟨Nat.zero_le _, Nat.zero_le _⟩ hl.1 (Nat.le_of_ble_eq_true rfl) rfl dX11_remainder_29 ?_
    refine lv_if_eq (tgt := 44) hx hb dX11_remainder_32 (by decide) (fun c5 => ?_) (fun c5 => ?_)
    · replace hf := pos_e c5 hf
      refine lv_ldcw (v := 1000000013) hx hb E.2.2.2.1 (E.2.2.2.2 _ wd_4_9) dX11_remainder_44 ?_
      exact gret_i E hr hlk dX11_remainder_47 (som_e hf).symm
    · replace hf := neg_e c5 hf
      refine lv_aload hx hb dX11_remainder_35 (lv_at hl 0 rfl) ?_
      refine lv_iload_n hx hb dX11_remainder_37 rfl (lv_at hl 5 rfl) ?_
      obtain ⟨r6, er6, hf⟩ := bd_e hf
      refine gVr_i E hK hP (cX4_hasPlacec (vp_lt c3) _ er6) kV_X4_hasPlace wd_4_8 rfl rfl (qs_0 ks ad σ (vp_lt c3)) rfl rfl rfl ⟨Nat.le_of_ble_eq_true rfl, Nat.le_of_ble_eq_true rfl⟩ ⟨Nat.zero_le _, Nat.zero_le _⟩ hl.1 (Nat.le_of_ble_eq_true rfl) rfl dX11_remainder_38 ?_
      refine lv_if_ne (tgt := 48) hx hb dX11_remainder_41 (by decide) (fun c7 => ?_) (fun c7 => ?_)
      · replace hf := neg_e c7 hf
        refine lv_aload hx hb dX11_remainder_48 (lv_at hl 0 rfl) ?_
        refine gget E in_X4 hK hP (qs_0 ks ad σ (vp_lt c3)) rfl (k := 4) (by decide) wd_1_132 rfl (v := .ref (ad 11 a1.toNatClampNeg)) rfl dX11_remainder_50 ?_
        refine lv_iload_n hx hb dX11_remainder_53 rfl (lv_at hl 5 rfl) ?_
        obtain ⟨c8, hf⟩ := ck_e hf
        refine giald E hK hP (qs_1 ks ad σ (vp_lt c3)) c8 dX11_remainder_54 ?_
        obtain ⟨v9, ev9, hf⟩ := nmv_e hf
        refine lv_nmi ev9 ?_
        refine lv_istore (lv' := [(6, .int v9), (5, .ref (ad 10 a1.toNatClampNeg)), (4, .int r1), (0, .ref (ad 0 0)), (1, .int a1), (2, .int a2), (3, .int a3)]) hx hb dX11_remainder_55 hl (by decide) rfl (fun ls hl => ?_)
        refine lv_iload hx hb dX11_remainder_57 (lv_at hl 0 rfl) ?_
        refine lv_if_ne (tgt := 68) hx hb dX11_remainder_59 (by decide) (fun c10 => ?_) (fun c10 => ?_)
        · replace hf := neg_e c10 hf
          refine lv_aload hx hb dX11_remainder_68 (lv_at hl 1 rfl) ?_
          refine gget E in_X4 hK hP (qs_0 ks ad σ (vp_lt c3)) rfl (k := 4) (by decide) wd_1_132 rfl (v := .ref (ad 11 a1.toNatClampNeg)) rfl dX11_remainder_70 ?_
          refine lv_iload_n hx hb dX11_remainder_73 rfl (lv_at hl 5 rfl) ?_
          obtain ⟨c11, hf⟩ := ck_e hf
          refine giald E hK hP (qs_1 ks ad σ (vp_lt c3)) c11 dX11_remainder_74 ?_
          refine lv_iload hx hb dX11_remainder_75 (lv_at hl 0 rfl) ?_
          obtain ⟨c12, hf⟩ := ck_e hf
          refine lv_irem hx hb dX11_remainder_77 c12 ?_
          exact gret_i E hr hlk dX11_remainder_78 (som_e hf).symm
        · replace hf := pos_e c10 hf
          refine lv_ldcw (v := 1000000016) hx hb E.2.2.2.1 (E.2.2.2.2 _ wd_4_10) dX11_remainder_62 ?_
          refine lv_goto (tgt := 78) hx hb dX11_remainder_65 (by decide) ?_
          exact gret_i E hr hlk dX11_remainder_78 (som_e hf).symm
      · replace hf := pos_e c7 hf
        refine lv_ldcw (v := 1000000013) hx hb E.2.2.2.1 (E.2.2.2.2 _ wd_4_9) dX11_remainder_44 ?_
        exact gret_i E hr hlk dX11_remainder_47 (som_e hf).symm
  · replace hf := neg_e c2 hf
    refine lv_ldc (v := 1000000000) hx hb E.2.2.2.1 (E.2.2.2.2 _ wd_4_7) dX11_remainder_12 ?_
    refine lv_iload hx hb dX11_remainder_14 (lv_at hl 0 rfl) ?_
    refine lv_isub hx hb dX11_remainder_16 ?_
    exact gret_i E hr hlk dX11_remainder_17 (som_e hf).symm
noncomputable def fX11_rowsRefusal (σ : St) (a1 : Int32) (a2 : Int32) : Option (Int32) :=
  bd (fX11_rowRefusal σ a1) fun r1 =>
  bd (fX11_rowRefusal σ a2) fun r2 =>
  if r1 = (-1) then
  some (-1)
  else
  if r2 = (-1) then
  some (-1)
  else
  if r1 = (-11) then
  some (-11)
  else
  if r2 = (-11) then
  some (-11)
  else
  if 0 ≤ r1 then
  some r2
  else
  some r1
def rX11_rowsRefusal : Room := { frames := 2, cells := 0, slots := 0, locals := 43 }
set_option maxHeartbeats 4000000 in
set_option maxRecDepth 100000 in
theorem cX11_rowsRefusalc {l : Launch} {dC : Nat → ClassId} {dI : Nat → Nat → Nat} {ks : Nat → ClassId} {ad : Nat → Nat → Nat} {σ : St} (a1 : Int32) (a2 : Int32)  {out : Int32} (hf : fX11_rowsRefusal σ a1 a2 = some out) : MRi l dC dI ks ad σ yX11_rowsRefusal cX11_rowsRefusal 5 (some .int) rX11_rowsRefusal [.ref (ad 0 0), .int a1, .int a2] out := by
  refine met_r (own := RX11) (by decide) rfl (Nat.le_of_ble_eq_true rfl) ?_
  intro p e s m args below meth c ls E hr hlk hP hK hl
  have hx := E.1
  have hb := E.2.1
  have hl : lv_has ls 5 [(0, .ref (ad 0 0)), (1, .int a1), (2, .int a2)] := hl
  unfold fX11_rowsRefusal at hf
  refine lv_aload_n hx hb dX11_rowsRefusal_0 rfl (lv_at hl 0 rfl) ?_
  refine lv_iload_n hx hb dX11_rowsRefusal_1 rfl (lv_at hl 1 rfl) ?_
  obtain ⟨r1, er1, hf⟩ := bd_e hf
  refine gVr_i E hK hP (cX11_rowRefusalc _ er1) kV_X11_rowRefusal wd_1_174 rfl rfl (q_main ks ad σ) rfl rfl rfl ⟨Nat.le_of_ble_eq_true rfl, Nat.le_of_ble_eq_true rfl⟩ ⟨Nat.zero_le _, Nat.zero_le _⟩ hl.1 (Nat.le_of_ble_eq_true rfl) rfl dX11_rowsRefusal_2 ?_
  refine lv_istore_n (lv' := [(3, .int r1), (0, .ref (ad 0 0)), (1, .int a1), (2, .int a2)]) hx hb dX11_rowsRefusal_5 rfl hl (by decide) rfl (fun ls hl => ?_)
  refine lv_aload_n hx hb dX11_rowsRefusal_6 rfl (lv_at hl 1 rfl) ?_
  refine lv_iload_n hx hb dX11_rowsRefusal_7 rfl (lv_at hl 3 rfl) ?_
  obtain ⟨r2, er2, hf⟩ := bd_e hf
  refine gVr_i E hK hP (cX11_rowRefusalc _ er2) kV_X11_rowRefusal wd_1_174 rfl rfl (q_main ks ad σ) rfl rfl rfl ⟨Nat.le_of_ble_eq_true rfl, Nat.le_of_ble_eq_true rfl⟩ ⟨Nat.zero_le _, Nat.zero_le _⟩ hl.1 (Nat.le_of_ble_eq_true rfl) rfl dX11_rowsRefusal_8 ?_
  refine lv_istore (lv' := [(4, .int r2), (3, .int r1), (0, .ref (ad 0 0)), (1, .int a1), (2, .int a2)]) hx hb dX11_rowsRefusal_11 hl (by decide) rfl (fun ls hl => ?_)
  refine lv_iload_n hx hb dX11_rowsRefusal_13 rfl (lv_at hl 1 rfl) ?_
  refine lv_iconst (v := -1) hx hb dX11_rowsRefusal_14 (by decide) ?_
  refine lv_icmp_eq (tgt := 24) hx hb dX11_rowsRefusal_15 (by decide) (fun c3 => ?_) (fun c3 => ?_)
  · replace hf := pos_e c3 hf
    refine lv_iconst (v := -1) hx hb dX11_rowsRefusal_24 (by decide) ?_
    exact gret_i E hr hlk dX11_rowsRefusal_25 (som_e hf).symm
  · replace hf := neg_e c3 hf
    refine lv_iload hx hb dX11_rowsRefusal_18 (lv_at hl 0 rfl) ?_
    refine lv_iconst (v := -1) hx hb dX11_rowsRefusal_20 (by decide) ?_
    refine lv_icmp_ne (tgt := 26) hx hb dX11_rowsRefusal_21 (by decide) (fun c4 => ?_) (fun c4 => ?_)
    · replace hf := neg_e c4 hf
      refine lv_iload_n hx hb dX11_rowsRefusal_26 rfl (lv_at hl 1 rfl) ?_
      refine lv_bipush (v := -11) hx hb dX11_rowsRefusal_27 (by decide) ?_
      refine lv_icmp_eq (tgt := 39) hx hb dX11_rowsRefusal_29 (by decide) (fun c5 => ?_) (fun c5 => ?_)
      · replace hf := pos_e c5 hf
        refine lv_bipush (v := -11) hx hb dX11_rowsRefusal_39 (by decide) ?_
        exact gret_i E hr hlk dX11_rowsRefusal_41 (som_e hf).symm
      · replace hf := neg_e c5 hf
        refine lv_iload hx hb dX11_rowsRefusal_32 (lv_at hl 0 rfl) ?_
        refine lv_bipush (v := -11) hx hb dX11_rowsRefusal_34 (by decide) ?_
        refine lv_icmp_ne (tgt := 42) hx hb dX11_rowsRefusal_36 (by decide) (fun c6 => ?_) (fun c6 => ?_)
        · replace hf := neg_e c6 hf
          refine lv_iload_n hx hb dX11_rowsRefusal_42 rfl (lv_at hl 1 rfl) ?_
          refine lv_if_ge (tgt := 50) hx hb dX11_rowsRefusal_43 (by decide) (fun c7 => ?_) (fun c7 => ?_)
          · replace hf := pos_e c7 hf
            refine lv_iload hx hb dX11_rowsRefusal_50 (lv_at hl 0 rfl) ?_
            exact gret_i E hr hlk dX11_rowsRefusal_52 (som_e hf).symm
          · replace hf := neg_e c7 hf
            refine lv_iload_n hx hb dX11_rowsRefusal_46 rfl (lv_at hl 1 rfl) ?_
            refine lv_goto (tgt := 52) hx hb dX11_rowsRefusal_47 (by decide) ?_
            exact gret_i E hr hlk dX11_rowsRefusal_52 (som_e hf).symm
        · replace hf := pos_e c6 hf
          refine lv_bipush (v := -11) hx hb dX11_rowsRefusal_39 (by decide) ?_
          exact gret_i E hr hlk dX11_rowsRefusal_41 (som_e hf).symm
    · replace hf := pos_e c4 hf
      refine lv_iconst (v := -1) hx hb dX11_rowsRefusal_24 (by decide) ?_
      exact gret_i E hr hlk dX11_rowsRefusal_25 (som_e hf).symm
noncomputable def fX4_leastOfSort (σ : St) (d : Nat) : Option (Int32) :=
  if (gI σ 8 d 2) = 0 then
  some (-128)
  else
  if (gI σ 8 d 2) = 1 then
  some (-32768)
  else
  some (-2147483648)
def rX4_leastOfSort : Room := { frames := 0, cells := 0, slots := 0, locals := 0 }
set_option maxHeartbeats 4000000 in
set_option maxRecDepth 100000 in
theorem cX4_leastOfSortc {l : Launch} {dC : Nat → ClassId} {dI : Nat → Nat → Nat} {ks : Nat → ClassId} {ad : Nat → Nat → Nat} {σ : St} {d : Nat} (hd : d < 8)  {out : Int32} (hf : fX4_leastOfSort σ d = some out) : MRi l dC dI ks ad σ yX4_leastOfSort cX4_leastOfSort 1 (some .int) rX4_leastOfSort [.ref (ad 10 d)] out := by
  refine met_r (own := RX4) (by decide) rfl (Nat.le_of_ble_eq_true rfl) ?_
  intro p e s m args below meth c ls E hr hlk hP hK hl
  have hx := E.1
  have hb := E.2.1
  have hl : lv_has ls 1 [(0, .ref (ad 10 d))] := hl
  unfold fX4_leastOfSort at hf
  refine lv_aload_n hx hb dX4_leastOfSort_0 rfl (lv_at hl 0 rfl) ?_
  refine gget E in_X4 hK hP (qs_0 ks ad σ hd) rfl (k := 2) (by decide) wd_1_128 rfl (v := .int (gI σ 8 d 2)) rfl dX4_leastOfSort_1 ?_
  refine lv_if_ne (tgt := 10) hx hb dX4_leastOfSort_4 (by decide) (fun c1 => ?_) (fun c1 => ?_)
  · replace hf := neg_e c1 hf
    refine lv_aload_n hx hb dX4_leastOfSort_10 rfl (lv_at hl 0 rfl) ?_
    refine gget E in_X4 hK hP (qs_0 ks ad σ hd) rfl (k := 2) (by decide) wd_1_128 rfl (v := .int (gI σ 8 d 2)) rfl dX4_leastOfSort_11 ?_
    refine lv_iconst (v := 1) hx hb dX4_leastOfSort_14 (by decide) ?_
    refine lv_icmp_ne (tgt := 24) hx hb dX4_leastOfSort_15 (by decide) (fun c2 => ?_) (fun c2 => ?_)
    · replace hf := neg_e c2 hf
      refine lv_ldc (v := -2147483648) hx hb E.2.2.2.1 (E.2.2.2.2 _ wd_4_27) dX4_leastOfSort_24 ?_
      exact gret_i E hr hlk dX4_leastOfSort_26 (som_e hf).symm
    · replace hf := pos_e c2 hf
      refine lv_sipush (v := -32768) hx hb dX4_leastOfSort_18 (by decide) ?_
      refine lv_goto (tgt := 26) hx hb dX4_leastOfSort_21 (by decide) ?_
      exact gret_i E hr hlk dX4_leastOfSort_26 (som_e hf).symm
  · replace hf := pos_e c1 hf
    refine lv_bipush (v := -128) hx hb dX4_leastOfSort_7 (by decide) ?_
    exact gret_i E hr hlk dX4_leastOfSort_9 (som_e hf).symm
noncomputable def fX11_firstNotSo_J122 (x2 : Int32) (rec_14 : Int32 → St → Option (Int32 × St)) (σ12 : St) : Option (Int32 × St) :=
  nmv (x2 + 1) fun v13 =>
  rec_14 v13 σ12
noncomputable def fX11_firstNotSo_J87 (a5 : Nat) (x2 : Int32) (rec_14 : Int32 → St → Option (Int32 × St)) (z5 : Int32) (z7 : Int32) (σ8 : St) : Option (Int32 × St) :=
  ck (vp_in x2 100) <|
  nmv (gI σ8 9 a5 x2.toNatClampNeg) fun v10 =>
  bd (fX4_leastOfSort σ8 a5) fun r11 =>
  if v10 = r11 then
  fX11_firstNotSo_J122 x2 rec_14 σ8
  else
  if z5 = 0 then
  some (x2, σ8)
  else
  if v10 = z7 then
  fX11_firstNotSo_J122 x2 rec_14 σ8
  else
  some (x2, σ8)
noncomputable def fX11_firstNotSo_J85 (a5 : Nat) (x2 : Int32) (rec_14 : Int32 → St → Option (Int32 × St)) (z5 : Int32) (z19 : Int32) (σ20 : St) : Option (Int32 × St) :=
  fX11_firstNotSo_J87 a5 x2 rec_14 z5 z19 σ20
noncomputable def fX11_firstNotSo_J39 (a1 : Int32) (a2 : Int32) (a3 : Int32) (a4 : Int32) (a5 : Nat) (a6 : Nat) (x2 : Int32) (rec_14 : Int32 → St → Option (Int32 × St)) (z5 : Int32) (σ6 : St) : Option (Int32 × St) :=
  if z5 = 0 then
  fX11_firstNotSo_J87 a5 x2 rec_14 z5 (-4) σ6
  else
  bd (fX3_isSplit σ6 2 a1) fun r18 =>
  if r18 = 0 then
  ck (vp_in x2 100) <|
  bd (fX3_blowOnce σ6 2 a1 a2 a3 a4 (gI σ6 9 a6 x2.toNatClampNeg)) fun r23 =>
  fX11_firstNotSo_J85 a5 x2 rec_14 z5 r23.1 r23.2
  else
  fX11_firstNotSo_J85 a5 x2 rec_14 z5 2 σ6
noncomputable def fX11_firstNotSo_L14B (a1 : Int32) (a2 : Int32) (a3 : Int32) (a4 : Int32) (a5 : Nat) (a6 : Nat) (K_14 : St → Option (Int32 × St)) (rec_14 : Int32 → St → Option (Int32 × St)) (x2 : Int32) (σ3 : St) : Option (Int32 × St) :=
  if (gI σ3 8 a5 3) ≤ x2 then
  K_14 σ3
  else
  if (gI σ3 8 a6 3) ≤ x2 then
  fX11_firstNotSo_J39 a1 a2 a3 a4 a5 a6 x2 rec_14 0 σ3
  else
  fX11_firstNotSo_J39 a1 a2 a3 a4 a5 a6 x2 rec_14 1 σ3
noncomputable def fX11_firstNotSo_L14 (a1 : Int32) (a2 : Int32) (a3 : Int32) (a4 : Int32) (a5 : Nat) (a6 : Nat) (K_14 : St → Option (Int32 × St)) : Nat → Int32 → St → Option (Int32 × St)
  | 0 => fun _ _ => none
  | n + 1 => fX11_firstNotSo_L14B a1 a2 a3 a4 a5 a6 K_14 (fX11_firstNotSo_L14 a1 a2 a3 a4 a5 a6 K_14 n)
noncomputable def fX11_firstNotSo (σ : St) (a1 : Int32) (a2 : Int32) (a3 : Int32) (a4 : Int32) (a5 : Nat) (a6 : Nat) : Option (Int32 × St) :=
  bd (fX3_become σ 2 0) fun r1 =>
  fX11_firstNotSo_L14 a1 a2 a3 a4 a5 a6 (fun σ25 => some ((-4), σ25)) FU 0 r1
def rX11_firstNotSo : Room := { frames := 5, cells := 0, slots := 0, locals := 119 }
set_option maxHeartbeats 4000000 in
set_option maxRecDepth 100000 in
theorem cX11_firstNotSoc {l : Launch} {dC : Nat → ClassId} {dI : Nat → Nat → Nat} {ks : Nat → ClassId} {ad : Nat → Nat → Nat} {σ : St} (a1 : Int32) (a2 : Int32) (a3 : Int32) (a4 : Int32) {a5 : Nat} {a6 : Nat} (ha5 : a5 < 8) (ha6 : a6 < 8) {out : Int32 × St} (hf : fX11_firstNotSo σ a1 a2 a3 a4 a5 a6 = some out) : MWi l dC dI ks ad σ yX11_firstNotSo cX11_firstNotSo 11 (some .int) rX11_firstNotSo [.ref (ad 0 0), .int a1, .int a2, .int a3, .int a4, .ref (ad 10 a5), .ref (ad 10 a6)] out := by
  intro sz
  refine met_w (Qc := fun A => va_Qi (fun r σ' => r = out.1 ∧ σ' = out.2) (gBw dC dI ks ad A) A) (own := RX11) (by decide) rfl (Nat.le_of_ble_eq_true rfl) ?_
  intro A p e s m args below meth c ls E hr hlk hA hP hD hS hK hl
  have hx := E.1
  have hb := E.2.1
  have hl : lv_has ls 11 [(0, .ref (ad 0 0)), (1, .int a1), (2, .int a2), (3, .int a3), (4, .int a4), (5, .ref (ad 10 a5)), (6, .ref (ad 10 a6))] := hl
  unfold fX11_firstNotSo at hf
  refine lv_aload_n hx hb dX11_firstNotSo_0 rfl (lv_at hl 0 rfl) ?_
  refine gget E in_X11 hK hP (q_main ks ad σ) rfl (k := 2) (by decide) wd_1_147 rfl (v := .ref (ad 1 2)) rfl dX11_firstNotSo_1 ?_
  refine lv_aload_n hx hb dX11_firstNotSo_4 rfl (lv_at hl 0 rfl) ?_
  refine gget E in_X11 hK hP (q_main ks ad σ) rfl (k := 0) (by decide) wd_1_145 rfl (v := .ref (ad 1 0)) rfl dX11_firstNotSo_5 ?_
  obtain ⟨r1, er1, hf⟩ := bd_e hf
  refine gVw_v E hK hP hD hS hA (cX3_becomec (by decide : (2 : Nat) < 3) (by decide : (0 : Nat) < 3) er1) kV_X3_become wd_1_199 rfl rfl (qh_0 ks ad σ (by decide : (2 : Nat) < 3)) rfl rfl rfl ⟨Nat.le_of_ble_eq_true rfl, Nat.le_of_ble_eq_true rfl⟩ ⟨Nat.zero_le _, Nat.zero_le _⟩ hl.1 (Nat.le_of_ble_eq_true rfl) rfl dX11_firstNotSo_8 (fun H locs hP hD hS => ?_)
  refine lv_iconst (v := 0) hx hb dX11_firstNotSo_11 (by decide) ?_
  refine lv_istore (lv' := [(7, .int 0), (0, .ref (ad 0 0)), (1, .int a1), (2, .int a2), (3, .int a3), (4, .int a4), (5, .ref (ad 10 a5)), (6, .ref (ad 10 a6))]) hx hb dX11_firstNotSo_12 hl (by decide) rfl (fun ls hl => ?_)
  have loop_14 : ∀ (K_14 : St → Option (Int32 × St)) (hK_14 : (∀ (σ25 : St) (H : Heap) (locs : List Loc) (hP : va_P (dC, dI) vwCl (wG ks ad σ25) H) (hD : va_D A (wG ks ad σ25)) (hS : va_S A s.heap H locs) (hf : K_14 σ25 = some out) (ls : Array Slot), lv_has ls 11 [] → W p l e rX11_firstNotSo s m args below meth c H locs 0 0 (MQ below (va_Qi (fun r σ' => r = out.1 ∧ σ' = out.2) (gBw dC dI ks ad A) A) args s 0 0 A) (F0 m 128 ls []))) (n_14 : Nat) (x2 : Int32) (σ3 : St) (H : Heap) (locs : List Loc) (hP : va_P (dC, dI) vwCl (wG ks ad σ3) H) (hD : va_D A (wG ks ad σ3)) (hS : va_S A s.heap H locs) (hf : fX11_firstNotSo_L14 a1 a2 a3 a4 a5 a6 K_14 n_14 x2 σ3 = some out) (ls : Array Slot), lv_has ls 11 [(0, .ref (ad 0 0)), (1, .int a1), (2, .int a2), (3, .int a3), (4, .int a4), (5, .ref (ad 10 a5)), (6, .ref (ad 10 a6)), (7, .int x2)] → W p l e rX11_firstNotSo s m args below meth c H locs 0 0 (MQ below (va_Qi (fun r σ' => r = out.1 ∧ σ' = out.2) (gBw dC dI ks ad A) A) args s 0 0 A) (F0 m 14 ls []) := by
    intro K_14 hK_14 n_14
    induction n_14 with
    | zero => intro x2 σ3 H locs hP hD hS hf; cases hf
    | succ n_14 ih_14 =>
      intro x2 σ3 H locs hP hD hS hf ls hl
      have hf : fX11_firstNotSo_L14B a1 a2 a3 a4 a5 a6 K_14 (fX11_firstNotSo_L14 a1 a2 a3 a4 a5 a6 K_14 n_14) x2 σ3 = some out := hf
      unfold fX11_firstNotSo_L14B at hf
      refine lv_iload hx hb dX11_firstNotSo_14 (lv_at hl 7 rfl) ?_
      refine lv_aload hx hb dX11_firstNotSo_16 (lv_at hl 5 rfl) ?_
      refine gget E in_X4 hK hP (qs_0 ks ad σ3 ha5) rfl (k := 3) (by decide) wd_1_129 rfl (v := .int (gI σ3 8 a5 3)) rfl dX11_firstNotSo_18 ?_
      refine lv_icmp_ge (tgt := 128) hx hb dX11_firstNotSo_21 (by decide) (fun c4 => ?_) (fun c4 => ?_)
      · replace hf := pos_e c4 hf
        exact hK_14 _ _ _ hP hD hS hf _ (lv_sub hl [] rfl)
      · replace hf := neg_e c4 hf
        refine lv_iload hx hb dX11_firstNotSo_24 (lv_at hl 7 rfl) ?_
        refine lv_aload hx hb dX11_firstNotSo_26 (lv_at hl 6 rfl) ?_
        refine gget E in_X4 hK hP (qs_0 ks ad σ3 ha6) rfl (k := 3) (by decide) wd_1_129 rfl (v := .int (gI σ3 8 a6 3)) rfl dX11_firstNotSo_28 ?_
        have hJ_39 : ∀ (z5 : Int32) (σ6 : St) (H : Heap) (locs : List Loc) (hP : va_P (dC, dI) vwCl (wG ks ad σ6) H) (hD : va_D A (wG ks ad σ6)) (hS : va_S A s.heap H locs) (hf : fX11_firstNotSo_J39 a1 a2 a3 a4 a5 a6 x2 (fX11_firstNotSo_L14 a1 a2 a3 a4 a5 a6 K_14 n_14) z5 σ6 = some out) (ls : Array Slot), lv_has ls 11 [(0, .ref (ad 0 0)), (1, .int a1), (2, .int a2), (3, .int a3), (4, .int a4), (5, .ref (ad 10 a5)), (6, .ref (ad 10 a6)), (7, .int x2)] → W p l e rX11_firstNotSo s m args below meth c H locs 0 0 (MQ below (va_Qi (fun r σ' => r = out.1 ∧ σ' = out.2) (gBw dC dI ks ad A) A) args s 0 0 A) (F0 m 39 ls [.int z5]) := by
          intro z5 σ6 H locs hP hD hS hf ls hl
          unfold fX11_firstNotSo_J39 at hf
          refine lv_istore (lv' := [(8, .int z5), (0, .ref (ad 0 0)), (1, .int a1), (2, .int a2), (3, .int a3), (4, .int a4), (5, .ref (ad 10 a5)), (6, .ref (ad 10 a6)), (7, .int x2)]) hx hb dX11_firstNotSo_39 hl (by decide) rfl (fun ls hl => ?_)
          refine lv_bipush (v := -4) hx hb dX11_firstNotSo_41 (by decide) ?_
          refine lv_istore (lv' := [(9, .int (-4)), (8, .int z5), (0, .ref (ad 0 0)), (1, .int a1), (2, .int a2), (3, .int a3), (4, .int a4), (5, .ref (ad 10 a5)), (6, .ref (ad 10 a6)), (7, .int x2)]) hx hb dX11_firstNotSo_43 hl (by decide) rfl (fun ls hl => ?_)
          refine lv_iload hx hb dX11_firstNotSo_45 (lv_at hl 1 rfl) ?_
          have hJ_87 : ∀ (z7 : Int32) (σ8 : St) (H : Heap) (locs : List Loc) (hP : va_P (dC, dI) vwCl (wG ks ad σ8) H) (hD : va_D A (wG ks ad σ8)) (hS : va_S A s.heap H locs) (hf : fX11_firstNotSo_J87 a5 x2 (fX11_firstNotSo_L14 a1 a2 a3 a4 a5 a6 K_14 n_14) z5 z7 σ8 = some out) (ls : Array Slot), lv_has ls 11 [(0, .ref (ad 0 0)), (1, .int a1), (2, .int a2), (3, .int a3), (4, .int a4), (5, .ref (ad 10 a5)), (6, .ref (ad 10 a6)), (7, .int x2), (8, .int z5), (9, .int z7)] → W p l e rX11_firstNotSo s m args below meth c H locs 0 0 (MQ below (va_Qi (fun r σ' => r = out.1 ∧ σ' = out.2) (gBw dC dI ks ad A) A) args s 0 0 A) (F0 m 87 ls []) := by
            intro z7 σ8 H locs hP hD hS hf ls hl
            unfold fX11_firstNotSo_J87 at hf
            refine lv_aload hx hb dX11_firstNotSo_87 (lv_at hl 5 rfl) ?_
            refine gget E in_X4 hK hP (qs_0 ks ad σ8 ha5) rfl (k := 4) (by decide) wd_1_132 rfl (v := .ref (ad 11 a5)) rfl dX11_firstNotSo_89 ?_
            refine lv_iload hx hb dX11_firstNotSo_92 (lv_at hl 7 rfl) ?_
            obtain ⟨c9, hf⟩ := ck_e hf
            refine giald E hK hP (qs_1 ks ad σ8 ha5) c9 dX11_firstNotSo_94 ?_
            obtain ⟨v10, ev10, hf⟩ := nmv_e hf
            refine lv_nmi ev10 ?_
            refine lv_istore (lv' := [(10, .int v10), (0, .ref (ad 0 0)), (1, .int a1), (2, .int a2), (3, .int a3), (4, .int a4), (5, .ref (ad 10 a5)), (6, .ref (ad 10 a6)), (7, .int x2), (8, .int z5), (9, .int z7)]) hx hb dX11_firstNotSo_95 hl (by decide) rfl (fun ls hl => ?_)
            refine lv_iload hx hb dX11_firstNotSo_97 (lv_at hl 0 rfl) ?_
            refine lv_aload hx hb dX11_firstNotSo_99 (lv_at hl 6 rfl) ?_
            obtain ⟨r11, er11, hf⟩ := bd_e hf
            refine gVr_i E hK hP (cX4_leastOfSortc ha5 er11) kV_X4_leastOfSort wd_4_23 rfl rfl (qs_0 ks ad σ8 ha5) rfl rfl rfl ⟨Nat.le_of_ble_eq_true rfl, Nat.le_of_ble_eq_true rfl⟩ ⟨Nat.zero_le _, Nat.zero_le _⟩ hl.1 (Nat.le_of_ble_eq_true rfl) rfl dX11_firstNotSo_101 ?_
            have hJ_122 : ∀ (σ12 : St) (H : Heap) (locs : List Loc) (hP : va_P (dC, dI) vwCl (wG ks ad σ12) H) (hD : va_D A (wG ks ad σ12)) (hS : va_S A s.heap H locs) (hf : fX11_firstNotSo_J122 x2 (fX11_firstNotSo_L14 a1 a2 a3 a4 a5 a6 K_14 n_14) σ12 = some out) (ls : Array Slot), lv_has ls 11 [(0, .ref (ad 0 0)), (1, .int a1), (2, .int a2), (3, .int a3), (4, .int a4), (5, .ref (ad 10 a5)), (6, .ref (ad 10 a6)), (7, .int x2)] → W p l e rX11_firstNotSo s m args below meth c H locs 0 0 (MQ below (va_Qi (fun r σ' => r = out.1 ∧ σ' = out.2) (gBw dC dI ks ad A) A) args s 0 0 A) (F0 m 122 ls []) := by
              intro σ12 H locs hP hD hS hf ls hl
              unfold fX11_firstNotSo_J122 at hf
              obtain ⟨v13, ev13, hf⟩ := nmv_e hf
              refine lv_iinc (v := v13) (lv' := [(7, .int v13), (0, .ref (ad 0 0)), (1, .int a1), (2, .int a2), (3, .int a3), (4, .int a4), (5, .ref (ad 10 a5)), (6, .ref (ad 10 a6))]) hx hb dX11_firstNotSo_122 hl (k := 7) rfl (by rw [ev13]; rfl) (by decide) rfl (fun ls hl => ?_)
              refine lv_goto (tgt := 14) hx hb dX11_firstNotSo_125 (by decide) ?_
              exact ih_14 _ _ _ _ hP hD hS hf _ (lv_sub hl [1, 2, 3, 4, 5, 6, 7, 0] rfl)
            refine lv_icmp_eq (tgt := 122) hx hb dX11_firstNotSo_104 (by decide) (fun c14 => ?_) (fun c14 => ?_)
            · replace hf := pos_e c14 hf
              exact hJ_122 _ _ _ hP hD hS hf _ (lv_sub hl [1, 2, 3, 4, 5, 6, 7, 8] rfl)
            · replace hf := neg_e c14 hf
              refine lv_iload hx hb dX11_firstNotSo_107 (lv_at hl 9 rfl) ?_
              refine lv_if_eq (tgt := 119) hx hb dX11_firstNotSo_109 (by decide) (fun c15 => ?_) (fun c15 => ?_)
              · replace hf := pos_e c15 hf
                refine lv_iload hx hb dX11_firstNotSo_119 (lv_at hl 8 rfl) ?_
                exact gretw_i E hlk hP hD hS hr dX11_firstNotSo_121 (som_e hf)
              · replace hf := neg_e c15 hf
                refine lv_iload hx hb dX11_firstNotSo_112 (lv_at hl 0 rfl) ?_
                refine lv_iload hx hb dX11_firstNotSo_114 (lv_at hl 10 rfl) ?_
                refine lv_icmp_eq (tgt := 122) hx hb dX11_firstNotSo_116 (by decide) (fun c16 => ?_) (fun c16 => ?_)
                · replace hf := pos_e c16 hf
                  exact hJ_122 _ _ _ hP hD hS hf _ (lv_sub hl [1, 2, 3, 4, 5, 6, 7, 8] rfl)
                · replace hf := neg_e c16 hf
                  refine lv_iload hx hb dX11_firstNotSo_119 (lv_at hl 8 rfl) ?_
                  exact gretw_i E hlk hP hD hS hr dX11_firstNotSo_121 (som_e hf)
          refine lv_if_eq (tgt := 87) hx hb dX11_firstNotSo_47 (by decide) (fun c17 => ?_) (fun c17 => ?_)
          · replace hf := pos_e c17 hf
            exact hJ_87 _ _ _ _ hP hD hS hf _ (lv_sub hl [2, 3, 4, 5, 6, 7, 8, 9, 1, 0] rfl)
          · replace hf := neg_e c17 hf
            refine lv_aload_n hx hb dX11_firstNotSo_50 rfl (lv_at hl 2 rfl) ?_
            refine gget E in_X11 hK hP (q_main ks ad σ6) rfl (k := 2) (by decide) wd_1_147 rfl (v := .ref (ad 1 2)) rfl dX11_firstNotSo_51 ?_
            refine lv_iload_n hx hb dX11_firstNotSo_54 rfl (lv_at hl 3 rfl) ?_
            obtain ⟨r18, er18, hf⟩ := bd_e hf
            refine gVr_i E hK hP (cX3_isSplitc (by decide : (2 : Nat) < 3) _ er18) kV_X3_isSplit wd_2_102 rfl rfl (qh_0 ks ad σ6 (by decide : (2 : Nat) < 3)) rfl rfl rfl ⟨Nat.le_of_ble_eq_true rfl, Nat.le_of_ble_eq_true rfl⟩ ⟨Nat.zero_le _, Nat.zero_le _⟩ hl.1 (Nat.le_of_ble_eq_true rfl) rfl dX11_firstNotSo_55 ?_
            have hJ_85 : ∀ (z19 : Int32) (σ20 : St) (H : Heap) (locs : List Loc) (hP : va_P (dC, dI) vwCl (wG ks ad σ20) H) (hD : va_D A (wG ks ad σ20)) (hS : va_S A s.heap H locs) (hf : fX11_firstNotSo_J85 a5 x2 (fX11_firstNotSo_L14 a1 a2 a3 a4 a5 a6 K_14 n_14) z5 z19 σ20 = some out) (ls : Array Slot), lv_has ls 11 [(0, .ref (ad 0 0)), (1, .int a1), (2, .int a2), (3, .int a3), (4, .int a4), (5, .ref (ad 10 a5)), (6, .ref (ad 10 a6)), (7, .int x2), (8, .int z5)] → W p l e rX11_firstNotSo s m args below meth c H locs 0 0 (MQ below (va_Qi (fun r σ' => r = out.1 ∧ σ' = out.2) (gBw dC dI ks ad A) A) args s 0 0 A) (F0 m 85 ls [.int z19]) := by
              intro z19 σ20 H locs hP hD hS hf ls hl
              unfold fX11_firstNotSo_J85 at hf
              refine lv_istore (lv' := [(9, .int z19), (0, .ref (ad 0 0)), (1, .int a1), (2, .int a2), (3, .int a3), (4, .int a4), (5, .ref (ad 10 a5)), (6, .ref (ad 10 a6)), (7, .int x2), (8, .int z5)]) hx hb dX11_firstNotSo_85 hl (by decide) rfl (fun ls hl => ?_)
              exact hJ_87 _ _ _ _ hP hD hS hf _ (lv_sub hl [1, 2, 3, 4, 5, 6, 7, 8, 9, 0] rfl)
            refine lv_if_eq (tgt := 65) hx hb dX11_firstNotSo_58 (by decide) (fun c21 => ?_) (fun c21 => ?_)
            · replace hf := pos_e c21 hf
              refine lv_aload_n hx hb dX11_firstNotSo_65 rfl (lv_at hl 2 rfl) ?_
              refine gget E in_X11 hK hP (q_main ks ad σ6) rfl (k := 2) (by decide) wd_1_147 rfl (v := .ref (ad 1 2)) rfl dX11_firstNotSo_66 ?_
              refine lv_iload_n hx hb dX11_firstNotSo_69 rfl (lv_at hl 3 rfl) ?_
              refine lv_iload_n hx hb dX11_firstNotSo_70 rfl (lv_at hl 4 rfl) ?_
              refine lv_iload_n hx hb dX11_firstNotSo_71 rfl (lv_at hl 5 rfl) ?_
              refine lv_iload hx hb dX11_firstNotSo_72 (lv_at hl 6 rfl) ?_
              refine lv_aload hx hb dX11_firstNotSo_74 (lv_at hl 8 rfl) ?_
              refine gget E in_X4 hK hP (qs_0 ks ad σ6 ha6) rfl (k := 4) (by decide) wd_1_132 rfl (v := .ref (ad 11 a6)) rfl dX11_firstNotSo_76 ?_
              refine lv_iload hx hb dX11_firstNotSo_79 (lv_at hl 9 rfl) ?_
              obtain ⟨c22, hf⟩ := ck_e hf
              refine giald E hK hP (qs_1 ks ad σ6 ha6) c22 dX11_firstNotSo_81 ?_
              obtain ⟨r23, er23, hf⟩ := bd_e hf
              refine gVw_i E hK hP hD hS hA (cX3_blowOncec (by decide : (2 : Nat) < 3) _ _ _ _ _ er23) kV_X3_blowOnce wd_3_67 rfl rfl (qh_0 ks ad σ6 (by decide : (2 : Nat) < 3)) rfl rfl rfl ⟨Nat.le_of_ble_eq_true rfl, Nat.le_of_ble_eq_true rfl⟩ ⟨Nat.zero_le _, Nat.zero_le _⟩ hl.1 (Nat.le_of_ble_eq_true rfl) rfl dX11_firstNotSo_82 (fun H locs hP hD hS => ?_)
              exact hJ_85 _ _ _ _ hP hD hS hf _ (lv_sub hl [2, 3, 4, 5, 6, 7, 8, 9, 1] rfl)
            · replace hf := neg_e c21 hf
              refine lv_iconst (v := 2) hx hb dX11_firstNotSo_61 (by decide) ?_
              refine lv_goto (tgt := 85) hx hb dX11_firstNotSo_62 (by decide) ?_
              exact hJ_85 _ _ _ _ hP hD hS hf _ (lv_sub hl [2, 3, 4, 5, 6, 7, 8, 9, 1] rfl)
        refine lv_icmp_ge (tgt := 38) hx hb dX11_firstNotSo_31 (by decide) (fun c24 => ?_) (fun c24 => ?_)
        · replace hf := pos_e c24 hf
          refine lv_iconst (v := 0) hx hb dX11_firstNotSo_38 (by decide) ?_
          exact hJ_39 _ _ _ _ hP hD hS hf _ (lv_sub hl [0, 1, 2, 3, 4, 5, 6, 7] rfl)
        · replace hf := neg_e c24 hf
          refine lv_iconst (v := 1) hx hb dX11_firstNotSo_34 (by decide) ?_
          refine lv_goto (tgt := 39) hx hb dX11_firstNotSo_35 (by decide) ?_
          exact hJ_39 _ _ _ _ hP hD hS hf _ (lv_sub hl [0, 1, 2, 3, 4, 5, 6, 7] rfl)
  refine loop_14 _ (fun σ25 H locs hP hD hS hf ls hl => ?_) _ _ _ _ _ hP hD hS hf _ (lv_sub hl [1, 2, 3, 4, 5, 6, 7, 0] rfl)
  refine lv_bipush (v := -4) hx hb dX11_firstNotSo_128 (by decide) ?_
  exact gretw_i E hlk hP hD hS hr dX11_firstNotSo_130 (som_e hf)
