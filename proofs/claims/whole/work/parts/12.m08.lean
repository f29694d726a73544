noncomputable def fX12_forcesFor_J40 (x3 : Int32) (rec_12 : Int32 → Int32 → St → Option (Int32 × St)) (z7 : Int32) (σ8 : St) : Option (Int32 × St) :=
  nmv (x3 + (-1)) fun v9 =>
  rec_12 z7 v9 σ8
noncomputable def fX12_forcesFor_L12B (a1 : Int32) (a2 : Int32) (K_12 : Int32 → St → Option (Int32 × St)) (rec_12 : Int32 → Int32 → St → Option (Int32 × St)) (x2 : Int32) (x3 : Int32) (σ4 : St) : Option (Int32 × St) :=
  if x3 < 0 then
  K_12 x2 σ4
  else
  bd (fX12_wears σ4 a1 x3) fun r6 =>
  if r6 = a2 then
  nmv (x2 + 1) fun v11 =>
  nmv (sI σ4 11 0 11 x3) fun σ12 =>
  fX12_forcesFor_J40 x3 rec_12 v11 σ12
  else
  fX12_forcesFor_J40 x3 rec_12 x2 σ4
noncomputable def fX12_forcesFor_L12 (a1 : Int32) (a2 : Int32) (K_12 : Int32 → St → Option (Int32 × St)) : Nat → Int32 → Int32 → St → Option (Int32 × St)
  | 0 => fun _ _ _ => none
  | n + 1 => fX12_forcesFor_L12B a1 a2 K_12 (fX12_forcesFor_L12 a1 a2 K_12 n)
noncomputable def fX12_forcesFor (σ : St) (a1 : Int32) (a2 : Int32) : Option (Int32 × St) :=
  nmv (sI σ 11 0 11 (-4)) fun σ1 =>
  fX12_forcesFor_L12 a1 a2 (fun y13 σ14 => some (y13, σ14)) FU 0 60 σ1
def rX12_forcesFor : Room := { frames := 3, cells := 0, slots := 0, locals := 65 }
set_option maxHeartbeats 4000000 in
set_option maxRecDepth 100000 in
theorem cX12_forcesForc {l : Launch} {dC : Nat → ClassId} {dI : Nat → Nat → Nat} {ks : Nat → ClassId} {ad : Nat → Nat → Nat} {σ : St} (a1 : Int32) (a2 : Int32)  {out : Int32 × St} (hf : fX12_forcesFor σ a1 a2 = some out) : MWi l dC dI ks ad σ yX12_forcesFor cX12_forcesFor 5 (some .int) rX12_forcesFor [.ref (ad 14 0), .int a1, .int a2] out := by
  intro sz
  refine met_w (Qc := fun A => va_Qi (fun r σ' => r = out.1 ∧ σ' = out.2) (gBw dC dI ks ad A) A) (own := RX12) (by decide) rfl (Nat.le_of_ble_eq_true rfl) ?_
  intro A p e s m args below meth c ls E hr hlk hA hP hD hS hK hl
  have hx := E.1
  have hb := E.2.1
  have hl : lv_has ls 5 [(0, .ref (ad 14 0)), (1, .int a1), (2, .int a2)] := hl
  unfold fX12_forcesFor at hf
  refine lv_iconst (v := 0) hx hb dX12_forcesFor_0 (by decide) ?_
  refine lv_istore_n (lv' := [(3, .int 0), (0, .ref (ad 14 0)), (1, .int a1), (2, .int a2)]) hx hb dX12_forcesFor_1 rfl hl (by decide) rfl (fun ls hl => ?_)
  refine lv_aload_n hx hb dX12_forcesFor_2 rfl (lv_at hl 1 rfl) ?_
  refine lv_bipush (v := -4) hx hb dX12_forcesFor_3 (by decide) ?_
  obtain ⟨σ1, eσ1, hf⟩ := nmv_e hf
  refine gput (k := 11) E in_X12 tyX12 tyX12_ok nmX12 hK hP hD hS (q_model ks ad σ) rfl (by decide) wd_5_71 rfl rfl rfl rfl rfl (Nat.le_of_ble_eq_true rfl) (σ' := σ1) (by rw [eσ1]; exact st_model_11 ks ad σ _) dX12_forcesFor_5 (fun H locs hP hD hS => ?_)
  refine lv_bipush (v := 60) hx hb dX12_forcesFor_8 (by decide) ?_
  refine lv_istore (lv' := [(4, .int 60), (3, .int 0), (0, .ref (ad 14 0)), (1, .int a1), (2, .int a2)]) hx hb dX12_forcesFor_10 hl (by decide) rfl (fun ls hl => ?_)
  have loop_12 : ∀ (K_12 : Int32 → St → Option (Int32 × St)) (hK_12 : (∀ (y13 : Int32) (σ14 : St) (H : Heap) (locs : List Loc) (hP : va_P (dC, dI) vwCl (wG ks ad σ14) H) (hD : va_D A (wG ks ad σ14)) (hS : va_S A s.heap H locs) (hf : K_12 y13 σ14 = some out) (ls : Array Slot), lv_has ls 5 [(3, .int y13)] → W p l e rX12_forcesFor s m args below meth c H locs 0 0 (MQ below (va_Qi (fun r σ' => r = out.1 ∧ σ' = out.2) (gBw dC dI ks ad A) A) args s 0 0 A) (F0 m 46 ls []))) (n_12 : Nat) (x2 : Int32) (x3 : Int32) (σ4 : St) (H : Heap) (locs : List Loc) (hP : va_P (dC, dI) vwCl (wG ks ad σ4) H) (hD : va_D A (wG ks ad σ4)) (hS : va_S A s.heap H locs) (hf : fX12_forcesFor_L12 a1 a2 K_12 n_12 x2 x3 σ4 = some out) (ls : Array Slot), lv_has ls 5 [(0, .ref (ad 14 0)), (1, .int a1), (2, .int a2), (3, .int x2), (4, .int x3)] → W p l e rX12_forcesFor s m args below meth c H locs 0 0 (MQ below (va_Qi (fun r σ' => r = out.1 ∧ σ' = out.2) (gBw dC dI ks ad A) A) args s 0 0 A) (F0 m 12 ls []) := by
    intro K_12 hK_12 n_12
    induction n_12 with
    | zero => intro x2 x3 σ4 H locs hP hD hS hf; cases hf
    | succ n_12 ih_12 =>
      intro x2 x3 σ4 H locs hP hD hS hf ls hl
      have hf : fX12_forcesFor_L12B a1 a2 K_12 (fX12_forcesFor_L12 a1 a2 K_12 n_12) x2 x3 σ4 = some out := hf
      unfold fX12_forcesFor_L12B at hf
      refine lv_iload hx hb dX12_forcesFor_12 (lv_at hl 4 rfl) ?_
      refine lv_if_lt (tgt := 46) hx hb dX12_forcesFor_14 (by decide) (fun c5 => ?_) (fun c5 => ?_)
      · replace hf := pos_e c5 hf
        exact hK_12 _ _ _ _ hP hD hS hf _ (lv_sub hl [3] rfl)
      · replace hf := neg_e c5 hf
        refine lv_aload_n hx hb dX12_forcesFor_17 rfl (lv_at hl 0 rfl) ?_
        refine lv_iload_n hx hb dX12_forcesFor_18 rfl (lv_at hl 1 rfl) ?_
        refine lv_iload hx hb dX12_forcesFor_19 (lv_at hl 4 rfl) ?_
        obtain ⟨r6, er6, hf⟩ := bd_e hf
        refine gVr_i E hK hP (cX12_wearsc _ _ er6) kV_X12_wears wd_5_208 rfl rfl (q_model ks ad σ4) rfl rfl rfl ⟨Nat.le_of_ble_eq_true rfl, Nat.le_of_ble_eq_true rfl⟩ ⟨Nat.zero_le _, Nat.zero_le _⟩ hl.1 (Nat.le_of_ble_eq_true rfl) rfl dX12_forcesFor_21 ?_
        refine lv_iload_n hx hb dX12_forcesFor_24 rfl (lv_at hl 2 rfl) ?_
        have hJ_40 : ∀ (z7 : Int32) (σ8 : St) (H : Heap) (locs : List Loc) (hP : va_P (dC, dI) vwCl (wG ks ad σ8) H) (hD : va_D A (wG ks ad σ8)) (hS : va_S A s.heap H locs) (hf : fX12_forcesFor_J40 x3 (fX12_forcesFor_L12 a1 a2 K_12 n_12) z7 σ8 = some out) (ls : Array Slot), lv_has ls 5 [(0, .ref (ad 14 0)), (1, .int a1), (2, .int a2), (3, .int z7), (4, .int x3)] → W p l e rX12_forcesFor s m args below meth c H locs 0 0 (MQ below (va_Qi (fun r σ' => r = out.1 ∧ σ' = out.2) (gBw dC dI ks ad A) A) args s 0 0 A) (F0 m 40 ls []) := by
          intro z7 σ8 H locs hP hD hS hf ls hl
          unfold fX12_forcesFor_J40 at hf
          obtain ⟨v9, ev9, hf⟩ := nmv_e hf
          refine lv_iinc (v := v9) (lv' := [(4, .int v9), (0, .ref (ad 14 0)), (1, .int a1), (2, .int a2), (3, .int z7)]) hx hb dX12_forcesFor_40 hl (k := 4) rfl (by rw [ev9]; rfl) (by decide) rfl (fun ls hl => ?_)
          refine lv_goto (tgt := 12) hx hb dX12_forcesFor_43 (by decide) ?_
          exact ih_12 _ _ _ _ _ hP hD hS hf _ (lv_sub hl [1, 2, 3, 4, 0] rfl)
        refine lv_icmp_eq (tgt := 31) hx hb dX12_forcesFor_25 (by decide) (fun c10 => ?_) (fun c10 => ?_)
        · replace hf := pos_e c10 hf
          obtain ⟨v11, ev11, hf⟩ := nmv_e hf
          refine lv_iinc (v := v11) (lv' := [(3, .int v11), (0, .ref (ad 14 0)), (1, .int a1), (2, .int a2), (4, .int x3)]) hx hb dX12_forcesFor_31 hl (k := 3) rfl (by rw [ev11]; rfl) (by decide) rfl (fun ls hl => ?_)
          refine lv_aload_n hx hb dX12_forcesFor_34 rfl (lv_at hl 1 rfl) ?_
          refine lv_iload hx hb dX12_forcesFor_35 (lv_at hl 4 rfl) ?_
          obtain ⟨σ12, eσ12, hf⟩ := nmv_e hf
          refine gput (k := 11) E in_X12 tyX12 tyX12_ok nmX12 hK hP hD hS (q_model ks ad σ4) rfl (by decide) wd_5_71 rfl rfl rfl rfl rfl (Nat.le_of_ble_eq_true rfl) (σ' := σ12) (by rw [eσ12]; exact st_model_11 ks ad σ4 _) dX12_forcesFor_37 (fun H locs hP hD hS => ?_)
          exact hJ_40 _ _ _ _ hP hD hS hf _ (lv_sub hl [1, 2, 3, 0, 4] rfl)
        · replace hf := neg_e c10 hf
          refine lv_goto (tgt := 40) hx hb dX12_forcesFor_28 (by decide) ?_
          exact hJ_40 _ _ _ _ hP hD hS hf _ (lv_sub hl [0, 1, 2, 3, 4] rfl)
  refine loop_12 _ (fun y13 σ14 H locs hP hD hS hf ls hl => ?_) _ _ _ _ _ _ hP hD hS hf _ (lv_sub hl [2, 3, 4, 1, 0] rfl)
  refine lv_iload_n hx hb dX12_forcesFor_46 rfl (lv_at hl 0 rfl) ?_
  exact gretw_i E hlk hP hD hS hr dX12_forcesFor_47 (som_e hf)
noncomputable def fX12_heap_J97 (x9 : Int32) (x11 : Int32) (rec_52 : Int32 → Int32 → Int32 → St → Option (Int32 × St)) (z17 : Int32) (σ18 : St) : Option (Int32 × St) :=
  nmv (x9 + z17) fun v19 =>
  nmv (gI σ18 11 0 11) fun v20 =>
  nmv (x11 + (-1)) fun v21 =>
  rec_52 v19 v20 v21 σ18
noncomputable def fX12_heap_L52B (a1 : Int32) (a2 : Int32) (K_52 : Int32 → Int32 → St → Option (Int32 × St)) (rec_52 : Int32 → Int32 → Int32 → St → Option (Int32 × St)) (x9 : Int32) (x10 : Int32) (x11 : Int32) (σ12 : St) : Option (Int32 × St) :=
  if x11 < 0 then
  K_52 x9 x10 σ12
  else
  ck (vp_in ((100 * a2) + x11) 800) <|
  bd (fX12_forcesFor σ12 a1 (gI σ12 12 20 ((100 * a2) + x11).toNatClampNeg)) fun r15 =>
  if r15.1 = 0 then
  some ((-4), r15.2)
  else
  if r15.1 = 1 then
  fX12_heap_J97 x9 x11 rec_52 1 r15.2
  else
  fX12_heap_J97 x9 x11 rec_52 0 r15.2
noncomputable def fX12_heap_L52 (a1 : Int32) (a2 : Int32) (K_52 : Int32 → Int32 → St → Option (Int32 × St)) : Nat → Int32 → Int32 → Int32 → St → Option (Int32 × St)
  | 0 => fun _ _ _ _ => none
  | n + 1 => fX12_heap_L52B a1 a2 K_52 (fX12_heap_L52 a1 a2 K_52 n)
noncomputable def fX12_heap (σ : St) (a1 : Int32) (a2 : Int32) (a3 : Int32) : Option (Int32 × St) :=
  bd (fX12_isBlow σ a1) fun r1 =>
  if r1 = 0 then
  some ((-1), σ)
  else
  bd (fX12_isIn σ a3 0 1) fun r3 =>
  if r3 = 0 then
  some ((-1), σ)
  else
  bd (fX12_wrongRow σ a2 (-1)) fun r5 =>
  if r5 = 0 then
  ck (vp_in a2 8) <|
  nmv ((gI σ 12 19 a2.toNatClampNeg) - 1) fun v8 =>
  fX12_heap_L52 a1 a2 (fun y23 y24 σ25 => if a3 = 0 then
  some (y23, σ25)
  else
  some (y24, σ25)) FU 0 (-4) v8 σ
  else
  some (r5, σ)
def rX12_heap : Room := { frames := 4, cells := 0, slots := 0, locals := 89 }
set_option maxHeartbeats 4000000 in
set_option maxRecDepth 100000 in
theorem cX12_heapc {l : Launch} {dC : Nat → ClassId} {dI : Nat → Nat → Nat} {ks : Nat → ClassId} {ad : Nat → Nat → Nat} {σ : St} (a1 : Int32) (a2 : Int32) (a3 : Int32)  {out : Int32 × St} (hf : fX12_heap σ a1 a2 a3 = some out) : MWi l dC dI ks ad σ yX12_heap cX12_heap 9 (some .int) rX12_heap [.ref (ad 14 0), .int a1, .int a2, .int a3] out := by
  intro sz
  refine met_w (Qc := fun A => va_Qi (fun r σ' => r = out.1 ∧ σ' = out.2) (gBw dC dI ks ad A) A) (own := RX12) (by decide) rfl (Nat.le_of_ble_eq_true rfl) ?_
  intro A p e s m args below meth c ls E hr hlk hA hP hD hS hK hl
  have hx := E.1
  have hb := E.2.1
  have hl : lv_has ls 9 [(0, .ref (ad 14 0)), (1, .int a1), (2, .int a2), (3, .int a3)] := hl
  unfold fX12_heap at hf
  refine lv_aload_n hx hb dX12_heap_0 rfl (lv_at hl 0 rfl) ?_
  refine lv_iload_n hx hb dX12_heap_1 rfl (lv_at hl 1 rfl) ?_
  obtain ⟨r1, er1, hf⟩ := bd_e hf
  refine gVr_i E hK hP (cX12_isBlowc _ er1) kV_X12_isBlow wd_5_196 rfl rfl (q_model ks ad σ) rfl rfl rfl ⟨Nat.le_of_ble_eq_true rfl, Nat.le_of_ble_eq_true rfl⟩ ⟨Nat.zero_le _, Nat.zero_le _⟩ hl.1 (Nat.le_of_ble_eq_true rfl) rfl dX12_heap_2 ?_
  refine lv_if_eq (tgt := 17) hx hb dX12_heap_5 (by decide) (fun c2 => ?_) (fun c2 => ?_)
  · replace hf := pos_e c2 hf
    refine lv_iconst (v := -1) hx hb dX12_heap_17 (by decide) ?_
    exact gretw_i E hlk hP hD hS hr dX12_heap_18 (som_e hf)
  · replace hf := neg_e c2 hf
    refine lv_iload_n hx hb dX12_heap_8 rfl (lv_at hl 3 rfl) ?_
    refine lv_iconst (v := 0) hx hb dX12_heap_9 (by decide) ?_
    refine lv_iconst (v := 1) hx hb dX12_heap_10 (by decide) ?_
    obtain ⟨r3, er3, hf⟩ := bd_e hf
    refine gSr_i E hK hP (cX12_isInc _ _ _ er3) kS_X12_isIn wd_5_138 rfl rfl rfl ⟨Nat.le_of_ble_eq_true rfl, Nat.le_of_ble_eq_true rfl⟩ ⟨Nat.zero_le _, Nat.zero_le _⟩ hl.1 (Nat.le_of_ble_eq_true rfl) rfl dX12_heap_11 ?_
    refine lv_if_ne (tgt := 19) hx hb dX12_heap_14 (by decide) (fun c4 => ?_) (fun c4 => ?_)
    · replace hf := neg_e c4 hf
      refine lv_aload_n hx hb dX12_heap_19 rfl (lv_at hl 0 rfl) ?_
      refine lv_iload_n hx hb dX12_heap_20 rfl (lv_at hl 2 rfl) ?_
      refine lv_iconst (v := -1) hx hb dX12_heap_21 (by decide) ?_
      obtain ⟨r5, er5, hf⟩ := bd_e hf
      refine gVr_i E hK hP (cX12_wrongRowc _ _ er5) kV_X12_wrongRow wd_5_131 rfl rfl (q_model ks ad σ) rfl rfl rfl ⟨Nat.le_of_ble_eq_true rfl, Nat.le_of_ble_eq_true rfl⟩ ⟨Nat.zero_le _, Nat.zero_le _⟩ hl.1 (Nat.le_of_ble_eq_true rfl) rfl dX12_heap_22 ?_
      refine lv_istore (lv' := [(4, .int r5), (0, .ref (ad 14 0)), (1, .int a1), (2, .int a2), (3, .int a3)]) hx hb dX12_heap_25 hl (by decide) rfl (fun ls hl => ?_)
      refine lv_iload hx hb dX12_heap_27 (lv_at hl 0 rfl) ?_
      refine lv_if_eq (tgt := 35) hx hb dX12_heap_29 (by decide) (fun c6 => ?_) (fun c6 => ?_)
      · replace hf := pos_e c6 hf
        refine lv_iconst (v := 0) hx hb dX12_heap_35 (by decide) ?_
        refine lv_istore (lv' := [(5, .int 0), (4, .int r5), (0, .ref (ad 14 0)), (1, .int a1), (2, .int a2), (3, .int a3)]) hx hb dX12_heap_36 hl (by decide) rfl (fun ls hl => ?_)
        refine lv_bipush (v := -4) hx hb dX12_heap_38 (by decide) ?_
        refine lv_istore (lv' := [(6, .int (-4)), (5, .int 0), (4, .int r5), (0, .ref (ad 14 0)), (1, .int a1), (2, .int a2), (3, .int a3)]) hx hb dX12_heap_40 hl (by decide) rfl (fun ls hl => ?_)
        refine lv_aload_n hx hb dX12_heap_42 rfl (lv_at hl 3 rfl) ?_
        refine gget E in_X12 hK hP (q_model ks ad σ) rfl (k := 19) (by decide) wd_5_79 rfl (v := .ref (ad 15 19)) rfl dX12_heap_43 ?_
        refine lv_iload_n hx hb dX12_heap_46 rfl (lv_at hl 5 rfl) ?_
        obtain ⟨c7, hf⟩ := ck_e hf
        refine giald E hK hP (q_M19 ks ad σ) c7 dX12_heap_47 ?_
        refine lv_iconst (v := 1) hx hb dX12_heap_48 (by decide) ?_
        refine lv_isub hx hb dX12_heap_49 ?_
        obtain ⟨v8, ev8, hf⟩ := nmv_e hf
        refine lv_nmi ev8 ?_
        refine lv_istore (lv' := [(7, .int v8), (6, .int (-4)), (5, .int 0), (4, .int r5), (0, .ref (ad 14 0)), (1, .int a1), (2, .int a2), (3, .int a3)]) hx hb dX12_heap_50 hl (by decide) rfl (fun ls hl => ?_)
        have loop_52 : ∀ (K_52 : Int32 → Int32 → St → Option (Int32 × St)) (hK_52 : (∀ (y23 : Int32) (y24 : Int32) (σ25 : St) (H : Heap) (locs : List Loc) (hP : va_P (dC, dI) vwCl (wG ks ad σ25) H) (hD : va_D A (wG ks ad σ25)) (hS : va_S A s.heap H locs) (hf : K_52 y23 y24 σ25 = some out) (ls : Array Slot), lv_has ls 9 [(3, .int a3), (5, .int y23), (6, .int y24)] → W p l e rX12_heap s m args below meth c H locs 0 0 (MQ below (va_Qi (fun r σ' => r = out.1 ∧ σ' = out.2) (gBw dC dI ks ad A) A) args s 0 0 A) (F0 m 112 ls []))) (n_52 : Nat) (x9 : Int32) (x10 : Int32) (x11 : Int32) (σ12 : St) (H : Heap) (locs : List Loc) (hP : va_P (dC, dI) vwCl (wG ks ad σ12) H) (hD : va_D A (wG ks ad σ12)) (hS : va_S A s.heap H locs) (hf : fX12_heap_L52 a1 a2 K_52 n_52 x9 x10 x11 σ12 = some out) (ls : Array Slot), lv_has ls 9 [(0, .ref (ad 14 0)), (1, .int a1), (2, .int a2), (3, .int a3), (5, .int x9), (6, .int x10), (7, .int x11)] → W p l e rX12_heap s m args below meth c H locs 0 0 (MQ below (va_Qi (fun r σ' => r = out.1 ∧ σ' = out.2) (gBw dC dI ks ad A) A) args s 0 0 A) (F0 m 52 ls []) := by
          intro K_52 hK_52 n_52
          induction n_52 with
          | zero => intro x9 x10 x11 σ12 H locs hP hD hS hf; cases hf
          | succ n_52 ih_52 =>
            intro x9 x10 x11 σ12 H locs hP hD hS hf ls hl
            have hf : fX12_heap_L52B a1 a2 K_52 (fX12_heap_L52 a1 a2 K_52 n_52) x9 x10 x11 σ12 = some out := hf
            unfold fX12_heap_L52B at hf
            refine lv_iload hx hb dX12_heap_52 (lv_at hl 6 rfl) ?_
            refine lv_if_lt (tgt := 112) hx hb dX12_heap_54 (by decide) (fun c13 => ?_) (fun c13 => ?_)
            · replace hf := pos_e c13 hf
              exact hK_52 _ _ _ _ _ hP hD hS hf _ (lv_sub hl [3, 4, 5] rfl)
            · replace hf := neg_e c13 hf
              refine lv_aload_n hx hb dX12_heap_57 rfl (lv_at hl 0 rfl) ?_
              refine lv_iload_n hx hb dX12_heap_58 rfl (lv_at hl 1 rfl) ?_
              refine lv_aload_n hx hb dX12_heap_59 rfl (lv_at hl 0 rfl) ?_
              refine gget E in_X12 hK hP (q_model ks ad σ12) rfl (k := 20) (by decide) wd_5_80 rfl (v := .ref (ad 15 20)) rfl dX12_heap_60 ?_
              refine lv_bipush (v := 100) hx hb dX12_heap_63 (by decide) ?_
              refine lv_iload_n hx hb dX12_heap_65 rfl (lv_at hl 2 rfl) ?_
              refine lv_imul hx hb dX12_heap_66 ?_
              refine lv_iload hx hb dX12_heap_67 (lv_at hl 6 rfl) ?_
              refine lv_iadd hx hb dX12_heap_69 ?_
              obtain ⟨c14, hf⟩ := ck_e hf
              refine giald E hK hP (q_M20 ks ad σ12) c14 dX12_heap_70 ?_
              obtain ⟨r15, er15, hf⟩ := bd_e hf
              refine gVw_i E hK hP hD hS hA (cX12_forcesForc _ _ er15) kV_X12_forcesFor wd_6_217 rfl rfl (q_model ks ad σ12) rfl rfl rfl ⟨Nat.le_of_ble_eq_true rfl, Nat.le_of_ble_eq_true rfl⟩ ⟨Nat.zero_le _, Nat.zero_le _⟩ hl.1 (Nat.le_of_ble_eq_true rfl) rfl dX12_heap_71 (fun H locs hP hD hS => ?_)
              refine lv_istore (lv' := [(8, .int r15.1), (0, .ref (ad 14 0)), (1, .int a1), (2, .int a2), (3, .int a3), (5, .int x9), (6, .int x10), (7, .int x11)]) hx hb dX12_heap_74 hl (by decide) rfl (fun ls hl => ?_)
              refine lv_iload hx hb dX12_heap_76 (lv_at hl 0 rfl) ?_
              refine lv_if_ne (tgt := 84) hx hb dX12_heap_78 (by decide) (fun c16 => ?_) (fun c16 => ?_)
              · replace hf := neg_e c16 hf
                refine lv_iload hx hb dX12_heap_84 (lv_at hl 5 rfl) ?_
                refine lv_iload hx hb dX12_heap_86 (lv_at hl 0 rfl) ?_
                refine lv_iconst (v := 1) hx hb dX12_heap_88 (by decide) ?_
                have hJ_97 : ∀ (z17 : Int32) (σ18 : St) (H : Heap) (locs : List Loc) (hP : va_P (dC, dI) vwCl (wG ks ad σ18) H) (hD : va_D A (wG ks ad σ18)) (hS : va_S A s.heap H locs) (hf : fX12_heap_J97 x9 x11 (fX12_heap_L52 a1 a2 K_52 n_52) z17 σ18 = some out) (ls : Array Slot), lv_has ls 9 [(0, .ref (ad 14 0)), (1, .int a1), (2, .int a2), (3, .int a3), (7, .int x11)] → W p l e rX12_heap s m args below meth c H locs 0 0 (MQ below (va_Qi (fun r σ' => r = out.1 ∧ σ' = out.2) (gBw dC dI ks ad A) A) args s 0 0 A) (F0 m 97 ls [.int z17, .int x9]) := by
                  intro z17 σ18 H locs hP hD hS hf ls hl
                  unfold fX12_heap_J97 at hf
                  refine lv_iadd hx hb dX12_heap_97 ?_
                  obtain ⟨v19, ev19, hf⟩ := nmv_e hf
                  refine lv_nmi ev19 ?_
                  refine lv_istore (lv' := [(5, .int v19), (0, .ref (ad 14 0)), (1, .int a1), (2, .int a2), (3, .int a3), (7, .int x11)]) hx hb dX12_heap_98 hl (by decide) rfl (fun ls hl => ?_)
                  refine lv_aload_n hx hb dX12_heap_100 rfl (lv_at hl 1 rfl) ?_
                  refine gget E in_X12 hK hP (q_model ks ad σ18) rfl (k := 11) (by decide) wd_5_71 rfl (v := .int (gI σ18 11 0 11)) rfl dX12_heap_101 ?_
                  obtain ⟨v20, ev20, hf⟩ := nmv_e hf
                  refine lv_nmi ev20 ?_
                  refine lv_istore (lv' := [(6, .int v20), (5, .int v19), (0, .ref (ad 14 0)), (1, .int a1), (2, .int a2), (3, .int a3), (7, .int x11)]) hx hb dX12_heap_104 hl (by decide) rfl (fun ls hl => ?_)
                  obtain ⟨v21, ev21, hf⟩ := nmv_e hf
                  refine lv_iinc (v := v21) (lv' := [(7, .int v21), (6, .int v20), (5, .int v19), (0, .ref (ad 14 0)), (1, .int a1), (2, .int a2), (3, .int a3)]) hx hb dX12_heap_106 hl (k := 6) rfl (by rw [ev21]; rfl) (by decide) rfl (fun ls hl => ?_)
                  refine lv_goto (tgt := 52) hx hb dX12_heap_109 (by decide) ?_
                  exact ih_52 _ _ _ _ _ _ hP hD hS hf _ (lv_sub hl [3, 4, 5, 6, 2, 1, 0] rfl)
                refine lv_icmp_ne (tgt := 96) hx hb dX12_heap_89 (by decide) (fun c22 => ?_) (fun c22 => ?_)
                · replace hf := neg_e c22 hf
                  refine lv_iconst (v := 0) hx hb dX12_heap_96 (by decide) ?_
                  exact hJ_97 _ _ _ _ hP hD hS hf _ (lv_sub hl [1, 2, 3, 4, 7] rfl)
                · replace hf := pos_e c22 hf
                  refine lv_iconst (v := 1) hx hb dX12_heap_92 (by decide) ?_
                  refine lv_goto (tgt := 97) hx hb dX12_heap_93 (by decide) ?_
                  exact hJ_97 _ _ _ _ hP hD hS hf _ (lv_sub hl [1, 2, 3, 4, 7] rfl)
              · replace hf := pos_e c16 hf
                refine lv_bipush (v := -4) hx hb dX12_heap_81 (by decide) ?_
                exact gretw_i E hlk hP hD hS hr dX12_heap_83 (som_e hf)
        refine loop_52 _ (fun y23 y24 σ25 H locs hP hD hS hf ls hl => ?_) _ _ _ _ _ _ _ hP hD hS hf _ (lv_sub hl [4, 5, 6, 7, 2, 1, 0] rfl)
        refine lv_iload_n hx hb dX12_heap_112 rfl (lv_at hl 0 rfl) ?_
        refine lv_if_ne (tgt := 121) hx hb dX12_heap_113 (by decide) (fun c26 => ?_) (fun c26 => ?_)
        · replace hf := neg_e c26 hf
          refine lv_iload hx hb dX12_heap_121 (lv_at hl 2 rfl) ?_
          exact gretw_i E hlk hP hD hS hr dX12_heap_123 (som_e hf)
        · replace hf := pos_e c26 hf
          refine lv_iload hx hb dX12_heap_116 (lv_at hl 1 rfl) ?_
          refine lv_goto (tgt := 123) hx hb dX12_heap_118 (by decide) ?_
          exact gretw_i E hlk hP hD hS hr dX12_heap_123 (som_e hf)
      · replace hf := neg_e c6 hf
        refine lv_iload hx hb dX12_heap_32 (lv_at hl 0 rfl) ?_
        exact gretw_i E hlk hP hD hS hr dX12_heap_34 (som_e hf)
    · replace hf := pos_e c4 hf
      refine lv_iconst (v := -1) hx hb dX12_heap_17 (by decide) ?_
      exact gretw_i E hlk hP hD hS hr dX12_heap_18 (som_e hf)
noncomputable def fX12_forged_L26B (a1 : Int32) (a2 : Int32) (K_26 : St → Option (Int32 × St)) (rec_26 : Int32 → St → Option (Int32 × St)) (x5 : Int32) (σ6 : St) : Option (Int32 × St) :=
  ck (vp_in a2 8) <|
  if (gI σ6 12 19 a2.toNatClampNeg) ≤ x5 then
  K_26 σ6
  else
  ck (vp_in ((100 * a2) + x5) 800) <|
  bd (fX12_forcesFor σ6 a1 (gI σ6 12 20 ((100 * a2) + x5).toNatClampNeg)) fun r10 =>
  if r10.1 = 0 then
  some (x5, r10.2)
  else
  nmv (x5 + 1) fun v12 =>
  rec_26 v12 r10.2
noncomputable def fX12_forged_L26 (a1 : Int32) (a2 : Int32) (K_26 : St → Option (Int32 × St)) : Nat → Int32 → St → Option (Int32 × St)
  | 0 => fun _ _ => none
  | n + 1 => fX12_forged_L26B a1 a2 K_26 (fX12_forged_L26 a1 a2 K_26 n)
noncomputable def fX12_forged (σ : St) (a1 : Int32) (a2 : Int32) : Option (Int32 × St) :=
  bd (fX12_isBlow σ a1) fun r1 =>
  if r1 = 0 then
  some ((-1), σ)
  else
  bd (fX12_wrongRow σ a2 (-1)) fun r3 =>
  if r3 = 0 then
  fX12_forged_L26 a1 a2 (fun σ13 => some ((-4), σ13)) FU 0 σ
  else
  some (r3, σ)
def rX12_forged : Room := { frames := 4, cells := 0, slots := 0, locals := 89 }
set_option maxHeartbeats 4000000 in
set_option maxRecDepth 100000 in
theorem cX12_forgedc {l : Launch} {dC : Nat → ClassId} {dI : Nat → Nat → Nat} {ks : Nat → ClassId} {ad : Nat → Nat → Nat} {σ : St} (a1 : Int32) (a2 : Int32)  {out : Int32 × St} (hf : fX12_forged σ a1 a2 = some out) : MWi l dC dI ks ad σ yX12_forged cX12_forged 5 (some .int) rX12_forged [.ref (ad 14 0), .int a1, .int a2] out := by
  intro sz
  refine met_w (Qc := fun A => va_Qi (fun r σ' => r = out.1 ∧ σ' = out.2) (gBw dC dI ks ad A) A) (own := RX12) (by decide) rfl (Nat.le_of_ble_eq_true rfl) ?_
  intro A p e s m args below meth c ls E hr hlk hA hP hD hS hK hl
  have hx := E.1
  have hb := E.2.1
  have hl : lv_has ls 5 [(0, .ref (ad 14 0)), (1, .int a1), (2, .int a2)] := hl
  unfold fX12_forged at hf
  refine lv_aload_n hx hb dX12_forged_0 rfl (lv_at hl 0 rfl) ?_
  refine lv_iload_n hx hb dX12_forged_1 rfl (lv_at hl 1 rfl) ?_
  obtain ⟨r1, er1, hf⟩ := bd_e hf
  refine gVr_i E hK hP (cX12_isBlowc _ er1) kV_X12_isBlow wd_5_196 rfl rfl (q_model ks ad σ) rfl rfl rfl ⟨Nat.le_of_ble_eq_true rfl, Nat.le_of_ble_eq_true rfl⟩ ⟨Nat.zero_le _, Nat.zero_le _⟩ hl.1 (Nat.le_of_ble_eq_true rfl) rfl dX12_forged_2 ?_
  refine lv_if_ne (tgt := 10) hx hb dX12_forged_5 (by decide) (fun c2 => ?_) (fun c2 => ?_)
  · replace hf := neg_e c2 hf
    refine lv_aload_n hx hb dX12_forged_10 rfl (lv_at hl 0 rfl) ?_
    refine lv_iload_n hx hb dX12_forged_11 rfl (lv_at hl 2 rfl) ?_
    refine lv_iconst (v := -1) hx hb dX12_forged_12 (by decide) ?_
    obtain ⟨r3, er3, hf⟩ := bd_e hf
    refine gVr_i E hK hP (cX12_wrongRowc _ _ er3) kV_X12_wrongRow wd_5_131 rfl rfl (q_model ks ad σ) rfl rfl rfl ⟨Nat.le_of_ble_eq_true rfl, Nat.le_of_ble_eq_true rfl⟩ ⟨Nat.zero_le _, Nat.zero_le _⟩ hl.1 (Nat.le_of_ble_eq_true rfl) rfl dX12_forged_13 ?_
    refine lv_istore_n (lv' := [(3, .int r3), (0, .ref (ad 14 0)), (1, .int a1), (2, .int a2)]) hx hb dX12_forged_16 rfl hl (by decide) rfl (fun ls hl => ?_)
    refine lv_iload_n hx hb dX12_forged_17 rfl (lv_at hl 0 rfl) ?_
    refine lv_if_eq (tgt := 23) hx hb dX12_forged_18 (by decide) (fun c4 => ?_) (fun c4 => ?_)
    · replace hf := pos_e c4 hf
      refine lv_iconst (v := 0) hx hb dX12_forged_23 (by decide) ?_
      refine lv_istore (lv' := [(4, .int 0), (3, .int r3), (0, .ref (ad 14 0)), (1, .int a1), (2, .int a2)]) hx hb dX12_forged_24 hl (by decide) rfl (fun ls hl => ?_)
      have loop_26 : ∀ (K_26 : St → Option (Int32 × St)) (hK_26 : (∀ (σ13 : St) (H : Heap) (locs : List Loc) (hP : va_P (dC, dI) vwCl (wG ks ad σ13) H) (hD : va_D A (wG ks ad σ13)) (hS : va_S A s.heap H locs) (hf : K_26 σ13 = some out) (ls : Array Slot), lv_has ls 5 [] → W p l e rX12_forged s m args below meth c H locs 0 0 (MQ below (va_Qi (fun r σ' => r = out.1 ∧ σ' = out.2) (gBw dC dI ks ad A) A) args s 0 0 A) (F0 m 66 ls []))) (n_26 : Nat) (x5 : Int32) (σ6 : St) (H : Heap) (locs : List Loc) (hP : va_P (dC, dI) vwCl (wG ks ad σ6) H) (hD : va_D A (wG ks ad σ6)) (hS : va_S A s.heap H locs) (hf : fX12_forged_L26 a1 a2 K_26 n_26 x5 σ6 = some out) (ls : Array Slot), lv_has ls 5 [(0, .ref (ad 14 0)), (1, .int a1), (2, .int a2), (4, .int x5)] → W p l e rX12_forged s m args below meth c H locs 0 0 (MQ below (va_Qi (fun r σ' => r = out.1 ∧ σ' = out.2) (gBw dC dI ks ad A) A) args s 0 0 A) (F0 m 26 ls []) := by
        intro K_26 hK_26 n_26
        induction n_26 with
        | zero => intro x5 σ6 H locs hP hD hS hf; cases hf
        | succ n_26 ih_26 =>
          intro x5 σ6 H locs hP hD hS hf ls hl
          have hf : fX12_forged_L26B a1 a2 K_26 (fX12_forged_L26 a1 a2 K_26 n_26) x5 σ6 = some out := hf
          unfold fX12_forged_L26B at hf
          refine lv_iload hx hb dX12_forged_26 (lv_at hl 3 rfl) ?_
          refine lv_aload_n hx hb dX12_forged_28 rfl (lv_at hl 0 rfl) ?_
          refine gget E in_X12 hK hP (q_model ks ad σ6) rfl (k := 19) (by decide) wd_5_79 rfl (v := .ref (ad 15 19)) rfl dX12_forged_29 ?_
          refine lv_iload_n hx hb dX12_forged_32 rfl (lv_at hl 2 rfl) ?_
          obtain ⟨c7, hf⟩ := ck_e hf
          refine giald E hK hP (q_M19 ks ad σ6) c7 dX12_forged_33 ?_
          refine lv_icmp_ge (tgt := 66) hx hb dX12_forged_34 (by decide) (fun c8 => ?_) (fun c8 => ?_)
          · replace hf := pos_e c8 hf
            exact hK_26 _ _ _ hP hD hS hf _ (lv_sub hl [] rfl)
          · replace hf := neg_e c8 hf
            refine lv_aload_n hx hb dX12_forged_37 rfl (lv_at hl 0 rfl) ?_
            refine lv_iload_n hx hb dX12_forged_38 rfl (lv_at hl 1 rfl) ?_
            refine lv_aload_n hx hb dX12_forged_39 rfl (lv_at hl 0 rfl) ?_
            refine gget E in_X12 hK hP (q_model ks ad σ6) rfl (k := 20) (by decide) wd_5_80 rfl (v := .ref (ad 15 20)) rfl dX12_forged_40 ?_
            refine lv_bipush (v := 100) hx hb dX12_forged_43 (by decide) ?_
            refine lv_iload_n hx hb dX12_forged_45 rfl (lv_at hl 2 rfl) ?_
            refine lv_imul hx hb dX12_forged_46 ?_
            refine lv_iload hx hb dX12_forged_47 (lv_at hl 3 rfl) ?_
            refine lv_iadd hx hb dX12_forged_49 ?_
            obtain ⟨c9, hf⟩ := ck_e hf
            refine giald E hK hP (q_M20 ks ad σ6) c9 dX12_forged_50 ?_
            obtain ⟨r10, er10, hf⟩ := bd_e hf
            refine gVw_i E hK hP hD hS hA (cX12_forcesForc _ _ er10) kV_X12_forcesFor wd_6_217 rfl rfl (q_model ks ad σ6) rfl rfl rfl ⟨Nat.le_of_ble_eq_true rfl, Nat.le_of_ble_eq_true rfl⟩ ⟨Nat.zero_le _, Nat.zero_le _⟩ hl.1 (Nat.le_of_ble_eq_true rfl) rfl dX12_forged_51 (fun H locs hP hD hS => ?_)
            refine lv_if_ne (tgt := 60) hx hb dX12_forged_54 (by decide) (fun c11 => ?_) (fun c11 => ?_)
            · replace hf := neg_e c11 hf
              obtain ⟨v12, ev12, hf⟩ := nmv_e hf
              refine lv_iinc (v := v12) (lv' := [(4, .int v12), (0, .ref (ad 14 0)), (1, .int a1), (2, .int a2)]) hx hb dX12_forged_60 hl (k := 3) rfl (by rw [ev12]; rfl) (by decide) rfl (fun ls hl => ?_)
              refine lv_goto (tgt := 26) hx hb dX12_forged_63 (by decide) ?_
              exact ih_26 _ _ _ _ hP hD hS hf _ (lv_sub hl [1, 2, 3, 0] rfl)
            · replace hf := pos_e c11 hf
              refine lv_iload hx hb dX12_forged_57 (lv_at hl 3 rfl) ?_
              exact gretw_i E hlk hP hD hS hr dX12_forged_59 (som_e hf)
      refine loop_26 _ (fun σ13 H locs hP hD hS hf ls hl => ?_) _ _ _ _ _ hP hD hS hf _ (lv_sub hl [2, 3, 4, 0] rfl)
      refine lv_bipush (v := -4) hx hb dX12_forged_66 (by decide) ?_
      exact gretw_i E hlk hP hD hS hr dX12_forged_68 (som_e hf)
    · replace hf := neg_e c4 hf
      refine lv_iload_n hx hb dX12_forged_21 rfl (lv_at hl 0 rfl) ?_
      exact gretw_i E hlk hP hD hS hr dX12_forged_22 (som_e hf)
  · replace hf := pos_e c2 hf
    refine lv_iconst (v := -1) hx hb dX12_forged_8 (by decide) ?_
    exact gretw_i E hlk hP hD hS hr dX12_forged_9 (som_e hf)
noncomputable def fX12_remainder_J72 (σ : St) (a1 : Int32) (a2 : Int32) (a3 : Int32) (z3 : Int32) : Option (Int32) :=
  if z3 = 0 then
  ck (vp_in ((100 * a1) + a2) 800) <|
  ck (vp_in ((100 * a1) + a3) 800) <|
  ck (¬ (gI σ 12 20 ((100 * a1) + a3).toNatClampNeg) = 0) <|
  some ((gI σ 12 20 ((100 * a1) + a2).toNatClampNeg) - (gI σ 12 20 ((100 * a1) + a2).toNatClampNeg) / (gI σ 12 20 ((100 * a1) + a3).toNatClampNeg) * (gI σ 12 20 ((100 * a1) + a3).toNatClampNeg))
  else
  some (1000000000 - z3)
noncomputable def fX12_remainder_J49 (σ : St) (a1 : Int32) (a2 : Int32) (a3 : Int32) (z2 : Int32) : Option (Int32) :=
  if z2 = 0 then
  ck (vp_in ((100 * a1) + a3) 800) <|
  if (gI σ 12 20 ((100 * a1) + a3).toNatClampNeg) = 0 then
  fX12_remainder_J72 σ a1 a2 a3 (-16)
  else
  fX12_remainder_J72 σ a1 a2 a3 z2
  else
  fX12_remainder_J72 σ a1 a2 a3 z2
noncomputable def fX12_remainder_J45 (σ : St) (a1 : Int32) (a2 : Int32) (a3 : Int32) : Option (Int32) :=
  fX12_remainder_J49 σ a1 a2 a3 (-13)
noncomputable def fX12_remainder (σ : St) (a1 : Int32) (a2 : Int32) (a3 : Int32) : Option (Int32) :=
  bd (fX12_wrongRow σ a1 (-1)) fun r1 =>
  if r1 = 0 then
  ck (vp_in a1 8) <|
  bd (fX12_isIn σ a2 0 ((gI σ 12 19 a1.toNatClampNeg) - 1)) fun r13 =>
  if r13 = 0 then
  fX12_remainder_J45 σ a1 a2 a3
  else
  ck (vp_in a1 8) <|
  bd (fX12_isIn σ a3 0 ((gI σ 12 19 a1.toNatClampNeg) - 1)) fun r16 =>
  if r16 = 0 then
  fX12_remainder_J45 σ a1 a2 a3
  else
  fX12_remainder_J49 σ a1 a2 a3 r1
  else
  fX12_remainder_J49 σ a1 a2 a3 r1
def rX12_remainder : Room := { frames := 3, cells := 0, slots := 0, locals := 64 }
set_option maxHeartbeats 4000000 in
set_option maxRecDepth 100000 in
theorem cX12_remainderc {l : Launch} {dC : Nat → ClassId} {dI : Nat → Nat → Nat} {ks : Nat → ClassId} {ad : Nat → Nat → Nat} {σ : St} (a1 : Int32) (a2 : Int32) (a3 : Int32)  {out : Int32} (hf : fX12_remainder σ a1 a2 a3 = some out) : MRi l dC dI ks ad σ yX12_remainder cX12_remainder 5 (some .int) rX12_remainder [.ref (ad 14 0), .int a1, .int a2, .int a3] out := by
  refine met_r (own := RX12) (by decide) rfl (Nat.le_of_ble_eq_true rfl) ?_
  intro p e s m args below meth c ls E hr hlk hP hK hl
  have hx := E.1
  have hb := E.2.1
  have hl : lv_has ls 5 [(0, .ref (ad 14 0)), (1, .int a1), (2, .int a2), (3, .int a3)] := hl
  unfold fX12_remainder at hf
  refine lv_aload_n hx hb dX12_remainder_0 rfl (lv_at hl 0 rfl) ?_
  refine lv_iload_n hx hb dX12_remainder_1 rfl (lv_at hl 1 rfl) ?_
  refine lv_iconst (v := -1) hx hb dX12_remainder_2 (by decide) ?_
  obtain ⟨r1, er1, hf⟩ := bd_e hf
  refine gVr_i E hK hP (cX12_wrongRowc _ _ er1) kV_X12_wrongRow wd_5_131 rfl rfl (q_model ks ad σ) rfl rfl rfl ⟨Nat.le_of_ble_eq_true rfl, Nat.le_of_ble_eq_true rfl⟩ ⟨Nat.zero_le _, Nat.zero_le _⟩ hl.1 (Nat.le_of_ble_eq_true rfl) rfl dX12_remainder_3 ?_
  refine lv_istore (lv' := [(4, .int r1), (0, .ref (ad 14 0)), (1, .int a1), (2, .int a2), (3, .int a3)]) hx hb dX12_remainder_6 hl (by decide) rfl (fun ls hl => ?_)
  refine lv_iload hx hb dX12_remainder_8 (lv_at hl 0 rfl) ?_
  have hJ_49 : ∀ (z2 : Int32) (hf : fX12_remainder_J49 σ a1 a2 a3 z2 = some out) (ls : Array Slot), lv_has ls 5 [(0, .ref (ad 14 0)), (1, .int a1), (2, .int a2), (3, .int a3), (4, .int z2)] → W p l e rX12_remainder s m args below meth c s.heap [] 0 0 (MQ below (vp_Si (fun r => r = out)) args s 0 0 (fun _ => False)) (F0 m 49 ls []) := by
    intro z2 hf ls hl
    unfold fX12_remainder_J49 at hf
    refine lv_iload hx hb dX12_remainder_49 (lv_at hl 4 rfl) ?_
    have hJ_72 : ∀ (z3 : Int32) (hf : fX12_remainder_J72 σ a1 a2 a3 z3 = some out) (ls : Array Slot), lv_has ls 5 [(0, .ref (ad 14 0)), (1, .int a1), (2, .int a2), (3, .int a3), (4, .int z3)] → W p l e rX12_remainder s m args below meth c s.heap [] 0 0 (MQ below (vp_Si (fun r => r = out)) args s 0 0 (fun _ => False)) (F0 m 72 ls []) := by
      intro z3 hf ls hl
      unfold fX12_remainder_J72 at hf
      refine lv_iload hx hb dX12_remainder_72 (lv_at hl 4 rfl) ?_
      refine lv_if_eq (tgt := 85) hx hb dX12_remainder_74 (by decide) (fun c4 => ?_) (fun c4 => ?_)
      · replace hf := pos_e c4 hf
        refine lv_aload_n hx hb dX12_remainder_85 rfl (lv_at hl 0 rfl) ?_
        refine gget E in_X12 hK hP (q_model ks ad σ) rfl (k := 20) (by decide) wd_5_80 rfl (v := .ref (ad 15 20)) rfl dX12_remainder_86 ?_
        refine lv_bipush (v := 100) hx hb dX12_remainder_89 (by decide) ?_
        refine lv_iload_n hx hb dX12_remainder_91 rfl (lv_at hl 1 rfl) ?_
        refine lv_imul hx hb dX12_remainder_92 ?_
        refine lv_iload_n hx hb dX12_remainder_93 rfl (lv_at hl 2 rfl) ?_
        refine lv_iadd hx hb dX12_remainder_94 ?_
        obtain ⟨c5, hf⟩ := ck_e hf
        refine giald E hK hP (q_M20 ks ad σ) c5 dX12_remainder_95 ?_
        refine lv_aload_n hx hb dX12_remainder_96 rfl (lv_at hl 0 rfl) ?_
        refine gget E in_X12 hK hP (q_model ks ad σ) rfl (k := 20) (by decide) wd_5_80 rfl (v := .ref (ad 15 20)) rfl dX12_remainder_97 ?_
        refine lv_bipush (v := 100) hx hb dX12_remainder_100 (by decide) ?_
        refine lv_iload_n hx hb dX12_remainder_102 rfl (lv_at hl 1 rfl) ?_
        refine lv_imul hx hb dX12_remainder_103 ?_
        refine lv_iload_n hx hb dX12_remainder_104 rfl (lv_at hl 3 rfl) ?_
        refine lv_iadd hx hb dX12_remainder_105 ?_
        obtain ⟨c6, hf⟩ := ck_e hf
        refine giald E hK hP (q_M20 ks ad σ) c6 dX12_remainder_106 ?_
        obtain ⟨c7, hf⟩ := ck_e hf
        refine lv_irem hx hb dX12_remainder_107 c7 ?_
        exact gret_i E hr hlk dX12_remainder_108 (som_e hf).symm
      · replace hf := neg_e c4 hf
        refine lv_ldc (v := 1000000000) hx hb E.2.2.2.1 (E.2.2.2.2 _ wd_6_111) dX12_remainder_77 ?_
        refine lv_iload hx hb dX12_remainder_79 (lv_at hl 4 rfl) ?_
        refine lv_isub hx hb dX12_remainder_81 ?_
        refine lv_goto (tgt := 108) hx hb dX12_remainder_82 (by decide) ?_
        exact gret_i E hr hlk dX12_remainder_108 (som_e hf).symm
    refine lv_if_ne (tgt := 72) hx hb dX12_remainder_51 (by decide) (fun c8 => ?_) (fun c8 => ?_)
    · replace hf := neg_e c8 hf
      exact hJ_72 _ hf _ (lv_sub hl [0, 1, 2, 3, 4] rfl)
    · replace hf := pos_e c8 hf
      refine lv_aload_n hx hb dX12_remainder_54 rfl (lv_at hl 0 rfl) ?_
      refine gget E in_X12 hK hP (q_model ks ad σ) rfl (k := 20) (by decide) wd_5_80 rfl (v := .ref (ad 15 20)) rfl dX12_remainder_55 ?_
      refine lv_bipush (v := 100) hx hb dX12_remainder_58 (by decide) ?_
      refine lv_iload_n hx hb dX12_remainder_60 rfl (lv_at hl 1 rfl) ?_
      refine lv_imul hx hb dX12_remainder_61 ?_
      refine lv_iload_n hx hb dX12_remainder_62 rfl (lv_at hl 3 rfl) ?_
      refine lv_iadd hx hb dX12_remainder_63 ?_
      obtain ⟨c9, hf⟩ := ck_e hf
      refine giald E hK hP (q_M20 ks ad σ) c9 dX12_remainder_64 ?_
      refine lv_if_ne (tgt := 72) hx hb dX12_remainder_65 (by decide) (fun c10 => ?_) (fun c10 => ?_)
      · replace hf := neg_e c10 hf
        exact hJ_72 _ hf _ (lv_sub hl [0, 1, 2, 3, 4] rfl)
      · replace hf := pos_e c10 hf
        refine lv_bipush (v := -16) hx hb dX12_remainder_68 (by decide) ?_
        refine lv_istore (lv' := [(4, .int (-16)), (0, .ref (ad 14 0)), (1, .int a1), (2, .int a2), (3, .int a3)]) hx hb dX12_remainder_70 hl (by decide) rfl (fun ls hl => ?_)
        exact hJ_72 _ hf _ (lv_sub hl [1, 2, 3, 4, 0] rfl)
  refine lv_if_ne (tgt := 49) hx hb dX12_remainder_10 (by decide) (fun c11 => ?_) (fun c11 => ?_)
  · replace hf := neg_e c11 hf
    exact hJ_49 _ hf _ (lv_sub hl [1, 2, 3, 4, 0] rfl)
  · replace hf := pos_e c11 hf
    refine lv_iload_n hx hb dX12_remainder_13 rfl (lv_at hl 3 rfl) ?_
    refine lv_iconst (v := 0) hx hb dX12_remainder_14 (by decide) ?_
    refine lv_aload_n hx hb dX12_remainder_15 rfl (lv_at hl 1 rfl) ?_
    refine gget E in_X12 hK hP (q_model ks ad σ) rfl (k := 19) (by decide) wd_5_79 rfl (v := .ref (ad 15 19)) rfl dX12_remainder_16 ?_
    refine lv_iload_n hx hb dX12_remainder_19 rfl (lv_at hl 2 rfl) ?_
    obtain ⟨c12, hf⟩ := ck_e hf
    refine giald E hK hP (q_M19 ks ad σ) c12 dX12_remainder_20 ?_
    refine lv_iconst (v := 1) hx hb dX12_remainder_21 (by decide) ?_
    refine lv_isub hx hb dX12_remainder_22 ?_
    obtain ⟨r13, er13, hf⟩ := bd_e hf
    refine gSr_i E hK hP (cX12_isInc _ _ _ er13) kS_X12_isIn wd_5_138 rfl rfl rfl ⟨Nat.le_of_ble_eq_true rfl, Nat.le_of_ble_eq_true rfl⟩ ⟨Nat.zero_le _, Nat.zero_le _⟩ hl.1 (Nat.le_of_ble_eq_true rfl) rfl dX12_remainder_23 ?_
    have hJ_45 : ∀ (hf : fX12_remainder_J45 σ a1 a2 a3 = some out) (ls : Array Slot), lv_has ls 5 [(0, .ref (ad 14 0)), (1, .int a1), (2, .int a2), (3, .int a3)] → W p l e rX12_remainder s m args below meth c s.heap [] 0 0 (MQ below (vp_Si (fun r => r = out)) args s 0 0 (fun _ => False)) (F0 m 45 ls []) := by
      intro hf ls hl
      unfold fX12_remainder_J45 at hf
      refine lv_bipush (v := -13) hx hb dX12_remainder_45 (by decide) ?_
      refine lv_istore (lv' := [(4, .int (-13)), (0, .ref (ad 14 0)), (1, .int a1), (2, .int a2), (3, .int a3)]) hx hb dX12_remainder_47 hl (by decide) rfl (fun ls hl => ?_)
      exact hJ_49 _ hf _ (lv_sub hl [1, 2, 3, 4, 0] rfl)
    refine lv_if_eq (tgt := 45) hx hb dX12_remainder_26 (by decide) (fun c14 => ?_) (fun c14 => ?_)
    · replace hf := pos_e c14 hf
      exact hJ_45 hf _ (lv_sub hl [1, 2, 3, 4] rfl)
    · replace hf := neg_e c14 hf
      refine lv_iload_n hx hb dX12_remainder_29 rfl (lv_at hl 4 rfl) ?_
      refine lv_iconst (v := 0) hx hb dX12_remainder_30 (by decide) ?_
      refine lv_aload_n hx hb dX12_remainder_31 rfl (lv_at hl 1 rfl) ?_
      refine gget E in_X12 hK hP (q_model ks ad σ) rfl (k := 19) (by decide) wd_5_79 rfl (v := .ref (ad 15 19)) rfl dX12_remainder_32 ?_
      refine lv_iload_n hx hb dX12_remainder_35 rfl (lv_at hl 2 rfl) ?_
      obtain ⟨c15, hf⟩ := ck_e hf
      refine giald E hK hP (q_M19 ks ad σ) c15 dX12_remainder_36 ?_
      refine lv_iconst (v := 1) hx hb dX12_remainder_37 (by decide) ?_
      refine lv_isub hx hb dX12_remainder_38 ?_
      obtain ⟨r16, er16, hf⟩ := bd_e hf
      refine gSr_i E hK hP (cX12_isInc _ _ _ er16) kS_X12_isIn wd_5_138 rfl rfl rfl ⟨Nat.le_of_ble_eq_true rfl, Nat.le_of_ble_eq_true rfl⟩ ⟨Nat.zero_le _, Nat.zero_le _⟩ hl.1 (Nat.le_of_ble_eq_true rfl) rfl dX12_remainder_39 ?_
      refine lv_if_ne (tgt := 49) hx hb dX12_remainder_42 (by decide) (fun c17 => ?_) (fun c17 => ?_)
      · replace hf := neg_e c17 hf
        exact hJ_49 _ hf _ (lv_sub hl [1, 2, 3, 4, 0] rfl)
      · replace hf := pos_e c17 hf
        exact hJ_45 hf _ (lv_sub hl [1, 2, 3, 4] rfl)
noncomputable def fX12_leastOf (σ : St) (a1 : Int32) : Option (Int32) :=
  if a1 = 0 then
  some (-128)
  else
  if a1 = 1 then
  some (-32768)
  else
  some (-2147483648)
def rX12_leastOf : Room := { frames := 0, cells := 0, slots := 0, locals := 0 }
set_option maxHeartbeats 4000000 in
set_option maxRecDepth 100000 in
theorem cX12_leastOfc {l : Launch} {dC : Nat → ClassId} {dI : Nat → Nat → Nat} {ks : Nat → ClassId} {ad : Nat → Nat → Nat} {σ : St} (a1 : Int32)  {out : Int32} (hf : fX12_leastOf σ a1 = some out) : MRi l dC dI ks ad σ yX12_leastOf cX12_leastOf 1 (some .int) rX12_leastOf [.int a1] out := by
  refine met_r (own := RX12) (by decide) rfl (Nat.le_of_ble_eq_true rfl) ?_
  intro p e s m args below meth c ls E hr hlk hP hK hl
  have hx := E.1
  have hb := E.2.1
  have hl : lv_has ls 1 [(0, .int a1)] := hl
  unfold fX12_leastOf at hf
  refine lv_iload_n hx hb dX12_leastOf_0 rfl (lv_at hl 0 rfl) ?_
  refine lv_if_ne (tgt := 9) hx hb dX12_leastOf_1 (by decide) (fun c1 => ?_) (fun c1 => ?_)
  · replace hf := neg_e c1 hf
    refine lv_iload_n hx hb dX12_leastOf_9 rfl (lv_at hl 0 rfl) ?_
    refine lv_iconst (v := 1) hx hb dX12_leastOf_10 (by decide) ?_
    refine lv_icmp_ne (tgt := 20) hx hb dX12_leastOf_11 (by decide) (fun c2 => ?_) (fun c2 => ?_)
    · replace hf := neg_e c2 hf
      refine lv_ldcw (v := -2147483648) hx hb E.2.2.2.1 (E.2.2.2.2 _ wd_6_236) dX12_leastOf_20 ?_
      exact gret_i E hr hlk dX12_leastOf_23 (som_e hf).symm
    · replace hf := pos_e c2 hf
      refine lv_sipush (v := -32768) hx hb dX12_leastOf_14 (by decide) ?_
      refine lv_goto (tgt := 23) hx hb dX12_leastOf_17 (by decide) ?_
      exact gret_i E hr hlk dX12_leastOf_23 (som_e hf).symm
  · replace hf := pos_e c1 hf
    refine lv_bipush (v := -128) hx hb dX12_leastOf_4 (by decide) ?_
    refine lv_goto (tgt := 23) hx hb dX12_leastOf_6 (by decide) ?_
    exact gret_i E hr hlk dX12_leastOf_23 (som_e hf).symm
noncomputable def fX12_judge_L111B (σ : St) (a4 : Int32) (K_111 : Option (Int32)) (rec_111 : Int32 → Option (Int32)) (x21 : Int32) : Option (Int32) :=
  ck (vp_in a4 8) <|
  if (gI σ 12 19 a4.toNatClampNeg) ≤ x21 then
  K_111
  else
  ck (vp_in ((100 * a4) + x21) 800) <|
  bd (fX12_isForce σ (gI σ 12 20 ((100 * a4) + x21).toNatClampNeg)) fun r25 =>
  if r25 = 0 then
  some (-13)
  else
  nmv (x21 + 1) fun v27 =>
  rec_111 v27
noncomputable def fX12_judge_L111 (σ : St) (a4 : Int32) (K_111 : Option (Int32)) : Nat → Int32 → Option (Int32)
  | 0 => fun _ => none
  | n + 1 => fX12_judge_L111B σ a4 K_111 (fX12_judge_L111 σ a4 K_111 n)
noncomputable def fX12_judge_J368 (x30 : Int32) (rec_163 : Int32 → Int32 → Option (Int32)) (z34 : Int32) : Option (Int32) :=
  nmv (x30 + 1) fun v35 =>
  rec_163 z34 v35
noncomputable def fX12_judge_J321 (σ : St) (a3 : Int32) (x29 : Int32) (x30 : Int32) (rec_163 : Int32 → Int32 → Option (Int32)) (z43 : Int32) (z44 : Int32) : Option (Int32) :=
  nmv (x29 + z44) fun v45 =>
  ck (vp_in ((100 * a3) + x30) 800) <|
  ck (vp_in a3 8) <|
  bd (fX12_leastOf σ (gI σ 12 18 a3.toNatClampNeg)) fun r48 =>
  if (gI σ 12 20 ((100 * a3) + x30).toNatClampNeg) = r48 then
  fX12_judge_J368 x30 rec_163 v45
  else
  ck (vp_in ((100 * a3) + x30) 800) <|
  if (gI σ 12 20 ((100 * a3) + x30).toNatClampNeg) = z43 then
  fX12_judge_J368 x30 rec_163 v45
  else
  some x30
noncomputable def fX12_judge_J300 (σ : St) (a3 : Int32) (v3 : Int32) (x29 : Int32) (x30 : Int32) (rec_163 : Int32 → Int32 → Option (Int32)) (v39 : Int32) (z42 : Int32) (z43 : Int32) : Option (Int32) :=
  if z42 = 0 then
  bd (fX12_wears σ v3 v39) fun r53 =>
  fX12_judge_J321 σ a3 x29 x30 rec_163 z43 r53
  else
  fX12_judge_J321 σ a3 x29 x30 rec_163 z43 0
noncomputable def fX12_judge_J268 (σ : St) (a2 : Int32) (a3 : Int32) (v1 : Int32) (v2 : Int32) (v3 : Int32) (x29 : Int32) (x30 : Int32) (rec_163 : Int32 → Int32 → Option (Int32)) (v39 : Int32) (z42 : Int32) : Option (Int32) :=
  if z42 = 0 then
  bd (fX12_isSound σ v1 v2 v3 a2 v39) fun r55 =>
  if r55 = 0 then
  fX12_judge_J300 σ a3 v3 x29 x30 rec_163 v39 z42 0
  else
  fX12_judge_J300 σ a3 v3 x29 x30 rec_163 v39 z42 1
  else
  fX12_judge_J300 σ a3 v3 x29 x30 rec_163 v39 z42 2
noncomputable def fX12_judge_J213 (σ : St) (a2 : Int32) (a3 : Int32) (a4 : Int32) (v1 : Int32) (v2 : Int32) (v3 : Int32) (x29 : Int32) (x30 : Int32) (rec_163 : Int32 → Int32 → Option (Int32)) : Option (Int32) :=
  ck (vp_in a4 8) <|
  if x30 < (gI σ 12 19 a4.toNatClampNeg) then
  ck (vp_in ((100 * a4) + x30) 800) <|
  nmv (gI σ 12 20 ((100 * a4) + x30).toNatClampNeg) fun v39 =>
  bd (fX12_bladeOf σ v1 1) fun r40 =>
  bd (fX12_bladeOf σ v1 2) fun r41 =>
  if x29 ≤ (r40 + r41) then
  fX12_judge_J268 σ a2 a3 v1 v2 v3 x29 x30 rec_163 v39 0
  else
  fX12_judge_J268 σ a2 a3 v1 v2 v3 x29 x30 rec_163 v39 1
  else
  some x30
noncomputable def fX12_judge_L163B (σ : St) (a2 : Int32) (a3 : Int32) (a4 : Int32) (v1 : Int32) (v2 : Int32) (v3 : Int32) (K_163 : Option (Int32)) (rec_163 : Int32 → Int32 → Option (Int32)) (x29 : Int32) (x30 : Int32) : Option (Int32) :=
  ck (vp_in a3 8) <|
  if (gI σ 12 19 a3.toNatClampNeg) ≤ x30 then
  K_163
  else
  ck (vp_in a4 8) <|
  if x30 < (gI σ 12 19 a4.toNatClampNeg) then
  fX12_judge_J213 σ a2 a3 a4 v1 v2 v3 x29 x30 rec_163
  else
  ck (vp_in ((100 * a3) + x30) 800) <|
  ck (vp_in a3 8) <|
  bd (fX12_leastOf σ (gI σ 12 18 a3.toNatClampNeg)) fun r61 =>
  if (gI σ 12 20 ((100 * a3) + x30).toNatClampNeg) = r61 then
  fX12_judge_J368 x30 rec_163 x29
  else
  fX12_judge_J213 σ a2 a3 a4 v1 v2 v3 x29 x30 rec_163
noncomputable def fX12_judge_L163 (σ : St) (a2 : Int32) (a3 : Int32) (a4 : Int32) (v1 : Int32) (v2 : Int32) (v3 : Int32) (K_163 : Option (Int32)) : Nat → Int32 → Int32 → Option (Int32)
  | 0 => fun _ _ => none
  | n + 1 => fX12_judge_L163B σ a2 a3 a4 v1 v2 v3 K_163 (fX12_judge_L163 σ a2 a3 a4 v1 v2 v3 K_163 n)
noncomputable def fX12_judge (σ : St) (a1 : Int32) (a2 : Int32) (a3 : Int32) (a4 : Int32) : Option (Int32) :=
  nmv (a1 / 100) fun v1 =>
  nmv ((a1 / 10) - (a1 / 10) / 10 * 10) fun v2 =>
  nmv (a1 - a1 / 10 * 10) fun v3 =>
  if a1 < 0 then
  some (-1)
  else
  bd (fX12_areAll σ v1 v2 v3) fun r5 =>
  if r5 = 0 then
  some (-1)
  else
  bd (fX12_isForce σ a2) fun r7 =>
  if r7 = 0 then
  some (-1)
  else
  bd (fX12_isShelf σ a3) fun r9 =>
  if r9 = 0 then
  some (-1)
  else
  bd (fX12_isShelf σ a4) fun r11 =>
  if r11 = 0 then
  some (-1)
  else
  ck (vp_in a3 8) <|
  if (gI σ 12 15 a3.toNatClampNeg) = 0 then
  some (-11)
  else
  ck (vp_in a4 8) <|
  if (gI σ 12 15 a4.toNatClampNeg) = 0 then
  some (-11)
  else
  ck (vp_in a3 8) <|
  if (gI σ 12 15 a3.toNatClampNeg) = 2 then
  ck (vp_in a4 8) <|
  if (gI σ 12 15 a4.toNatClampNeg) = 2 then
  fX12_judge_L111 σ a4 (bd (fX12_bladeOf σ v1 3) fun r28 =>
  fX12_judge_L163 σ a2 a3 a4 v1 v2 v3 (some (-4)) FU r28 0) FU 0
  else
  some (-12)
  else
  some (-12)
def rX12_judge : Room := { frames := 6, cells := 0, slots := 0, locals := 140 }
set_option maxHeartbeats 4000000 in
set_option maxRecDepth 100000 in
theorem cX12_judgec {l : Launch} {dC : Nat → ClassId} {dI : Nat → Nat → Nat} {ks : Nat → ClassId} {ad : Nat → Nat → Nat} {σ : St} (a1 : Int32) (a2 : Int32) (a3 : Int32) (a4 : Int32)  {out : Int32} (hf : fX12_judge σ a1 a2 a3 a4 = some out) : MRi l dC dI ks ad σ yX12_judge cX12_judge 13 (some .int) rX12_judge [.ref (ad 14 0), .int a1, .int a2, .int a3, .int a4] out := by
  refine met_r (own := RX12) (by decide) rfl (Nat.le_of_ble_eq_true rfl) ?_
  intro p e s m args below meth c ls E hr hlk hP hK hl
  have hx := E.1
  have hb := E.2.1
  have hl : lv_has ls 13 [(0, .ref (ad 14 0)), (1, .int a1), (2, .int a2), (3, .int a3), (4, .int a4)] := hl
  unfold fX12_judge at hf
  refine lv_iload_n hx hb dX12_judge_0 rfl (lv_at hl 1 rfl) ?_
  refine lv_bipush (v := 100) hx hb dX12_judge_1 (by decide) ?_
  refine lv_idiv hx hb dX12_judge_3 (by decide) ?_
  obtain ⟨v1, ev1, hf⟩ := nmv_e hf
  refine lv_nmi ev1 ?_
  refine lv_istore (lv' := [(5, .int v1), (0, .ref (ad 14 0)), (1, .int a1), (2, .int a2), (3, .int a3), (4, .int a4)]) hx hb dX12_judge_4 hl (by decide) rfl (fun ls hl => ?_)
  refine lv_iload_n hx hb dX12_judge_6 rfl (lv_at hl 2 rfl) ?_
  refine lv_bipush (v := 10) hx hb dX12_judge_7 (by decide) ?_
  refine lv_idiv hx hb dX12_judge_9 (by decide) ?_
  refine lv_bipush (v := 10) hx hb dX12_judge_10 (by decide) ?_
  refine lv_irem hx hb dX12_judge_12 (by decide) ?_
  obtain ⟨v2, ev2, hf⟩ := nmv_e hf
  refine lv_nmi ev2 ?_
  refine lv_istore (lv' := [(6, .int v2), (5, .int v1), (0, .ref (ad 14 0)), (1, .int a1), (2, .int a2), (3, .int a3), (4, .int a4)]) hx hb dX12_judge_13 hl (by decide) rfl (fun ls hl => ?_)
  refine lv_iload_n hx hb dX12_judge_15 rfl (lv_at hl 3 rfl) ?_
  refine lv_bipush (v := 10) hx hb dX12_judge_16 (by decide) ?_
  refine lv_irem hx hb dX12_judge_18 (by decide) ?_
  obtain ⟨v3, ev3, hf⟩ := nmv_e hf
  refine lv_nmi ev3 ?_
  refine lv_istore (lv' := [(7, .int v3), (6, .int v2), (5, .int v1), (0, .ref (ad 14 0)), (1, .int a1), (2, .int a2), (3, .int a3), (4, .int a4)]) hx hb dX12_judge_19 hl (by decide) rfl (fun ls hl => ?_)
  refine lv_iload_n hx hb dX12_judge_21 rfl (lv_at hl 4 rfl) ?_
  refine lv_if_lt (tgt := 60) hx hb dX12_judge_22 (by decide) (fun c4 => ?_) (fun c4 => ?_)
  · replace hf := pos_e c4 hf
    refine lv_iconst (v := -1) hx hb dX12_judge_60 (by decide) ?_
    exact gret_i E hr hlk dX12_judge_61 (som_e hf).symm
  · replace hf := neg_e c4 hf
    refine lv_aload_n hx hb dX12_judge_25 rfl (lv_at hl 3 rfl) ?_
    refine lv_iload hx hb dX12_judge_26 (lv_at hl 2 rfl) ?_
    refine lv_iload hx hb dX12_judge_28 (lv_at hl 1 rfl) ?_
    refine lv_iload hx hb dX12_judge_30 (lv_at hl 0 rfl) ?_
    obtain ⟨r5, er5, hf⟩ := bd_e hf
    refine gVr_i E hK hP (cX12_areAllc _ _ _ er5) kV_X12_areAll wd_5_184 rfl rfl (q_model ks ad σ) rfl rfl rfl ⟨Nat.le_of_ble_eq_true rfl, Nat.le_of_ble_eq_true rfl⟩ ⟨Nat.zero_le _, Nat.zero_le _⟩ hl.1 (Nat.le_of_ble_eq_true rfl) rfl dX12_judge_32 ?_
    refine lv_if_eq (tgt := 60) hx hb dX12_judge_35 (by decide) (fun c6 => ?_) (fun c6 => ?_)
    · replace hf := pos_e c6 hf
      refine lv_iconst (v := -1) hx hb dX12_judge_60 (by decide) ?_
      exact gret_i E hr hlk dX12_judge_61 (som_e hf).symm
    · replace hf := neg_e c6 hf
      refine lv_iload_n hx hb dX12_judge_38 rfl (lv_at hl 5 rfl) ?_
      obtain ⟨r7, er7, hf⟩ := bd_e hf
      refine gSr_i E hK hP (cX12_isForcec _ er7) kS_X12_isForce wd_6_8 rfl rfl rfl ⟨Nat.le_of_ble_eq_true rfl, Nat.le_of_ble_eq_true rfl⟩ ⟨Nat.zero_le _, Nat.zero_le _⟩ hl.1 (Nat.le_of_ble_eq_true rfl) rfl dX12_judge_39 ?_
      refine lv_if_eq (tgt := 60) hx hb dX12_judge_42 (by decide) (fun c8 => ?_) (fun c8 => ?_)
      · replace hf := pos_e c8 hf
        refine lv_iconst (v := -1) hx hb dX12_judge_60 (by decide) ?_
        exact gret_i E hr hlk dX12_judge_61 (som_e hf).symm
      · replace hf := neg_e c8 hf
        refine lv_iload_n hx hb dX12_judge_45 rfl (lv_at hl 6 rfl) ?_
        obtain ⟨r9, er9, hf⟩ := bd_e hf
        refine gSr_i E hK hP (cX12_isShelfc _ er9) kS_X12_isShelf wd_5_135 rfl rfl rfl ⟨Nat.le_of_ble_eq_true rfl, Nat.le_of_ble_eq_true rfl⟩ ⟨Nat.zero_le _, Nat.zero_le _⟩ hl.1 (Nat.le_of_ble_eq_true rfl) rfl dX12_judge_46 ?_
        refine lv_if_eq (tgt := 60) hx hb dX12_judge_49 (by decide) (fun c10 => ?_) (fun c10 => ?_)
        · replace hf := pos_e c10 hf
          refine lv_iconst (v := -1) hx hb dX12_judge_60 (by decide) ?_
          exact gret_i E hr hlk dX12_judge_61 (som_e hf).symm
        · replace hf := neg_e c10 hf
          refine lv_iload hx hb dX12_judge_52 (lv_at hl 7 rfl) ?_
          obtain ⟨r11, er11, hf⟩ := bd_e hf
          refine gSr_i E hK hP (cX12_isShelfc _ er11) kS_X12_isShelf wd_5_135 rfl rfl rfl ⟨Nat.le_of_ble_eq_true rfl, Nat.le_of_ble_eq_true rfl⟩ ⟨Nat.zero_le _, Nat.zero_le _⟩ hl.1 (Nat.le_of_ble_eq_true rfl) rfl dX12_judge_54 ?_
          refine lv_if_ne (tgt := 62) hx hb dX12_judge_57 (by decide) (fun c12 => ?_) (fun c12 => ?_)
          · replace hf := neg_e c12 hf
            refine lv_aload_n hx hb dX12_judge_62 rfl (lv_at hl 3 rfl) ?_
            refine gget E in_X12 hK hP (q_model ks ad σ) rfl (k := 15) (by decide) wd_5_75 rfl (v := .ref (ad 15 15)) rfl dX12_judge_63 ?_
            refine lv_iload_n hx hb dX12_judge_66 rfl (lv_at hl 6 rfl) ?_
            obtain ⟨c13, hf⟩ := ck_e hf
            refine giald E hK hP (q_M15 ks ad σ) c13 dX12_judge_67 ?_
            refine lv_if_eq (tgt := 81) hx hb dX12_judge_68 (by decide) (fun c14 => ?_) (fun c14 => ?_)
            · replace hf := pos_e c14 hf
              refine lv_bipush (v := -11) hx hb dX12_judge_81 (by decide) ?_
              exact gret_i E hr hlk dX12_judge_83 (som_e hf).symm
            · replace hf := neg_e c14 hf
              refine lv_aload_n hx hb dX12_judge_71 rfl (lv_at hl 3 rfl) ?_
              refine gget E in_X12 hK hP (q_model ks ad σ) rfl (k := 15) (by decide) wd_5_75 rfl (v := .ref (ad 15 15)) rfl dX12_judge_72 ?_
              refine lv_iload hx hb dX12_judge_75 (lv_at hl 7 rfl) ?_
              obtain ⟨c15, hf⟩ := ck_e hf
              refine giald E hK hP (q_M15 ks ad σ) c15 dX12_judge_77 ?_
              refine lv_if_ne (tgt := 84) hx hb dX12_judge_78 (by decide) (fun c16 => ?_) (fun c16 => ?_)
              · replace hf := neg_e c16 hf
                refine lv_aload_n hx hb dX12_judge_84 rfl (lv_at hl 3 rfl) ?_
                refine gget E in_X12 hK hP (q_model ks ad σ) rfl (k := 15) (by decide) wd_5_75 rfl (v := .ref (ad 15 15)) rfl dX12_judge_85 ?_
                refine lv_iload_n hx hb dX12_judge_88 rfl (lv_at hl 6 rfl) ?_
                obtain ⟨c17, hf⟩ := ck_e hf
                refine giald E hK hP (q_M15 ks ad σ) c17 dX12_judge_89 ?_
                refine lv_iconst (v := 2) hx hb dX12_judge_90 (by decide) ?_
                refine lv_icmp_ne (tgt := 105) hx hb dX12_judge_91 (by decide) (fun c18 => ?_) (fun c18 => ?_)
                · replace hf := neg_e c18 hf
                  refine lv_bipush (v := -12) hx hb dX12_judge_105 (by decide) ?_
                  exact gret_i E hr hlk dX12_judge_107 (som_e hf).symm
                · replace hf := pos_e c18 hf
                  refine lv_aload_n hx hb dX12_judge_94 rfl (lv_at hl 3 rfl) ?_
                  refine gget E in_X12 hK hP (q_model ks ad σ) rfl (k := 15) (by decide) wd_5_75 rfl (v := .ref (ad 15 15)) rfl dX12_judge_95 ?_
                  refine lv_iload hx hb dX12_judge_98 (lv_at hl 7 rfl) ?_
                  obtain ⟨c19, hf⟩ := ck_e hf
                  refine giald E hK hP (q_M15 ks ad σ) c19 dX12_judge_100 ?_
                  refine lv_iconst (v := 2) hx hb dX12_judge_101 (by decide) ?_
                  refine lv_icmp_eq (tgt := 108) hx hb dX12_judge_102 (by decide) (fun c20 => ?_) (fun c20 => ?_)
                  · replace hf := pos_e c20 hf
                    refine lv_iconst (v := 0) hx hb dX12_judge_108 (by decide) ?_
                    refine lv_istore (lv' := [(8, .int 0), (7, .int v3), (6, .int v2), (5, .int v1), (0, .ref (ad 14 0)), (1, .int a1), (2, .int a2), (3, .int a3), (4, .int a4)]) hx hb dX12_judge_109 hl (by decide) rfl (fun ls hl => ?_)
                    have loop_111 : ∀ (K_111 : Option (Int32)) (hK_111 : (∀ (hf : K_111 = some out) (ls : Array Slot), lv_has ls 13 [(0, .ref (ad 14 0)), (2, .int a2), (3, .int a3), (4, .int a4), (5, .int v1), (6, .int v2), (7, .int v3)] → W p l e rX12_judge s m args below meth c s.heap [] 0 0 (MQ below (vp_Si (fun r => r = out)) args s 0 0 (fun _ => False)) (F0 m 151 ls []))) (n_111 : Nat) (x21 : Int32) (hf : fX12_judge_L111 σ a4 K_111 n_111 x21 = some out) (ls : Array Slot), lv_has ls 13 [(0, .ref (ad 14 0)), (2, .int a2), (3, .int a3), (4, .int a4), (5, .int v1), (6, .int v2), (7, .int v3), (8, .int x21)] → W p l e rX12_judge s m args below meth c s.heap [] 0 0 (MQ below (vp_Si (fun r => r = out)) args s 0 0 (fun _ => False)) (F0 m 111 ls []) := by
                      intro K_111 hK_111 n_111
                      induction n_111 with
                      | zero => intro x21 hf; cases hf
                      | succ n_111 ih_111 =>
                        intro x21 hf ls hl
                        have hf : fX12_judge_L111B σ a4 K_111 (fX12_judge_L111 σ a4 K_111 n_111) x21 = some out := hf
                        unfold fX12_judge_L111B at hf
                        refine lv_iload hx hb dX12_judge_111 (lv_at hl 7 rfl) ?_
                        refine lv_aload_n hx hb dX12_judge_113 rfl (lv_at hl 0 rfl) ?_
                        refine gget E in_X12 hK hP (q_model ks ad σ) rfl (k := 19) (by decide) wd_5_79 rfl (v := .ref (ad 15 19)) rfl dX12_judge_114 ?_
                        refine lv_iload hx hb dX12_judge_117 (lv_at hl 3 rfl) ?_
                        obtain ⟨c22, hf⟩ := ck_e hf
                        refine giald E hK hP (q_M19 ks ad σ) c22 dX12_judge_119 ?_
                        refine lv_icmp_ge (tgt := 151) hx hb dX12_judge_120 (by decide) (fun c23 => ?_) (fun c23 => ?_)
                        · replace hf := pos_e c23 hf
                          exact hK_111 hf _ (lv_sub hl [0, 1, 2, 3, 4, 5, 6] rfl)
                        · replace hf := neg_e c23 hf
                          refine lv_aload_n hx hb dX12_judge_123 rfl (lv_at hl 0 rfl) ?_
                          refine gget E in_X12 hK hP (q_model ks ad σ) rfl (k := 20) (by decide) wd_5_80 rfl (v := .ref (ad 15 20)) rfl dX12_judge_124 ?_
                          refine lv_bipush (v := 100) hx hb dX12_judge_127 (by decide) ?_
                          refine lv_iload hx hb dX12_judge_129 (lv_at hl 3 rfl) ?_
                          refine lv_imul hx hb dX12_judge_131 ?_
                          refine lv_iload hx hb dX12_judge_132 (lv_at hl 7 rfl) ?_
                          refine lv_iadd hx hb dX12_judge_134 ?_
                          obtain ⟨c24, hf⟩ := ck_e hf
                          refine giald E hK hP (q_M20 ks ad σ) c24 dX12_judge_135 ?_
                          obtain ⟨r25, er25, hf⟩ := bd_e hf
                          refine gSr_i E hK hP (cX12_isForcec _ er25) kS_X12_isForce wd_6_8 rfl rfl rfl ⟨Nat.le_of_ble_eq_true rfl, Nat.le_of_ble_eq_true rfl⟩ ⟨Nat.zero_le _, Nat.zero_le _⟩ hl.1 (Nat.le_of_ble_eq_true rfl) rfl dX12_judge_136 ?_
                          refine lv_if_ne (tgt := 145) hx hb dX12_judge_139 (by decide) (fun c26 => ?_) (fun c26 => ?_)
                          · replace hf := neg_e c26 hf
                            obtain ⟨v27, ev27, hf⟩ := nmv_e hf
                            refine lv_iinc (v := v27) (lv' := [(8, .int v27), (0, .ref (ad 14 0)), (2, .int a2), (3, .int a3), (4, .int a4), (5, .int v1), (6, .int v2), (7, .int v3)]) hx hb dX12_judge_145 hl (k := 7) rfl (by rw [ev27]; rfl) (by decide) rfl (fun ls hl => ?_)
                            refine lv_goto (tgt := 111) hx hb dX12_judge_148 (by decide) ?_
                            exact ih_111 _ hf _ (lv_sub hl [1, 2, 3, 4, 5, 6, 7, 0] rfl)
                          · replace hf := pos_e c26 hf
                            refine lv_bipush (v := -13) hx hb dX12_judge_142 (by decide) ?_
                            exact gret_i E hr hlk dX12_judge_144 (som_e hf).symm
                    refine loop_111 _ (fun hf ls hl => ?_) _ _ hf _ (lv_sub hl [4, 6, 7, 8, 3, 2, 1, 0] rfl)
                    refine lv_aload_n hx hb dX12_judge_151 rfl (lv_at hl 0 rfl) ?_
                    refine lv_iload hx hb dX12_judge_152 (lv_at hl 4 rfl) ?_
                    refine lv_iconst (v := 3) hx hb dX12_judge_154 (by decide) ?_
                    obtain ⟨r28, er28, hf⟩ := bd_e hf
                    refine gVr_i E hK hP (cX12_bladeOfc _ _ er28) kV_X12_bladeOf wd_5_204 rfl rfl (q_model ks ad σ) rfl rfl rfl ⟨Nat.le_of_ble_eq_true rfl, Nat.le_of_ble_eq_true rfl⟩ ⟨Nat.zero_le _, Nat.zero_le _⟩ hl.1 (Nat.le_of_ble_eq_true rfl) rfl dX12_judge_155 ?_
                    refine lv_istore (lv' := [(8, .int r28), (0, .ref (ad 14 0)), (2, .int a2), (3, .int a3), (4, .int a4), (5, .int v1), (6, .int v2), (7, .int v3)]) hx hb dX12_judge_158 hl (by decide) rfl (fun ls hl => ?_)
                    refine lv_iconst (v := 0) hx hb dX12_judge_160 (by decide) ?_
                    refine lv_istore (lv' := [(9, .int 0), (8, .int r28), (0, .ref (ad 14 0)), (2, .int a2), (3, .int a3), (4, .int a4), (5, .int v1), (6, .int v2), (7, .int v3)]) hx hb dX12_judge_161 hl (by decide) rfl (fun ls hl => ?_)
                    have loop_163 : ∀ (K_163 : Option (Int32)) (hK_163 : (∀ (hf : K_163 = some out) (ls : Array Slot), lv_has ls 13 [] → W p l e rX12_judge s m args below meth c s.heap [] 0 0 (MQ below (vp_Si (fun r => r = out)) args s 0 0 (fun _ => False)) (F0 m 374 ls []))) (n_163 : Nat) (x29 : Int32) (x30 : Int32) (hf : fX12_judge_L163 σ a2 a3 a4 v1 v2 v3 K_163 n_163 x29 x30 = some out) (ls : Array Slot), lv_has ls 13 [(0, .ref (ad 14 0)), (2, .int a2), (3, .int a3), (4, .int a4), (5, .int v1), (6, .int v2), (7, .int v3), (8, .int x29), (9, .int x30)] → W p l e rX12_judge s m args below meth c s.heap [] 0 0 (MQ below (vp_Si (fun r => r = out)) args s 0 0 (fun _ => False)) (F0 m 163 ls []) := by
                      intro K_163 hK_163 n_163
                      induction n_163 with
                      | zero => intro x29 x30 hf; cases hf
                      | succ n_163 ih_163 =>
                        intro x29 x30 hf ls hl
                        have hf : fX12_judge_L163B σ a2 a3 a4 v1 v2 v3 K_163 (fX12_judge_L163 σ a2 a3 a4 v1 v2 v3 K_163 n_163) x29 x30 = some out := hf
                        unfold fX12_judge_L163B at hf
                        refine lv_iload hx hb dX12_judge_163 (lv_at hl 8 rfl) ?_
                        refine lv_aload_n hx hb dX12_judge_165 rfl (lv_at hl 0 rfl) ?_
                        refine gget E in_X12 hK hP (q_model ks ad σ) rfl (k := 19) (by decide) wd_5_79 rfl (v := .ref (ad 15 19)) rfl dX12_judge_166 ?_
                        refine lv_iload_n hx hb dX12_judge_169 rfl (lv_at hl 2 rfl) ?_
                        obtain ⟨c31, hf⟩ := ck_e hf
                        refine giald E hK hP (q_M19 ks ad σ) c31 dX12_judge_170 ?_
                        refine lv_icmp_ge (tgt := 374) hx hb dX12_judge_171 (by decide) (fun c32 => ?_) (fun c32 => ?_)
                        · replace hf := pos_e c32 hf
                          exact hK_163 hf _ (lv_sub hl [] rfl)
                        · replace hf := neg_e c32 hf
                          refine lv_iload hx hb dX12_judge_174 (lv_at hl 8 rfl) ?_
                          refine lv_aload_n hx hb dX12_judge_176 rfl (lv_at hl 0 rfl) ?_
                          refine gget E in_X12 hK hP (q_model ks ad σ) rfl (k := 19) (by decide) wd_5_79 rfl (v := .ref (ad 15 19)) rfl dX12_judge_177 ?_
                          refine lv_iload hx hb dX12_judge_180 (lv_at hl 3 rfl) ?_
                          obtain ⟨c33, hf⟩ := ck_e hf
                          refine giald E hK hP (q_M19 ks ad σ) c33 dX12_judge_182 ?_
                          have hJ_368 : ∀ (z34 : Int32) (hf : fX12_judge_J368 x30 (fX12_judge_L163 σ a2 a3 a4 v1 v2 v3 K_163 n_163) z34 = some out) (ls : Array Slot), lv_has ls 13 [(0, .ref (ad 14 0)), (2, .int a2), (3, .int a3), (4, .int a4), (5, .int v1), (6, .int v2), (7, .int v3), (8, .int z34), (9, .int x30)] → W p l e rX12_judge s m args below meth c s.heap [] 0 0 (MQ below (vp_Si (fun r => r = out)) args s 0 0 (fun _ => False)) (F0 m 368 ls []) := by
                            intro z34 hf ls hl
                            unfold fX12_judge_J368 at hf
                            obtain ⟨v35, ev35, hf⟩ := nmv_e hf
                            refine lv_iinc (v := v35) (lv' := [(9, .int v35), (0, .ref (ad 14 0)), (2, .int a2), (3, .int a3), (4, .int a4), (5, .int v1), (6, .int v2), (7, .int v3), (8, .int z34)]) hx hb dX12_judge_368 hl (k := 8) rfl (by rw [ev35]; rfl) (by decide) rfl (fun ls hl => ?_)
                            refine lv_goto (tgt := 163) hx hb dX12_judge_371 (by decide) ?_
                            exact ih_163 _ _ hf _ (lv_sub hl [1, 2, 3, 4, 5, 6, 7, 8, 0] rfl)
                          have hJ_213 : ∀ (hf : fX12_judge_J213 σ a2 a3 a4 v1 v2 v3 x29 x30 (fX12_judge_L163 σ a2 a3 a4 v1 v2 v3 K_163 n_163) = some out) (ls : Array Slot), lv_has ls 13 [(0, .ref (ad 14 0)), (2, .int a2), (3, .int a3), (4, .int a4), (5, .int v1), (6, .int v2), (7, .int v3), (8, .int x29), (9, .int x30)] → W p l e rX12_judge s m args below meth c s.heap [] 0 0 (MQ below (vp_Si (fun r => r = out)) args s 0 0 (fun _ => False)) (F0 m 213 ls []) := by
                            intro hf ls hl
                            unfold fX12_judge_J213 at hf
                            refine lv_iload hx hb dX12_judge_213 (lv_at hl 8 rfl) ?_
                            refine lv_aload_n hx hb dX12_judge_215 rfl (lv_at hl 0 rfl) ?_
                            refine gget E in_X12 hK hP (q_model ks ad σ) rfl (k := 19) (by decide) wd_5_79 rfl (v := .ref (ad 15 19)) rfl dX12_judge_216 ?_
                            refine lv_iload hx hb dX12_judge_219 (lv_at hl 3 rfl) ?_
                            obtain ⟨c36, hf⟩ := ck_e hf
                            refine giald E hK hP (q_M19 ks ad σ) c36 dX12_judge_221 ?_
                            refine lv_icmp_lt (tgt := 228) hx hb dX12_judge_222 (by decide) (fun c37 => ?_) (fun c37 => ?_)
                            · replace hf := pos_e c37 hf
                              refine lv_aload_n hx hb dX12_judge_228 rfl (lv_at hl 0 rfl) ?_
                              refine gget E in_X12 hK hP (q_model ks ad σ) rfl (k := 20) (by decide) wd_5_80 rfl (v := .ref (ad 15 20)) rfl dX12_judge_229 ?_
                              refine lv_bipush (v := 100) hx hb dX12_judge_232 (by decide) ?_
                              refine lv_iload hx hb dX12_judge_234 (lv_at hl 3 rfl) ?_
                              refine lv_imul hx hb dX12_judge_236 ?_
                              refine lv_iload hx hb dX12_judge_237 (lv_at hl 8 rfl) ?_
                              refine lv_iadd hx hb dX12_judge_239 ?_
                              obtain ⟨c38, hf⟩ := ck_e hf
                              refine giald E hK hP (q_M20 ks ad σ) c38 dX12_judge_240 ?_
                              obtain ⟨v39, ev39, hf⟩ := nmv_e hf
                              refine lv_nmi ev39 ?_
                              refine lv_istore (lv' := [(10, .int v39), (0, .ref (ad 14 0)), (2, .int a2), (3, .int a3), (4, .int a4), (5, .int v1), (6, .int v2), (7, .int v3), (8, .int x29), (9, .int x30)]) hx hb dX12_judge_241 hl (by decide) rfl (fun ls hl => ?_)
                              refine lv_iload hx hb dX12_judge_243 (lv_at hl 8 rfl) ?_
                              refine lv_aload_n hx hb dX12_judge_245 rfl (lv_at hl 1 rfl) ?_
                              refine lv_iload hx hb dX12_judge_246 (lv_at hl 5 rfl) ?_
                              refine lv_iconst (v := 1) hx hb dX12_judge_248 (by decide) ?_
                              obtain ⟨r40, er40, hf⟩ := bd_e hf
                              refine gVr_i E hK hP (cX12_bladeOfc _ _ er40) kV_X12_bladeOf wd_5_204 rfl rfl (q_model ks ad σ) rfl rfl rfl ⟨Nat.le_of_ble_eq_true rfl, Nat.le_of_ble_eq_true rfl⟩ ⟨Nat.zero_le _, Nat.zero_le _⟩ hl.1 (Nat.le_of_ble_eq_true rfl) rfl dX12_judge_249 ?_
                              refine lv_aload_n hx hb dX12_judge_252 rfl (lv_at hl 1 rfl) ?_
                              refine lv_iload hx hb dX12_judge_253 (lv_at hl 5 rfl) ?_
                              refine lv_iconst (v := 2) hx hb dX12_judge_255 (by decide) ?_
                              obtain ⟨r41, er41, hf⟩ := bd_e hf
                              refine gVr_i E hK hP (cX12_bladeOfc _ _ er41) kV_X12_bladeOf wd_5_204 rfl rfl (q_model ks ad σ) rfl rfl rfl ⟨Nat.le_of_ble_eq_true rfl, Nat.le_of_ble_eq_true rfl⟩ ⟨Nat.zero_le _, Nat.zero_le _⟩ hl.1 (Nat.le_of_ble_eq_true rfl) rfl dX12_judge_256 ?_
                              refine lv_iadd hx hb dX12_judge_259 ?_
                              have hJ_268 : ∀ (z42 : Int32) (hf : fX12_judge_J268 σ a2 a3 v1 v2 v3 x29 x30 (fX12_judge_L163 σ a2 a3 a4 v1 v2 v3 K_163 n_163) v39 z42 = some out) (ls : Array Slot), lv_has ls 13 [(0, .ref (ad 14 0)), (2, .int a2), (3, .int a3), (4, .int a4), (5, .int v1), (6, .int v2), (7, .int v3), (8, .int x29), (9, .int x30), (10, .int v39)] → W p l e rX12_judge s m args below meth c s.heap [] 0 0 (MQ below (vp_Si (fun r => r = out)) args s 0 0 (fun _ => False)) (F0 m 268 ls [.int z42]) := by
                                intro z42 hf ls hl
                                unfold fX12_judge_J268 at hf
                                refine lv_istore (lv' := [(11, .int z42), (0, .ref (ad 14 0)), (2, .int a2), (3, .int a3), (4, .int a4), (5, .int v1), (6, .int v2), (7, .int v3), (8, .int x29), (9, .int x30), (10, .int v39)]) hx hb dX12_judge_268 hl (by decide) rfl (fun ls hl => ?_)
                                refine lv_iload hx hb dX12_judge_270 (lv_at hl 0 rfl) ?_
                                have hJ_300 : ∀ (z43 : Int32) (hf : fX12_judge_J300 σ a3 v3 x29 x30 (fX12_judge_L163 σ a2 a3 a4 v1 v2 v3 K_163 n_163) v39 z42 z43 = some out) (ls : Array Slot), lv_has ls 13 [(0, .ref (ad 14 0)), (2, .int a2), (3, .int a3), (4, .int a4), (5, .int v1), (6, .int v2), (7, .int v3), (8, .int x29), (9, .int x30), (10, .int v39), (11, .int z42)] → W p l e rX12_judge s m args below meth c s.heap [] 0 0 (MQ below (vp_Si (fun r => r = out)) args s 0 0 (fun _ => False)) (F0 m 300 ls [.int z43]) := by
                                  intro z43 hf ls hl
                                  unfold fX12_judge_J300 at hf
                                  refine lv_istore (lv' := [(12, .int z43), (0, .ref (ad 14 0)), (2, .int a2), (3, .int a3), (4, .int a4), (5, .int v1), (6, .int v2), (7, .int v3), (8, .int x29), (9, .int x30), (10, .int v39), (11, .int z42)]) hx hb dX12_judge_300 hl (by decide) rfl (fun ls hl => ?_)
                                  refine lv_iload hx hb dX12_judge_302 (lv_at hl 8 rfl) ?_
                                  refine lv_iload hx hb dX12_judge_304 (lv_at hl 11 rfl) ?_
                                  have hJ_321 : ∀ (z44 : Int32) (hf : fX12_judge_J321 σ a3 x29 x30 (fX12_judge_L163 σ a2 a3 a4 v1 v2 v3 K_163 n_163) z43 z44 = some out) (ls : Array Slot), lv_has ls 13 [(0, .ref (ad 14 0)), (2, .int a2), (3, .int a3), (4, .int a4), (5, .int v1), (6, .int v2), (7, .int v3), (9, .int x30), (12, .int z43)] → W p l e rX12_judge s m args below meth c s.heap [] 0 0 (MQ below (vp_Si (fun r => r = out)) args s 0 0 (fun _ => False)) (F0 m 321 ls [.int z44, .int x29]) := by
                                    intro z44 hf ls hl
                                    unfold fX12_judge_J321 at hf
                                    refine lv_iadd hx hb dX12_judge_321 ?_
                                    obtain ⟨v45, ev45, hf⟩ := nmv_e hf
                                    refine lv_nmi ev45 ?_
                                    refine lv_istore (lv' := [(8, .int v45), (0, .ref (ad 14 0)), (2, .int a2), (3, .int a3), (4, .int a4), (5, .int v1), (6, .int v2), (7, .int v3), (9, .int x30), (12, .int z43)]) hx hb dX12_judge_322 hl (by decide) rfl (fun ls hl => ?_)
                                    refine lv_aload_n hx hb dX12_judge_324 rfl (lv_at hl 1 rfl) ?_
                                    refine gget E in_X12 hK hP (q_model ks ad σ) rfl (k := 20) (by decide) wd_5_80 rfl (v := .ref (ad 15 20)) rfl dX12_judge_325 ?_
                                    refine lv_bipush (v := 100) hx hb dX12_judge_328 (by decide) ?_
                                    refine lv_iload_n hx hb dX12_judge_330 rfl (lv_at hl 3 rfl) ?_
                                    refine lv_imul hx hb dX12_judge_331 ?_
                                    refine lv_iload hx hb dX12_judge_332 (lv_at hl 8 rfl) ?_
                                    refine lv_iadd hx hb dX12_judge_334 ?_
                                    obtain ⟨c46, hf⟩ := ck_e hf
                                    refine giald E hK hP (q_M20 ks ad σ) c46 dX12_judge_335 ?_
                                    refine lv_aload_n hx hb dX12_judge_336 rfl (lv_at hl 1 rfl) ?_
                                    refine gget E in_X12 hK hP (q_model ks ad σ) rfl (k := 18) (by decide) wd_5_78 rfl (v := .ref (ad 15 18)) rfl dX12_judge_337 ?_
                                    refine lv_iload_n hx hb dX12_judge_340 rfl (lv_at hl 3 rfl) ?_
                                    obtain ⟨c47, hf⟩ := ck_e hf
                                    refine giald E hK hP (q_M18 ks ad σ) c47 dX12_judge_341 ?_
                                    obtain ⟨r48, er48, hf⟩ := bd_e hf
                                    refine gSr_i E hK hP (cX12_leastOfc _ er48) kS_X12_leastOf wd_6_233 rfl rfl rfl ⟨Nat.le_of_ble_eq_true rfl, Nat.le_of_ble_eq_true rfl⟩ ⟨Nat.zero_le _, Nat.zero_le _⟩ hl.1 (Nat.le_of_ble_eq_true rfl) rfl dX12_judge_342 ?_
                                    refine lv_icmp_eq (tgt := 368) hx hb dX12_judge_345 (by decide) (fun c49 => ?_) (fun c49 => ?_)
                                    · replace hf := pos_e c49 hf
                                      exact hJ_368 _ hf _ (lv_sub hl [1, 2, 3, 4, 5, 6, 7, 0, 8] rfl)
                                    · replace hf := neg_e c49 hf
                                      refine lv_aload_n hx hb dX12_judge_348 rfl (lv_at hl 1 rfl) ?_
                                      refine gget E in_X12 hK hP (q_model ks ad σ) rfl (k := 20) (by decide) wd_5_80 rfl (v := .ref (ad 15 20)) rfl dX12_judge_349 ?_
                                      refine lv_bipush (v := 100) hx hb dX12_judge_352 (by decide) ?_
                                      refine lv_iload_n hx hb dX12_judge_354 rfl (lv_at hl 3 rfl) ?_
                                      refine lv_imul hx hb dX12_judge_355 ?_
                                      refine lv_iload hx hb dX12_judge_356 (lv_at hl 8 rfl) ?_
                                      refine lv_iadd hx hb dX12_judge_358 ?_
                                      obtain ⟨c50, hf⟩ := ck_e hf
                                      refine giald E hK hP (q_M20 ks ad σ) c50 dX12_judge_359 ?_
                                      refine lv_iload hx hb dX12_judge_360 (lv_at hl 9 rfl) ?_
                                      refine lv_icmp_eq (tgt := 368) hx hb dX12_judge_362 (by decide) (fun c51 => ?_) (fun c51 => ?_)
                                      · replace hf := pos_e c51 hf
                                        exact hJ_368 _ hf _ (lv_sub hl [1, 2, 3, 4, 5, 6, 7, 0, 8] rfl)
                                      · replace hf := neg_e c51 hf
                                        refine lv_iload hx hb dX12_judge_365 (lv_at hl 8 rfl) ?_
                                        exact gret_i E hr hlk dX12_judge_367 (som_e hf).symm
                                  refine lv_if_eq (tgt := 313) hx hb dX12_judge_306 (by decide) (fun c52 => ?_) (fun c52 => ?_)
                                  · replace hf := pos_e c52 hf
                                    refine lv_aload_n hx hb dX12_judge_313 rfl (lv_at hl 1 rfl) ?_
                                    refine lv_iload hx hb dX12_judge_314 (lv_at hl 7 rfl) ?_
                                    refine lv_iload hx hb dX12_judge_316 (lv_at hl 10 rfl) ?_
                                    obtain ⟨r53, er53, hf⟩ := bd_e hf
                                    refine gVr_i E hK hP (cX12_wearsc _ _ er53) kV_X12_wears wd_5_208 rfl rfl (q_model ks ad σ) rfl rfl rfl ⟨Nat.le_of_ble_eq_true rfl, Nat.le_of_ble_eq_true rfl⟩ ⟨Nat.zero_le _, Nat.zero_le _⟩ hl.1 (Nat.le_of_ble_eq_true rfl) rfl dX12_judge_318 ?_
                                    exact hJ_321 _ hf _ (lv_sub hl [1, 2, 3, 4, 5, 6, 7, 9, 0] rfl)
                                  · replace hf := neg_e c52 hf
                                    refine lv_iconst (v := 0) hx hb dX12_judge_309 (by decide) ?_
                                    refine lv_goto (tgt := 321) hx hb dX12_judge_310 (by decide) ?_
                                    exact hJ_321 _ hf _ (lv_sub hl [1, 2, 3, 4, 5, 6, 7, 9, 0] rfl)
                                refine lv_if_eq (tgt := 279) hx hb dX12_judge_272 (by decide) (fun c54 => ?_) (fun c54 => ?_)
                                · replace hf := pos_e c54 hf
                                  refine lv_aload_n hx hb dX12_judge_279 rfl (lv_at hl 1 rfl) ?_
                                  refine lv_iload hx hb dX12_judge_280 (lv_at hl 5 rfl) ?_
                                  refine lv_iload hx hb dX12_judge_282 (lv_at hl 6 rfl) ?_
                                  refine lv_iload hx hb dX12_judge_284 (lv_at hl 7 rfl) ?_
                                  refine lv_iload_n hx hb dX12_judge_286 rfl (lv_at hl 2 rfl) ?_
                                  refine lv_iload hx hb dX12_judge_287 (lv_at hl 10 rfl) ?_
                                  obtain ⟨r55, er55, hf⟩ := bd_e hf
                                  refine gVr_i E hK hP (cX12_isSoundc _ _ _ _ _ er55) kV_X12_isSound wd_6_54 rfl rfl (q_model ks ad σ) rfl rfl rfl ⟨Nat.le_of_ble_eq_true rfl, Nat.le_of_ble_eq_true rfl⟩ ⟨Nat.zero_le _, Nat.zero_le _⟩ hl.1 (Nat.le_of_ble_eq_true rfl) rfl dX12_judge_289 ?_
                                  refine lv_if_eq (tgt := 299) hx hb dX12_judge_292 (by decide) (fun c56 => ?_) (fun c56 => ?_)
                                  · replace hf := pos_e c56 hf
                                    refine lv_iconst (v := 0) hx hb dX12_judge_299 (by decide) ?_
                                    exact hJ_300 _ hf _ (lv_sub hl [1, 2, 3, 4, 5, 6, 7, 8, 9, 10, 0] rfl)
                                  · replace hf := neg_e c56 hf
                                    refine lv_iconst (v := 1) hx hb dX12_judge_295 (by decide) ?_
                                    refine lv_goto (tgt := 300) hx hb dX12_judge_296 (by decide) ?_
                                    exact hJ_300 _ hf _ (lv_sub hl [1, 2, 3, 4, 5, 6, 7, 8, 9, 10, 0] rfl)
                                · replace hf := neg_e c54 hf
                                  refine lv_iconst (v := 2) hx hb dX12_judge_275 (by decide) ?_
                                  refine lv_goto (tgt := 300) hx hb dX12_judge_276 (by decide) ?_
                                  exact hJ_300 _ hf _ (lv_sub hl [1, 2, 3, 4, 5, 6, 7, 8, 9, 10, 0] rfl)
                              refine lv_icmp_le (tgt := 267) hx hb dX12_judge_260 (by decide) (fun c57 => ?_) (fun c57 => ?_)
                              · replace hf := pos_e c57 hf
                                refine lv_iconst (v := 0) hx hb dX12_judge_267 (by decide) ?_
                                exact hJ_268 _ hf _ (lv_sub hl [1, 2, 3, 4, 5, 6, 7, 8, 9, 0] rfl)
                              · replace hf := neg_e c57 hf
                                refine lv_iconst (v := 1) hx hb dX12_judge_263 (by decide) ?_
                                refine lv_goto (tgt := 268) hx hb dX12_judge_264 (by decide) ?_
                                exact hJ_268 _ hf _ (lv_sub hl [1, 2, 3, 4, 5, 6, 7, 8, 9, 0] rfl)
                            · replace hf := neg_e c37 hf
                              refine lv_iload hx hb dX12_judge_225 (lv_at hl 8 rfl) ?_
                              exact gret_i E hr hlk dX12_judge_227 (som_e hf).symm
                          refine lv_icmp_lt (tgt := 213) hx hb dX12_judge_183 (by decide) (fun c58 => ?_) (fun c58 => ?_)
                          · replace hf := pos_e c58 hf
                            exact hJ_213 hf _ (lv_sub hl [0, 1, 2, 3, 4, 5, 6, 7, 8] rfl)
                          · replace hf := neg_e c58 hf
                            refine lv_aload_n hx hb dX12_judge_186 rfl (lv_at hl 0 rfl) ?_
                            refine gget E in_X12 hK hP (q_model ks ad σ) rfl (k := 20) (by decide) wd_5_80 rfl (v := .ref (ad 15 20)) rfl dX12_judge_187 ?_
                            refine lv_bipush (v := 100) hx hb dX12_judge_190 (by decide) ?_
                            refine lv_iload_n hx hb dX12_judge_192 rfl (lv_at hl 2 rfl) ?_
                            refine lv_imul hx hb dX12_judge_193 ?_
                            refine lv_iload hx hb dX12_judge_194 (lv_at hl 8 rfl) ?_
                            refine lv_iadd hx hb dX12_judge_196 ?_
                            obtain ⟨c59, hf⟩ := ck_e hf
                            refine giald E hK hP (q_M20 ks ad σ) c59 dX12_judge_197 ?_
                            refine lv_aload_n hx hb dX12_judge_198 rfl (lv_at hl 0 rfl) ?_
                            refine gget E in_X12 hK hP (q_model ks ad σ) rfl (k := 18) (by decide) wd_5_78 rfl (v := .ref (ad 15 18)) rfl dX12_judge_199 ?_
                            refine lv_iload_n hx hb dX12_judge_202 rfl (lv_at hl 2 rfl) ?_
                            obtain ⟨c60, hf⟩ := ck_e hf
                            refine giald E hK hP (q_M18 ks ad σ) c60 dX12_judge_203 ?_
                            obtain ⟨r61, er61, hf⟩ := bd_e hf
                            refine gSr_i E hK hP (cX12_leastOfc _ er61) kS_X12_leastOf wd_6_233 rfl rfl rfl ⟨Nat.le_of_ble_eq_true rfl, Nat.le_of_ble_eq_true rfl⟩ ⟨Nat.zero_le _, Nat.zero_le _⟩ hl.1 (Nat.le_of_ble_eq_true rfl) rfl dX12_judge_204 ?_
                            refine lv_icmp_ne (tgt := 213) hx hb dX12_judge_207 (by decide) (fun c62 => ?_) (fun c62 => ?_)
                            · replace hf := neg_e c62 hf
                              exact hJ_213 hf _ (lv_sub hl [0, 1, 2, 3, 4, 5, 6, 7, 8] rfl)
                            · replace hf := pos_e c62 hf
                              refine lv_goto (tgt := 368) hx hb dX12_judge_210 (by decide) ?_
                              exact hJ_368 _ hf _ (lv_sub hl [0, 1, 2, 3, 4, 5, 6, 7, 8] rfl)
                    refine loop_163 _ (fun hf ls hl => ?_) _ _ _ hf _ (lv_sub hl [2, 3, 4, 5, 6, 7, 8, 1, 0] rfl)
                    refine lv_bipush (v := -4) hx hb dX12_judge_374 (by decide) ?_
                    exact gret_i E hr hlk dX12_judge_376 (som_e hf).symm
                  · replace hf := neg_e c20 hf
                    refine lv_bipush (v := -12) hx hb dX12_judge_105 (by decide) ?_
                    exact gret_i E hr hlk dX12_judge_107 (som_e hf).symm
              · replace hf := pos_e c16 hf
                refine lv_bipush (v := -11) hx hb dX12_judge_81 (by decide) ?_
                exact gret_i E hr hlk dX12_judge_83 (som_e hf).symm
          · replace hf := pos_e c12 hf
            refine lv_iconst (v := -1) hx hb dX12_judge_60 (by decide) ?_
            exact gret_i E hr hlk dX12_judge_61 (som_e hf).symm
noncomputable def fX12_drawn (σ : St) (a1 : Int32) : Option (Int32 × St) :=
  nmv (sI σ 11 0 14 (((gI σ 11 0 14) * 1103515245) + 12345)) fun σ1 =>
  ck (¬ a1 = 0) <|
  some ((((gI σ1 11 0 14) &&& (2147483647 : Int32)) / 65536) - (((gI σ1 11 0 14) &&& (2147483647 : Int32)) / 65536) / a1 * a1, σ1)
def rX12_drawn : Room := { frames := 0, cells := 0, slots := 0, locals := 0 }
set_option maxHeartbeats 4000000 in
set_option maxRecDepth 100000 in
theorem cX12_drawnc {l : Launch} {dC : Nat → ClassId} {dI : Nat → Nat → Nat} {ks : Nat → ClassId} {ad : Nat → Nat → Nat} {σ : St} (a1 : Int32)  {out : Int32 × St} (hf : fX12_drawn σ a1 = some out) : MWi l dC dI ks ad σ yX12_drawn cX12_drawn 2 (some .int) rX12_drawn [.ref (ad 14 0), .int a1] out := by
  intro sz
  refine met_w (Qc := fun A => va_Qi (fun r σ' => r = out.1 ∧ σ' = out.2) (gBw dC dI ks ad A) A) (own := RX12) (by decide) rfl (Nat.le_of_ble_eq_true rfl) ?_
  intro A p e s m args below meth c ls E hr hlk hA hP hD hS hK hl
  have hx := E.1
  have hb := E.2.1
  have hl : lv_has ls 2 [(0, .ref (ad 14 0)), (1, .int a1)] := hl
  unfold fX12_drawn at hf
  refine lv_aload_n hx hb dX12_drawn_0 rfl (lv_at hl 0 rfl) ?_
  refine lv_aload_n hx hb dX12_drawn_1 rfl (lv_at hl 0 rfl) ?_
  refine gget E in_X12 hK hP (q_model ks ad σ) rfl (k := 14) (by decide) wd_5_74 rfl (v := .int (gI σ 11 0 14)) rfl dX12_drawn_2 ?_
  refine lv_ldcw (v := 1103515245) hx hb E.2.2.2.1 (E.2.2.2.2 _ wd_7_5) dX12_drawn_5 ?_
  refine lv_imul hx hb dX12_drawn_8 ?_
  refine lv_sipush (v := 12345) hx hb dX12_drawn_9 (by decide) ?_
  refine lv_iadd hx hb dX12_drawn_12 ?_
  obtain ⟨σ1, eσ1, hf⟩ := nmv_e hf
  refine gput (k := 14) E in_X12 tyX12 tyX12_ok nmX12 hK hP hD hS (q_model ks ad σ) rfl (by decide) wd_5_74 rfl rfl rfl rfl rfl (Nat.le_of_ble_eq_true rfl) (σ' := σ1) (by rw [eσ1]; exact st_model_14 ks ad σ _) dX12_drawn_13 (fun H locs hP hD hS => ?_)
  refine lv_aload_n hx hb dX12_drawn_16 rfl (lv_at hl 0 rfl) ?_
  refine gget E in_X12 hK hP (q_model ks ad σ1) rfl (k := 14) (by decide) wd_5_74 rfl (v := .int (gI σ1 11 0 14)) rfl dX12_drawn_17 ?_
  refine lv_ldcw (v := 2147483647) hx hb E.2.2.2.1 (E.2.2.2.2 _ wd_7_6) dX12_drawn_20 ?_
  refine lv_iand hx hb dX12_drawn_23 ?_
  refine lv_ldcw (v := 65536) hx hb E.2.2.2.1 (E.2.2.2.2 _ wd_7_7) dX12_drawn_24 ?_
  refine lv_idiv hx hb dX12_drawn_27 (by decide) ?_
  refine lv_iload_n hx hb dX12_drawn_28 rfl (lv_at hl 1 rfl) ?_
  obtain ⟨c2, hf⟩ := ck_e hf
  refine lv_irem hx hb dX12_drawn_29 c2 ?_
  exact gretw_i E hlk hP hD hS hr dX12_drawn_30 (som_e hf)
noncomputable def fX12_walks_J187 (x19 : Int32) (x20 : Int32) (rec_96 : Int32 → Int32 → St → Option (Int32 × St)) (z32 : Int32) (σ33 : St) : Option (Int32 × St) :=
  nmv (x19 + z32) fun v34 =>
  nmv (x20 + 1) fun v35 =>
  rec_96 v34 v35 σ33
noncomputable def fX12_walks_J186 (x19 : Int32) (x20 : Int32) (rec_96 : Int32 → Int32 → St → Option (Int32 × St)) (σ36 : St) : Option (Int32 × St) :=
  fX12_walks_J187 x19 x20 rec_96 0 σ36
noncomputable def fX12_walks_L96B (K_96 : Int32 → St → Option (Int32 × St)) (rec_96 : Int32 → Int32 → St → Option (Int32 × St)) (x19 : Int32) (x20 : Int32) (σ21 : St) : Option (Int32 × St) :=
  if 10 ≤ x20 then
  K_96 x19 σ21
  else
  ck (vp_in 0 47) <|
  bd (fX12_drawn σ21 (gI σ21 12 0 (0 : Int32).toNatClampNeg)) fun r24 =>
  ck (vp_in 1 47) <|
  bd (fX12_drawn r24.2 (gI r24.2 12 0 (1 : Int32).toNatClampNeg)) fun r26 =>
  ck (vp_in 2 47) <|
  bd (fX12_drawn r26.2 (gI r26.2 12 0 (2 : Int32).toNatClampNeg)) fun r28 =>
  bd (fX12_drawn r28.2 61) fun r29 =>
  bd (fX12_drawn r29.2 61) fun r30 =>
  bd (fX12_tries r30.2 r24.1 r26.1 r28.1 r29.1 r30.1) fun r31 =>
  if r31.1 ≤ 0 then
  fX12_walks_J186 x19 x20 rec_96 r31.2
  else
  if (r31.1 - r31.1 / 2 * 2) = 1 then
  fX12_walks_J187 x19 x20 rec_96 1 r31.2
  else
  fX12_walks_J186 x19 x20 rec_96 r31.2
noncomputable def fX12_walks_L96 (K_96 : Int32 → St → Option (Int32 × St)) : Nat → Int32 → Int32 → St → Option (Int32 × St)
  | 0 => fun _ _ _ => none
  | n + 1 => fX12_walks_L96B K_96 (fX12_walks_L96 K_96 n)
noncomputable def fX12_walks_J226 (x41 : Int32) (x42 : Int32) (rec_199 : Int32 → Int32 → St → Option (Int32 × St)) (z47 : Int32) (σ48 : St) : Option (Int32 × St) :=
  nmv (x41 + z47) fun v49 =>
  nmv (x42 + 1) fun v50 =>
  rec_199 v49 v50 σ48
noncomputable def fX12_walks_L199B (K_199 : Int32 → St → Option (Int32 × St)) (rec_199 : Int32 → Int32 → St → Option (Int32 × St)) (x41 : Int32) (x42 : Int32) (σ43 : St) : Option (Int32 × St) :=
  ck (vp_in 0 47) <|
  if (gI σ43 12 0 (0 : Int32).toNatClampNeg) ≤ x42 then
  K_199 x41 σ43
  else
  bd (fX12_isSplit σ43 x42) fun r46 =>
  if r46 = 0 then
  fX12_walks_J226 x41 x42 rec_199 0 σ43
  else
  fX12_walks_J226 x41 x42 rec_199 1 σ43
noncomputable def fX12_walks_L199 (K_199 : Int32 → St → Option (Int32 × St)) : Nat → Int32 → Int32 → St → Option (Int32 × St)
  | 0 => fun _ _ _ => none
  | n + 1 => fX12_walks_L199B K_199 (fX12_walks_L199 K_199 n)
noncomputable def fX12_walks_L76B (a1 : Int32) (K_76 : Int32 → Int32 → St → Option (Int32 × St)) (rec_76 : Int32 → Int32 → Int32 → St → Option (Int32 × St)) (x13 : Int32) (x14 : Int32) (x15 : Int32) (σ16 : St) : Option (Int32 × St) :=
  if a1 ≤ x15 then
  K_76 x13 x14 σ16
  else
  bd (fX12_copies σ16 2 0) fun r18 =>
  fX12_walks_L96 (fun y39 σ40 => fX12_walks_L199 (fun y52 σ53 => nmv (x15 + 1) fun v54 =>
  rec_76 y39 y52 v54 σ53) FU x14 0 σ40) FU x13 0 r18
noncomputable def fX12_walks_L76 (a1 : Int32) (K_76 : Int32 → Int32 → St → Option (Int32 × St)) : Nat → Int32 → Int32 → Int32 → St → Option (Int32 × St)
  | 0 => fun _ _ _ _ => none
  | n + 1 => fX12_walks_L76B a1 K_76 (fX12_walks_L76 a1 K_76 n)
noncomputable def fX12_walks (σ : St) (a1 : Int32) (a2 : Int32) (a3 : Int32) : Option (Int32 × St) :=
  bd (fX12_isIn σ a1 1 20) fun r1 =>
  if r1 = 0 then
  some ((-1), σ)
  else
  bd (fX12_isIn σ a3 0 1) fun r3 =>
  if r3 = 0 then
  some ((-1), σ)
  else
  ck (vp_in 0 47) <|
  if (gI σ 12 0 (0 : Int32).toNatClampNeg) = 0 then
  some ((-3), σ)
  else
  ck (vp_in 1 47) <|
  if (gI σ 12 0 (1 : Int32).toNatClampNeg) = 0 then
  some ((-3), σ)
  else
  ck (vp_in 2 47) <|
  if (gI σ 12 0 (2 : Int32).toNatClampNeg) = 0 then
  some ((-3), σ)
  else
  nmv (sI σ 11 0 14 a2) fun σ11 =>
  bd (fX12_copies σ11 0 2) fun r12 =>
  fX12_walks_L76 a1 (fun y55 y56 σ57 => bd (fX12_copies σ57 2 0) fun r58 =>
  if a3 = 0 then
  some (y55, r58)
  else
  some (y56, r58)) FU 0 0 0 r12
def rX12_walks : Room := { frames := 7, cells := 0, slots := 0, locals := 165 }
set_option maxHeartbeats 4000000 in
set_option maxRecDepth 100000 in
theorem cX12_walksc {l : Launch} {dC : Nat → ClassId} {dI : Nat → Nat → Nat} {ks : Nat → ClassId} {ad : Nat → Nat → Nat} {σ : St} (a1 : Int32) (a2 : Int32) (a3 : Int32)  {out : Int32 × St} (hf : fX12_walks σ a1 a2 a3 = some out) : MWi l dC dI ks ad σ yX12_walks cX12_walks 13 (some .int) rX12_walks [.ref (ad 14 0), .int a1, .int a2, .int a3] out := by
  intro sz
  refine met_w (Qc := fun A => va_Qi (fun r σ' => r = out.1 ∧ σ' = out.2) (gBw dC dI ks ad A) A) (own := RX12) (by decide) rfl (Nat.le_of_ble_eq_true rfl) ?_
  intro A p e s m args below meth c ls E hr hlk hA hP hD hS hK hl
  have hx := E.1
  have hb := E.2.1
  have hl : lv_has ls 13 [(0, .ref (ad 14 0)), (1, .int a1), (2, .int a2), (3, .int a3)] := hl
  unfold fX12_walks at hf
  refine lv_iload_n hx hb dX12_walks_0 rfl (lv_at hl 1 rfl) ?_
  refine lv_iconst (v := 1) hx hb dX12_walks_1 (by decide) ?_
  refine lv_bipush (v := 20) hx hb dX12_walks_2 (by decide) ?_
  obtain ⟨r1, er1, hf⟩ := bd_e hf
  refine gSr_i E hK hP (cX12_isInc _ _ _ er1) kS_X12_isIn wd_5_138 rfl rfl rfl ⟨Nat.le_of_ble_eq_true rfl, Nat.le_of_ble_eq_true rfl⟩ ⟨Nat.zero_le _, Nat.zero_le _⟩ hl.1 (Nat.le_of_ble_eq_true rfl) rfl dX12_walks_4 ?_
  refine lv_if_eq (tgt := 19) hx hb dX12_walks_7 (by decide) (fun c2 => ?_) (fun c2 => ?_)
  · replace hf := pos_e c2 hf
    refine lv_iconst (v := -1) hx hb dX12_walks_19 (by decide) ?_
    exact gretw_i E hlk hP hD hS hr dX12_walks_20 (som_e hf)
  · replace hf := neg_e c2 hf
    refine lv_iload_n hx hb dX12_walks_10 rfl (lv_at hl 3 rfl) ?_
    refine lv_iconst (v := 0) hx hb dX12_walks_11 (by decide) ?_
    refine lv_iconst (v := 1) hx hb dX12_walks_12 (by decide) ?_
    obtain ⟨r3, er3, hf⟩ := bd_e hf
    refine gSr_i E hK hP (cX12_isInc _ _ _ er3) kS_X12_isIn wd_5_138 rfl rfl rfl ⟨Nat.le_of_ble_eq_true rfl, Nat.le_of_ble_eq_true rfl⟩ ⟨Nat.zero_le _, Nat.zero_le _⟩ hl.1 (Nat.le_of_ble_eq_true rfl) rfl dX12_walks_13 ?_
    refine lv_if_ne (tgt := 21) hx hb dX12_walks_16 (by decide) (fun c4 => ?_) (fun c4 => ?_)
    · replace hf := neg_e c4 hf
      refine lv_aload_n hx hb dX12_walks_21 rfl (lv_at hl 0 rfl) ?_
      refine gget E in_X12 hK hP (q_model ks ad σ) rfl (k := 0) (by decide) wd_5_60 rfl (v := .ref (ad 15 0)) rfl dX12_walks_22 ?_
      refine lv_iconst (v := 0) hx hb dX12_walks_25 (by decide) ?_
      obtain ⟨c5, hf⟩ := ck_e hf
      refine giald E hK hP (q_M0 ks ad σ) c5 dX12_walks_26 ?_
      refine lv_if_eq (tgt := 48) hx hb dX12_walks_27 (by decide) (fun c6 => ?_) (fun c6 => ?_)
      · replace hf := pos_e c6 hf
        refine lv_bipush (v := -3) hx hb dX12_walks_48 (by decide) ?_
        exact gretw_i E hlk hP hD hS hr dX12_walks_50 (som_e hf)
      · replace hf := neg_e c6 hf
        refine lv_aload_n hx hb dX12_walks_30 rfl (lv_at hl 0 rfl) ?_
        refine gget E in_X12 hK hP (q_model ks ad σ) rfl (k := 0) (by decide) wd_5_60 rfl (v := .ref (ad 15 0)) rfl dX12_walks_31 ?_
        refine lv_iconst (v := 1) hx hb dX12_walks_34 (by decide) ?_
        obtain ⟨c7, hf⟩ := ck_e hf
        refine giald E hK hP (q_M0 ks ad σ) c7 dX12_walks_35 ?_
        refine lv_if_eq (tgt := 48) hx hb dX12_walks_36 (by decide) (fun c8 => ?_) (fun c8 => ?_)
        · replace hf := pos_e c8 hf
          refine lv_bipush (v := -3) hx hb dX12_walks_48 (by decide) ?_
          exact gretw_i E hlk hP hD hS hr dX12_walks_50 (som_e hf)
        · replace hf := neg_e c8 hf
          refine lv_aload_n hx hb dX12_walks_39 rfl (lv_at hl 0 rfl) ?_
          refine gget E in_X12 hK hP (q_model ks ad σ) rfl (k := 0) (by decide) wd_5_60 rfl (v := .ref (ad 15 0)) rfl dX12_walks_40 ?_
          refine lv_iconst (v := 2) hx hb dX12_walks_43 (by decide) ?_
          obtain ⟨c9, hf⟩ := ck_e hf
          refine giald E hK hP (q_M0 ks ad σ) c9 dX12_walks_44 ?_
          refine lv_if_ne (tgt := 51) hx hb dX12_walks_45 (by decide) (fun c10 => ?_) (fun c10 => ?_)
          · replace hf := neg_e c10 hf
            refine lv_aload_n hx hb dX12_walks_51 rfl (lv_at hl 0 rfl) ?_
            refine lv_iload_n hx hb dX12_walks_52 rfl (lv_at hl 2 rfl) ?_
            obtain ⟨σ11, eσ11, hf⟩ := nmv_e hf
            refine gput (k := 14) E in_X12 tyX12 tyX12_ok nmX12 hK hP hD hS (q_model ks ad σ) rfl (by decide) wd_5_74 rfl rfl rfl rfl rfl (Nat.le_of_ble_eq_true rfl) (σ' := σ11) (by rw [eσ11]; exact st_model_14 ks ad σ _) dX12_walks_53 (fun H locs hP hD hS => ?_)
            refine lv_aload_n hx hb dX12_walks_56 rfl (lv_at hl 0 rfl) ?_
            refine gget E in_X12 hK hP (q_model ks ad σ11) rfl (k := 0) (by decide) wd_5_60 rfl (v := .ref (ad 15 0)) rfl dX12_walks_57 ?_
            refine lv_aload_n hx hb dX12_walks_60 rfl (lv_at hl 0 rfl) ?_
            refine gget E in_X12 hK hP (q_model ks ad σ11) rfl (k := 2) (by decide) wd_5_62 rfl (v := .ref (ad 15 2)) rfl dX12_walks_61 ?_
            obtain ⟨r12, er12, hf⟩ := bd_e hf
            refine gSw_v E hK hP hD hS hA (cX12_copiesc (by decide : (0 : Nat) < 3) (by decide : (2 : Nat) < 3) er12) kS_X12_copies wd_5_153 rfl rfl rfl ⟨Nat.le_of_ble_eq_true rfl, Nat.le_of_ble_eq_true rfl⟩ ⟨Nat.zero_le _, Nat.zero_le _⟩ hl.1 (Nat.le_of_ble_eq_true rfl) rfl dX12_walks_64 (fun H locs hP hD hS => ?_)
            refine lv_iconst (v := 0) hx hb dX12_walks_67 (by decide) ?_
            refine lv_istore (lv' := [(4, .int 0), (0, .ref (ad 14 0)), (1, .int a1), (2, .int a2), (3, .int a3)]) hx hb dX12_walks_68 hl (by decide) rfl (fun ls hl => ?_)
            refine lv_iconst (v := 0) hx hb dX12_walks_70 (by decide) ?_
            refine lv_istore (lv' := [(5, .int 0), (4, .int 0), (0, .ref (ad 14 0)), (1, .int a1), (2, .int a2), (3, .int a3)]) hx hb dX12_walks_71 hl (by decide) rfl (fun ls hl => ?_)
            refine lv_iconst (v := 0) hx hb dX12_walks_73 (by decide) ?_
            refine lv_istore (lv' := [(6, .int 0), (5, .int 0), (4, .int 0), (0, .ref (ad 14 0)), (1, .int a1), (2, .int a2), (3, .int a3)]) hx hb dX12_walks_74 hl (by decide) rfl (fun ls hl => ?_)
            have loop_76 : ∀ (K_76 : Int32 → Int32 → St → Option (Int32 × St)) (hK_76 : (∀ (y55 : Int32) (y56 : Int32) (σ57 : St) (H : Heap) (locs : List Loc) (hP : va_P (dC, dI) vwCl (wG ks ad σ57) H) (hD : va_D A (wG ks ad σ57)) (hS : va_S A s.heap H locs) (hf : K_76 y55 y56 σ57 = some out) (ls : Array Slot), lv_has ls 13 [(0, .ref (ad 14 0)), (3, .int a3), (4, .int y55), (5, .int y56)] → W p l e rX12_walks s m args below meth c H locs 0 0 (MQ below (va_Qi (fun r σ' => r = out.1 ∧ σ' = out.2) (gBw dC dI ks ad A) A) args s 0 0 A) (F0 m 241 ls []))) (n_76 : Nat) (x13 : Int32) (x14 : Int32) (x15 : Int32) (σ16 : St) (H : Heap) (locs : List Loc) (hP : va_P (dC, dI) vwCl (wG ks ad σ16) H) (hD : va_D A (wG ks ad σ16)) (hS : va_S A s.heap H locs) (hf : fX12_walks_L76 a1 K_76 n_76 x13 x14 x15 σ16 = some out) (ls : Array Slot), lv_has ls 13 [(0, .ref (ad 14 0)), (1, .int a1), (3, .int a3), (4, .int x13), (5, .int x14), (6, .int x15)] → W p l e rX12_walks s m args below meth c H locs 0 0 (MQ below (va_Qi (fun r σ' => r = out.1 ∧ σ' = out.2) (gBw dC dI ks ad A) A) args s 0 0 A) (F0 m 76 ls []) := by
              intro K_76 hK_76 n_76
              induction n_76 with
              | zero => intro x13 x14 x15 σ16 H locs hP hD hS hf; cases hf
              | succ n_76 ih_76 =>
                intro x13 x14 x15 σ16 H locs hP hD hS hf ls hl
                have hf : fX12_walks_L76B a1 K_76 (fX12_walks_L76 a1 K_76 n_76) x13 x14 x15 σ16 = some out := hf
                unfold fX12_walks_L76B at hf
                refine lv_iload hx hb dX12_walks_76 (lv_at hl 5 rfl) ?_
                refine lv_iload_n hx hb dX12_walks_78 rfl (lv_at hl 1 rfl) ?_
                refine lv_icmp_ge (tgt := 241) hx hb dX12_walks_79 (by decide) (fun c17 => ?_) (fun c17 => ?_)
                · replace hf := pos_e c17 hf
                  exact hK_76 _ _ _ _ _ hP hD hS hf _ (lv_sub hl [0, 2, 3, 4] rfl)
                · replace hf := neg_e c17 hf
                  refine lv_aload_n hx hb dX12_walks_82 rfl (lv_at hl 0 rfl) ?_
                  refine gget E in_X12 hK hP (q_model ks ad σ16) rfl (k := 2) (by decide) wd_5_62 rfl (v := .ref (ad 15 2)) rfl dX12_walks_83 ?_
                  refine lv_aload_n hx hb dX12_walks_86 rfl (lv_at hl 0 rfl) ?_
                  refine gget E in_X12 hK hP (q_model ks ad σ16) rfl (k := 0) (by decide) wd_5_60 rfl (v := .ref (ad 15 0)) rfl dX12_walks_87 ?_
                  obtain ⟨r18, er18, hf⟩ := bd_e hf
                  refine gSw_v E hK hP hD hS hA (cX12_copiesc (by decide : (2 : Nat) < 3) (by decide : (0 : Nat) < 3) er18) kS_X12_copies wd_5_153 rfl rfl rfl ⟨Nat.le_of_ble_eq_true rfl, Nat.le_of_ble_eq_true rfl⟩ ⟨Nat.zero_le _, Nat.zero_le _⟩ hl.1 (Nat.le_of_ble_eq_true rfl) rfl dX12_walks_90 (fun H locs hP hD hS => ?_)
                  refine lv_iconst (v := 0) hx hb dX12_walks_93 (by decide) ?_
                  refine lv_istore (lv' := [(7, .int 0), (0, .ref (ad 14 0)), (1, .int a1), (3, .int a3), (4, .int x13), (5, .int x14), (6, .int x15)]) hx hb dX12_walks_94 hl (by decide) rfl (fun ls hl => ?_)
                  have loop_96 : ∀ (K_96 : Int32 → St → Option (Int32 × St)) (hK_96 : (∀ (y39 : Int32) (σ40 : St) (H : Heap) (locs : List Loc) (hP : va_P (dC, dI) vwCl (wG ks ad σ40) H) (hD : va_D A (wG ks ad σ40)) (hS : va_S A s.heap H locs) (hf : K_96 y39 σ40 = some out) (ls : Array Slot), lv_has ls 13 [(0, .ref (ad 14 0)), (1, .int a1), (3, .int a3), (4, .int y39), (5, .int x14), (6, .int x15)] → W p l e rX12_walks s m args below meth c H locs 0 0 (MQ below (va_Qi (fun r σ' => r = out.1 ∧ σ' = out.2) (gBw dC dI ks ad A) A) args s 0 0 A) (F0 m 196 ls []))) (n_96 : Nat) (x19 : Int32) (x20 : Int32) (σ21 : St) (H : Heap) (locs : List Loc) (hP : va_P (dC, dI) vwCl (wG ks ad σ21) H) (hD : va_D A (wG ks ad σ21)) (hS : va_S A s.heap H locs) (hf : fX12_walks_L96 K_96 n_96 x19 x20 σ21 = some out) (ls : Array Slot), lv_has ls 13 [(0, .ref (ad 14 0)), (1, .int a1), (3, .int a3), (4, .int x19), (5, .int x14), (6, .int x15), (7, .int x20)] → W p l e rX12_walks s m args below meth c H locs 0 0 (MQ below (va_Qi (fun r σ' => r = out.1 ∧ σ' = out.2) (gBw dC dI ks ad A) A) args s 0 0 A) (F0 m 96 ls []) := by
                    intro K_96 hK_96 n_96
                    induction n_96 with
                    | zero => intro x19 x20 σ21 H locs hP hD hS hf; cases hf
                    | succ n_96 ih_96 =>
                      intro x19 x20 σ21 H locs hP hD hS hf ls hl
                      have hf : fX12_walks_L96B K_96 (fX12_walks_L96 K_96 n_96) x19 x20 σ21 = some out := hf
                      unfold fX12_walks_L96B at hf
                      refine lv_iload hx hb dX12_walks_96 (lv_at hl 6 rfl) ?_
                      refine lv_bipush (v := 10) hx hb dX12_walks_98 (by decide) ?_
                      refine lv_icmp_ge (tgt := 196) hx hb dX12_walks_100 (by decide) (fun c22 => ?_) (fun c22 => ?_)
                      · replace hf := pos_e c22 hf
                        exact hK_96 _ _ _ _ hP hD hS hf _ (lv_sub hl [0, 1, 2, 3, 4, 5] rfl)
                      · replace hf := neg_e c22 hf
                        refine lv_aload_n hx hb dX12_walks_103 rfl (lv_at hl 0 rfl) ?_
                        refine lv_aload_n hx hb dX12_walks_104 rfl (lv_at hl 0 rfl) ?_
                        refine gget E in_X12 hK hP (q_model ks ad σ21) rfl (k := 0) (by decide) wd_5_60 rfl (v := .ref (ad 15 0)) rfl dX12_walks_105 ?_
                        refine lv_iconst (v := 0) hx hb dX12_walks_108 (by decide) ?_
                        obtain ⟨c23, hf⟩ := ck_e hf
                        refine giald E hK hP (q_M0 ks ad σ21) c23 dX12_walks_109 ?_
                        obtain ⟨r24, er24, hf⟩ := bd_e hf
                        refine gVw_i E hK hP hD hS hA (cX12_drawnc _ er24) kV_X12_drawn wd_7_1 rfl rfl (q_model ks ad σ21) rfl rfl rfl ⟨Nat.le_of_ble_eq_true rfl, Nat.le_of_ble_eq_true rfl⟩ ⟨Nat.zero_le _, Nat.zero_le _⟩ hl.1 (Nat.le_of_ble_eq_true rfl) rfl dX12_walks_110 (fun H locs hP hD hS => ?_)
                        refine lv_istore (lv' := [(8, .int r24.1), (0, .ref (ad 14 0)), (1, .int a1), (3, .int a3), (4, .int x19), (5, .int x14), (6, .int x15), (7, .int x20)]) hx hb dX12_walks_113 hl (by decide) rfl (fun ls hl => ?_)
                        refine lv_aload_n hx hb dX12_walks_115 rfl (lv_at hl 1 rfl) ?_
                        refine lv_aload_n hx hb dX12_walks_116 rfl (lv_at hl 1 rfl) ?_
                        refine gget E in_X12 hK hP (q_model ks ad r24.2) rfl (k := 0) (by decide) wd_5_60 rfl (v := .ref (ad 15 0)) rfl dX12_walks_117 ?_
                        refine lv_iconst (v := 1) hx hb dX12_walks_120 (by decide) ?_
                        obtain ⟨c25, hf⟩ := ck_e hf
                        refine giald E hK hP (q_M0 ks ad r24.2) c25 dX12_walks_121 ?_
                        obtain ⟨r26, er26, hf⟩ := bd_e hf
                        refine gVw_i E hK hP hD hS hA (cX12_drawnc _ er26) kV_X12_drawn wd_7_1 rfl rfl (q_model ks ad r24.2) rfl rfl rfl ⟨Nat.le_of_ble_eq_true rfl, Nat.le_of_ble_eq_true rfl⟩ ⟨Nat.zero_le _, Nat.zero_le _⟩ hl.1 (Nat.le_of_ble_eq_true rfl) rfl dX12_walks_122 (fun H locs hP hD hS => ?_)
                        refine lv_istore (lv' := [(9, .int r26.1), (8, .int r24.1), (0, .ref (ad 14 0)), (1, .int a1), (3, .int a3), (4, .int x19), (5, .int x14), (6, .int x15), (7, .int x20)]) hx hb dX12_walks_125 hl (by decide) rfl (fun ls hl => ?_)
                        refine lv_aload_n hx hb dX12_walks_127 rfl (lv_at hl 2 rfl) ?_
                        refine lv_aload_n hx hb dX12_walks_128 rfl (lv_at hl 2 rfl) ?_
                        refine gget E in_X12 hK hP (q_model ks ad r26.2) rfl (k := 0) (by decide) wd_5_60 rfl (v := .ref (ad 15 0)) rfl dX12_walks_129 ?_
                        refine lv_iconst (v := 2) hx hb dX12_walks_132 (by decide) ?_
                        obtain ⟨c27, hf⟩ := ck_e hf
                        refine giald E hK hP (q_M0 ks ad r26.2) c27 dX12_walks_133 ?_
                        obtain ⟨r28, er28, hf⟩ := bd_e hf
                        refine gVw_i E hK hP hD hS hA (cX12_drawnc _ er28) kV_X12_drawn wd_7_1 rfl rfl (q_model ks ad r26.2) rfl rfl rfl ⟨Nat.le_of_ble_eq_true rfl, Nat.le_of_ble_eq_true rfl⟩ ⟨Nat.zero_le _, Nat.zero_le _⟩ hl.1 (Nat.le_of_ble_eq_true rfl) rfl dX12_walks_134 (fun H locs hP hD hS => ?_)
                        refine lv_istore (lv' := [(10, .int r28.1), (9, .int r26.1), (8, .int r24.1), (0, .ref (ad 14 0)), (1, .int a1), (3, .int a3), (4, .int x19), (5, .int x14), (6, .int x15), (7, .int x20)]) hx hb dX12_walks_137 hl (by decide) rfl (fun ls hl => ?_)
                        refine lv_aload_n hx hb dX12_walks_139 rfl (lv_at hl 3 rfl) ?_
                        refine lv_bipush (v := 61) hx hb dX12_walks_140 (by decide) ?_
                        obtain ⟨r29, er29, hf⟩ := bd_e hf
                        refine gVw_i E hK hP hD hS hA (cX12_drawnc _ er29) kV_X12_drawn wd_7_1 rfl rfl (q_model ks ad r28.2) rfl rfl rfl ⟨Nat.le_of_ble_eq_true rfl, Nat.le_of_ble_eq_true rfl⟩ ⟨Nat.zero_le _, Nat.zero_le _⟩ hl.1 (Nat.le_of_ble_eq_true rfl) rfl dX12_walks_142 (fun H locs hP hD hS => ?_)
                        refine lv_istore (lv' := [(11, .int r29.1), (10, .int r28.1), (9, .int r26.1), (8, .int r24.1), (0, .ref (ad 14 0)), (1, .int a1), (3, .int a3), (4, .int x19), (5, .int x14), (6, .int x15), (7, .int x20)]) hx hb dX12_walks_145 hl (by decide) rfl (fun ls hl => ?_)
                        refine lv_aload_n hx hb dX12_walks_147 rfl (lv_at hl 4 rfl) ?_
                        refine lv_iload hx hb dX12_walks_148 (lv_at hl 3 rfl) ?_
                        refine lv_iload hx hb dX12_walks_150 (lv_at hl 2 rfl) ?_
                        refine lv_iload hx hb dX12_walks_152 (lv_at hl 1 rfl) ?_
                        refine lv_iload hx hb dX12_walks_154 (lv_at hl 0 rfl) ?_
                        refine lv_aload_n hx hb dX12_walks_156 rfl (lv_at hl 4 rfl) ?_
                        refine lv_bipush (v := 61) hx hb dX12_walks_157 (by decide) ?_
                        obtain ⟨r30, er30, hf⟩ := bd_e hf
                        refine gVw_i E hK hP hD hS hA (cX12_drawnc _ er30) kV_X12_drawn wd_7_1 rfl rfl (q_model ks ad r29.2) rfl rfl rfl ⟨Nat.le_of_ble_eq_true rfl, Nat.le_of_ble_eq_true rfl⟩ ⟨Nat.zero_le _, Nat.zero_le _⟩ hl.1 (Nat.le_of_ble_eq_true rfl) rfl dX12_walks_159 (fun H locs hP hD hS => ?_)
                        obtain ⟨r31, er31, hf⟩ := bd_e hf
                        refine gVw_i E hK hP hD hS hA (cX12_triesc _ _ _ _ _ er31) kV_X12_tries wd_7_8 rfl rfl (q_model ks ad r30.2) rfl rfl rfl ⟨Nat.le_of_ble_eq_true rfl, Nat.le_of_ble_eq_true rfl⟩ ⟨Nat.zero_le _, Nat.zero_le _⟩ hl.1 (Nat.le_of_ble_eq_true rfl) rfl dX12_walks_162 (fun H locs hP hD hS => ?_)
                        refine lv_istore (lv' := [(12, .int r31.1), (11, .int r29.1), (10, .int r28.1), (9, .int r26.1), (8, .int r24.1), (0, .ref (ad 14 0)), (1, .int a1), (3, .int a3), (4, .int x19), (5, .int x14), (6, .int x15), (7, .int x20)]) hx hb dX12_walks_165 hl (by decide) rfl (fun ls hl => ?_)
                        refine lv_iload hx hb dX12_walks_167 (lv_at hl 8 rfl) ?_
                        refine lv_iload hx hb dX12_walks_169 (lv_at hl 0 rfl) ?_
                        have hJ_187 : ∀ (z32 : Int32) (σ33 : St) (H : Heap) (locs : List Loc) (hP : va_P (dC, dI) vwCl (wG ks ad σ33) H) (hD : va_D A (wG ks ad σ33)) (hS : va_S A s.heap H locs) (hf : fX12_walks_J187 x19 x20 (fX12_walks_L96 K_96 n_96) z32 σ33 = some out) (ls : Array Slot), lv_has ls 13 [(0, .ref (ad 14 0)), (1, .int a1), (3, .int a3), (5, .int x14), (6, .int x15), (7, .int x20)] → W p l e rX12_walks s m args below meth c H locs 0 0 (MQ below (va_Qi (fun r σ' => r = out.1 ∧ σ' = out.2) (gBw dC dI ks ad A) A) args s 0 0 A) (F0 m 187 ls [.int z32, .int x19]) := by
                          intro z32 σ33 H locs hP hD hS hf ls hl
                          unfold fX12_walks_J187 at hf
                          refine lv_iadd hx hb dX12_walks_187 ?_
                          obtain ⟨v34, ev34, hf⟩ := nmv_e hf
                          refine lv_nmi ev34 ?_
                          refine lv_istore (lv' := [(4, .int v34), (0, .ref (ad 14 0)), (1, .int a1), (3, .int a3), (5, .int x14), (6, .int x15), (7, .int x20)]) hx hb dX12_walks_188 hl (by decide) rfl (fun ls hl => ?_)
                          obtain ⟨v35, ev35, hf⟩ := nmv_e hf
                          refine lv_iinc (v := v35) (lv' := [(7, .int v35), (4, .int v34), (0, .ref (ad 14 0)), (1, .int a1), (3, .int a3), (5, .int x14), (6, .int x15)]) hx hb dX12_walks_190 hl (k := 6) rfl (by rw [ev35]; rfl) (by decide) rfl (fun ls hl => ?_)
                          refine lv_goto (tgt := 96) hx hb dX12_walks_193 (by decide) ?_
                          exact ih_96 _ _ _ _ _ hP hD hS hf _ (lv_sub hl [2, 3, 4, 1, 5, 6, 0] rfl)
                        have hJ_186 : ∀ (σ36 : St) (H : Heap) (locs : List Loc) (hP : va_P (dC, dI) vwCl (wG ks ad σ36) H) (hD : va_D A (wG ks ad σ36)) (hS : va_S A s.heap H locs) (hf : fX12_walks_J186 x19 x20 (fX12_walks_L96 K_96 n_96) σ36 = some out) (ls : Array Slot), lv_has ls 13 [(0, .ref (ad 14 0)), (1, .int a1), (3, .int a3), (5, .int x14), (6, .int x15), (7, .int x20)] → W p l e rX12_walks s m args below meth c H locs 0 0 (MQ below (va_Qi (fun r σ' => r = out.1 ∧ σ' = out.2) (gBw dC dI ks ad A) A) args s 0 0 A) (F0 m 186 ls [.int x19]) := by
                          intro σ36 H locs hP hD hS hf ls hl
                          unfold fX12_walks_J186 at hf
                          refine lv_iconst (v := 0) hx hb dX12_walks_186 (by decide) ?_
                          exact hJ_187 _ _ _ _ hP hD hS hf _ (lv_sub hl [0, 1, 2, 3, 4, 5] rfl)
                        refine lv_if_le (tgt := 186) hx hb dX12_walks_171 (by decide) (fun c37 => ?_) (fun c37 => ?_)
                        · replace hf := pos_e c37 hf
                          exact hJ_186 _ _ _ hP hD hS hf _ (lv_sub hl [5, 6, 7, 9, 10, 11] rfl)
                        · replace hf := neg_e c37 hf
                          refine lv_iload hx hb dX12_walks_174 (lv_at hl 0 rfl) ?_
                          refine lv_iconst (v := 2) hx hb dX12_walks_176 (by decide) ?_
                          refine lv_irem hx hb dX12_walks_177 (by decide) ?_
                          refine lv_iconst (v := 1) hx hb dX12_walks_178 (by decide) ?_
                          refine lv_icmp_ne (tgt := 186) hx hb dX12_walks_179 (by decide) (fun c38 => ?_) (fun c38 => ?_)
                          · replace hf := neg_e c38 hf
                            exact hJ_186 _ _ _ hP hD hS hf _ (lv_sub hl [5, 6, 7, 9, 10, 11] rfl)
                          · replace hf := pos_e c38 hf
                            refine lv_iconst (v := 1) hx hb dX12_walks_182 (by decide) ?_
                            refine lv_goto (tgt := 187) hx hb dX12_walks_183 (by decide) ?_
                            exact hJ_187 _ _ _ _ hP hD hS hf _ (lv_sub hl [5, 6, 7, 9, 10, 11] rfl)
                  refine loop_96 _ (fun y39 σ40 H locs hP hD hS hf ls hl => ?_) _ _ _ _ _ _ hP hD hS hf _ (lv_sub hl [1, 2, 3, 4, 5, 6, 0] rfl)
                  refine lv_iconst (v := 0) hx hb dX12_walks_196 (by decide) ?_
                  refine lv_istore (lv' := [(7, .int 0), (0, .ref (ad 14 0)), (1, .int a1), (3, .int a3), (4, .int y39), (5, .int x14), (6, .int x15)]) hx hb dX12_walks_197 hl (by decide) rfl (fun ls hl => ?_)
                  have loop_199 : ∀ (K_199 : Int32 → St → Option (Int32 × St)) (hK_199 : (∀ (y52 : Int32) (σ53 : St) (H : Heap) (locs : List Loc) (hP : va_P (dC, dI) vwCl (wG ks ad σ53) H) (hD : va_D A (wG ks ad σ53)) (hS : va_S A s.heap H locs) (hf : K_199 y52 σ53 = some out) (ls : Array Slot), lv_has ls 13 [(0, .ref (ad 14 0)), (1, .int a1), (3, .int a3), (4, .int y39), (5, .int y52), (6, .int x15)] → W p l e rX12_walks s m args below meth c H locs 0 0 (MQ below (va_Qi (fun r σ' => r = out.1 ∧ σ' = out.2) (gBw dC dI ks ad A) A) args s 0 0 A) (F0 m 235 ls []))) (n_199 : Nat) (x41 : Int32) (x42 : Int32) (σ43 : St) (H : Heap) (locs : List Loc) (hP : va_P (dC, dI) vwCl (wG ks ad σ43) H) (hD : va_D A (wG ks ad σ43)) (hS : va_S A s.heap H locs) (hf : fX12_walks_L199 K_199 n_199 x41 x42 σ43 = some out) (ls : Array Slot), lv_has ls 13 [(0, .ref (ad 14 0)), (1, .int a1), (3, .int a3), (4, .int y39), (5, .int x41), (6, .int x15), (7, .int x42)] → W p l e rX12_walks s m args below meth c H locs 0 0 (MQ below (va_Qi (fun r σ' => r = out.1 ∧ σ' = out.2) (gBw dC dI ks ad A) A) args s 0 0 A) (F0 m 199 ls []) := by
                    intro K_199 hK_199 n_199
                    induction n_199 with
                    | zero => intro x41 x42 σ43 H locs hP hD hS hf; cases hf
                    | succ n_199 ih_199 =>
                      intro x41 x42 σ43 H locs hP hD hS hf ls hl
                      have hf : fX12_walks_L199B K_199 (fX12_walks_L199 K_199 n_199) x41 x42 σ43 = some out := hf
                      unfold fX12_walks_L199B at hf
                      refine lv_iload hx hb dX12_walks_199 (lv_at hl 6 rfl) ?_
                      refine lv_aload_n hx hb dX12_walks_201 rfl (lv_at hl 0 rfl) ?_
                      refine gget E in_X12 hK hP (q_model ks ad σ43) rfl (k := 0) (by decide) wd_5_60 rfl (v := .ref (ad 15 0)) rfl dX12_walks_202 ?_
                      refine lv_iconst (v := 0) hx hb dX12_walks_205 (by decide) ?_
                      obtain ⟨c44, hf⟩ := ck_e hf
                      refine giald E hK hP (q_M0 ks ad σ43) c44 dX12_walks_206 ?_
                      refine lv_icmp_ge (tgt := 235) hx hb dX12_walks_207 (by decide) (fun c45 => ?_) (fun c45 => ?_)
                      · replace hf := pos_e c45 hf
                        exact hK_199 _ _ _ _ hP hD hS hf _ (lv_sub hl [0, 1, 2, 3, 4, 5] rfl)
                      · replace hf := neg_e c45 hf
                        refine lv_iload hx hb dX12_walks_210 (lv_at hl 4 rfl) ?_
                        refine lv_aload_n hx hb dX12_walks_212 rfl (lv_at hl 0 rfl) ?_
                        refine lv_iload hx hb dX12_walks_213 (lv_at hl 6 rfl) ?_
                        obtain ⟨r46, er46, hf⟩ := bd_e hf
                        refine gVr_i E hK hP (cX12_isSplitc _ er46) kV_X12_isSplit wd_5_200 rfl rfl (q_model ks ad σ43) rfl rfl rfl ⟨Nat.le_of_ble_eq_true rfl, Nat.le_of_ble_eq_true rfl⟩ ⟨Nat.zero_le _, Nat.zero_le _⟩ hl.1 (Nat.le_of_ble_eq_true rfl) rfl dX12_walks_215 ?_
                        have hJ_226 : ∀ (z47 : Int32) (σ48 : St) (H : Heap) (locs : List Loc) (hP : va_P (dC, dI) vwCl (wG ks ad σ48) H) (hD : va_D A (wG ks ad σ48)) (hS : va_S A s.heap H locs) (hf : fX12_walks_J226 x41 x42 (fX12_walks_L199 K_199 n_199) z47 σ48 = some out) (ls : Array Slot), lv_has ls 13 [(0, .ref (ad 14 0)), (1, .int a1), (3, .int a3), (4, .int y39), (6, .int x15), (7, .int x42)] → W p l e rX12_walks s m args below meth c H locs 0 0 (MQ below (va_Qi (fun r σ' => r = out.1 ∧ σ' = out.2) (gBw dC dI ks ad A) A) args s 0 0 A) (F0 m 226 ls [.int z47, .int x41]) := by
                          intro z47 σ48 H locs hP hD hS hf ls hl
                          unfold fX12_walks_J226 at hf
                          refine lv_iadd hx hb dX12_walks_226 ?_
                          obtain ⟨v49, ev49, hf⟩ := nmv_e hf
                          refine lv_nmi ev49 ?_
                          refine lv_istore (lv' := [(5, .int v49), (0, .ref (ad 14 0)), (1, .int a1), (3, .int a3), (4, .int y39), (6, .int x15), (7, .int x42)]) hx hb dX12_walks_227 hl (by decide) rfl (fun ls hl => ?_)
                          obtain ⟨v50, ev50, hf⟩ := nmv_e hf
                          refine lv_iinc (v := v50) (lv' := [(7, .int v50), (5, .int v49), (0, .ref (ad 14 0)), (1, .int a1), (3, .int a3), (4, .int y39), (6, .int x15)]) hx hb dX12_walks_229 hl (k := 6) rfl (by rw [ev50]; rfl) (by decide) rfl (fun ls hl => ?_)
                          refine lv_goto (tgt := 199) hx hb dX12_walks_232 (by decide) ?_
                          exact ih_199 _ _ _ _ _ hP hD hS hf _ (lv_sub hl [2, 3, 4, 5, 1, 6, 0] rfl)
                        refine lv_if_eq (tgt := 225) hx hb dX12_walks_218 (by decide) (fun c51 => ?_) (fun c51 => ?_)
                        · replace hf := pos_e c51 hf
                          refine lv_iconst (v := 0) hx hb dX12_walks_225 (by decide) ?_
                          exact hJ_226 _ _ _ _ hP hD hS hf _ (lv_sub hl [0, 1, 2, 3, 5, 6] rfl)
                        · replace hf := neg_e c51 hf
                          refine lv_iconst (v := 1) hx hb dX12_walks_221 (by decide) ?_
                          refine lv_goto (tgt := 226) hx hb dX12_walks_222 (by decide) ?_
                          exact hJ_226 _ _ _ _ hP hD hS hf _ (lv_sub hl [0, 1, 2, 3, 5, 6] rfl)
                  refine loop_199 _ (fun y52 σ53 H locs hP hD hS hf ls hl => ?_) _ _ _ _ _ _ hP hD hS hf _ (lv_sub hl [1, 2, 3, 4, 5, 6, 0] rfl)
                  obtain ⟨v54, ev54, hf⟩ := nmv_e hf
                  refine lv_iinc (v := v54) (lv' := [(6, .int v54), (0, .ref (ad 14 0)), (1, .int a1), (3, .int a3), (4, .int y39), (5, .int y52)]) hx hb dX12_walks_235 hl (k := 5) rfl (by rw [ev54]; rfl) (by decide) rfl (fun ls hl => ?_)
                  refine lv_goto (tgt := 76) hx hb dX12_walks_238 (by decide) ?_
                  exact ih_76 _ _ _ _ _ _ hP hD hS hf _ (lv_sub hl [1, 2, 3, 4, 5, 0] rfl)
            refine loop_76 _ (fun y55 y56 σ57 H locs hP hD hS hf ls hl => ?_) _ _ _ _ _ _ _ hP hD hS hf _ (lv_sub hl [3, 4, 6, 2, 1, 0] rfl)
            refine lv_aload_n hx hb dX12_walks_241 rfl (lv_at hl 0 rfl) ?_
            refine gget E in_X12 hK hP (q_model ks ad σ57) rfl (k := 2) (by decide) wd_5_62 rfl (v := .ref (ad 15 2)) rfl dX12_walks_242 ?_
            refine lv_aload_n hx hb dX12_walks_245 rfl (lv_at hl 0 rfl) ?_
            refine gget E in_X12 hK hP (q_model ks ad σ57) rfl (k := 0) (by decide) wd_5_60 rfl (v := .ref (ad 15 0)) rfl dX12_walks_246 ?_
            obtain ⟨r58, er58, hf⟩ := bd_e hf
            refine gSw_v E hK hP hD hS hA (cX12_copiesc (by decide : (2 : Nat) < 3) (by decide : (0 : Nat) < 3) er58) kS_X12_copies wd_5_153 rfl rfl rfl ⟨Nat.le_of_ble_eq_true rfl, Nat.le_of_ble_eq_true rfl⟩ ⟨Nat.zero_le _, Nat.zero_le _⟩ hl.1 (Nat.le_of_ble_eq_true rfl) rfl dX12_walks_249 (fun H locs hP hD hS => ?_)
            refine lv_iload_n hx hb dX12_walks_252 rfl (lv_at hl 1 rfl) ?_
            refine lv_if_ne (tgt := 261) hx hb dX12_walks_253 (by decide) (fun c59 => ?_) (fun c59 => ?_)
            · replace hf := neg_e c59 hf
              refine lv_iload hx hb dX12_walks_261 (lv_at hl 3 rfl) ?_
              exact gretw_i E hlk hP hD hS hr dX12_walks_263 (som_e hf)
            · replace hf := pos_e c59 hf
              refine lv_iload hx hb dX12_walks_256 (lv_at hl 2 rfl) ?_
              refine lv_goto (tgt := 263) hx hb dX12_walks_258 (by decide) ?_
              exact gretw_i E hlk hP hD hS hr dX12_walks_263 (som_e hf)
          · replace hf := pos_e c10 hf
            refine lv_bipush (v := -3) hx hb dX12_walks_48 (by decide) ?_
            exact gretw_i E hlk hP hD hS hr dX12_walks_50 (som_e hf)
    · replace hf := pos_e c4 hf
      refine lv_iconst (v := -1) hx hb dX12_walks_19 (by decide) ?_
      exact gretw_i E hlk hP hD hS hr dX12_walks_20 (som_e hf)
noncomputable def fX12_image (σ : St) : Option (Int32 × St) :=
  bd (fX12_copies σ 0 1) fun r1 =>
  nmv (sI r1 11 0 3 1) fun σ2 =>
  ck (vp_in 0 47) <|
  some (gI σ2 12 0 (0 : Int32).toNatClampNeg, σ2)
def rX12_image : Room := { frames := 1, cells := 0, slots := 0, locals := 22 }
set_option maxHeartbeats 4000000 in
set_option maxRecDepth 100000 in
theorem cX12_imagec {l : Launch} {dC : Nat → ClassId} {dI : Nat → Nat → Nat} {ks : Nat → ClassId} {ad : Nat → Nat → Nat} {σ : St}   {out : Int32 × St} (hf : fX12_image σ = some out) : MWi l dC dI ks ad σ yX12_image cX12_image 1 (some .int) rX12_image [.ref (ad 14 0)] out := by
  intro sz
  refine met_w (Qc := fun A => va_Qi (fun r σ' => r = out.1 ∧ σ' = out.2) (gBw dC dI ks ad A) A) (own := RX12) (by decide) rfl (Nat.le_of_ble_eq_true rfl) ?_
  intro A p e s m args below meth c ls E hr hlk hA hP hD hS hK hl
  have hx := E.1
  have hb := E.2.1
  have hl : lv_has ls 1 [(0, .ref (ad 14 0))] := hl
  unfold fX12_image at hf
  refine lv_aload_n hx hb dX12_image_0 rfl (lv_at hl 0 rfl) ?_
  refine gget E in_X12 hK hP (q_model ks ad σ) rfl (k := 0) (by decide) wd_5_60 rfl (v := .ref (ad 15 0)) rfl dX12_image_1 ?_
  refine lv_aload_n hx hb dX12_image_4 rfl (lv_at hl 0 rfl) ?_
  refine gget E in_X12 hK hP (q_model ks ad σ) rfl (k := 1) (by decide) wd_5_61 rfl (v := .ref (ad 15 1)) rfl dX12_image_5 ?_
  obtain ⟨r1, er1, hf⟩ := bd_e hf
  refine gSw_v E hK hP hD hS hA (cX12_copiesc (by decide : (0 : Nat) < 3) (by decide : (1 : Nat) < 3) er1) kS_X12_copies wd_5_153 rfl rfl rfl ⟨Nat.le_of_ble_eq_true rfl, Nat.le_of_ble_eq_true rfl⟩ ⟨Nat.zero_le _, Nat.zero_le _⟩ hl.1 (Nat.le_of_ble_eq_true rfl) rfl dX12_image_8 (fun H locs hP hD hS => ?_)
  refine lv_aload_n hx hb dX12_image_11 rfl (lv_at hl 0 rfl) ?_
  refine lv_iconst (v := 1) hx hb dX12_image_12 (by decide) ?_
  obtain ⟨σ2, eσ2, hf⟩ := nmv_e hf
  refine gput (k := 3) E in_X12 tyX12 tyX12_ok nmX12 hK hP hD hS (q_model ks ad r1) rfl (by decide) wd_5_63 rfl rfl rfl rfl rfl (Nat.le_of_ble_eq_true rfl) (σ' := σ2) (by rw [eσ2]; exact st_model_3 ks ad r1 _) dX12_image_13 (fun H locs hP hD hS => ?_)
  refine lv_aload_n hx hb dX12_image_16 rfl (lv_at hl 0 rfl) ?_
  refine gget E in_X12 hK hP (q_model ks ad σ2) rfl (k := 0) (by decide) wd_5_60 rfl (v := .ref (ad 15 0)) rfl dX12_image_17 ?_
  refine lv_iconst (v := 0) hx hb dX12_image_20 (by decide) ?_
  obtain ⟨c3, hf⟩ := ck_e hf
  refine giald E hK hP (q_M0 ks ad σ2) c3 dX12_image_21 ?_
  exact gretw_i E hlk hP hD hS hr dX12_image_22 (som_e hf)
noncomputable def fX12_restore (σ : St) : Option (Int32 × St) :=
  if (gI σ 11 0 3) = 0 then
  some ((-3), σ)
  else
  bd (fX12_copies σ 1 0) fun r2 =>
  ck (vp_in 0 47) <|
  some (gI r2 12 0 (0 : Int32).toNatClampNeg, r2)
def rX12_restore : Room := { frames := 1, cells := 0, slots := 0, locals := 22 }
set_option maxHeartbeats 4000000 in
set_option maxRecDepth 100000 in
theorem cX12_restorec {l : Launch} {dC : Nat → ClassId} {dI : Nat → Nat → Nat} {ks : Nat → ClassId} {ad : Nat → Nat → Nat} {σ : St}   {out : Int32 × St} (hf : fX12_restore σ = some out) : MWi l dC dI ks ad σ yX12_restore cX12_restore 1 (some .int) rX12_restore [.ref (ad 14 0)] out := by
  intro sz
  refine met_w (Qc := fun A => va_Qi (fun r σ' => r = out.1 ∧ σ' = out.2) (gBw dC dI ks ad A) A) (own := RX12) (by decide) rfl (Nat.le_of_ble_eq_true rfl) ?_
  intro A p e s m args below meth c ls E hr hlk hA hP hD hS hK hl
  have hx := E.1
  have hb := E.2.1
  have hl : lv_has ls 1 [(0, .ref (ad 14 0))] := hl
  unfold fX12_restore at hf
  refine lv_aload_n hx hb dX12_restore_0 rfl (lv_at hl 0 rfl) ?_
  refine gget E in_X12 hK hP (q_model ks ad σ) rfl (k := 3) (by decide) wd_5_63 rfl (v := .int (gI σ 11 0 3)) rfl dX12_restore_1 ?_
  refine lv_if_ne (tgt := 10) hx hb dX12_restore_4 (by decide) (fun c1 => ?_) (fun c1 => ?_)
  · replace hf := neg_e c1 hf
    refine lv_aload_n hx hb dX12_restore_10 rfl (lv_at hl 0 rfl) ?_
    refine gget E in_X12 hK hP (q_model ks ad σ) rfl (k := 1) (by decide) wd_5_61 rfl (v := .ref (ad 15 1)) rfl dX12_restore_11 ?_
    refine lv_aload_n hx hb dX12_restore_14 rfl (lv_at hl 0 rfl) ?_
    refine gget E in_X12 hK hP (q_model ks ad σ) rfl (k := 0) (by decide) wd_5_60 rfl (v := .ref (ad 15 0)) rfl dX12_restore_15 ?_
    obtain ⟨r2, er2, hf⟩ := bd_e hf
    refine gSw_v E hK hP hD hS hA (cX12_copiesc (by decide : (1 : Nat) < 3) (by decide : (0 : Nat) < 3) er2) kS_X12_copies wd_5_153 rfl rfl rfl ⟨Nat.le_of_ble_eq_true rfl, Nat.le_of_ble_eq_true rfl⟩ ⟨Nat.zero_le _, Nat.zero_le _⟩ hl.1 (Nat.le_of_ble_eq_true rfl) rfl dX12_restore_18 (fun H locs hP hD hS => ?_)
    refine lv_aload_n hx hb dX12_restore_21 rfl (lv_at hl 0 rfl) ?_
    refine gget E in_X12 hK hP (q_model ks ad r2) rfl (k := 0) (by decide) wd_5_60 rfl (v := .ref (ad 15 0)) rfl dX12_restore_22 ?_
    refine lv_iconst (v := 0) hx hb dX12_restore_25 (by decide) ?_
    obtain ⟨c3, hf⟩ := ck_e hf
    refine giald E hK hP (q_M0 ks ad r2) c3 dX12_restore_26 ?_
    exact gretw_i E hlk hP hD hS hr dX12_restore_27 (som_e hf)
  · replace hf := pos_e c1 hf
    refine lv_bipush (v := -3) hx hb dX12_restore_7 (by decide) ?_
    exact gretw_i E hlk hP hD hS hr dX12_restore_9 (som_e hf)
noncomputable def fX12_count_J72 (x6 : Int32) (x7 : Int32) (rec_46 : Int32 → Int32 → Option (Int32)) (z11 : Int32) : Option (Int32) :=
  nmv (x6 ||| z11) fun v12 =>
  nmv (x7 + 1) fun v13 =>
  rec_46 v12 v13
noncomputable def fX12_count_L46B (σ : St) (K_46 : Int32 → Option (Int32)) (rec_46 : Int32 → Int32 → Option (Int32)) (x6 : Int32) (x7 : Int32) : Option (Int32) :=
  ck (vp_in 0 47) <|
  if (gI σ 12 0 (0 : Int32).toNatClampNeg) ≤ x7 then
  K_46 x6
  else
  bd (fX12_isSplit σ x7) fun r10 =>
  if r10 = 0 then
  fX12_count_J72 x6 x7 rec_46 0
  else
  fX12_count_J72 x6 x7 rec_46 ((1 : Int32) <<< (x7 &&& 31))
noncomputable def fX12_count_L46 (σ : St) (K_46 : Int32 → Option (Int32)) : Nat → Int32 → Int32 → Option (Int32)
  | 0 => fun _ _ => none
  | n + 1 => fX12_count_L46B σ K_46 (fX12_count_L46 σ K_46 n)
noncomputable def fX12_count_L84B (σ : St) (K_84 : Int32 → Option (Int32)) (rec_84 : Int32 → Int32 → Option (Int32)) (x16 : Int32) (x17 : Int32) : Option (Int32) :=
  ck (vp_in 0 47) <|
  if (gI σ 12 0 (0 : Int32).toNatClampNeg) ≤ x17 then
  K_84 x16
  else
  bd (fX12_bladeOf σ x17 3) fun r20 =>
  nmv (x16 + r20) fun v21 =>
  nmv (x17 + 1) fun v22 =>
  rec_84 v21 v22
noncomputable def fX12_count_L84 (σ : St) (K_84 : Int32 → Option (Int32)) : Nat → Int32 → Int32 → Option (Int32)
  | 0 => fun _ _ => none
  | n + 1 => fX12_count_L84B σ K_84 (fX12_count_L84 σ K_84 n)
noncomputable def fX12_count_L113B (σ : St) (K_113 : Int32 → Option (Int32)) (rec_113 : Int32 → Int32 → Option (Int32)) (x24 : Int32) (x25 : Int32) : Option (Int32) :=
  ck (vp_in 1 47) <|
  if (gI σ 12 0 (1 : Int32).toNatClampNeg) ≤ x25 then
  K_113 x24
  else
  bd (fX12_atThumbs σ x25 1) fun r28 =>
  ck (vp_in r28 47) <|
  nmv (x24 + (gI σ 12 0 r28.toNatClampNeg)) fun v30 =>
  nmv (x25 + 1) fun v31 =>
  rec_113 v30 v31
noncomputable def fX12_count_L113 (σ : St) (K_113 : Int32 → Option (Int32)) : Nat → Int32 → Int32 → Option (Int32)
  | 0 => fun _ _ => none
  | n + 1 => fX12_count_L113B σ K_113 (fX12_count_L113 σ K_113 n)
noncomputable def fX12_count (σ : St) (a1 : Int32) : Option (Int32) :=
  bd (fX12_isIn σ a1 0 2) fun r1 =>
  if r1 = 0 then
  if a1 = 3 then
  fX12_count_L46 σ (fun y15 => some y15) FU 0 0
  else
  if a1 = 4 then
  fX12_count_L84 σ (fun y23 => some y23) FU 0 0
  else
  if a1 = 5 then
  fX12_count_L113 σ (fun y32 => some y32) FU 0 0
  else
  some (-1)
  else
  ck (vp_in a1 47) <|
  some (gI σ 12 0 a1.toNatClampNeg)
def rX12_count : Room := { frames := 3, cells := 0, slots := 0, locals := 64 }
set_option maxHeartbeats 4000000 in
set_option maxRecDepth 100000 in
theorem cX12_countc {l : Launch} {dC : Nat → ClassId} {dI : Nat → Nat → Nat} {ks : Nat → ClassId} {ad : Nat → Nat → Nat} {σ : St} (a1 : Int32)  {out : Int32} (hf : fX12_count σ a1 = some out) : MRi l dC dI ks ad σ yX12_count cX12_count 4 (some .int) rX12_count [.ref (ad 14 0), .int a1] out := by
  refine met_r (own := RX12) (by decide) rfl (Nat.le_of_ble_eq_true rfl) ?_
  intro p e s m args below meth c ls E hr hlk hP hK hl
  have hx := E.1
  have hb := E.2.1
  have hl : lv_has ls 4 [(0, .ref (ad 14 0)), (1, .int a1)] := hl
  unfold fX12_count at hf
  refine lv_iload_n hx hb dX12_count_0 rfl (lv_at hl 1 rfl) ?_
  refine lv_iconst (v := 0) hx hb dX12_count_1 (by decide) ?_
  refine lv_iconst (v := 2) hx hb dX12_count_2 (by decide) ?_
  obtain ⟨r1, er1, hf⟩ := bd_e hf
  refine gSr_i E hK hP (cX12_isInc _ _ _ er1) kS_X12_isIn wd_5_138 rfl rfl rfl ⟨Nat.le_of_ble_eq_true rfl, Nat.le_of_ble_eq_true rfl⟩ ⟨Nat.zero_le _, Nat.zero_le _⟩ hl.1 (Nat.le_of_ble_eq_true rfl) rfl dX12_count_3 ?_
  refine lv_if_eq (tgt := 16) hx hb dX12_count_6 (by decide) (fun c2 => ?_) (fun c2 => ?_)
  · replace hf := pos_e c2 hf
    refine lv_iconst (v := 0) hx hb dX12_count_16 (by decide) ?_
    refine lv_istore_n (lv' := [(2, .int 0), (0, .ref (ad 14 0)), (1, .int a1)]) hx hb dX12_count_17 rfl hl (by decide) rfl (fun ls hl => ?_)
    refine lv_iload_n hx hb dX12_count_18 rfl (lv_at hl 2 rfl) ?_
    by_cases c3 : a1 = 3
    · replace hf := pos_e c3 hf
      refine lv_tableIn (tgt := 44) (off := 25) hx hb dX12_count_19 (by rw [c3]; decide) (by rw [c3]; decide) (by rw [c3]; rfl) (by decide) ?_
      refine lv_iconst (v := 0) hx hb dX12_count_44 (by decide) ?_
      refine lv_istore_n (lv' := [(3, .int 0), (2, .int 0), (0, .ref (ad 14 0)), (1, .int a1)]) hx hb dX12_count_45 rfl hl (by decide) rfl (fun ls hl => ?_)
      have loop_46 : ∀ (K_46 : Int32 → Option (Int32)) (hK_46 : (∀ (y15 : Int32) (hf : K_46 y15 = some out) (ls : Array Slot), lv_has ls 4 [(2, .int y15)] → W p l e rX12_count s m args below meth c s.heap [] 0 0 (MQ below (vp_Si (fun r => r = out)) args s 0 0 (fun _ => False)) (F0 m 80 ls []))) (n_46 : Nat) (x6 : Int32) (x7 : Int32) (hf : fX12_count_L46 σ K_46 n_46 x6 x7 = some out) (ls : Array Slot), lv_has ls 4 [(0, .ref (ad 14 0)), (2, .int x6), (3, .int x7)] → W p l e rX12_count s m args below meth c s.heap [] 0 0 (MQ below (vp_Si (fun r => r = out)) args s 0 0 (fun _ => False)) (F0 m 46 ls []) := by
        intro K_46 hK_46 n_46
        induction n_46 with
        | zero => intro x6 x7 hf; cases hf
        | succ n_46 ih_46 =>
          intro x6 x7 hf ls hl
          have hf : fX12_count_L46B σ K_46 (fX12_count_L46 σ K_46 n_46) x6 x7 = some out := hf
          unfold fX12_count_L46B at hf
          refine lv_iload_n hx hb dX12_count_46 rfl (lv_at hl 2 rfl) ?_
          refine lv_aload_n hx hb dX12_count_47 rfl (lv_at hl 0 rfl) ?_
          refine gget E in_X12 hK hP (q_model ks ad σ) rfl (k := 0) (by decide) wd_5_60 rfl (v := .ref (ad 15 0)) rfl dX12_count_48 ?_
          refine lv_iconst (v := 0) hx hb dX12_count_51 (by decide) ?_
          obtain ⟨c8, hf⟩ := ck_e hf
          refine giald E hK hP (q_M0 ks ad σ) c8 dX12_count_52 ?_
          refine lv_icmp_ge (tgt := 80) hx hb dX12_count_53 (by decide) (fun c9 => ?_) (fun c9 => ?_)
          · replace hf := pos_e c9 hf
            exact hK_46 _ hf _ (lv_sub hl [1] rfl)
          · replace hf := neg_e c9 hf
            refine lv_iload_n hx hb dX12_count_56 rfl (lv_at hl 1 rfl) ?_
            refine lv_aload_n hx hb dX12_count_57 rfl (lv_at hl 0 rfl) ?_
            refine lv_iload_n hx hb dX12_count_58 rfl (lv_at hl 2 rfl) ?_
            obtain ⟨r10, er10, hf⟩ := bd_e hf
            refine gVr_i E hK hP (cX12_isSplitc _ er10) kV_X12_isSplit wd_5_200 rfl rfl (q_model ks ad σ) rfl rfl rfl ⟨Nat.le_of_ble_eq_true rfl, Nat.le_of_ble_eq_true rfl⟩ ⟨Nat.zero_le _, Nat.zero_le _⟩ hl.1 (Nat.le_of_ble_eq_true rfl) rfl dX12_count_59 ?_
            have hJ_72 : ∀ (z11 : Int32) (hf : fX12_count_J72 x6 x7 (fX12_count_L46 σ K_46 n_46) z11 = some out) (ls : Array Slot), lv_has ls 4 [(0, .ref (ad 14 0)), (3, .int x7)] → W p l e rX12_count s m args below meth c s.heap [] 0 0 (MQ below (vp_Si (fun r => r = out)) args s 0 0 (fun _ => False)) (F0 m 72 ls [.int z11, .int x6]) := by
              intro z11 hf ls hl
              unfold fX12_count_J72 at hf
              refine lv_ior hx hb dX12_count_72 ?_
              obtain ⟨v12, ev12, hf⟩ := nmv_e hf
              refine lv_nmi ev12 ?_
              refine lv_istore_n (lv' := [(2, .int v12), (0, .ref (ad 14 0)), (3, .int x7)]) hx hb dX12_count_73 rfl hl (by decide) rfl (fun ls hl => ?_)
              obtain ⟨v13, ev13, hf⟩ := nmv_e hf
              refine lv_iinc (v := v13) (lv' := [(3, .int v13), (2, .int v12), (0, .ref (ad 14 0))]) hx hb dX12_count_74 hl (k := 2) rfl (by rw [ev13]; rfl) (by decide) rfl (fun ls hl => ?_)
              refine lv_goto (tgt := 46) hx hb dX12_count_77 (by decide) ?_
              exact ih_46 _ _ hf _ (lv_sub hl [2, 1, 0] rfl)
            refine lv_if_eq (tgt := 71) hx hb dX12_count_62 (by decide) (fun c14 => ?_) (fun c14 => ?_)
            · replace hf := pos_e c14 hf
              refine lv_iconst (v := 0) hx hb dX12_count_71 (by decide) ?_
              exact hJ_72 _ hf _ (lv_sub hl [0, 2] rfl)
            · replace hf := neg_e c14 hf
              refine lv_iconst (v := 1) hx hb dX12_count_65 (by decide) ?_
              refine lv_iload_n hx hb dX12_count_66 rfl (lv_at hl 2 rfl) ?_
              refine lv_ishl hx hb dX12_count_67 ?_
              refine lv_goto (tgt := 72) hx hb dX12_count_68 (by decide) ?_
              exact hJ_72 _ hf _ (lv_sub hl [0, 2] rfl)
      refine loop_46 _ (fun y15 hf ls hl => ?_) _ _ _ hf _ (lv_sub hl [2, 1, 0] rfl)
      refine lv_iload_n hx hb dX12_count_80 rfl (lv_at hl 0 rfl) ?_
      exact gret_i E hr hlk dX12_count_81 (som_e hf).symm
    · replace hf := neg_e c3 hf
      by_cases c4 : a1 = 4
      · replace hf := pos_e c4 hf
        refine lv_tableIn (tgt := 82) (off := 63) hx hb dX12_count_19 (by rw [c4]; decide) (by rw [c4]; decide) (by rw [c4]; rfl) (by decide) ?_
        refine lv_iconst (v := 0) hx hb dX12_count_82 (by decide) ?_
        refine lv_istore_n (lv' := [(3, .int 0), (2, .int 0), (0, .ref (ad 14 0)), (1, .int a1)]) hx hb dX12_count_83 rfl hl (by decide) rfl (fun ls hl => ?_)
        have loop_84 : ∀ (K_84 : Int32 → Option (Int32)) (hK_84 : (∀ (y23 : Int32) (hf : K_84 y23 = some out) (ls : Array Slot), lv_has ls 4 [(2, .int y23)] → W p l e rX12_count s m args below meth c s.heap [] 0 0 (MQ below (vp_Si (fun r => r = out)) args s 0 0 (fun _ => False)) (F0 m 109 ls []))) (n_84 : Nat) (x16 : Int32) (x17 : Int32) (hf : fX12_count_L84 σ K_84 n_84 x16 x17 = some out) (ls : Array Slot), lv_has ls 4 [(0, .ref (ad 14 0)), (2, .int x16), (3, .int x17)] → W p l e rX12_count s m args below meth c s.heap [] 0 0 (MQ below (vp_Si (fun r => r = out)) args s 0 0 (fun _ => False)) (F0 m 84 ls []) := by
          intro K_84 hK_84 n_84
          induction n_84 with
          | zero => intro x16 x17 hf; cases hf
          | succ n_84 ih_84 =>
            intro x16 x17 hf ls hl
            have hf : fX12_count_L84B σ K_84 (fX12_count_L84 σ K_84 n_84) x16 x17 = some out := hf
            unfold fX12_count_L84B at hf
            refine lv_iload_n hx hb dX12_count_84 rfl (lv_at hl 2 rfl) ?_
            refine lv_aload_n hx hb dX12_count_85 rfl (lv_at hl 0 rfl) ?_
            refine gget E in_X12 hK hP (q_model ks ad σ) rfl (k := 0) (by decide) wd_5_60 rfl (v := .ref (ad 15 0)) rfl dX12_count_86 ?_
            refine lv_iconst (v := 0) hx hb dX12_count_89 (by decide) ?_
            obtain ⟨c18, hf⟩ := ck_e hf
            refine giald E hK hP (q_M0 ks ad σ) c18 dX12_count_90 ?_
            refine lv_icmp_ge (tgt := 109) hx hb dX12_count_91 (by decide) (fun c19 => ?_) (fun c19 => ?_)
            · replace hf := pos_e c19 hf
              exact hK_84 _ hf _ (lv_sub hl [1] rfl)
            · replace hf := neg_e c19 hf
              refine lv_iload_n hx hb dX12_count_94 rfl (lv_at hl 1 rfl) ?_
              refine lv_aload_n hx hb dX12_count_95 rfl (lv_at hl 0 rfl) ?_
              refine lv_iload_n hx hb dX12_count_96 rfl (lv_at hl 2 rfl) ?_
              refine lv_iconst (v := 3) hx hb dX12_count_97 (by decide) ?_
              obtain ⟨r20, er20, hf⟩ := bd_e hf
              refine gVr_i E hK hP (cX12_bladeOfc _ _ er20) kV_X12_bladeOf wd_5_204 rfl rfl (q_model ks ad σ) rfl rfl rfl ⟨Nat.le_of_ble_eq_true rfl, Nat.le_of_ble_eq_true rfl⟩ ⟨Nat.zero_le _, Nat.zero_le _⟩ hl.1 (Nat.le_of_ble_eq_true rfl) rfl dX12_count_98 ?_
              refine lv_iadd hx hb dX12_count_101 ?_
              obtain ⟨v21, ev21, hf⟩ := nmv_e hf
              refine lv_nmi ev21 ?_
              refine lv_istore_n (lv' := [(2, .int v21), (0, .ref (ad 14 0)), (3, .int x17)]) hx hb dX12_count_102 rfl hl (by decide) rfl (fun ls hl => ?_)
              obtain ⟨v22, ev22, hf⟩ := nmv_e hf
              refine lv_iinc (v := v22) (lv' := [(3, .int v22), (2, .int v21), (0, .ref (ad 14 0))]) hx hb dX12_count_103 hl (k := 2) rfl (by rw [ev22]; rfl) (by decide) rfl (fun ls hl => ?_)
              refine lv_goto (tgt := 84) hx hb dX12_count_106 (by decide) ?_
              exact ih_84 _ _ hf _ (lv_sub hl [2, 1, 0] rfl)
        refine loop_84 _ (fun y23 hf ls hl => ?_) _ _ _ hf _ (lv_sub hl [2, 1, 0] rfl)
        refine lv_iload_n hx hb dX12_count_109 rfl (lv_at hl 0 rfl) ?_
        exact gret_i E hr hlk dX12_count_110 (som_e hf).symm
      · replace hf := neg_e c4 hf
        by_cases c5 : a1 = 5
        · replace hf := pos_e c5 hf
          refine lv_tableIn (tgt := 111) (off := 92) hx hb dX12_count_19 (by rw [c5]; decide) (by rw [c5]; decide) (by rw [c5]; rfl) (by decide) ?_
          refine lv_iconst (v := 0) hx hb dX12_count_111 (by decide) ?_
          refine lv_istore_n (lv' := [(3, .int 0), (2, .int 0), (0, .ref (ad 14 0)), (1, .int a1)]) hx hb dX12_count_112 rfl hl (by decide) rfl (fun ls hl => ?_)
          have loop_113 : ∀ (K_113 : Int32 → Option (Int32)) (hK_113 : (∀ (y32 : Int32) (hf : K_113 y32 = some out) (ls : Array Slot), lv_has ls 4 [(2, .int y32)] → W p l e rX12_count s m args below meth c s.heap [] 0 0 (MQ below (vp_Si (fun r => r = out)) args s 0 0 (fun _ => False)) (F0 m 142 ls []))) (n_113 : Nat) (x24 : Int32) (x25 : Int32) (hf : fX12_count_L113 σ K_113 n_113 x24 x25 = some out) (ls : Array Slot), lv_has ls 4 [(0, .ref (ad 14 0)), (2, .int x24), (3, .int x25)] → W p l e rX12_count s m args below meth c s.heap [] 0 0 (MQ below (vp_Si (fun r => r = out)) args s 0 0 (fun _ => False)) (F0 m 113 ls []) := by
            intro K_113 hK_113 n_113
            induction n_113 with
            | zero => intro x24 x25 hf; cases hf
            | succ n_113 ih_113 =>
              intro x24 x25 hf ls hl
              have hf : fX12_count_L113B σ K_113 (fX12_count_L113 σ K_113 n_113) x24 x25 = some out := hf
              unfold fX12_count_L113B at hf
              refine lv_iload_n hx hb dX12_count_113 rfl (lv_at hl 2 rfl) ?_
              refine lv_aload_n hx hb dX12_count_114 rfl (lv_at hl 0 rfl) ?_
              refine gget E in_X12 hK hP (q_model ks ad σ) rfl (k := 0) (by decide) wd_5_60 rfl (v := .ref (ad 15 0)) rfl dX12_count_115 ?_
              refine lv_iconst (v := 1) hx hb dX12_count_118 (by decide) ?_
              obtain ⟨c26, hf⟩ := ck_e hf
              refine giald E hK hP (q_M0 ks ad σ) c26 dX12_count_119 ?_
              refine lv_icmp_ge (tgt := 142) hx hb dX12_count_120 (by decide) (fun c27 => ?_) (fun c27 => ?_)
              · replace hf := pos_e c27 hf
                exact hK_113 _ hf _ (lv_sub hl [1] rfl)
              · replace hf := neg_e c27 hf
                refine lv_iload_n hx hb dX12_count_123 rfl (lv_at hl 1 rfl) ?_
                refine lv_aload_n hx hb dX12_count_124 rfl (lv_at hl 0 rfl) ?_
                refine gget E in_X12 hK hP (q_model ks ad σ) rfl (k := 0) (by decide) wd_5_60 rfl (v := .ref (ad 15 0)) rfl dX12_count_125 ?_
                refine lv_iload_n hx hb dX12_count_128 rfl (lv_at hl 2 rfl) ?_
                refine lv_iconst (v := 1) hx hb dX12_count_129 (by decide) ?_
                obtain ⟨r28, er28, hf⟩ := bd_e hf
                refine gSr_i E hK hP (cX12_atThumbsc _ _ er28) kS_X12_atThumbs wd_5_174 rfl rfl rfl ⟨Nat.le_of_ble_eq_true rfl, Nat.le_of_ble_eq_true rfl⟩ ⟨Nat.zero_le _, Nat.zero_le _⟩ hl.1 (Nat.le_of_ble_eq_true rfl) rfl dX12_count_130 ?_
                obtain ⟨c29, hf⟩ := ck_e hf
                refine giald E hK hP (q_M0 ks ad σ) c29 dX12_count_133 ?_
                refine lv_iadd hx hb dX12_count_134 ?_
                obtain ⟨v30, ev30, hf⟩ := nmv_e hf
                refine lv_nmi ev30 ?_
                refine lv_istore_n (lv' := [(2, .int v30), (0, .ref (ad 14 0)), (3, .int x25)]) hx hb dX12_count_135 rfl hl (by decide) rfl (fun ls hl => ?_)
                obtain ⟨v31, ev31, hf⟩ := nmv_e hf
                refine lv_iinc (v := v31) (lv' := [(3, .int v31), (2, .int v30), (0, .ref (ad 14 0))]) hx hb dX12_count_136 hl (k := 2) rfl (by rw [ev31]; rfl) (by decide) rfl (fun ls hl => ?_)
                refine lv_goto (tgt := 113) hx hb dX12_count_139 (by decide) ?_
                exact ih_113 _ _ hf _ (lv_sub hl [2, 1, 0] rfl)
          refine loop_113 _ (fun y32 hf ls hl => ?_) _ _ _ hf _ (lv_sub hl [2, 1, 0] rfl)
          refine lv_iload_n hx hb dX12_count_142 rfl (lv_at hl 0 rfl) ?_
          exact gret_i E hr hlk dX12_count_143 (som_e hf).symm
        · replace hf := neg_e c5 hf
          refine lv_tableOut (tgt := 144) hx hb dX12_count_19 (by have q0 := lv_neT c3 (a := 3) rfl; have q1 := lv_neT c4 (a := 4) rfl; have q2 := lv_neT c5 (a := 5) rfl; omega) (by decide) ?_
          refine lv_iconst (v := -1) hx hb dX12_count_144 (by decide) ?_
          exact gret_i E hr hlk dX12_count_145 (som_e hf).symm
  · replace hf := neg_e c2 hf
    refine lv_aload_n hx hb dX12_count_9 rfl (lv_at hl 0 rfl) ?_
    refine gget E in_X12 hK hP (q_model ks ad σ) rfl (k := 0) (by decide) wd_5_60 rfl (v := .ref (ad 15 0)) rfl dX12_count_10 ?_
    refine lv_iload_n hx hb dX12_count_13 rfl (lv_at hl 1 rfl) ?_
    obtain ⟨c33, hf⟩ := ck_e hf
    refine giald E hK hP (q_M0 ks ad σ) c33 dX12_count_14 ?_
    exact gret_i E hr hlk dX12_count_15 (som_e hf).symm
noncomputable def fX12_thrown (σ : St) : Option (Int32) :=
  some (gI σ 11 0 21)
def rX12_thrown : Room := { frames := 0, cells := 0, slots := 0, locals := 0 }
set_option maxHeartbeats 4000000 in
set_option maxRecDepth 100000 in
theorem cX12_thrownc {l : Launch} {dC : Nat → ClassId} {dI : Nat → Nat → Nat} {ks : Nat → ClassId} {ad : Nat → Nat → Nat} {σ : St}   {out : Int32} (hf : fX12_thrown σ = some out) : MRi l dC dI ks ad σ yX12_thrown cX12_thrown 1 (some .int) rX12_thrown [.ref (ad 14 0)] out := by
  refine met_r (own := RX12) (by decide) rfl (Nat.le_of_ble_eq_true rfl) ?_
  intro p e s m args below meth c ls E hr hlk hP hK hl
  have hx := E.1
  have hb := E.2.1
  have hl : lv_has ls 1 [(0, .ref (ad 14 0))] := hl
  unfold fX12_thrown at hf
  refine lv_aload_n hx hb dX12_thrown_0 rfl (lv_at hl 0 rfl) ?_
  refine gget E in_X12 hK hP (q_model ks ad σ) rfl (k := 21) (by decide) wd_5_81 rfl (v := .int (gI σ 11 0 21)) rfl dX12_thrown_1 ?_
  exact gret_i E hr hlk dX12_thrown_4 (som_e hf).symm
noncomputable def fX12_keep_J44 (a1 : Int32) (a2 : Int32) (a3 : Int32) (a4 : Int32) (σ5 : St) : Option (Int32 × St) :=
  ck (vp_in a1 8) <|
  nmv (sI σ5 12 15 a1.toNatClampNeg a2) fun σ7 =>
  ck (vp_in a1 8) <|
  nmv (sI σ7 12 16 a1.toNatClampNeg a3) fun σ9 =>
  ck (vp_in a1 8) <|
  nmv (sI σ9 12 17 a1.toNatClampNeg a4) fun σ11 =>
  some (0, σ11)
noncomputable def fX12_keep (σ : St) (a1 : Int32) (a2 : Int32) (a3 : Int32) (a4 : Int32) : Option (Int32 × St) :=
  bd (fX12_isShelf σ a1) fun r1 =>
  if r1 = 0 then
  some ((-1), σ)
  else
  bd (fX12_isIn σ a2 0 1) fun r3 =>
  if r3 = 0 then
  some ((-1), σ)
  else
  if a2 = 1 then
  bd (fX12_isIn σ a3 0 7) fun r13 =>
  if r13 = 0 then
  some ((-1), σ)
  else
  bd (fX12_isIn σ a4 0 9) fun r15 =>
  if r15 = 0 then
  some ((-1), σ)
  else
  fX12_keep_J44 a1 a2 a3 a4 σ
  else
  fX12_keep_J44 a1 a2 a3 a4 σ
def rX12_keep : Room := { frames := 2, cells := 0, slots := 0, locals := 42 }
set_option maxHeartbeats 4000000 in
set_option maxRecDepth 100000 in
theorem cX12_keepc {l : Launch} {dC : Nat → ClassId} {dI : Nat → Nat → Nat} {ks : Nat → ClassId} {ad : Nat → Nat → Nat} {σ : St} (a1 : Int32) (a2 : Int32) (a3 : Int32) (a4 : Int32)  {out : Int32 × St} (hf : fX12_keep σ a1 a2 a3 a4 = some out) : MWi l dC dI ks ad σ yX12_keep cX12_keep 5 (some .int) rX12_keep [.ref (ad 14 0), .int a1, .int a2, .int a3, .int a4] out := by
  intro sz
  refine met_w (Qc := fun A => va_Qi (fun r σ' => r = out.1 ∧ σ' = out.2) (gBw dC dI ks ad A) A) (own := RX12) (by decide) rfl (Nat.le_of_ble_eq_true rfl) ?_
  intro A p e s m args below meth c ls E hr hlk hA hP hD hS hK hl
  have hx := E.1
  have hb := E.2.1
  have hl : lv_has ls 5 [(0, .ref (ad 14 0)), (1, .int a1), (2, .int a2), (3, .int a3), (4, .int a4)] := hl
  unfold fX12_keep at hf
  refine lv_iload_n hx hb dX12_keep_0 rfl (lv_at hl 1 rfl) ?_
  obtain ⟨r1, er1, hf⟩ := bd_e hf
  refine gSr_i E hK hP (cX12_isShelfc _ er1) kS_X12_isShelf wd_5_135 rfl rfl rfl ⟨Nat.le_of_ble_eq_true rfl, Nat.le_of_ble_eq_true rfl⟩ ⟨Nat.zero_le _, Nat.zero_le _⟩ hl.1 (Nat.le_of_ble_eq_true rfl) rfl dX12_keep_1 ?_
  refine lv_if_eq (tgt := 42) hx hb dX12_keep_4 (by decide) (fun c2 => ?_) (fun c2 => ?_)
  · replace hf := pos_e c2 hf
    refine lv_iconst (v := -1) hx hb dX12_keep_42 (by decide) ?_
    exact gretw_i E hlk hP hD hS hr dX12_keep_43 (som_e hf)
  · replace hf := neg_e c2 hf
    refine lv_iload_n hx hb dX12_keep_7 rfl (lv_at hl 2 rfl) ?_
    refine lv_iconst (v := 0) hx hb dX12_keep_8 (by decide) ?_
    refine lv_iconst (v := 1) hx hb dX12_keep_9 (by decide) ?_
    obtain ⟨r3, er3, hf⟩ := bd_e hf
    refine gSr_i E hK hP (cX12_isInc _ _ _ er3) kS_X12_isIn wd_5_138 rfl rfl rfl ⟨Nat.le_of_ble_eq_true rfl, Nat.le_of_ble_eq_true rfl⟩ ⟨Nat.zero_le _, Nat.zero_le _⟩ hl.1 (Nat.le_of_ble_eq_true rfl) rfl dX12_keep_10 ?_
    refine lv_if_eq (tgt := 42) hx hb dX12_keep_13 (by decide) (fun c4 => ?_) (fun c4 => ?_)
    · replace hf := pos_e c4 hf
      refine lv_iconst (v := -1) hx hb dX12_keep_42 (by decide) ?_
      exact gretw_i E hlk hP hD hS hr dX12_keep_43 (som_e hf)
    · replace hf := neg_e c4 hf
      refine lv_iload_n hx hb dX12_keep_16 rfl (lv_at hl 2 rfl) ?_
      refine lv_iconst (v := 1) hx hb dX12_keep_17 (by decide) ?_
      have hJ_44 : ∀ (σ5 : St) (H : Heap) (locs : List Loc) (hP : va_P (dC, dI) vwCl (wG ks ad σ5) H) (hD : va_D A (wG ks ad σ5)) (hS : va_S A s.heap H locs) (hf : fX12_keep_J44 a1 a2 a3 a4 σ5 = some out) (ls : Array Slot), lv_has ls 5 [(0, .ref (ad 14 0)), (1, .int a1), (2, .int a2), (3, .int a3), (4, .int a4)] → W p l e rX12_keep s m args below meth c H locs 0 0 (MQ below (va_Qi (fun r σ' => r = out.1 ∧ σ' = out.2) (gBw dC dI ks ad A) A) args s 0 0 A) (F0 m 44 ls []) := by
        intro σ5 H locs hP hD hS hf ls hl
        unfold fX12_keep_J44 at hf
        refine lv_aload_n hx hb dX12_keep_44 rfl (lv_at hl 0 rfl) ?_
        refine gget E in_X12 hK hP (q_model ks ad σ5) rfl (k := 15) (by decide) wd_5_75 rfl (v := .ref (ad 15 15)) rfl dX12_keep_45 ?_
        refine lv_iload_n hx hb dX12_keep_48 rfl (lv_at hl 1 rfl) ?_
        refine lv_iload_n hx hb dX12_keep_49 rfl (lv_at hl 2 rfl) ?_
        obtain ⟨c6, hf⟩ := ck_e hf
        obtain ⟨σ7, eσ7, hf⟩ := nmv_e hf
        refine giast E hK hP hD hS (q_M15 ks ad σ5) c6 (σ' := σ7) (by rw [eσ7]; exact st_M15 ks ad σ5 _) dX12_keep_50 (fun H locs hP hD hS => ?_)
        refine lv_aload_n hx hb dX12_keep_51 rfl (lv_at hl 0 rfl) ?_
        refine gget E in_X12 hK hP (q_model ks ad σ7) rfl (k := 16) (by decide) wd_5_76 rfl (v := .ref (ad 15 16)) rfl dX12_keep_52 ?_
        refine lv_iload_n hx hb dX12_keep_55 rfl (lv_at hl 1 rfl) ?_
        refine lv_iload_n hx hb dX12_keep_56 rfl (lv_at hl 3 rfl) ?_
        obtain ⟨c8, hf⟩ := ck_e hf
        obtain ⟨σ9, eσ9, hf⟩ := nmv_e hf
        refine giast E hK hP hD hS (q_M16 ks ad σ7) c8 (σ' := σ9) (by rw [eσ9]; exact st_M16 ks ad σ7 _) dX12_keep_57 (fun H locs hP hD hS => ?_)
        refine lv_aload_n hx hb dX12_keep_58 rfl (lv_at hl 0 rfl) ?_
        refine gget E in_X12 hK hP (q_model ks ad σ9) rfl (k := 17) (by decide) wd_5_77 rfl (v := .ref (ad 15 17)) rfl dX12_keep_59 ?_
        refine lv_iload_n hx hb dX12_keep_62 rfl (lv_at hl 1 rfl) ?_
        refine lv_iload hx hb dX12_keep_63 (lv_at hl 4 rfl) ?_
        obtain ⟨c10, hf⟩ := ck_e hf
        obtain ⟨σ11, eσ11, hf⟩ := nmv_e hf
        refine giast E hK hP hD hS (q_M17 ks ad σ9) c10 (σ' := σ11) (by rw [eσ11]; exact st_M17 ks ad σ9 _) dX12_keep_65 (fun H locs hP hD hS => ?_)
        refine lv_iconst (v := 0) hx hb dX12_keep_66 (by decide) ?_
        exact gretw_i E hlk hP hD hS hr dX12_keep_67 (som_e hf)
      refine lv_icmp_ne (tgt := 44) hx hb dX12_keep_18 (by decide) (fun c12 => ?_) (fun c12 => ?_)
      · replace hf := neg_e c12 hf
        exact hJ_44 _ _ _ hP hD hS hf _ (lv_sub hl [0, 1, 2, 3, 4] rfl)
      · replace hf := pos_e c12 hf
        refine lv_iload_n hx hb dX12_keep_21 rfl (lv_at hl 3 rfl) ?_
        refine lv_iconst (v := 0) hx hb dX12_keep_22 (by decide) ?_
        refine lv_bipush (v := 7) hx hb dX12_keep_23 (by decide) ?_
        obtain ⟨r13, er13, hf⟩ := bd_e hf
        refine gSr_i E hK hP (cX12_isInc _ _ _ er13) kS_X12_isIn wd_5_138 rfl rfl rfl ⟨Nat.le_of_ble_eq_true rfl, Nat.le_of_ble_eq_true rfl⟩ ⟨Nat.zero_le _, Nat.zero_le _⟩ hl.1 (Nat.le_of_ble_eq_true rfl) rfl dX12_keep_25 ?_
        refine lv_if_eq (tgt := 42) hx hb dX12_keep_28 (by decide) (fun c14 => ?_) (fun c14 => ?_)
        · replace hf := pos_e c14 hf
          refine lv_iconst (v := -1) hx hb dX12_keep_42 (by decide) ?_
          exact gretw_i E hlk hP hD hS hr dX12_keep_43 (som_e hf)
        · replace hf := neg_e c14 hf
          refine lv_iload hx hb dX12_keep_31 (lv_at hl 4 rfl) ?_
          refine lv_iconst (v := 0) hx hb dX12_keep_33 (by decide) ?_
          refine lv_bipush (v := 9) hx hb dX12_keep_34 (by decide) ?_
          obtain ⟨r15, er15, hf⟩ := bd_e hf
          refine gSr_i E hK hP (cX12_isInc _ _ _ er15) kS_X12_isIn wd_5_138 rfl rfl rfl ⟨Nat.le_of_ble_eq_true rfl, Nat.le_of_ble_eq_true rfl⟩ ⟨Nat.zero_le _, Nat.zero_le _⟩ hl.1 (Nat.le_of_ble_eq_true rfl) rfl dX12_keep_36 ?_
          refine lv_if_ne (tgt := 44) hx hb dX12_keep_39 (by decide) (fun c16 => ?_) (fun c16 => ?_)
          · replace hf := neg_e c16 hf
            exact hJ_44 _ _ _ hP hD hS hf _ (lv_sub hl [0, 1, 2, 3, 4] rfl)
          · replace hf := pos_e c16 hf
            refine lv_iconst (v := -1) hx hb dX12_keep_42 (by decide) ?_
            exact gretw_i E hlk hP hD hS hr dX12_keep_43 (som_e hf)
noncomputable def fX12_row_L55B (a1 : Int32) (K_55 : St → Option (Int32 × St)) (rec_55 : Int32 → St → Option (Int32 × St)) (x13 : Int32) (σ14 : St) : Option (Int32 × St) :=
  if 100 ≤ x13 then
  K_55 σ14
  else
  ck (vp_in ((100 * a1) + x13) 800) <|
  nmv (sI σ14 12 20 ((100 * a1) + x13).toNatClampNeg 0) fun σ17 =>
  nmv (x13 + 1) fun v18 =>
  rec_55 v18 σ17
noncomputable def fX12_row_L55 (a1 : Int32) (K_55 : St → Option (Int32 × St)) : Nat → Int32 → St → Option (Int32 × St)
  | 0 => fun _ _ => none
  | n + 1 => fX12_row_L55B a1 K_55 (fX12_row_L55 a1 K_55 n)
noncomputable def fX12_row (σ : St) (a1 : Int32) (a2 : Int32) (a3 : Int32) : Option (Int32 × St) :=
  bd (fX12_isShelf σ a1) fun r1 =>
  if r1 = 0 then
  some ((-1), σ)
  else
  bd (fX12_isIn σ a2 0 2) fun r3 =>
  if r3 = 0 then
  some ((-1), σ)
  else
  if a3 ≤ 100 then
  if 0 ≤ a3 then
  ck (vp_in a1 8) <|
  nmv (sI σ 12 15 a1.toNatClampNeg 2) fun σ8 =>
  ck (vp_in a1 8) <|
  nmv (sI σ8 12 18 a1.toNatClampNeg a2) fun σ10 =>
  ck (vp_in a1 8) <|
  nmv (sI σ10 12 19 a1.toNatClampNeg a3) fun σ12 =>
  fX12_row_L55 a1 (fun σ19 => some (0, σ19)) FU 0 σ12
  else
  some ((-14), σ)
  else
  some ((-1), σ)
def rX12_row : Room := { frames := 2, cells := 0, slots := 0, locals := 42 }
set_option maxHeartbeats 4000000 in
set_option maxRecDepth 100000 in
theorem cX12_rowc {l : Launch} {dC : Nat → ClassId} {dI : Nat → Nat → Nat} {ks : Nat → ClassId} {ad : Nat → Nat → Nat} {σ : St} (a1 : Int32) (a2 : Int32) (a3 : Int32)  {out : Int32 × St} (hf : fX12_row σ a1 a2 a3 = some out) : MWi l dC dI ks ad σ yX12_row cX12_row 5 (some .int) rX12_row [.ref (ad 14 0), .int a1, .int a2, .int a3] out := by
  intro sz
  refine met_w (Qc := fun A => va_Qi (fun r σ' => r = out.1 ∧ σ' = out.2) (gBw dC dI ks ad A) A) (own := RX12) (by decide) rfl (Nat.le_of_ble_eq_true rfl) ?_
  intro A p e s m args below meth c ls E hr hlk hA hP hD hS hK hl
  have hx := E.1
  have hb := E.2.1
  have hl : lv_has ls 5 [(0, .ref (ad 14 0)), (1, .int a1), (2, .int a2), (3, .int a3)] := hl
  unfold fX12_row at hf
  refine lv_iload_n hx hb dX12_row_0 rfl (lv_at hl 1 rfl) ?_
  obtain ⟨r1, er1, hf⟩ := bd_e hf
  refine gSr_i E hK hP (cX12_isShelfc _ er1) kS_X12_isShelf wd_5_135 rfl rfl rfl ⟨Nat.le_of_ble_eq_true rfl, Nat.le_of_ble_eq_true rfl⟩ ⟨Nat.zero_le _, Nat.zero_le _⟩ hl.1 (Nat.le_of_ble_eq_true rfl) rfl dX12_row_1 ?_
  refine lv_if_eq (tgt := 22) hx hb dX12_row_4 (by decide) (fun c2 => ?_) (fun c2 => ?_)
  · replace hf := pos_e c2 hf
    refine lv_iconst (v := -1) hx hb dX12_row_22 (by decide) ?_
    exact gretw_i E hlk hP hD hS hr dX12_row_23 (som_e hf)
  · replace hf := neg_e c2 hf
    refine lv_iload_n hx hb dX12_row_7 rfl (lv_at hl 2 rfl) ?_
    refine lv_iconst (v := 0) hx hb dX12_row_8 (by decide) ?_
    refine lv_iconst (v := 2) hx hb dX12_row_9 (by decide) ?_
    obtain ⟨r3, er3, hf⟩ := bd_e hf
    refine gSr_i E hK hP (cX12_isInc _ _ _ er3) kS_X12_isIn wd_5_138 rfl rfl rfl ⟨Nat.le_of_ble_eq_true rfl, Nat.le_of_ble_eq_true rfl⟩ ⟨Nat.zero_le _, Nat.zero_le _⟩ hl.1 (Nat.le_of_ble_eq_true rfl) rfl dX12_row_10 ?_
    refine lv_if_eq (tgt := 22) hx hb dX12_row_13 (by decide) (fun c4 => ?_) (fun c4 => ?_)
    · replace hf := pos_e c4 hf
      refine lv_iconst (v := -1) hx hb dX12_row_22 (by decide) ?_
      exact gretw_i E hlk hP hD hS hr dX12_row_23 (som_e hf)
    · replace hf := neg_e c4 hf
      refine lv_iload_n hx hb dX12_row_16 rfl (lv_at hl 3 rfl) ?_
      refine lv_bipush (v := 100) hx hb dX12_row_17 (by decide) ?_
      refine lv_icmp_le (tgt := 24) hx hb dX12_row_19 (by decide) (fun c5 => ?_) (fun c5 => ?_)
      · replace hf := pos_e c5 hf
        refine lv_iload_n hx hb dX12_row_24 rfl (lv_at hl 3 rfl) ?_
        refine lv_if_ge (tgt := 31) hx hb dX12_row_25 (by decide) (fun c6 => ?_) (fun c6 => ?_)
        · replace hf := pos_e c6 hf
          refine lv_aload_n hx hb dX12_row_31 rfl (lv_at hl 0 rfl) ?_
          refine gget E in_X12 hK hP (q_model ks ad σ) rfl (k := 15) (by decide) wd_5_75 rfl (v := .ref (ad 15 15)) rfl dX12_row_32 ?_
          refine lv_iload_n hx hb dX12_row_35 rfl (lv_at hl 1 rfl) ?_
          refine lv_iconst (v := 2) hx hb dX12_row_36 (by decide) ?_
          obtain ⟨c7, hf⟩ := ck_e hf
          obtain ⟨σ8, eσ8, hf⟩ := nmv_e hf
          refine giast E hK hP hD hS (q_M15 ks ad σ) c7 (σ' := σ8) (by rw [eσ8]; exact st_M15 ks ad σ _) dX12_row_37 (fun H locs hP hD hS => ?_)
          refine lv_aload_n hx hb dX12_row_38 rfl (lv_at hl 0 rfl) ?_
          refine gget E in_X12 hK hP (q_model ks ad σ8) rfl (k := 18) (by decide) wd_5_78 rfl (v := .ref (ad 15 18)) rfl dX12_row_39 ?_
          refine lv_iload_n hx hb dX12_row_42 rfl (lv_at hl 1 rfl) ?_
          refine lv_iload_n hx hb dX12_row_43 rfl (lv_at hl 2 rfl) ?_
          obtain ⟨c9, hf⟩ := ck_e hf
          obtain ⟨σ10, eσ10, hf⟩ := nmv_e hf
          refine giast E hK hP hD hS (q_M18 ks ad σ8) c9 (σ' := σ10) (by rw [eσ10]; exact st_M18 ks ad σ8 _) dX12_row_44 (fun H locs hP hD hS => ?_)
          refine lv_aload_n hx hb dX12_row_45 rfl (lv_at hl 0 rfl) ?_
          refine gget E in_X12 hK hP (q_model ks ad σ10) rfl (k := 19) (by decide) wd_5_79 rfl (v := .ref (ad 15 19)) rfl dX12_row_46 ?_
          refine lv_iload_n hx hb dX12_row_49 rfl (lv_at hl 1 rfl) ?_
          refine lv_iload_n hx hb dX12_row_50 rfl (lv_at hl 3 rfl) ?_
          obtain ⟨c11, hf⟩ := ck_e hf
          obtain ⟨σ12, eσ12, hf⟩ := nmv_e hf
          refine giast E hK hP hD hS (q_M19 ks ad σ10) c11 (σ' := σ12) (by rw [eσ12]; exact st_M19 ks ad σ10 _) dX12_row_51 (fun H locs hP hD hS => ?_)
          refine lv_iconst (v := 0) hx hb dX12_row_52 (by decide) ?_
          refine lv_istore (lv' := [(4, .int 0), (0, .ref (ad 14 0)), (1, .int a1), (2, .int a2), (3, .int a3)]) hx hb dX12_row_53 hl (by decide) rfl (fun ls hl => ?_)
          have loop_55 : ∀ (K_55 : St → Option (Int32 × St)) (hK_55 : (∀ (σ19 : St) (H : Heap) (locs : List Loc) (hP : va_P (dC, dI) vwCl (wG ks ad σ19) H) (hD : va_D A (wG ks ad σ19)) (hS : va_S A s.heap H locs) (hf : K_55 σ19 = some out) (ls : Array Slot), lv_has ls 5 [] → W p l e rX12_row s m args below meth c H locs 0 0 (MQ below (va_Qi (fun r σ' => r = out.1 ∧ σ' = out.2) (gBw dC dI ks ad A) A) args s 0 0 A) (F0 m 81 ls []))) (n_55 : Nat) (x13 : Int32) (σ14 : St) (H : Heap) (locs : List Loc) (hP : va_P (dC, dI) vwCl (wG ks ad σ14) H) (hD : va_D A (wG ks ad σ14)) (hS : va_S A s.heap H locs) (hf : fX12_row_L55 a1 K_55 n_55 x13 σ14 = some out) (ls : Array Slot), lv_has ls 5 [(0, .ref (ad 14 0)), (1, .int a1), (4, .int x13)] → W p l e rX12_row s m args below meth c H locs 0 0 (MQ below (va_Qi (fun r σ' => r = out.1 ∧ σ' = out.2) (gBw dC dI ks ad A) A) args s 0 0 A) (F0 m 55 ls []) := by
            intro K_55 hK_55 n_55
            induction n_55 with
            | zero => intro x13 σ14 H locs hP hD hS hf; cases hf
            | succ n_55 ih_55 =>
              intro x13 σ14 H locs hP hD hS hf ls hl
              have hf : fX12_row_L55B a1 K_55 (fX12_row_L55 a1 K_55 n_55) x13 σ14 = some out := hf
              unfold fX12_row_L55B at hf
              refine lv_iload hx hb dX12_row_55 (lv_at hl 2 rfl) ?_
              refine lv_bipush (v := 100) hx hb dX12_row_57 (by decide) ?_
              refine lv_icmp_ge (tgt := 81) hx hb dX12_row_59 (by decide) (fun c15 => ?_) (fun c15 => ?_)
              · replace hf := pos_e c15 hf
                exact hK_55 _ _ _ hP hD hS hf _ (lv_sub hl [] rfl)
              · replace hf := neg_e c15 hf
                refine lv_aload_n hx hb dX12_row_62 rfl (lv_at hl 0 rfl) ?_
                refine gget E in_X12 hK hP (q_model ks ad σ14) rfl (k := 20) (by decide) wd_5_80 rfl (v := .ref (ad 15 20)) rfl dX12_row_63 ?_
                refine lv_bipush (v := 100) hx hb dX12_row_66 (by decide) ?_
                refine lv_iload_n hx hb dX12_row_68 rfl (lv_at hl 1 rfl) ?_
                refine lv_imul hx hb dX12_row_69 ?_
                refine lv_iload hx hb dX12_row_70 (lv_at hl 2 rfl) ?_
                refine lv_iadd hx hb dX12_row_72 ?_
                refine lv_iconst (v := 0) hx hb dX12_row_73 (by decide) ?_
                obtain ⟨c16, hf⟩ := ck_e hf
                obtain ⟨σ17, eσ17, hf⟩ := nmv_e hf
                refine giast E hK hP hD hS (q_M20 ks ad σ14) c16 (σ' := σ17) (by rw [eσ17]; exact st_M20 ks ad σ14 _) dX12_row_74 (fun H locs hP hD hS => ?_)
                obtain ⟨v18, ev18, hf⟩ := nmv_e hf
                refine lv_iinc (v := v18) (lv' := [(4, .int v18), (0, .ref (ad 14 0)), (1, .int a1)]) hx hb dX12_row_75 hl (k := 2) rfl (by rw [ev18]; rfl) (by decide) rfl (fun ls hl => ?_)
                refine lv_goto (tgt := 55) hx hb dX12_row_78 (by decide) ?_
                exact ih_55 _ _ _ _ hP hD hS hf _ (lv_sub hl [1, 2, 0] rfl)
          refine loop_55 _ (fun σ19 H locs hP hD hS hf ls hl => ?_) _ _ _ _ _ hP hD hS hf _ (lv_sub hl [1, 2, 0] rfl)
          refine lv_iconst (v := 0) hx hb dX12_row_81 (by decide) ?_
          exact gretw_i E hlk hP hD hS hr dX12_row_82 (som_e hf)
        · replace hf := neg_e c6 hf
          refine lv_bipush (v := -14) hx hb dX12_row_28 (by decide) ?_
          exact gretw_i E hlk hP hD hS hr dX12_row_30 (som_e hf)
      · replace hf := neg_e c5 hf
        refine lv_iconst (v := -1) hx hb dX12_row_22 (by decide) ?_
        exact gretw_i E hlk hP hD hS hr dX12_row_23 (som_e hf)
noncomputable def fX12_put (σ : St) (a1 : Int32) (a2 : Int32) (a3 : Int32) : Option (Int32 × St) :=
  bd (fX12_wrongRow σ a1 (-1)) fun r1 =>
  if r1 = 0 then
  ck (vp_in a1 8) <|
  bd (fX12_isIn σ a2 0 ((gI σ 12 19 a1.toNatClampNeg) - 1)) fun r4 =>
  if r4 = 0 then
  some ((-13), σ)
  else
  ck (vp_in a1 8) <|
  if (gI σ 12 18 a1.toNatClampNeg) = 0 then
  ck (vp_in ((100 * a1) + a2) 800) <|
  nmv (sI σ 12 20 ((100 * a1) + a2).toNatClampNeg a3.toInt8.toInt32) fun σ15 =>
  some (0, σ15)
  else
  ck (vp_in a1 8) <|
  if (gI σ 12 18 a1.toNatClampNeg) = 1 then
  ck (vp_in ((100 * a1) + a2) 800) <|
  nmv (sI σ 12 20 ((100 * a1) + a2).toNatClampNeg a3.toInt16.toInt32) fun σ13 =>
  some (0, σ13)
  else
  ck (vp_in ((100 * a1) + a2) 800) <|
  nmv (sI σ 12 20 ((100 * a1) + a2).toNatClampNeg a3) fun σ11 =>
  some (0, σ11)
  else
  some (r1, σ)
def rX12_put : Room := { frames := 3, cells := 0, slots := 0, locals := 64 }
set_option maxHeartbeats 4000000 in
set_option maxRecDepth 100000 in
theorem cX12_putc {l : Launch} {dC : Nat → ClassId} {dI : Nat → Nat → Nat} {ks : Nat → ClassId} {ad : Nat → Nat → Nat} {σ : St} (a1 : Int32) (a2 : Int32) (a3 : Int32)  {out : Int32 × St} (hf : fX12_put σ a1 a2 a3 = some out) : MWi l dC dI ks ad σ yX12_put cX12_put 5 (some .int) rX12_put [.ref (ad 14 0), .int a1, .int a2, .int a3] out := by
  intro sz
  refine met_w (Qc := fun A => va_Qi (fun r σ' => r = out.1 ∧ σ' = out.2) (gBw dC dI ks ad A) A) (own := RX12) (by decide) rfl (Nat.le_of_ble_eq_true rfl) ?_
  intro A p e s m args below meth c ls E hr hlk hA hP hD hS hK hl
  have hx := E.1
  have hb := E.2.1
  have hl : lv_has ls 5 [(0, .ref (ad 14 0)), (1, .int a1), (2, .int a2), (3, .int a3)] := hl
  unfold fX12_put at hf
  refine lv_aload_n hx hb dX12_put_0 rfl (lv_at hl 0 rfl) ?_
  refine lv_iload_n hx hb dX12_put_1 rfl (lv_at hl 1 rfl) ?_
  refine lv_iconst (v := -1) hx hb dX12_put_2 (by decide) ?_
  obtain ⟨r1, er1, hf⟩ := bd_e hf
  refine gVr_i E hK hP (cX12_wrongRowc _ _ er1) kV_X12_wrongRow wd_5_131 rfl rfl (q_model ks ad σ) rfl rfl rfl ⟨Nat.le_of_ble_eq_true rfl, Nat.le_of_ble_eq_true rfl⟩ ⟨Nat.zero_le _, Nat.zero_le _⟩ hl.1 (Nat.le_of_ble_eq_true rfl) rfl dX12_put_3 ?_
  refine lv_istore (lv' := [(4, .int r1), (0, .ref (ad 14 0)), (1, .int a1), (2, .int a2), (3, .int a3)]) hx hb dX12_put_6 hl (by decide) rfl (fun ls hl => ?_)
  refine lv_iload hx hb dX12_put_8 (lv_at hl 0 rfl) ?_
  refine lv_if_eq (tgt := 16) hx hb dX12_put_10 (by decide) (fun c2 => ?_) (fun c2 => ?_)
  · replace hf := pos_e c2 hf
    refine lv_iload_n hx hb dX12_put_16 rfl (lv_at hl 3 rfl) ?_
    refine lv_iconst (v := 0) hx hb dX12_put_17 (by decide) ?_
    refine lv_aload_n hx hb dX12_put_18 rfl (lv_at hl 1 rfl) ?_
    refine gget E in_X12 hK hP (q_model ks ad σ) rfl (k := 19) (by decide) wd_5_79 rfl (v := .ref (ad 15 19)) rfl dX12_put_19 ?_
    refine lv_iload_n hx hb dX12_put_22 rfl (lv_at hl 2 rfl) ?_
    obtain ⟨c3, hf⟩ := ck_e hf
    refine giald E hK hP (q_M19 ks ad σ) c3 dX12_put_23 ?_
    refine lv_iconst (v := 1) hx hb dX12_put_24 (by decide) ?_
    refine lv_isub hx hb dX12_put_25 ?_
    obtain ⟨r4, er4, hf⟩ := bd_e hf
    refine gSr_i E hK hP (cX12_isInc _ _ _ er4) kS_X12_isIn wd_5_138 rfl rfl rfl ⟨Nat.le_of_ble_eq_true rfl, Nat.le_of_ble_eq_true rfl⟩ ⟨Nat.zero_le _, Nat.zero_le _⟩ hl.1 (Nat.le_of_ble_eq_true rfl) rfl dX12_put_26 ?_
    refine lv_if_ne (tgt := 35) hx hb dX12_put_29 (by decide) (fun c5 => ?_) (fun c5 => ?_)
    · replace hf := neg_e c5 hf
      refine lv_aload_n hx hb dX12_put_35 rfl (lv_at hl 1 rfl) ?_
      refine gget E in_X12 hK hP (q_model ks ad σ) rfl (k := 20) (by decide) wd_5_80 rfl (v := .ref (ad 15 20)) rfl dX12_put_36 ?_
      refine lv_bipush (v := 100) hx hb dX12_put_39 (by decide) ?_
      refine lv_iload_n hx hb dX12_put_41 rfl (lv_at hl 2 rfl) ?_
      refine lv_imul hx hb dX12_put_42 ?_
      refine lv_iload_n hx hb dX12_put_43 rfl (lv_at hl 3 rfl) ?_
      refine lv_iadd hx hb dX12_put_44 ?_
      refine lv_aload_n hx hb dX12_put_45 rfl (lv_at hl 1 rfl) ?_
      refine gget E in_X12 hK hP (q_model ks ad σ) rfl (k := 18) (by decide) wd_5_78 rfl (v := .ref (ad 15 18)) rfl dX12_put_46 ?_
      refine lv_iload_n hx hb dX12_put_49 rfl (lv_at hl 2 rfl) ?_
      obtain ⟨c6, hf⟩ := ck_e hf
      refine giald E hK hP (q_M18 ks ad σ) c6 dX12_put_50 ?_
      refine lv_if_ne (tgt := 59) hx hb dX12_put_51 (by decide) (fun c7 => ?_) (fun c7 => ?_)
      · replace hf := neg_e c7 hf
        refine lv_aload_n hx hb dX12_put_59 rfl (lv_at hl 1 rfl) ?_
        refine gget E in_X12 hK hP (q_model ks ad σ) rfl (k := 18) (by decide) wd_5_78 rfl (v := .ref (ad 15 18)) rfl dX12_put_60 ?_
        refine lv_iload_n hx hb dX12_put_63 rfl (lv_at hl 2 rfl) ?_
        obtain ⟨c8, hf⟩ := ck_e hf
        refine giald E hK hP (q_M18 ks ad σ) c8 dX12_put_64 ?_
        refine lv_iconst (v := 1) hx hb dX12_put_65 (by decide) ?_
        refine lv_icmp_ne (tgt := 74) hx hb dX12_put_66 (by decide) (fun c9 => ?_) (fun c9 => ?_)
        · replace hf := neg_e c9 hf
          refine lv_iload_n hx hb dX12_put_74 rfl (lv_at hl 4 rfl) ?_
          obtain ⟨c10, hf⟩ := ck_e hf
          obtain ⟨σ11, eσ11, hf⟩ := nmv_e hf
          refine giast E hK hP hD hS (q_M20 ks ad σ) c10 (σ' := σ11) (by rw [eσ11]; exact st_M20 ks ad σ _) dX12_put_75 (fun H locs hP hD hS => ?_)
          refine lv_iconst (v := 0) hx hb dX12_put_76 (by decide) ?_
          exact gretw_i E hlk hP hD hS hr dX12_put_77 (som_e hf)
        · replace hf := pos_e c9 hf
          refine lv_iload_n hx hb dX12_put_69 rfl (lv_at hl 4 rfl) ?_
          refine lv_i2s hx hb dX12_put_70 rfl ?_
          refine lv_goto (tgt := 75) hx hb dX12_put_71 (by decide) ?_
          obtain ⟨c12, hf⟩ := ck_e hf
          obtain ⟨σ13, eσ13, hf⟩ := nmv_e hf
          refine giast E hK hP hD hS (q_M20 ks ad σ) c12 (σ' := σ13) (by rw [eσ13]; exact st_M20 ks ad σ _) dX12_put_75 (fun H locs hP hD hS => ?_)
          refine lv_iconst (v := 0) hx hb dX12_put_76 (by decide) ?_
          exact gretw_i E hlk hP hD hS hr dX12_put_77 (som_e hf)
      · replace hf := pos_e c7 hf
        refine lv_iload_n hx hb dX12_put_54 rfl (lv_at hl 4 rfl) ?_
        refine lv_i2b hx hb dX12_put_55 rfl ?_
        refine lv_goto (tgt := 75) hx hb dX12_put_56 (by decide) ?_
        obtain ⟨c14, hf⟩ := ck_e hf
        obtain ⟨σ15, eσ15, hf⟩ := nmv_e hf
        refine giast E hK hP hD hS (q_M20 ks ad σ) c14 (σ' := σ15) (by rw [eσ15]; exact st_M20 ks ad σ _) dX12_put_75 (fun H locs hP hD hS => ?_)
        refine lv_iconst (v := 0) hx hb dX12_put_76 (by decide) ?_
        exact gretw_i E hlk hP hD hS hr dX12_put_77 (som_e hf)
    · replace hf := pos_e c5 hf
      refine lv_bipush (v := -13) hx hb dX12_put_32 (by decide) ?_
      exact gretw_i E hlk hP hD hS hr dX12_put_34 (som_e hf)
  · replace hf := neg_e c2 hf
    refine lv_iload hx hb dX12_put_13 (lv_at hl 0 rfl) ?_
    exact gretw_i E hlk hP hD hS hr dX12_put_15 (som_e hf)
noncomputable def fX12_element_J43 (a1 : Int32) (a2 : Int32) (z2 : Int32) (σ3 : St) : Option (Int64 × St) :=
  nmv (sI σ3 11 0 21 z2) fun σ4 =>
  if (gI σ4 11 0 21) = 0 then
  ck (vp_in ((100 * a1) + a2) 800) <|
  some ((gI σ4 12 20 ((100 * a1) + a2).toNatClampNeg).toInt64, σ4)
  else
  some (0, σ4)
noncomputable def fX12_element_J38 (a1 : Int32) (a2 : Int32) (σ9 : St) : Option (Int64 × St) :=
  fX12_element_J43 a1 a2 2 σ9
noncomputable def fX12_element (σ : St) (a1 : Int32) (a2 : Int32) : Option (Int64 × St) :=
  bd (fX12_isShelf σ a1) fun r1 =>
  if r1 = 0 then
  fX12_element_J43 a1 a2 1 σ
  else
  ck (vp_in a1 8) <|
  if (gI σ 12 15 a1.toNatClampNeg) = 2 then
  ck (vp_in a1 8) <|
  bd (fX12_isIn σ a2 0 ((gI σ 12 19 a1.toNatClampNeg) - 1)) fun r12 =>
  if r12 = 0 then
  fX12_element_J38 a1 a2 σ
  else
  fX12_element_J43 a1 a2 0 σ
  else
  fX12_element_J38 a1 a2 σ
def rX12_element : Room := { frames := 2, cells := 0, slots := 0, locals := 42 }
set_option maxHeartbeats 4000000 in
set_option maxRecDepth 100000 in
theorem cX12_elementc {l : Launch} {dC : Nat → ClassId} {dI : Nat → Nat → Nat} {ks : Nat → ClassId} {ad : Nat → Nat → Nat} {σ : St} (a1 : Int32) (a2 : Int32)  {out : Int64 × St} (hf : fX12_element σ a1 a2 = some out) : MWl l dC dI ks ad σ yX12_element cX12_element 3 (some .long) rX12_element [.ref (ad 14 0), .int a1, .int a2] out := by
  intro sz
  refine met_w (Qc := fun A => va_Ql (fun r σ' => r = out.1 ∧ σ' = out.2) (gBw dC dI ks ad A) A) (own := RX12) (by decide) rfl (Nat.le_of_ble_eq_true rfl) ?_
  intro A p e s m args below meth c ls E hr hlk hA hP hD hS hK hl
  have hx := E.1
  have hb := E.2.1
  have hl : lv_has ls 3 [(0, .ref (ad 14 0)), (1, .int a1), (2, .int a2)] := hl
  unfold fX12_element at hf
  refine lv_aload_n hx hb dX12_element_0 rfl (lv_at hl 0 rfl) ?_
  refine lv_iload_n hx hb dX12_element_1 rfl (lv_at hl 1 rfl) ?_
  obtain ⟨r1, er1, hf⟩ := bd_e hf
  refine gSr_i E hK hP (cX12_isShelfc _ er1) kS_X12_isShelf wd_5_135 rfl rfl rfl ⟨Nat.le_of_ble_eq_true rfl, Nat.le_of_ble_eq_true rfl⟩ ⟨Nat.zero_le _, Nat.zero_le _⟩ hl.1 (Nat.le_of_ble_eq_true rfl) rfl dX12_element_2 ?_
  have hJ_43 : ∀ (z2 : Int32) (σ3 : St) (H : Heap) (locs : List Loc) (hP : va_P (dC, dI) vwCl (wG ks ad σ3) H) (hD : va_D A (wG ks ad σ3)) (hS : va_S A s.heap H locs) (hf : fX12_element_J43 a1 a2 z2 σ3 = some out) (ls : Array Slot), lv_has ls 3 [(0, .ref (ad 14 0)), (1, .int a1), (2, .int a2)] → W p l e rX12_element s m args below meth c H locs 0 0 (MQ below (va_Ql (fun r σ' => r = out.1 ∧ σ' = out.2) (gBw dC dI ks ad A) A) args s 0 0 A) (F0 m 43 ls [.int z2, .ref (ad 14 0)]) := by
    intro z2 σ3 H locs hP hD hS hf ls hl
    unfold fX12_element_J43 at hf
    obtain ⟨σ4, eσ4, hf⟩ := nmv_e hf
    refine gput (k := 21) E in_X12 tyX12 tyX12_ok nmX12 hK hP hD hS (q_model ks ad σ3) rfl (by decide) wd_5_81 rfl rfl rfl rfl rfl (Nat.le_of_ble_eq_true rfl) (σ' := σ4) (by rw [eσ4]; exact st_model_21 ks ad σ3 _) dX12_element_43 (fun H locs hP hD hS => ?_)
    refine lv_aload_n hx hb dX12_element_46 rfl (lv_at hl 0 rfl) ?_
    refine gget E in_X12 hK hP (q_model ks ad σ4) rfl (k := 21) (by decide) wd_5_81 rfl (v := .int (gI σ4 11 0 21)) rfl dX12_element_47 ?_
    refine lv_if_ne (tgt := 68) hx hb dX12_element_50 (by decide) (fun c5 => ?_) (fun c5 => ?_)
    · replace hf := neg_e c5 hf
      refine lv_lconst (v := 0) hx hb dX12_element_68 (by decide) ?_
      exact gretw_l E hlk hP hD hS hr dX12_element_69 (som_e hf)
    · replace hf := pos_e c5 hf
      refine lv_aload_n hx hb dX12_element_53 rfl (lv_at hl 0 rfl) ?_
      refine gget E in_X12 hK hP (q_model ks ad σ4) rfl (k := 20) (by decide) wd_5_80 rfl (v := .ref (ad 15 20)) rfl dX12_element_54 ?_
      refine lv_bipush (v := 100) hx hb dX12_element_57 (by decide) ?_
      refine lv_iload_n hx hb dX12_element_59 rfl (lv_at hl 1 rfl) ?_
      refine lv_imul hx hb dX12_element_60 ?_
      refine lv_iload_n hx hb dX12_element_61 rfl (lv_at hl 2 rfl) ?_
      refine lv_iadd hx hb dX12_element_62 ?_
      obtain ⟨c6, hf⟩ := ck_e hf
      refine giald E hK hP (q_M20 ks ad σ4) c6 dX12_element_63 ?_
      refine lv_i2l hx hb dX12_element_64 rfl ?_
      refine lv_goto (tgt := 69) hx hb dX12_element_65 (by decide) ?_
      exact gretw_l E hlk hP hD hS hr dX12_element_69 (som_e hf)
  refine lv_if_ne (tgt := 12) hx hb dX12_element_5 (by decide) (fun c7 => ?_) (fun c7 => ?_)
  · replace hf := neg_e c7 hf
    refine lv_aload_n hx hb dX12_element_12 rfl (lv_at hl 0 rfl) ?_
    refine gget E in_X12 hK hP (q_model ks ad σ) rfl (k := 15) (by decide) wd_5_75 rfl (v := .ref (ad 15 15)) rfl dX12_element_13 ?_
    refine lv_iload_n hx hb dX12_element_16 rfl (lv_at hl 1 rfl) ?_
    obtain ⟨c8, hf⟩ := ck_e hf
    refine giald E hK hP (q_M15 ks ad σ) c8 dX12_element_17 ?_
    refine lv_iconst (v := 2) hx hb dX12_element_18 (by decide) ?_
    have hJ_38 : ∀ (σ9 : St) (H : Heap) (locs : List Loc) (hP : va_P (dC, dI) vwCl (wG ks ad σ9) H) (hD : va_D A (wG ks ad σ9)) (hS : va_S A s.heap H locs) (hf : fX12_element_J38 a1 a2 σ9 = some out) (ls : Array Slot), lv_has ls 3 [(0, .ref (ad 14 0)), (1, .int a1), (2, .int a2)] → W p l e rX12_element s m args below meth c H locs 0 0 (MQ below (va_Ql (fun r σ' => r = out.1 ∧ σ' = out.2) (gBw dC dI ks ad A) A) args s 0 0 A) (F0 m 38 ls [.ref (ad 14 0)]) := by
      intro σ9 H locs hP hD hS hf ls hl
      unfold fX12_element_J38 at hf
      refine lv_iconst (v := 2) hx hb dX12_element_38 (by decide) ?_
      refine lv_goto (tgt := 43) hx hb dX12_element_39 (by decide) ?_
      exact hJ_43 _ _ _ _ hP hD hS hf _ (lv_sub hl [0, 1, 2] rfl)
    refine lv_icmp_ne (tgt := 38) hx hb dX12_element_19 (by decide) (fun c10 => ?_) (fun c10 => ?_)
    · replace hf := neg_e c10 hf
      exact hJ_38 _ _ _ hP hD hS hf _ (lv_sub hl [0, 1, 2] rfl)
    · replace hf := pos_e c10 hf
      refine lv_iload_n hx hb dX12_element_22 rfl (lv_at hl 2 rfl) ?_
      refine lv_iconst (v := 0) hx hb dX12_element_23 (by decide) ?_
      refine lv_aload_n hx hb dX12_element_24 rfl (lv_at hl 0 rfl) ?_
      refine gget E in_X12 hK hP (q_model ks ad σ) rfl (k := 19) (by decide) wd_5_79 rfl (v := .ref (ad 15 19)) rfl dX12_element_25 ?_
      refine lv_iload_n hx hb dX12_element_28 rfl (lv_at hl 1 rfl) ?_
      obtain ⟨c11, hf⟩ := ck_e hf
      refine giald E hK hP (q_M19 ks ad σ) c11 dX12_element_29 ?_
      refine lv_iconst (v := 1) hx hb dX12_element_30 (by decide) ?_
      refine lv_isub hx hb dX12_element_31 ?_
      obtain ⟨r12, er12, hf⟩ := bd_e hf
      refine gSr_i E hK hP (cX12_isInc _ _ _ er12) kS_X12_isIn wd_5_138 rfl rfl rfl ⟨Nat.le_of_ble_eq_true rfl, Nat.le_of_ble_eq_true rfl⟩ ⟨Nat.zero_le _, Nat.zero_le _⟩ hl.1 (Nat.le_of_ble_eq_true rfl) rfl dX12_element_32 ?_
      refine lv_if_ne (tgt := 42) hx hb dX12_element_35 (by decide) (fun c13 => ?_) (fun c13 => ?_)
      · replace hf := neg_e c13 hf
        refine lv_iconst (v := 0) hx hb dX12_element_42 (by decide) ?_
        exact hJ_43 _ _ _ _ hP hD hS hf _ (lv_sub hl [0, 1, 2] rfl)
      · replace hf := pos_e c13 hf
        exact hJ_38 _ _ _ hP hD hS hf _ (lv_sub hl [0, 1, 2] rfl)
  · replace hf := pos_e c7 hf
    refine lv_iconst (v := 1) hx hb dX12_element_8 (by decide) ?_
    refine lv_goto (tgt := 43) hx hb dX12_element_9 (by decide) ?_
    exact hJ_43 _ _ _ _ hP hD hS hf _ (lv_sub hl [0, 1, 2] rfl)
noncomputable def fX12_copy_J147 (a1 : Int32) (a2 : Int32) (a3 : Int32) (a4 : Int32) (x23 : Int32) (rec_122 : Int32 → St → Option (Int32 × St)) (z26 : Int32) (σ27 : St) : Option (Int32 × St) :=
  ck (vp_in (((100 * a1) + a2) + z26) 800) <|
  ck (vp_in (((100 * a3) + a4) + z26) 800) <|
  nmv (sI σ27 12 20 (((100 * a3) + a4) + z26).toNatClampNeg (gI σ27 12 20 (((100 * a1) + a2) + z26).toNatClampNeg)) fun σ30 =>
  nmv (x23 + 1) fun v31 =>
  rec_122 v31 σ30
noncomputable def fX12_copy_L122B (a1 : Int32) (a2 : Int32) (a3 : Int32) (a4 : Int32) (a5 : Int32) (K_122 : St → Option (Int32 × St)) (rec_122 : Int32 → St → Option (Int32 × St)) (x23 : Int32) (σ24 : St) : Option (Int32 × St) :=
  if a5 ≤ x23 then
  K_122 σ24
  else
  if a2 ≤ a4 then
  fX12_copy_J147 a1 a2 a3 a4 x23 rec_122 ((a5 - 1) - x23) σ24
  else
  fX12_copy_J147 a1 a2 a3 a4 x23 rec_122 x23 σ24
noncomputable def fX12_copy_L122 (a1 : Int32) (a2 : Int32) (a3 : Int32) (a4 : Int32) (a5 : Int32) (K_122 : St → Option (Int32 × St)) : Nat → Int32 → St → Option (Int32 × St)
  | 0 => fun _ _ => none
  | n + 1 => fX12_copy_L122B a1 a2 a3 a4 a5 K_122 (fX12_copy_L122 a1 a2 a3 a4 a5 K_122 n)
noncomputable def fX12_copy (σ : St) (a1 : Int32) (a2 : Int32) (a3 : Int32) (a4 : Int32) (a5 : Int32) : Option (Int32 × St) :=
  bd (fX12_isShelf σ a1) fun r1 =>
  if r1 = 0 then
  some ((-1), σ)
  else
  bd (fX12_isShelf σ a3) fun r3 =>
  if r3 = 0 then
  some ((-1), σ)
  else
  ck (vp_in a1 8) <|
  if (gI σ 12 15 a1.toNatClampNeg) = 0 then
  some ((-11), σ)
  else
  ck (vp_in a3 8) <|
  if (gI σ 12 15 a3.toNatClampNeg) = 0 then
  some ((-11), σ)
  else
  ck (vp_in a1 8) <|
  if (gI σ 12 15 a1.toNatClampNeg) = 2 then
  ck (vp_in a3 8) <|
  if (gI σ 12 15 a3.toNatClampNeg) = 2 then
  ck (vp_in a1 8) <|
  ck (vp_in a3 8) <|
  if (gI σ 12 18 a1.toNatClampNeg) = (gI σ 12 18 a3.toNatClampNeg) then
  if a5 < 0 then
  some ((-13), σ)
  else
  if a2 < 0 then
  some ((-13), σ)
  else
  if a4 < 0 then
  some ((-13), σ)
  else
  ck (vp_in a1 8) <|
  if ((gI σ 12 19 a1.toNatClampNeg) - a2) < a5 then
  some ((-13), σ)
  else
  ck (vp_in a3 8) <|
  if a5 ≤ ((gI σ 12 19 a3.toNatClampNeg) - a4) then
  fX12_copy_L122 a1 a2 a3 a4 a5 (fun σ33 => some (a5, σ33)) FU 0 σ
  else
  some ((-13), σ)
  else
  some ((-12), σ)
  else
  some ((-12), σ)
  else
  some ((-12), σ)
def rX12_copy : Room := { frames := 2, cells := 0, slots := 0, locals := 42 }
set_option maxHeartbeats 4000000 in
set_option maxRecDepth 100000 in
theorem cX12_copyc {l : Launch} {dC : Nat → ClassId} {dI : Nat → Nat → Nat} {ks : Nat → ClassId} {ad : Nat → Nat → Nat} {σ : St} (a1 : Int32) (a2 : Int32) (a3 : Int32) (a4 : Int32) (a5 : Int32)  {out : Int32 × St} (hf : fX12_copy σ a1 a2 a3 a4 a5 = some out) : MWi l dC dI ks ad σ yX12_copy cX12_copy 8 (some .int) rX12_copy [.ref (ad 14 0), .int a1, .int a2, .int a3, .int a4, .int a5] out := by
  intro sz
  refine met_w (Qc := fun A => va_Qi (fun r σ' => r = out.1 ∧ σ' = out.2) (gBw dC dI ks ad A) A) (own := RX12) (by decide) rfl (Nat.le_of_ble_eq_true rfl) ?_
  intro A p e s m args below meth c ls E hr hlk hA hP hD hS hK hl
  have hx := E.1
  have hb := E.2.1
  have hl : lv_has ls 8 [(0, .ref (ad 14 0)), (1, .int a1), (2, .int a2), (3, .int a3), (4, .int a4), (5, .int a5)] := hl
  unfold fX12_copy at hf
  refine lv_iload_n hx hb dX12_copy_0 rfl (lv_at hl 1 rfl) ?_
  obtain ⟨r1, er1, hf⟩ := bd_e hf
  refine gSr_i E hK hP (cX12_isShelfc _ er1) kS_X12_isShelf wd_5_135 rfl rfl rfl ⟨Nat.le_of_ble_eq_true rfl, Nat.le_of_ble_eq_true rfl⟩ ⟨Nat.zero_le _, Nat.zero_le _⟩ hl.1 (Nat.le_of_ble_eq_true rfl) rfl dX12_copy_1 ?_
  refine lv_if_eq (tgt := 14) hx hb dX12_copy_4 (by decide) (fun c2 => ?_) (fun c2 => ?_)
  · replace hf := pos_e c2 hf
    refine lv_iconst (v := -1) hx hb dX12_copy_14 (by decide) ?_
    exact gretw_i E hlk hP hD hS hr dX12_copy_15 (som_e hf)
  · replace hf := neg_e c2 hf
    refine lv_iload_n hx hb dX12_copy_7 rfl (lv_at hl 3 rfl) ?_
    obtain ⟨r3, er3, hf⟩ := bd_e hf
    refine gSr_i E hK hP (cX12_isShelfc _ er3) kS_X12_isShelf wd_5_135 rfl rfl rfl ⟨Nat.le_of_ble_eq_true rfl, Nat.le_of_ble_eq_true rfl⟩ ⟨Nat.zero_le _, Nat.zero_le _⟩ hl.1 (Nat.le_of_ble_eq_true rfl) rfl dX12_copy_8 ?_
    refine lv_if_ne (tgt := 16) hx hb dX12_copy_11 (by decide) (fun c4 => ?_) (fun c4 => ?_)
    · replace hf := neg_e c4 hf
      refine lv_aload_n hx hb dX12_copy_16 rfl (lv_at hl 0 rfl) ?_
      refine gget E in_X12 hK hP (q_model ks ad σ) rfl (k := 15) (by decide) wd_5_75 rfl (v := .ref (ad 15 15)) rfl dX12_copy_17 ?_
      refine lv_iload_n hx hb dX12_copy_20 rfl (lv_at hl 1 rfl) ?_
      obtain ⟨c5, hf⟩ := ck_e hf
      refine giald E hK hP (q_M15 ks ad σ) c5 dX12_copy_21 ?_
      refine lv_if_eq (tgt := 34) hx hb dX12_copy_22 (by decide) (fun c6 => ?_) (fun c6 => ?_)
      · replace hf := pos_e c6 hf
        refine lv_bipush (v := -11) hx hb dX12_copy_34 (by decide) ?_
        exact gretw_i E hlk hP hD hS hr dX12_copy_36 (som_e hf)
      · replace hf := neg_e c6 hf
        refine lv_aload_n hx hb dX12_copy_25 rfl (lv_at hl 0 rfl) ?_
        refine gget E in_X12 hK hP (q_model ks ad σ) rfl (k := 15) (by decide) wd_5_75 rfl (v := .ref (ad 15 15)) rfl dX12_copy_26 ?_
        refine lv_iload_n hx hb dX12_copy_29 rfl (lv_at hl 3 rfl) ?_
        obtain ⟨c7, hf⟩ := ck_e hf
        refine giald E hK hP (q_M15 ks ad σ) c7 dX12_copy_30 ?_
        refine lv_if_ne (tgt := 37) hx hb dX12_copy_31 (by decide) (fun c8 => ?_) (fun c8 => ?_)
        · replace hf := neg_e c8 hf
          refine lv_aload_n hx hb dX12_copy_37 rfl (lv_at hl 0 rfl) ?_
          refine gget E in_X12 hK hP (q_model ks ad σ) rfl (k := 15) (by decide) wd_5_75 rfl (v := .ref (ad 15 15)) rfl dX12_copy_38 ?_
          refine lv_iload_n hx hb dX12_copy_41 rfl (lv_at hl 1 rfl) ?_
          obtain ⟨c9, hf⟩ := ck_e hf
          refine giald E hK hP (q_M15 ks ad σ) c9 dX12_copy_42 ?_
          refine lv_iconst (v := 2) hx hb dX12_copy_43 (by decide) ?_
          refine lv_icmp_ne (tgt := 72) hx hb dX12_copy_44 (by decide) (fun c10 => ?_) (fun c10 => ?_)
          · replace hf := neg_e c10 hf
            refine lv_bipush (v := -12) hx hb dX12_copy_72 (by decide) ?_
            exact gretw_i E hlk hP hD hS hr dX12_copy_74 (som_e hf)
          · replace hf := pos_e c10 hf
            refine lv_aload_n hx hb dX12_copy_47 rfl (lv_at hl 0 rfl) ?_
            refine gget E in_X12 hK hP (q_model ks ad σ) rfl (k := 15) (by decide) wd_5_75 rfl (v := .ref (ad 15 15)) rfl dX12_copy_48 ?_
            refine lv_iload_n hx hb dX12_copy_51 rfl (lv_at hl 3 rfl) ?_
            obtain ⟨c11, hf⟩ := ck_e hf
            refine giald E hK hP (q_M15 ks ad σ) c11 dX12_copy_52 ?_
            refine lv_iconst (v := 2) hx hb dX12_copy_53 (by decide) ?_
            refine lv_icmp_ne (tgt := 72) hx hb dX12_copy_54 (by decide) (fun c12 => ?_) (fun c12 => ?_)
            · replace hf := neg_e c12 hf
              refine lv_bipush (v := -12) hx hb dX12_copy_72 (by decide) ?_
              exact gretw_i E hlk hP hD hS hr dX12_copy_74 (som_e hf)
            · replace hf := pos_e c12 hf
              refine lv_aload_n hx hb dX12_copy_57 rfl (lv_at hl 0 rfl) ?_
              refine gget E in_X12 hK hP (q_model ks ad σ) rfl (k := 18) (by decide) wd_5_78 rfl (v := .ref (ad 15 18)) rfl dX12_copy_58 ?_
              refine lv_iload_n hx hb dX12_copy_61 rfl (lv_at hl 1 rfl) ?_
              obtain ⟨c13, hf⟩ := ck_e hf
              refine giald E hK hP (q_M18 ks ad σ) c13 dX12_copy_62 ?_
              refine lv_aload_n hx hb dX12_copy_63 rfl (lv_at hl 0 rfl) ?_
              refine gget E in_X12 hK hP (q_model ks ad σ) rfl (k := 18) (by decide) wd_5_78 rfl (v := .ref (ad 15 18)) rfl dX12_copy_64 ?_
              refine lv_iload_n hx hb dX12_copy_67 rfl (lv_at hl 3 rfl) ?_
              obtain ⟨c14, hf⟩ := ck_e hf
              refine giald E hK hP (q_M18 ks ad σ) c14 dX12_copy_68 ?_
              refine lv_icmp_eq (tgt := 75) hx hb dX12_copy_69 (by decide) (fun c15 => ?_) (fun c15 => ?_)
              · replace hf := pos_e c15 hf
                refine lv_iload hx hb dX12_copy_75 (lv_at hl 5 rfl) ?_
                refine lv_if_lt (tgt := 116) hx hb dX12_copy_77 (by decide) (fun c16 => ?_) (fun c16 => ?_)
                · replace hf := pos_e c16 hf
                  refine lv_bipush (v := -13) hx hb dX12_copy_116 (by decide) ?_
                  exact gretw_i E hlk hP hD hS hr dX12_copy_118 (som_e hf)
                · replace hf := neg_e c16 hf
                  refine lv_iload_n hx hb dX12_copy_80 rfl (lv_at hl 2 rfl) ?_
                  refine lv_if_lt (tgt := 116) hx hb dX12_copy_81 (by decide) (fun c17 => ?_) (fun c17 => ?_)
                  · replace hf := pos_e c17 hf
                    refine lv_bipush (v := -13) hx hb dX12_copy_116 (by decide) ?_
                    exact gretw_i E hlk hP hD hS hr dX12_copy_118 (som_e hf)
                  · replace hf := neg_e c17 hf
                    refine lv_iload hx hb dX12_copy_84 (lv_at hl 4 rfl) ?_
                    refine lv_if_lt (tgt := 116) hx hb dX12_copy_86 (by decide) (fun c18 => ?_) (fun c18 => ?_)
                    · replace hf := pos_e c18 hf
                      refine lv_bipush (v := -13) hx hb dX12_copy_116 (by decide) ?_
                      exact gretw_i E hlk hP hD hS hr dX12_copy_118 (som_e hf)
                    · replace hf := neg_e c18 hf
                      refine lv_iload hx hb dX12_copy_89 (lv_at hl 5 rfl) ?_
                      refine lv_aload_n hx hb dX12_copy_91 rfl (lv_at hl 0 rfl) ?_
                      refine gget E in_X12 hK hP (q_model ks ad σ) rfl (k := 19) (by decide) wd_5_79 rfl (v := .ref (ad 15 19)) rfl dX12_copy_92 ?_
                      refine lv_iload_n hx hb dX12_copy_95 rfl (lv_at hl 1 rfl) ?_
                      obtain ⟨c19, hf⟩ := ck_e hf
                      refine giald E hK hP (q_M19 ks ad σ) c19 dX12_copy_96 ?_
                      refine lv_iload_n hx hb dX12_copy_97 rfl (lv_at hl 2 rfl) ?_
                      refine lv_isub hx hb dX12_copy_98 ?_
                      refine lv_icmp_gt (tgt := 116) hx hb dX12_copy_99 (by decide) (fun c20 => ?_) (fun c20 => ?_)
                      · replace hf := pos_e c20 hf
                        refine lv_bipush (v := -13) hx hb dX12_copy_116 (by decide) ?_
                        exact gretw_i E hlk hP hD hS hr dX12_copy_118 (som_e hf)
                      · replace hf := neg_e c20 hf
                        refine lv_iload hx hb dX12_copy_102 (lv_at hl 5 rfl) ?_
                        refine lv_aload_n hx hb dX12_copy_104 rfl (lv_at hl 0 rfl) ?_
                        refine gget E in_X12 hK hP (q_model ks ad σ) rfl (k := 19) (by decide) wd_5_79 rfl (v := .ref (ad 15 19)) rfl dX12_copy_105 ?_
                        refine lv_iload_n hx hb dX12_copy_108 rfl (lv_at hl 3 rfl) ?_
                        obtain ⟨c21, hf⟩ := ck_e hf
                        refine giald E hK hP (q_M19 ks ad σ) c21 dX12_copy_109 ?_
                        refine lv_iload hx hb dX12_copy_110 (lv_at hl 4 rfl) ?_
                        refine lv_isub hx hb dX12_copy_112 ?_
                        refine lv_icmp_le (tgt := 119) hx hb dX12_copy_113 (by decide) (fun c22 => ?_) (fun c22 => ?_)
                        · replace hf := pos_e c22 hf
                          refine lv_iconst (v := 0) hx hb dX12_copy_119 (by decide) ?_
                          refine lv_istore (lv' := [(6, .int 0), (0, .ref (ad 14 0)), (1, .int a1), (2, .int a2), (3, .int a3), (4, .int a4), (5, .int a5)]) hx hb dX12_copy_120 hl (by decide) rfl (fun ls hl => ?_)
                          have loop_122 : ∀ (K_122 : St → Option (Int32 × St)) (hK_122 : (∀ (σ33 : St) (H : Heap) (locs : List Loc) (hP : va_P (dC, dI) vwCl (wG ks ad σ33) H) (hD : va_D A (wG ks ad σ33)) (hS : va_S A s.heap H locs) (hf : K_122 σ33 = some out) (ls : Array Slot), lv_has ls 8 [(5, .int a5)] → W p l e rX12_copy s m args below meth c H locs 0 0 (MQ below (va_Qi (fun r σ' => r = out.1 ∧ σ' = out.2) (gBw dC dI ks ad A) A) args s 0 0 A) (F0 m 184 ls []))) (n_122 : Nat) (x23 : Int32) (σ24 : St) (H : Heap) (locs : List Loc) (hP : va_P (dC, dI) vwCl (wG ks ad σ24) H) (hD : va_D A (wG ks ad σ24)) (hS : va_S A s.heap H locs) (hf : fX12_copy_L122 a1 a2 a3 a4 a5 K_122 n_122 x23 σ24 = some out) (ls : Array Slot), lv_has ls 8 [(0, .ref (ad 14 0)), (1, .int a1), (2, .int a2), (3, .int a3), (4, .int a4), (5, .int a5), (6, .int x23)] → W p l e rX12_copy s m args below meth c H locs 0 0 (MQ below (va_Qi (fun r σ' => r = out.1 ∧ σ' = out.2) (gBw dC dI ks ad A) A) args s 0 0 A) (F0 m 122 ls []) := by
                            intro K_122 hK_122 n_122
                            induction n_122 with
                            | zero => intro x23 σ24 H locs hP hD hS hf; cases hf
                            | succ n_122 ih_122 =>
                              intro x23 σ24 H locs hP hD hS hf ls hl
                              have hf : fX12_copy_L122B a1 a2 a3 a4 a5 K_122 (fX12_copy_L122 a1 a2 a3 a4 a5 K_122 n_122) x23 σ24 = some out := hf
                              unfold fX12_copy_L122B at hf
                              refine lv_iload hx hb dX12_copy_122 (lv_at hl 6 rfl) ?_
                              refine lv_iload hx hb dX12_copy_124 (lv_at hl 5 rfl) ?_
                              refine lv_icmp_ge (tgt := 184) hx hb dX12_copy_126 (by decide) (fun c25 => ?_) (fun c25 => ?_)
                              · replace hf := pos_e c25 hf
                                exact hK_122 _ _ _ hP hD hS hf _ (lv_sub hl [5] rfl)
                              · replace hf := neg_e c25 hf
                                refine lv_iload_n hx hb dX12_copy_129 rfl (lv_at hl 2 rfl) ?_
                                refine lv_iload hx hb dX12_copy_130 (lv_at hl 4 rfl) ?_
                                have hJ_147 : ∀ (z26 : Int32) (σ27 : St) (H : Heap) (locs : List Loc) (hP : va_P (dC, dI) vwCl (wG ks ad σ27) H) (hD : va_D A (wG ks ad σ27)) (hS : va_S A s.heap H locs) (hf : fX12_copy_J147 a1 a2 a3 a4 x23 (fX12_copy_L122 a1 a2 a3 a4 a5 K_122 n_122) z26 σ27 = some out) (ls : Array Slot), lv_has ls 8 [(0, .ref (ad 14 0)), (1, .int a1), (2, .int a2), (3, .int a3), (4, .int a4), (5, .int a5), (6, .int x23)] → W p l e rX12_copy s m args below meth c H locs 0 0 (MQ below (va_Qi (fun r σ' => r = out.1 ∧ σ' = out.2) (gBw dC dI ks ad A) A) args s 0 0 A) (F0 m 147 ls [.int z26]) := by
                                  intro z26 σ27 H locs hP hD hS hf ls hl
                                  unfold fX12_copy_J147 at hf
                                  refine lv_istore (lv' := [(7, .int z26), (0, .ref (ad 14 0)), (1, .int a1), (2, .int a2), (3, .int a3), (4, .int a4), (5, .int a5), (6, .int x23)]) hx hb dX12_copy_147 hl (by decide) rfl (fun ls hl => ?_)
                                  refine lv_aload_n hx hb dX12_copy_149 rfl (lv_at hl 1 rfl) ?_
                                  refine gget E in_X12 hK hP (q_model ks ad σ27) rfl (k := 20) (by decide) wd_5_80 rfl (v := .ref (ad 15 20)) rfl dX12_copy_150 ?_
                                  refine lv_bipush (v := 100) hx hb dX12_copy_153 (by decide) ?_
                                  refine lv_iload_n hx hb dX12_copy_155 rfl (lv_at hl 4 rfl) ?_
                                  refine lv_imul hx hb dX12_copy_156 ?_
                                  refine lv_iload hx hb dX12_copy_157 (lv_at hl 5 rfl) ?_
                                  refine lv_iadd hx hb dX12_copy_159 ?_
                                  refine lv_iload hx hb dX12_copy_160 (lv_at hl 0 rfl) ?_
                                  refine lv_iadd hx hb dX12_copy_162 ?_
                                  refine lv_aload_n hx hb dX12_copy_163 rfl (lv_at hl 1 rfl) ?_
                                  refine gget E in_X12 hK hP (q_model ks ad σ27) rfl (k := 20) (by decide) wd_5_80 rfl (v := .ref (ad 15 20)) rfl dX12_copy_164 ?_
                                  refine lv_bipush (v := 100) hx hb dX12_copy_167 (by decide) ?_
                                  refine lv_iload_n hx hb dX12_copy_169 rfl (lv_at hl 2 rfl) ?_
                                  refine lv_imul hx hb dX12_copy_170 ?_
                                  refine lv_iload_n hx hb dX12_copy_171 rfl (lv_at hl 3 rfl) ?_
                                  refine lv_iadd hx hb dX12_copy_172 ?_
                                  refine lv_iload hx hb dX12_copy_173 (lv_at hl 0 rfl) ?_
                                  refine lv_iadd hx hb dX12_copy_175 ?_
                                  obtain ⟨c28, hf⟩ := ck_e hf
                                  refine giald E hK hP (q_M20 ks ad σ27) c28 dX12_copy_176 ?_
                                  obtain ⟨c29, hf⟩ := ck_e hf
                                  obtain ⟨σ30, eσ30, hf⟩ := nmv_e hf
                                  refine giast E hK hP hD hS (q_M20 ks ad σ27) c29 (σ' := σ30) (by rw [eσ30]; exact st_M20 ks ad σ27 _) dX12_copy_177 (fun H locs hP hD hS => ?_)
                                  obtain ⟨v31, ev31, hf⟩ := nmv_e hf
                                  refine lv_iinc (v := v31) (lv' := [(6, .int v31), (7, .int z26), (0, .ref (ad 14 0)), (1, .int a1), (2, .int a2), (3, .int a3), (4, .int a4), (5, .int a5)]) hx hb dX12_copy_178 hl (k := 7) rfl (by rw [ev31]; rfl) (by decide) rfl (fun ls hl => ?_)
                                  refine lv_goto (tgt := 122) hx hb dX12_copy_181 (by decide) ?_
                                  exact ih_122 _ _ _ _ hP hD hS hf _ (lv_sub hl [2, 3, 4, 5, 6, 7, 0] rfl)
                                refine lv_icmp_le (tgt := 140) hx hb dX12_copy_132 (by decide) (fun c32 => ?_) (fun c32 => ?_)
                                · replace hf := pos_e c32 hf
                                  refine lv_iload hx hb dX12_copy_140 (lv_at hl 5 rfl) ?_
                                  refine lv_iconst (v := 1) hx hb dX12_copy_142 (by decide) ?_
                                  refine lv_isub hx hb dX12_copy_143 ?_
                                  refine lv_iload hx hb dX12_copy_144 (lv_at hl 6 rfl) ?_
                                  refine lv_isub hx hb dX12_copy_146 ?_
                                  exact hJ_147 _ _ _ _ hP hD hS hf _ (lv_sub hl [0, 1, 2, 3, 4, 5, 6] rfl)
                                · replace hf := neg_e c32 hf
                                  refine lv_iload hx hb dX12_copy_135 (lv_at hl 6 rfl) ?_
                                  refine lv_goto (tgt := 147) hx hb dX12_copy_137 (by decide) ?_
                                  exact hJ_147 _ _ _ _ hP hD hS hf _ (lv_sub hl [0, 1, 2, 3, 4, 5, 6] rfl)
                          refine loop_122 _ (fun σ33 H locs hP hD hS hf ls hl => ?_) _ _ _ _ _ hP hD hS hf _ (lv_sub hl [1, 2, 3, 4, 5, 6, 0] rfl)
                          refine lv_iload hx hb dX12_copy_184 (lv_at hl 0 rfl) ?_
                          exact gretw_i E hlk hP hD hS hr dX12_copy_186 (som_e hf)
                        · replace hf := neg_e c22 hf
                          refine lv_bipush (v := -13) hx hb dX12_copy_116 (by decide) ?_
                          exact gretw_i E hlk hP hD hS hr dX12_copy_118 (som_e hf)
              · replace hf := neg_e c15 hf
                refine lv_bipush (v := -12) hx hb dX12_copy_72 (by decide) ?_
                exact gretw_i E hlk hP hD hS hr dX12_copy_74 (som_e hf)
        · replace hf := pos_e c8 hf
          refine lv_bipush (v := -11) hx hb dX12_copy_34 (by decide) ?_
          exact gretw_i E hlk hP hD hS hr dX12_copy_36 (som_e hf)
    · replace hf := pos_e c4 hf
      refine lv_iconst (v := -1) hx hb dX12_copy_14 (by decide) ?_
      exact gretw_i E hlk hP hD hS hr dX12_copy_15 (som_e hf)
