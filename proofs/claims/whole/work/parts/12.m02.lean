noncomputable def fX9_topTight (σ : St) (h : Nat) : Option (Int32) :=
  nmv (if (gI σ 7 h 2) < (gI σ 7 h 1) then gI σ 7 h 2 else gI σ 7 h 1) fun v1 =>
  nmv (if v1 < 60 then v1 else 60) fun v2 =>
  some v2
def rX9_topTight : Room := { frames := 1, cells := 0, slots := 0, locals := 27 }
set_option maxHeartbeats 4000000 in
set_option maxRecDepth 100000 in
theorem cX9_topTightc {l : Launch} {dC : Nat → ClassId} {dI : Nat → Nat → Nat} {ks : Nat → ClassId} {ad : Nat → Nat → Nat} {σ : St} {h : Nat} (hh : h < 3)  {out : Int32} (hf : fX9_topTight σ h = some out) : MRi l dC dI ks ad σ yX9_topTight cX9_topTight 1 (some .int) rX9_topTight [.ref (ad 9 h)] out := by
  refine met_r (own := RX9) (by decide) rfl (Nat.le_of_ble_eq_true rfl) ?_
  intro p e s m args below meth c ls E hr hlk hP hK hl
  have hx := E.1
  have hb := E.2.1
  have hl : lv_has ls 1 [(0, .ref (ad 9 h))] := hl
  unfold fX9_topTight at hf
  refine lv_bipush (v := 60) hx hb dX9_topTight_0 (by decide) ?_
  refine lv_aload_n hx hb dX9_topTight_2 rfl (lv_at hl 0 rfl) ?_
  refine gget E in_X9 hK hP (qh_8 ks ad σ hh) rfl (k := 1) (by decide) wd_1_49 rfl (v := .int (gI σ 7 h 1)) rfl dX9_topTight_3 ?_
  refine lv_aload_n hx hb dX9_topTight_6 rfl (lv_at hl 0 rfl) ?_
  refine gget E in_X9 hK hP (qh_8 ks ad σ hh) rfl (k := 2) (by decide) wd_1_52 rfl (v := .int (gI σ 7 h 2)) rfl dX9_topTight_7 ?_
  refine gmin E hl.1 wd_3_86 wd_3_87 wd_1_15 wd_3_88 (Nat.le_of_ble_eq_true rfl) (Nat.le_of_ble_eq_true rfl) ⟨Nat.zero_le _, Nat.zero_le _⟩ dX9_topTight_10 ?_
  obtain ⟨v1, ev1, hf⟩ := nmv_e hf
  refine lv_nmi ev1 ?_
  refine gmin E hl.1 wd_3_86 wd_3_87 wd_1_15 wd_3_88 (Nat.le_of_ble_eq_true rfl) (Nat.le_of_ble_eq_true rfl) ⟨Nat.zero_le _, Nat.zero_le _⟩ dX9_topTight_13 ?_
  obtain ⟨v2, ev2, hf⟩ := nmv_e hf
  refine lv_nmi ev2 ?_
  exact gret_i E hr hlk dX9_topTight_16 (som_e hf).symm
noncomputable def fX9_topForce (σ : St) (h : Nat) : Option (Int32) :=
  nmv (if (gI σ 7 h 4) < 60 then gI σ 7 h 4 else 60) fun v1 =>
  some v1
def rX9_topForce : Room := { frames := 1, cells := 0, slots := 0, locals := 27 }
set_option maxHeartbeats 4000000 in
set_option maxRecDepth 100000 in
theorem cX9_topForcec {l : Launch} {dC : Nat → ClassId} {dI : Nat → Nat → Nat} {ks : Nat → ClassId} {ad : Nat → Nat → Nat} {σ : St} {h : Nat} (hh : h < 3)  {out : Int32} (hf : fX9_topForce σ h = some out) : MRi l dC dI ks ad σ yX9_topForce cX9_topForce 1 (some .int) rX9_topForce [.ref (ad 9 h)] out := by
  refine met_r (own := RX9) (by decide) rfl (Nat.le_of_ble_eq_true rfl) ?_
  intro p e s m args below meth c ls E hr hlk hP hK hl
  have hx := E.1
  have hb := E.2.1
  have hl : lv_has ls 1 [(0, .ref (ad 9 h))] := hl
  unfold fX9_topForce at hf
  refine lv_bipush (v := 60) hx hb dX9_topForce_0 (by decide) ?_
  refine lv_aload_n hx hb dX9_topForce_2 rfl (lv_at hl 0 rfl) ?_
  refine gget E in_X9 hK hP (qh_8 ks ad σ hh) rfl (k := 4) (by decide) wd_1_57 rfl (v := .int (gI σ 7 h 4)) rfl dX9_topForce_3 ?_
  refine gmin E hl.1 wd_3_86 wd_3_87 wd_1_15 wd_3_88 (Nat.le_of_ble_eq_true rfl) (Nat.le_of_ble_eq_true rfl) ⟨Nat.zero_le _, Nat.zero_le _⟩ dX9_topForce_6 ?_
  obtain ⟨v1, ev1, hf⟩ := nmv_e hf
  refine lv_nmi ev1 ?_
  exact gret_i E hr hlk dX9_topForce_9 (som_e hf).symm
noncomputable def fX9_pairs (σ : St) (h : Nat) : Option (Int32) :=
  bd (fX9_topTight σ h) fun r1 =>
  nmv (if 0 < ((r1 - (gI σ 7 h 0)) + 1) then (r1 - (gI σ 7 h 0)) + 1 else 0) fun v2 =>
  bd (fX9_topForce σ h) fun r3 =>
  nmv (if 0 < ((r3 - (gI σ 7 h 3)) + 1) then (r3 - (gI σ 7 h 3)) + 1 else 0) fun v4 =>
  some (v2 * v4)
def rX9_pairs : Room := { frames := 2, cells := 0, slots := 0, locals := 47 }
set_option maxHeartbeats 4000000 in
set_option maxRecDepth 100000 in
theorem cX9_pairsc {l : Launch} {dC : Nat → ClassId} {dI : Nat → Nat → Nat} {ks : Nat → ClassId} {ad : Nat → Nat → Nat} {σ : St} {h : Nat} (hh : h < 3)  {out : Int32} (hf : fX9_pairs σ h = some out) : MRi l dC dI ks ad σ yX9_pairs cX9_pairs 1 (some .int) rX9_pairs [.ref (ad 9 h)] out := by
  refine met_r (own := RX9) (by decide) rfl (Nat.le_of_ble_eq_true rfl) ?_
  intro p e s m args below meth c ls E hr hlk hP hK hl
  have hx := E.1
  have hb := E.2.1
  have hl : lv_has ls 1 [(0, .ref (ad 9 h))] := hl
  unfold fX9_pairs at hf
  refine lv_iconst (v := 0) hx hb dX9_pairs_0 (by decide) ?_
  refine lv_aload_n hx hb dX9_pairs_1 rfl (lv_at hl 0 rfl) ?_
  obtain ⟨r1, er1, hf⟩ := bd_e hf
  refine gVr_i E hK hP (cX9_topTightc hh er1) kV_X9_topTight wd_3_82 rfl rfl (qh_8 ks ad σ hh) rfl rfl rfl ⟨Nat.le_of_ble_eq_true rfl, Nat.le_of_ble_eq_true rfl⟩ ⟨Nat.zero_le _, Nat.zero_le _⟩ hl.1 (Nat.le_of_ble_eq_true rfl) rfl dX9_pairs_2 ?_
  refine lv_aload_n hx hb dX9_pairs_5 rfl (lv_at hl 0 rfl) ?_
  refine gget E in_X9 hK hP (qh_8 ks ad σ hh) rfl (k := 0) (by decide) wd_1_46 rfl (v := .int (gI σ 7 h 0)) rfl dX9_pairs_6 ?_
  refine lv_isub hx hb dX9_pairs_9 ?_
  refine lv_iconst (v := 1) hx hb dX9_pairs_10 (by decide) ?_
  refine lv_iadd hx hb dX9_pairs_11 ?_
  refine gmax E hl.1 wd_3_89 wd_2_138 wd_1_15 wd_2_139 (Nat.le_of_ble_eq_true rfl) (Nat.le_of_ble_eq_true rfl) ⟨Nat.zero_le _, Nat.zero_le _⟩ dX9_pairs_12 ?_
  obtain ⟨v2, ev2, hf⟩ := nmv_e hf
  refine lv_nmi ev2 ?_
  refine lv_iconst (v := 0) hx hb dX9_pairs_15 (by decide) ?_
  refine lv_aload_n hx hb dX9_pairs_16 rfl (lv_at hl 0 rfl) ?_
  obtain ⟨r3, er3, hf⟩ := bd_e hf
  refine gVr_i E hK hP (cX9_topForcec hh er3) kV_X9_topForce wd_3_90 rfl rfl (qh_8 ks ad σ hh) rfl rfl rfl ⟨Nat.le_of_ble_eq_true rfl, Nat.le_of_ble_eq_true rfl⟩ ⟨Nat.zero_le _, Nat.zero_le _⟩ hl.1 (Nat.le_of_ble_eq_true rfl) rfl dX9_pairs_17 ?_
  refine lv_aload_n hx hb dX9_pairs_20 rfl (lv_at hl 0 rfl) ?_
  refine gget E in_X9 hK hP (qh_8 ks ad σ hh) rfl (k := 3) (by decide) wd_1_54 rfl (v := .int (gI σ 7 h 3)) rfl dX9_pairs_21 ?_
  refine lv_isub hx hb dX9_pairs_24 ?_
  refine lv_iconst (v := 1) hx hb dX9_pairs_25 (by decide) ?_
  refine lv_iadd hx hb dX9_pairs_26 ?_
  refine gmax E hl.1 wd_3_89 wd_2_138 wd_1_15 wd_2_139 (Nat.le_of_ble_eq_true rfl) (Nat.le_of_ble_eq_true rfl) ⟨Nat.zero_le _, Nat.zero_le _⟩ dX9_pairs_27 ?_
  obtain ⟨v4, ev4, hf⟩ := nmv_e hf
  refine lv_nmi ev4 ?_
  refine lv_imul hx hb dX9_pairs_30 ?_
  exact gret_i E hr hlk dX9_pairs_31 (som_e hf).symm
noncomputable def fX11_where (σ : St) (a1 : Int32) (a2 : Int32) (a3 : Int32) (a4 : Int32) : Option (Int32 × St) :=
  bd (fX3_hasAll σ 0 a1 a2 a3) fun r1 =>
  if r1 = 0 then
  some ((-1), σ)
  else
  bd (fX11_isOut σ a4 0 2) fun r3 =>
  if r3 = 0 then
  bd (fX3_spanOf σ 0 a1 a2 a3) fun r5 =>
  bd (fX9_pairs r5 0) fun r6 =>
  if a4 = 0 then
  some (r6, r5)
  else
  if r6 = 0 then
  some ((-4), r5)
  else
  if a4 = 1 then
  some (gI r5 7 0 0, r5)
  else
  some (gI r5 7 0 3, r5)
  else
  some ((-1), σ)
def rX11_where : Room := { frames := 4, cells := 0, slots := 0, locals := 94 }
set_option maxHeartbeats 4000000 in
set_option maxRecDepth 100000 in
theorem cX11_wherec {l : Launch} {dC : Nat → ClassId} {dI : Nat → Nat → Nat} {ks : Nat → ClassId} {ad : Nat → Nat → Nat} {σ : St} (a1 : Int32) (a2 : Int32) (a3 : Int32) (a4 : Int32)  {out : Int32 × St} (hf : fX11_where σ a1 a2 a3 a4 = some out) : MWi l dC dI ks ad σ yX11_where cX11_where 7 (some .int) rX11_where [.ref (ad 0 0), .int a1, .int a2, .int a3, .int a4] out := by
  intro sz
  refine met_w (Qc := fun A => va_Qi (fun r σ' => r = out.1 ∧ σ' = out.2) (gBw dC dI ks ad A) A) (own := RX11) (by decide) rfl (Nat.le_of_ble_eq_true rfl) ?_
  intro A p e s m args below meth c ls E hr hlk hA hP hD hS hK hl
  have hx := E.1
  have hb := E.2.1
  have hl : lv_has ls 7 [(0, .ref (ad 0 0)), (1, .int a1), (2, .int a2), (3, .int a3), (4, .int a4)] := hl
  unfold fX11_where at hf
  refine lv_aload_n hx hb dX11_where_0 rfl (lv_at hl 0 rfl) ?_
  refine gget E in_X11 hK hP (q_main ks ad σ) rfl (k := 0) (by decide) wd_1_145 rfl (v := .ref (ad 1 0)) rfl dX11_where_1 ?_
  refine lv_iload_n hx hb dX11_where_4 rfl (lv_at hl 1 rfl) ?_
  refine lv_iload_n hx hb dX11_where_5 rfl (lv_at hl 2 rfl) ?_
  refine lv_iload_n hx hb dX11_where_6 rfl (lv_at hl 3 rfl) ?_
  obtain ⟨r1, er1, hf⟩ := bd_e hf
  refine gVr_i E hK hP (cX3_hasAllc (by decide : (0 : Nat) < 3) _ _ _ er1) kV_X3_hasAll wd_2_86 rfl rfl (qh_0 ks ad σ (by decide : (0 : Nat) < 3)) rfl rfl rfl ⟨Nat.le_of_ble_eq_true rfl, Nat.le_of_ble_eq_true rfl⟩ ⟨Nat.zero_le _, Nat.zero_le _⟩ hl.1 (Nat.le_of_ble_eq_true rfl) rfl dX11_where_7 ?_
  refine lv_if_eq (tgt := 23) hx hb dX11_where_10 (by decide) (fun c2 => ?_) (fun c2 => ?_)
  · replace hf := pos_e c2 hf
    refine lv_iconst (v := -1) hx hb dX11_where_23 (by decide) ?_
    exact gretw_i E hlk hP hD hS hr dX11_where_24 (som_e hf)
  · replace hf := neg_e c2 hf
    refine lv_iload hx hb dX11_where_13 (lv_at hl 4 rfl) ?_
    refine lv_iconst (v := 0) hx hb dX11_where_15 (by decide) ?_
    refine lv_iconst (v := 2) hx hb dX11_where_16 (by decide) ?_
    obtain ⟨r3, er3, hf⟩ := bd_e hf
    refine gSr_i E hK hP (cX11_isOutc _ _ _ er3) kS_X11_isOut wd_1_178 rfl rfl rfl ⟨Nat.le_of_ble_eq_true rfl, Nat.le_of_ble_eq_true rfl⟩ ⟨Nat.zero_le _, Nat.zero_le _⟩ hl.1 (Nat.le_of_ble_eq_true rfl) rfl dX11_where_17 ?_
    refine lv_if_eq (tgt := 25) hx hb dX11_where_20 (by decide) (fun c4 => ?_) (fun c4 => ?_)
    · replace hf := pos_e c4 hf
      refine lv_aload_n hx hb dX11_where_25 rfl (lv_at hl 0 rfl) ?_
      refine gget E in_X11 hK hP (q_main ks ad σ) rfl (k := 0) (by decide) wd_1_145 rfl (v := .ref (ad 1 0)) rfl dX11_where_26 ?_
      refine lv_iload_n hx hb dX11_where_29 rfl (lv_at hl 1 rfl) ?_
      refine lv_iload_n hx hb dX11_where_30 rfl (lv_at hl 2 rfl) ?_
      refine lv_iload_n hx hb dX11_where_31 rfl (lv_at hl 3 rfl) ?_
      obtain ⟨r5, er5, hf⟩ := bd_e hf
      refine gVw_f E hK hP hD hS hA (cX3_spanOfc (by decide : (0 : Nat) < 3) _ _ _ er5) kV_X3_spanOf wd_2_179 rfl rfl (qh_0 ks ad σ (by decide : (0 : Nat) < 3)) rfl rfl rfl ⟨Nat.le_of_ble_eq_true rfl, Nat.le_of_ble_eq_true rfl⟩ ⟨Nat.zero_le _, Nat.zero_le _⟩ hl.1 (Nat.le_of_ble_eq_true rfl) rfl dX11_where_32 (fun H locs hP hD hS => ?_)
      refine lv_astore (lv' := [(5, .ref (ad 9 0)), (0, .ref (ad 0 0)), (1, .int a1), (2, .int a2), (3, .int a3), (4, .int a4)]) hx hb dX11_where_35 hl (by decide) rfl (fun ls hl => ?_)
      refine lv_aload hx hb dX11_where_37 (lv_at hl 0 rfl) ?_
      obtain ⟨r6, er6, hf⟩ := bd_e hf
      refine gVr_i E hK hP (cX9_pairsc (by decide : (0 : Nat) < 3) er6) kV_X9_pairs wd_3_78 rfl rfl (qh_8 ks ad r5 (by decide : (0 : Nat) < 3)) rfl rfl rfl ⟨Nat.le_of_ble_eq_true rfl, Nat.le_of_ble_eq_true rfl⟩ ⟨Nat.zero_le _, Nat.zero_le _⟩ hl.1 (Nat.le_of_ble_eq_true rfl) rfl dX11_where_39 ?_
      refine lv_istore (lv' := [(6, .int r6), (5, .ref (ad 9 0)), (0, .ref (ad 0 0)), (1, .int a1), (2, .int a2), (3, .int a3), (4, .int a4)]) hx hb dX11_where_42 hl (by decide) rfl (fun ls hl => ?_)
      refine lv_iload hx hb dX11_where_44 (lv_at hl 6 rfl) ?_
      refine lv_if_ne (tgt := 52) hx hb dX11_where_46 (by decide) (fun c7 => ?_) (fun c7 => ?_)
      · replace hf := neg_e c7 hf
        refine lv_iload hx hb dX11_where_52 (lv_at hl 0 rfl) ?_
        refine lv_if_ne (tgt := 60) hx hb dX11_where_54 (by decide) (fun c8 => ?_) (fun c8 => ?_)
        · replace hf := neg_e c8 hf
          refine lv_iload hx hb dX11_where_60 (lv_at hl 6 rfl) ?_
          refine lv_iconst (v := 1) hx hb dX11_where_62 (by decide) ?_
          refine lv_icmp_ne (tgt := 74) hx hb dX11_where_63 (by decide) (fun c9 => ?_) (fun c9 => ?_)
          · replace hf := neg_e c9 hf
            refine lv_aload hx hb dX11_where_74 (lv_at hl 1 rfl) ?_
            refine gget E in_X9 hK hP (qh_8 ks ad r5 (by decide : (0 : Nat) < 3)) rfl (k := 3) (by decide) wd_1_55 rfl (v := .int (gI r5 7 0 3)) rfl dX11_where_76 ?_
            exact gretw_i E hlk hP hD hS hr dX11_where_79 (som_e hf)
          · replace hf := pos_e c9 hf
            refine lv_aload hx hb dX11_where_66 (lv_at hl 1 rfl) ?_
            refine gget E in_X9 hK hP (qh_8 ks ad r5 (by decide : (0 : Nat) < 3)) rfl (k := 0) (by decide) wd_1_47 rfl (v := .int (gI r5 7 0 0)) rfl dX11_where_68 ?_
            refine lv_goto (tgt := 79) hx hb dX11_where_71 (by decide) ?_
            exact gretw_i E hlk hP hD hS hr dX11_where_79 (som_e hf)
        · replace hf := pos_e c8 hf
          refine lv_bipush (v := -4) hx hb dX11_where_57 (by decide) ?_
          exact gretw_i E hlk hP hD hS hr dX11_where_59 (som_e hf)
      · replace hf := pos_e c7 hf
        refine lv_iload hx hb dX11_where_49 (lv_at hl 0 rfl) ?_
        exact gretw_i E hlk hP hD hS hr dX11_where_51 (som_e hf)
    · replace hf := neg_e c4 hf
      refine lv_iconst (v := -1) hx hb dX11_where_23 (by decide) ?_
      exact gretw_i E hlk hP hD hS hr dX11_where_24 (som_e hf)
noncomputable def fX11_canAny_J55 (x4 : Int32) (rec_15 : Int32 → St → Option (Int32 × St)) (σ8 : St) : Option (Int32 × St) :=
  nmv (x4 + 1) fun v9 =>
  rec_15 v9 σ8
noncomputable def fX11_canAny_L15B (a1 : Int32) (x1 : Int32) (K_15 : St → Option (Int32 × St)) (rec_15 : Int32 → St → Option (Int32 × St)) (x4 : Int32) (σ5 : St) : Option (Int32 × St) :=
  if (gI σ5 0 0 8) ≤ x4 then
  K_15 σ5
  else
  bd (fX3_isSplit σ5 0 x1) fun r7 =>
  if r7 = 0 then
  bd (fX3_spanOf σ5 0 x1 a1 x4) fun r11 =>
  bd (fX9_pairs r11 0) fun r12 =>
  if r12 ≤ 0 then
  fX11_canAny_J55 x4 rec_15 r11
  else
  some (1, r11)
  else
  fX11_canAny_J55 x4 rec_15 σ5
noncomputable def fX11_canAny_L15 (a1 : Int32) (x1 : Int32) (K_15 : St → Option (Int32 × St)) : Nat → Int32 → St → Option (Int32 × St)
  | 0 => fun _ _ => none
  | n + 1 => fX11_canAny_L15B a1 x1 K_15 (fX11_canAny_L15 a1 x1 K_15 n)
noncomputable def fX11_canAny_L2B (a1 : Int32) (K_2 : St → Option (Int32 × St)) (rec_2 : Int32 → St → Option (Int32 × St)) (x1 : Int32) (σ2 : St) : Option (Int32 × St) :=
  if (gI σ2 0 0 0) ≤ x1 then
  K_2 σ2
  else
  fX11_canAny_L15 a1 x1 (fun σ14 => nmv (x1 + 1) fun v15 =>
  rec_2 v15 σ14) FU 0 σ2
noncomputable def fX11_canAny_L2 (a1 : Int32) (K_2 : St → Option (Int32 × St)) : Nat → Int32 → St → Option (Int32 × St)
  | 0 => fun _ _ => none
  | n + 1 => fX11_canAny_L2B a1 K_2 (fX11_canAny_L2 a1 K_2 n)
noncomputable def fX11_canAny (σ : St) (a1 : Int32) : Option (Int32 × St) :=
  fX11_canAny_L2 a1 (fun σ16 => some (0, σ16)) FU 0 σ
def rX11_canAny : Room := { frames := 4, cells := 0, slots := 0, locals := 94 }
set_option maxHeartbeats 4000000 in
set_option maxRecDepth 100000 in
theorem cX11_canAnyc {l : Launch} {dC : Nat → ClassId} {dI : Nat → Nat → Nat} {ks : Nat → ClassId} {ad : Nat → Nat → Nat} {σ : St} (a1 : Int32)  {out : Int32 × St} (hf : fX11_canAny σ a1 = some out) : MWi l dC dI ks ad σ yX11_canAny cX11_canAny 4 (some .boolean) rX11_canAny [.ref (ad 0 0), .int a1] out := by
  intro sz
  refine met_w (Qc := fun A => va_Qi (fun r σ' => r = out.1 ∧ σ' = out.2) (gBw dC dI ks ad A) A) (own := RX11) (by decide) rfl (Nat.le_of_ble_eq_true rfl) ?_
  intro A p e s m args below meth c ls E hr hlk hA hP hD hS hK hl
  have hx := E.1
  have hb := E.2.1
  have hl : lv_has ls 4 [(0, .ref (ad 0 0)), (1, .int a1)] := hl
  unfold fX11_canAny at hf
  refine lv_iconst (v := 0) hx hb dX11_canAny_0 (by decide) ?_
  refine lv_istore_n (lv' := [(2, .int 0), (0, .ref (ad 0 0)), (1, .int a1)]) hx hb dX11_canAny_1 rfl hl (by decide) rfl (fun ls hl => ?_)
  have loop_2 : ∀ (K_2 : St → Option (Int32 × St)) (hK_2 : (∀ (σ16 : St) (H : Heap) (locs : List Loc) (hP : va_P (dC, dI) vwCl (wG ks ad σ16) H) (hD : va_D A (wG ks ad σ16)) (hS : va_S A s.heap H locs) (hf : K_2 σ16 = some out) (ls : Array Slot), lv_has ls 4 [] → W p l e rX11_canAny s m args below meth c H locs 0 0 (MQ below (va_Qi (fun r σ' => r = out.1 ∧ σ' = out.2) (gBw dC dI ks ad A) A) args s 0 0 A) (F0 m 67 ls []))) (n_2 : Nat) (x1 : Int32) (σ2 : St) (H : Heap) (locs : List Loc) (hP : va_P (dC, dI) vwCl (wG ks ad σ2) H) (hD : va_D A (wG ks ad σ2)) (hS : va_S A s.heap H locs) (hf : fX11_canAny_L2 a1 K_2 n_2 x1 σ2 = some out) (ls : Array Slot), lv_has ls 4 [(0, .ref (ad 0 0)), (1, .int a1), (2, .int x1)] → W p l e rX11_canAny s m args below meth c H locs 0 0 (MQ below (va_Qi (fun r σ' => r = out.1 ∧ σ' = out.2) (gBw dC dI ks ad A) A) args s 0 0 A) (F0 m 2 ls []) := by
    intro K_2 hK_2 n_2
    induction n_2 with
    | zero => intro x1 σ2 H locs hP hD hS hf; cases hf
    | succ n_2 ih_2 =>
      intro x1 σ2 H locs hP hD hS hf ls hl
      have hf : fX11_canAny_L2B a1 K_2 (fX11_canAny_L2 a1 K_2 n_2) x1 σ2 = some out := hf
      unfold fX11_canAny_L2B at hf
      refine lv_iload_n hx hb dX11_canAny_2 rfl (lv_at hl 2 rfl) ?_
      refine lv_aload_n hx hb dX11_canAny_3 rfl (lv_at hl 0 rfl) ?_
      refine gget E in_X11 hK hP (q_main ks ad σ2) rfl (k := 0) (by decide) wd_1_145 rfl (v := .ref (ad 1 0)) rfl dX11_canAny_4 ?_
      refine gget E in_X3 hK hP (qh_0 ks ad σ2 (by decide : (0 : Nat) < 3)) rfl (k := 0) (by decide) wd_1_73 rfl (v := .int (gI σ2 0 0 0)) rfl dX11_canAny_7 ?_
      refine lv_icmp_ge (tgt := 67) hx hb dX11_canAny_10 (by decide) (fun c3 => ?_) (fun c3 => ?_)
      · replace hf := pos_e c3 hf
        exact hK_2 _ _ _ hP hD hS hf _ (lv_sub hl [] rfl)
      · replace hf := neg_e c3 hf
        refine lv_iconst (v := 0) hx hb dX11_canAny_13 (by decide) ?_
        refine lv_istore_n (lv' := [(3, .int 0), (0, .ref (ad 0 0)), (1, .int a1), (2, .int x1)]) hx hb dX11_canAny_14 rfl hl (by decide) rfl (fun ls hl => ?_)
        have loop_15 : ∀ (K_15 : St → Option (Int32 × St)) (hK_15 : (∀ (σ14 : St) (H : Heap) (locs : List Loc) (hP : va_P (dC, dI) vwCl (wG ks ad σ14) H) (hD : va_D A (wG ks ad σ14)) (hS : va_S A s.heap H locs) (hf : K_15 σ14 = some out) (ls : Array Slot), lv_has ls 4 [(0, .ref (ad 0 0)), (1, .int a1), (2, .int x1)] → W p l e rX11_canAny s m args below meth c H locs 0 0 (MQ below (va_Qi (fun r σ' => r = out.1 ∧ σ' = out.2) (gBw dC dI ks ad A) A) args s 0 0 A) (F0 m 61 ls []))) (n_15 : Nat) (x4 : Int32) (σ5 : St) (H : Heap) (locs : List Loc) (hP : va_P (dC, dI) vwCl (wG ks ad σ5) H) (hD : va_D A (wG ks ad σ5)) (hS : va_S A s.heap H locs) (hf : fX11_canAny_L15 a1 x1 K_15 n_15 x4 σ5 = some out) (ls : Array Slot), lv_has ls 4 [(0, .ref (ad 0 0)), (1, .int a1), (2, .int x1), (3, .int x4)] → W p l e rX11_canAny s m args below meth c H locs 0 0 (MQ below (va_Qi (fun r σ' => r = out.1 ∧ σ' = out.2) (gBw dC dI ks ad A) A) args s 0 0 A) (F0 m 15 ls []) := by
          intro K_15 hK_15 n_15
          induction n_15 with
          | zero => intro x4 σ5 H locs hP hD hS hf; cases hf
          | succ n_15 ih_15 =>
            intro x4 σ5 H locs hP hD hS hf ls hl
            have hf : fX11_canAny_L15B a1 x1 K_15 (fX11_canAny_L15 a1 x1 K_15 n_15) x4 σ5 = some out := hf
            unfold fX11_canAny_L15B at hf
            refine lv_iload_n hx hb dX11_canAny_15 rfl (lv_at hl 3 rfl) ?_
            refine lv_aload_n hx hb dX11_canAny_16 rfl (lv_at hl 0 rfl) ?_
            refine gget E in_X11 hK hP (q_main ks ad σ5) rfl (k := 0) (by decide) wd_1_145 rfl (v := .ref (ad 1 0)) rfl dX11_canAny_17 ?_
            refine gget E in_X3 hK hP (qh_0 ks ad σ5 (by decide : (0 : Nat) < 3)) rfl (k := 8) (by decide) wd_1_89 rfl (v := .int (gI σ5 0 0 8)) rfl dX11_canAny_20 ?_
            refine lv_icmp_ge (tgt := 61) hx hb dX11_canAny_23 (by decide) (fun c6 => ?_) (fun c6 => ?_)
            · replace hf := pos_e c6 hf
              exact hK_15 _ _ _ hP hD hS hf _ (lv_sub hl [0, 1, 2] rfl)
            · replace hf := neg_e c6 hf
              refine lv_aload_n hx hb dX11_canAny_26 rfl (lv_at hl 0 rfl) ?_
              refine gget E in_X11 hK hP (q_main ks ad σ5) rfl (k := 0) (by decide) wd_1_145 rfl (v := .ref (ad 1 0)) rfl dX11_canAny_27 ?_
              refine lv_iload_n hx hb dX11_canAny_30 rfl (lv_at hl 2 rfl) ?_
              obtain ⟨r7, er7, hf⟩ := bd_e hf
              refine gVr_i E hK hP (cX3_isSplitc (by decide : (0 : Nat) < 3) _ er7) kV_X3_isSplit wd_2_102 rfl rfl (qh_0 ks ad σ5 (by decide : (0 : Nat) < 3)) rfl rfl rfl ⟨Nat.le_of_ble_eq_true rfl, Nat.le_of_ble_eq_true rfl⟩ ⟨Nat.zero_le _, Nat.zero_le _⟩ hl.1 (Nat.le_of_ble_eq_true rfl) rfl dX11_canAny_31 ?_
              have hJ_55 : ∀ (σ8 : St) (H : Heap) (locs : List Loc) (hP : va_P (dC, dI) vwCl (wG ks ad σ8) H) (hD : va_D A (wG ks ad σ8)) (hS : va_S A s.heap H locs) (hf : fX11_canAny_J55 x4 (fX11_canAny_L15 a1 x1 K_15 n_15) σ8 = some out) (ls : Array Slot), lv_has ls 4 [(0, .ref (ad 0 0)), (1, .int a1), (2, .int x1), (3, .int x4)] → W p l e rX11_canAny s m args below meth c H locs 0 0 (MQ below (va_Qi (fun r σ' => r = out.1 ∧ σ' = out.2) (gBw dC dI ks ad A) A) args s 0 0 A) (F0 m 55 ls []) := by
                intro σ8 H locs hP hD hS hf ls hl
                unfold fX11_canAny_J55 at hf
                obtain ⟨v9, ev9, hf⟩ := nmv_e hf
                refine lv_iinc (v := v9) (lv' := [(3, .int v9), (0, .ref (ad 0 0)), (1, .int a1), (2, .int x1)]) hx hb dX11_canAny_55 hl (k := 3) rfl (by rw [ev9]; rfl) (by decide) rfl (fun ls hl => ?_)
                refine lv_goto (tgt := 15) hx hb dX11_canAny_58 (by decide) ?_
                exact ih_15 _ _ _ _ hP hD hS hf _ (lv_sub hl [1, 2, 3, 0] rfl)
              refine lv_if_ne (tgt := 55) hx hb dX11_canAny_34 (by decide) (fun c10 => ?_) (fun c10 => ?_)
              · replace hf := neg_e c10 hf
                exact hJ_55 _ _ _ hP hD hS hf _ (lv_sub hl [0, 1, 2, 3] rfl)
              · replace hf := pos_e c10 hf
                refine lv_aload_n hx hb dX11_canAny_37 rfl (lv_at hl 0 rfl) ?_
                refine gget E in_X11 hK hP (q_main ks ad σ5) rfl (k := 0) (by decide) wd_1_145 rfl (v := .ref (ad 1 0)) rfl dX11_canAny_38 ?_
                refine lv_iload_n hx hb dX11_canAny_41 rfl (lv_at hl 2 rfl) ?_
                refine lv_iload_n hx hb dX11_canAny_42 rfl (lv_at hl 1 rfl) ?_
                refine lv_iload_n hx hb dX11_canAny_43 rfl (lv_at hl 3 rfl) ?_
                obtain ⟨r11, er11, hf⟩ := bd_e hf
                refine gVw_f E hK hP hD hS hA (cX3_spanOfc (by decide : (0 : Nat) < 3) _ _ _ er11) kV_X3_spanOf wd_2_179 rfl rfl (qh_0 ks ad σ5 (by decide : (0 : Nat) < 3)) rfl rfl rfl ⟨Nat.le_of_ble_eq_true rfl, Nat.le_of_ble_eq_true rfl⟩ ⟨Nat.zero_le _, Nat.zero_le _⟩ hl.1 (Nat.le_of_ble_eq_true rfl) rfl dX11_canAny_44 (fun H locs hP hD hS => ?_)
                obtain ⟨r12, er12, hf⟩ := bd_e hf
                refine gVr_i E hK hP (cX9_pairsc (by decide : (0 : Nat) < 3) er12) kV_X9_pairs wd_3_78 rfl rfl (qh_8 ks ad r11 (by decide : (0 : Nat) < 3)) rfl rfl rfl ⟨Nat.le_of_ble_eq_true rfl, Nat.le_of_ble_eq_true rfl⟩ ⟨Nat.zero_le _, Nat.zero_le _⟩ hl.1 (Nat.le_of_ble_eq_true rfl) rfl dX11_canAny_47 ?_
                refine lv_if_le (tgt := 55) hx hb dX11_canAny_50 (by decide) (fun c13 => ?_) (fun c13 => ?_)
                · replace hf := pos_e c13 hf
                  exact hJ_55 _ _ _ hP hD hS hf _ (lv_sub hl [0, 1, 2, 3] rfl)
                · replace hf := neg_e c13 hf
                  refine lv_iconst (v := 1) hx hb dX11_canAny_53 (by decide) ?_
                  exact gretw_z rfl E hlk hP hD hS hr dX11_canAny_54 (som_e hf)
        refine loop_15 _ (fun σ14 H locs hP hD hS hf ls hl => ?_) _ _ _ _ _ hP hD hS hf _ (lv_sub hl [1, 2, 3, 0] rfl)
        obtain ⟨v15, ev15, hf⟩ := nmv_e hf
        refine lv_iinc (v := v15) (lv' := [(2, .int v15), (0, .ref (ad 0 0)), (1, .int a1)]) hx hb dX11_canAny_61 hl (k := 2) rfl (by rw [ev15]; rfl) (by decide) rfl (fun ls hl => ?_)
        refine lv_goto (tgt := 2) hx hb dX11_canAny_64 (by decide) ?_
        exact ih_2 _ _ _ _ hP hD hS hf _ (lv_sub hl [1, 2, 0] rfl)
  refine loop_2 _ (fun σ16 H locs hP hD hS hf ls hl => ?_) _ _ _ _ _ hP hD hS hf _ (lv_sub hl [1, 2, 0] rfl)
  refine lv_iconst (v := 0) hx hb dX11_canAny_67 (by decide) ?_
  exact gretw_z rfl E hlk hP hD hS hr dX11_canAny_68 (som_e hf)
noncomputable def fX11_whoCan_J29 (x2 : Int32) (rec_4 : Int32 → Int32 → St → Option (Int32 × St)) (z6 : Int32) (σ7 : St) : Option (Int32 × St) :=
  nmv (x2 + 1) fun v8 =>
  rec_4 z6 v8 σ7
noncomputable def fX11_whoCan_L4B (K_4 : Int32 → St → Option (Int32 × St)) (rec_4 : Int32 → Int32 → St → Option (Int32 × St)) (x1 : Int32) (x2 : Int32) (σ3 : St) : Option (Int32 × St) :=
  if (gI σ3 0 0 5) ≤ x2 then
  K_4 x1 σ3
  else
  bd (fX11_canAny σ3 x2) fun r5 =>
  if r5.1 = 0 then
  fX11_whoCan_J29 x2 rec_4 x1 r5.2
  else
  nmv (x1 ||| ((1 : Int32) <<< (x2 &&& 31))) fun v10 =>
  fX11_whoCan_J29 x2 rec_4 v10 r5.2
noncomputable def fX11_whoCan_L4 (K_4 : Int32 → St → Option (Int32 × St)) : Nat → Int32 → Int32 → St → Option (Int32 × St)
  | 0 => fun _ _ _ => none
  | n + 1 => fX11_whoCan_L4B K_4 (fX11_whoCan_L4 K_4 n)
noncomputable def fX11_whoCan (σ : St) : Option (Int32 × St) :=
  fX11_whoCan_L4 (fun y11 σ12 => some (y11, σ12)) FU 0 0 σ
def rX11_whoCan : Room := { frames := 5, cells := 0, slots := 0, locals := 117 }
set_option maxHeartbeats 4000000 in
set_option maxRecDepth 100000 in
theorem cX11_whoCanc {l : Launch} {dC : Nat → ClassId} {dI : Nat → Nat → Nat} {ks : Nat → ClassId} {ad : Nat → Nat → Nat} {σ : St}   {out : Int32 × St} (hf : fX11_whoCan σ = some out) : MWi l dC dI ks ad σ yX11_whoCan cX11_whoCan 3 (some .int) rX11_whoCan [.ref (ad 0 0)] out := by
  intro sz
  refine met_w (Qc := fun A => va_Qi (fun r σ' => r = out.1 ∧ σ' = out.2) (gBw dC dI ks ad A) A) (own := RX11) (by decide) rfl (Nat.le_of_ble_eq_true rfl) ?_
  intro A p e s m args below meth c ls E hr hlk hA hP hD hS hK hl
  have hx := E.1
  have hb := E.2.1
  have hl : lv_has ls 3 [(0, .ref (ad 0 0))] := hl
  unfold fX11_whoCan at hf
  refine lv_iconst (v := 0) hx hb dX11_whoCan_0 (by decide) ?_
  refine lv_istore_n (lv' := [(1, .int 0), (0, .ref (ad 0 0))]) hx hb dX11_whoCan_1 rfl hl (by decide) rfl (fun ls hl => ?_)
  refine lv_iconst (v := 0) hx hb dX11_whoCan_2 (by decide) ?_
  refine lv_istore_n (lv' := [(2, .int 0), (1, .int 0), (0, .ref (ad 0 0))]) hx hb dX11_whoCan_3 rfl hl (by decide) rfl (fun ls hl => ?_)
  have loop_4 : ∀ (K_4 : Int32 → St → Option (Int32 × St)) (hK_4 : (∀ (y11 : Int32) (σ12 : St) (H : Heap) (locs : List Loc) (hP : va_P (dC, dI) vwCl (wG ks ad σ12) H) (hD : va_D A (wG ks ad σ12)) (hS : va_S A s.heap H locs) (hf : K_4 y11 σ12 = some out) (ls : Array Slot), lv_has ls 3 [(1, .int y11)] → W p l e rX11_whoCan s m args below meth c H locs 0 0 (MQ below (va_Qi (fun r σ' => r = out.1 ∧ σ' = out.2) (gBw dC dI ks ad A) A) args s 0 0 A) (F0 m 35 ls []))) (n_4 : Nat) (x1 : Int32) (x2 : Int32) (σ3 : St) (H : Heap) (locs : List Loc) (hP : va_P (dC, dI) vwCl (wG ks ad σ3) H) (hD : va_D A (wG ks ad σ3)) (hS : va_S A s.heap H locs) (hf : fX11_whoCan_L4 K_4 n_4 x1 x2 σ3 = some out) (ls : Array Slot), lv_has ls 3 [(0, .ref (ad 0 0)), (1, .int x1), (2, .int x2)] → W p l e rX11_whoCan s m args below meth c H locs 0 0 (MQ below (va_Qi (fun r σ' => r = out.1 ∧ σ' = out.2) (gBw dC dI ks ad A) A) args s 0 0 A) (F0 m 4 ls []) := by
    intro K_4 hK_4 n_4
    induction n_4 with
    | zero => intro x1 x2 σ3 H locs hP hD hS hf; cases hf
    | succ n_4 ih_4 =>
      intro x1 x2 σ3 H locs hP hD hS hf ls hl
      have hf : fX11_whoCan_L4B K_4 (fX11_whoCan_L4 K_4 n_4) x1 x2 σ3 = some out := hf
      unfold fX11_whoCan_L4B at hf
      refine lv_iload_n hx hb dX11_whoCan_4 rfl (lv_at hl 2 rfl) ?_
      refine lv_aload_n hx hb dX11_whoCan_5 rfl (lv_at hl 0 rfl) ?_
      refine gget E in_X11 hK hP (q_main ks ad σ3) rfl (k := 0) (by decide) wd_1_145 rfl (v := .ref (ad 1 0)) rfl dX11_whoCan_6 ?_
      refine gget E in_X3 hK hP (qh_0 ks ad σ3 (by decide : (0 : Nat) < 3)) rfl (k := 5) (by decide) wd_1_83 rfl (v := .int (gI σ3 0 0 5)) rfl dX11_whoCan_9 ?_
      refine lv_icmp_ge (tgt := 35) hx hb dX11_whoCan_12 (by decide) (fun c4 => ?_) (fun c4 => ?_)
      · replace hf := pos_e c4 hf
        exact hK_4 _ _ _ _ hP hD hS hf _ (lv_sub hl [1] rfl)
      · replace hf := neg_e c4 hf
        refine lv_aload_n hx hb dX11_whoCan_15 rfl (lv_at hl 0 rfl) ?_
        refine lv_iload_n hx hb dX11_whoCan_16 rfl (lv_at hl 2 rfl) ?_
        obtain ⟨r5, er5, hf⟩ := bd_e hf
        refine gVw_i E hK hP hD hS hA (cX11_canAnyc _ er5) kV_X11_canAny wd_3_98 rfl rfl (q_main ks ad σ3) rfl rfl rfl ⟨Nat.le_of_ble_eq_true rfl, Nat.le_of_ble_eq_true rfl⟩ ⟨Nat.zero_le _, Nat.zero_le _⟩ hl.1 (Nat.le_of_ble_eq_true rfl) rfl dX11_whoCan_17 (fun H locs hP hD hS => ?_)
        have hJ_29 : ∀ (z6 : Int32) (σ7 : St) (H : Heap) (locs : List Loc) (hP : va_P (dC, dI) vwCl (wG ks ad σ7) H) (hD : va_D A (wG ks ad σ7)) (hS : va_S A s.heap H locs) (hf : fX11_whoCan_J29 x2 (fX11_whoCan_L4 K_4 n_4) z6 σ7 = some out) (ls : Array Slot), lv_has ls 3 [(0, .ref (ad 0 0)), (1, .int z6), (2, .int x2)] → W p l e rX11_whoCan s m args below meth c H locs 0 0 (MQ below (va_Qi (fun r σ' => r = out.1 ∧ σ' = out.2) (gBw dC dI ks ad A) A) args s 0 0 A) (F0 m 29 ls []) := by
          intro z6 σ7 H locs hP hD hS hf ls hl
          unfold fX11_whoCan_J29 at hf
          obtain ⟨v8, ev8, hf⟩ := nmv_e hf
          refine lv_iinc (v := v8) (lv' := [(2, .int v8), (0, .ref (ad 0 0)), (1, .int z6)]) hx hb dX11_whoCan_29 hl (k := 2) rfl (by rw [ev8]; rfl) (by decide) rfl (fun ls hl => ?_)
          refine lv_goto (tgt := 4) hx hb dX11_whoCan_32 (by decide) ?_
          exact ih_4 _ _ _ _ _ hP hD hS hf _ (lv_sub hl [1, 2, 0] rfl)
        refine lv_if_eq (tgt := 29) hx hb dX11_whoCan_20 (by decide) (fun c9 => ?_) (fun c9 => ?_)
        · replace hf := pos_e c9 hf
          exact hJ_29 _ _ _ _ hP hD hS hf _ (lv_sub hl [0, 1, 2] rfl)
        · replace hf := neg_e c9 hf
          refine lv_iload_n hx hb dX11_whoCan_23 rfl (lv_at hl 1 rfl) ?_
          refine lv_iconst (v := 1) hx hb dX11_whoCan_24 (by decide) ?_
          refine lv_iload_n hx hb dX11_whoCan_25 rfl (lv_at hl 2 rfl) ?_
          refine lv_ishl hx hb dX11_whoCan_26 ?_
          refine lv_ior hx hb dX11_whoCan_27 ?_
          obtain ⟨v10, ev10, hf⟩ := nmv_e hf
          refine lv_nmi ev10 ?_
          refine lv_istore_n (lv' := [(1, .int v10), (0, .ref (ad 0 0)), (2, .int x2)]) hx hb dX11_whoCan_28 rfl hl (by decide) rfl (fun ls hl => ?_)
          exact hJ_29 _ _ _ _ hP hD hS hf _ (lv_sub hl [1, 0, 2] rfl)
  refine loop_4 _ (fun y11 σ12 H locs hP hD hS hf ls hl => ?_) _ _ _ _ _ _ hP hD hS hf _ (lv_sub hl [2, 1, 0] rfl)
  refine lv_iload_n hx hb dX11_whoCan_35 rfl (lv_at hl 0 rfl) ?_
  exact gretw_i E hlk hP hD hS hr dX11_whoCan_36 (som_e hf)
noncomputable def fX11_which_J91 (x7 : Int32) (rec_33 : Int32 → Int32 → Int32 → St → Option (Int32 × St)) (z13 : Int32) (z14 : Int32) (σ15 : St) : Option (Int32 × St) :=
  nmv (x7 + 1) fun v16 =>
  rec_33 z13 z14 v16 σ15
noncomputable def fX11_which_J75 (x5 : Int32) (x6 : Int32) (x7 : Int32) (rec_33 : Int32 → Int32 → Int32 → St → Option (Int32 × St)) (z11 : Int32) (σ12 : St) : Option (Int32 × St) :=
  if z11 ≤ x6 then
  fX11_which_J91 x7 rec_33 x5 x6 σ12
  else
  fX11_which_J91 x7 rec_33 x7 z11 σ12
noncomputable def fX11_which_L33B (a1 : Int32) (a2 : Int32) (K_33 : Int32 → St → Option (Int32 × St)) (rec_33 : Int32 → Int32 → Int32 → St → Option (Int32 × St)) (x5 : Int32) (x6 : Int32) (x7 : Int32) (σ8 : St) : Option (Int32 × St) :=
  if (gI σ8 0 0 0) ≤ x7 then
  K_33 x5 σ8
  else
  bd (fX3_isSplit σ8 0 x7) fun r10 =>
  if r10 = 0 then
  bd (fX3_spanOf σ8 0 x7 a1 a2) fun r19 =>
  bd (fX9_pairs r19 0) fun r20 =>
  fX11_which_J75 x5 x6 x7 rec_33 r20 r19
  else
  fX11_which_J75 x5 x6 x7 rec_33 0 σ8
noncomputable def fX11_which_L33 (a1 : Int32) (a2 : Int32) (K_33 : Int32 → St → Option (Int32 × St)) : Nat → Int32 → Int32 → Int32 → St → Option (Int32 × St)
  | 0 => fun _ _ _ _ => none
  | n + 1 => fX11_which_L33B a1 a2 K_33 (fX11_which_L33 a1 a2 K_33 n)
noncomputable def fX11_which (σ : St) (a1 : Int32) (a2 : Int32) : Option (Int32 × St) :=
  bd (fX3_hasThumbs σ 0 a1) fun r1 =>
  if r1 = 0 then
  some ((-1), σ)
  else
  bd (fX3_hasBlow σ 0 a2) fun r3 =>
  if r3 = 0 then
  some ((-1), σ)
  else
  fX11_which_L33 a1 a2 (fun y21 σ22 => some (y21, σ22)) FU (-4) 0 0 σ
def rX11_which : Room := { frames := 4, cells := 0, slots := 0, locals := 94 }
set_option maxHeartbeats 4000000 in
set_option maxRecDepth 100000 in
theorem cX11_whichc {l : Launch} {dC : Nat → ClassId} {dI : Nat → Nat → Nat} {ks : Nat → ClassId} {ad : Nat → Nat → Nat} {σ : St} (a1 : Int32) (a2 : Int32)  {out : Int32 × St} (hf : fX11_which σ a1 a2 = some out) : MWi l dC dI ks ad σ yX11_which cX11_which 7 (some .int) rX11_which [.ref (ad 0 0), .int a1, .int a2] out := by
  intro sz
  refine met_w (Qc := fun A => va_Qi (fun r σ' => r = out.1 ∧ σ' = out.2) (gBw dC dI ks ad A) A) (own := RX11) (by decide) rfl (Nat.le_of_ble_eq_true rfl) ?_
  intro A p e s m args below meth c ls E hr hlk hA hP hD hS hK hl
  have hx := E.1
  have hb := E.2.1
  have hl : lv_has ls 7 [(0, .ref (ad 0 0)), (1, .int a1), (2, .int a2)] := hl
  unfold fX11_which at hf
  refine lv_aload_n hx hb dX11_which_0 rfl (lv_at hl 0 rfl) ?_
  refine gget E in_X11 hK hP (q_main ks ad σ) rfl (k := 0) (by decide) wd_1_145 rfl (v := .ref (ad 1 0)) rfl dX11_which_1 ?_
  refine lv_iload_n hx hb dX11_which_4 rfl (lv_at hl 1 rfl) ?_
  obtain ⟨r1, er1, hf⟩ := bd_e hf
  refine gVr_i E hK hP (cX3_hasThumbsc (by decide : (0 : Nat) < 3) _ er1) kV_X3_hasThumbs wd_2_149 rfl rfl (qh_0 ks ad σ (by decide : (0 : Nat) < 3)) rfl rfl rfl ⟨Nat.le_of_ble_eq_true rfl, Nat.le_of_ble_eq_true rfl⟩ ⟨Nat.zero_le _, Nat.zero_le _⟩ hl.1 (Nat.le_of_ble_eq_true rfl) rfl dX11_which_5 ?_
  refine lv_if_eq (tgt := 22) hx hb dX11_which_8 (by decide) (fun c2 => ?_) (fun c2 => ?_)
  · replace hf := pos_e c2 hf
    refine lv_iconst (v := -1) hx hb dX11_which_22 (by decide) ?_
    exact gretw_i E hlk hP hD hS hr dX11_which_23 (som_e hf)
  · replace hf := neg_e c2 hf
    refine lv_aload_n hx hb dX11_which_11 rfl (lv_at hl 0 rfl) ?_
    refine gget E in_X11 hK hP (q_main ks ad σ) rfl (k := 0) (by decide) wd_1_145 rfl (v := .ref (ad 1 0)) rfl dX11_which_12 ?_
    refine lv_iload_n hx hb dX11_which_15 rfl (lv_at hl 2 rfl) ?_
    obtain ⟨r3, er3, hf⟩ := bd_e hf
    refine gVr_i E hK hP (cX3_hasBlowc (by decide : (0 : Nat) < 3) _ er3) kV_X3_hasBlow wd_2_154 rfl rfl (qh_0 ks ad σ (by decide : (0 : Nat) < 3)) rfl rfl rfl ⟨Nat.le_of_ble_eq_true rfl, Nat.le_of_ble_eq_true rfl⟩ ⟨Nat.zero_le _, Nat.zero_le _⟩ hl.1 (Nat.le_of_ble_eq_true rfl) rfl dX11_which_16 ?_
    refine lv_if_ne (tgt := 24) hx hb dX11_which_19 (by decide) (fun c4 => ?_) (fun c4 => ?_)
    · replace hf := neg_e c4 hf
      refine lv_bipush (v := -4) hx hb dX11_which_24 (by decide) ?_
      refine lv_istore_n (lv' := [(3, .int (-4)), (0, .ref (ad 0 0)), (1, .int a1), (2, .int a2)]) hx hb dX11_which_26 rfl hl (by decide) rfl (fun ls hl => ?_)
      refine lv_iconst (v := 0) hx hb dX11_which_27 (by decide) ?_
      refine lv_istore (lv' := [(4, .int 0), (3, .int (-4)), (0, .ref (ad 0 0)), (1, .int a1), (2, .int a2)]) hx hb dX11_which_28 hl (by decide) rfl (fun ls hl => ?_)
      refine lv_iconst (v := 0) hx hb dX11_which_30 (by decide) ?_
      refine lv_istore (lv' := [(5, .int 0), (4, .int 0), (3, .int (-4)), (0, .ref (ad 0 0)), (1, .int a1), (2, .int a2)]) hx hb dX11_which_31 hl (by decide) rfl (fun ls hl => ?_)
      have loop_33 : ∀ (K_33 : Int32 → St → Option (Int32 × St)) (hK_33 : (∀ (y21 : Int32) (σ22 : St) (H : Heap) (locs : List Loc) (hP : va_P (dC, dI) vwCl (wG ks ad σ22) H) (hD : va_D A (wG ks ad σ22)) (hS : va_S A s.heap H locs) (hf : K_33 y21 σ22 = some out) (ls : Array Slot), lv_has ls 7 [(3, .int y21)] → W p l e rX11_which s m args below meth c H locs 0 0 (MQ below (va_Qi (fun r σ' => r = out.1 ∧ σ' = out.2) (gBw dC dI ks ad A) A) args s 0 0 A) (F0 m 97 ls []))) (n_33 : Nat) (x5 : Int32) (x6 : Int32) (x7 : Int32) (σ8 : St) (H : Heap) (locs : List Loc) (hP : va_P (dC, dI) vwCl (wG ks ad σ8) H) (hD : va_D A (wG ks ad σ8)) (hS : va_S A s.heap H locs) (hf : fX11_which_L33 a1 a2 K_33 n_33 x5 x6 x7 σ8 = some out) (ls : Array Slot), lv_has ls 7 [(0, .ref (ad 0 0)), (1, .int a1), (2, .int a2), (3, .int x5), (4, .int x6), (5, .int x7)] → W p l e rX11_which s m args below meth c H locs 0 0 (MQ below (va_Qi (fun r σ' => r = out.1 ∧ σ' = out.2) (gBw dC dI ks ad A) A) args s 0 0 A) (F0 m 33 ls []) := by
        intro K_33 hK_33 n_33
        induction n_33 with
        | zero => intro x5 x6 x7 σ8 H locs hP hD hS hf; cases hf
        | succ n_33 ih_33 =>
          intro x5 x6 x7 σ8 H locs hP hD hS hf ls hl
          have hf : fX11_which_L33B a1 a2 K_33 (fX11_which_L33 a1 a2 K_33 n_33) x5 x6 x7 σ8 = some out := hf
          unfold fX11_which_L33B at hf
          refine lv_iload hx hb dX11_which_33 (lv_at hl 5 rfl) ?_
          refine lv_aload_n hx hb dX11_which_35 rfl (lv_at hl 0 rfl) ?_
          refine gget E in_X11 hK hP (q_main ks ad σ8) rfl (k := 0) (by decide) wd_1_145 rfl (v := .ref (ad 1 0)) rfl dX11_which_36 ?_
          refine gget E in_X3 hK hP (qh_0 ks ad σ8 (by decide : (0 : Nat) < 3)) rfl (k := 0) (by decide) wd_1_73 rfl (v := .int (gI σ8 0 0 0)) rfl dX11_which_39 ?_
          refine lv_icmp_ge (tgt := 97) hx hb dX11_which_42 (by decide) (fun c9 => ?_) (fun c9 => ?_)
          · replace hf := pos_e c9 hf
            exact hK_33 _ _ _ _ hP hD hS hf _ (lv_sub hl [3] rfl)
          · replace hf := neg_e c9 hf
            refine lv_aload_n hx hb dX11_which_45 rfl (lv_at hl 0 rfl) ?_
            refine gget E in_X11 hK hP (q_main ks ad σ8) rfl (k := 0) (by decide) wd_1_145 rfl (v := .ref (ad 1 0)) rfl dX11_which_46 ?_
            refine lv_iload hx hb dX11_which_49 (lv_at hl 5 rfl) ?_
            obtain ⟨r10, er10, hf⟩ := bd_e hf
            refine gVr_i E hK hP (cX3_isSplitc (by decide : (0 : Nat) < 3) _ er10) kV_X3_isSplit wd_2_102 rfl rfl (qh_0 ks ad σ8 (by decide : (0 : Nat) < 3)) rfl rfl rfl ⟨Nat.le_of_ble_eq_true rfl, Nat.le_of_ble_eq_true rfl⟩ ⟨Nat.zero_le _, Nat.zero_le _⟩ hl.1 (Nat.le_of_ble_eq_true rfl) rfl dX11_which_51 ?_
            have hJ_75 : ∀ (z11 : Int32) (σ12 : St) (H : Heap) (locs : List Loc) (hP : va_P (dC, dI) vwCl (wG ks ad σ12) H) (hD : va_D A (wG ks ad σ12)) (hS : va_S A s.heap H locs) (hf : fX11_which_J75 x5 x6 x7 (fX11_which_L33 a1 a2 K_33 n_33) z11 σ12 = some out) (ls : Array Slot), lv_has ls 7 [(0, .ref (ad 0 0)), (1, .int a1), (2, .int a2), (3, .int x5), (4, .int x6), (5, .int x7)] → W p l e rX11_which s m args below meth c H locs 0 0 (MQ below (va_Qi (fun r σ' => r = out.1 ∧ σ' = out.2) (gBw dC dI ks ad A) A) args s 0 0 A) (F0 m 75 ls [.int z11]) := by
              intro z11 σ12 H locs hP hD hS hf ls hl
              unfold fX11_which_J75 at hf
              refine lv_istore (lv' := [(6, .int z11), (0, .ref (ad 0 0)), (1, .int a1), (2, .int a2), (3, .int x5), (4, .int x6), (5, .int x7)]) hx hb dX11_which_75 hl (by decide) rfl (fun ls hl => ?_)
              refine lv_iload hx hb dX11_which_77 (lv_at hl 0 rfl) ?_
              refine lv_iload hx hb dX11_which_79 (lv_at hl 5 rfl) ?_
              have hJ_91 : ∀ (z13 : Int32) (z14 : Int32) (σ15 : St) (H : Heap) (locs : List Loc) (hP : va_P (dC, dI) vwCl (wG ks ad σ15) H) (hD : va_D A (wG ks ad σ15)) (hS : va_S A s.heap H locs) (hf : fX11_which_J91 x7 (fX11_which_L33 a1 a2 K_33 n_33) z13 z14 σ15 = some out) (ls : Array Slot), lv_has ls 7 [(0, .ref (ad 0 0)), (1, .int a1), (2, .int a2), (3, .int z13), (4, .int z14), (5, .int x7)] → W p l e rX11_which s m args below meth c H locs 0 0 (MQ below (va_Qi (fun r σ' => r = out.1 ∧ σ' = out.2) (gBw dC dI ks ad A) A) args s 0 0 A) (F0 m 91 ls []) := by
                intro z13 z14 σ15 H locs hP hD hS hf ls hl
                unfold fX11_which_J91 at hf
                obtain ⟨v16, ev16, hf⟩ := nmv_e hf
                refine lv_iinc (v := v16) (lv' := [(5, .int v16), (0, .ref (ad 0 0)), (1, .int a1), (2, .int a2), (3, .int z13), (4, .int z14)]) hx hb dX11_which_91 hl (k := 5) rfl (by rw [ev16]; rfl) (by decide) rfl (fun ls hl => ?_)
                refine lv_goto (tgt := 33) hx hb dX11_which_94 (by decide) ?_
                exact ih_33 _ _ _ _ _ _ hP hD hS hf _ (lv_sub hl [1, 2, 3, 4, 5, 0] rfl)
              refine lv_icmp_le (tgt := 91) hx hb dX11_which_81 (by decide) (fun c17 => ?_) (fun c17 => ?_)
              · replace hf := pos_e c17 hf
                exact hJ_91 _ _ _ _ _ hP hD hS hf _ (lv_sub hl [1, 2, 3, 4, 5, 6] rfl)
              · replace hf := neg_e c17 hf
                refine lv_iload hx hb dX11_which_84 (lv_at hl 0 rfl) ?_
                refine lv_istore (lv' := [(4, .int z11), (6, .int z11), (0, .ref (ad 0 0)), (1, .int a1), (2, .int a2), (3, .int x5), (5, .int x7)]) hx hb dX11_which_86 hl (by decide) rfl (fun ls hl => ?_)
                refine lv_iload hx hb dX11_which_88 (lv_at hl 6 rfl) ?_
                refine lv_istore_n (lv' := [(3, .int x7), (4, .int z11), (6, .int z11), (0, .ref (ad 0 0)), (1, .int a1), (2, .int a2), (5, .int x7)]) hx hb dX11_which_90 rfl hl (by decide) rfl (fun ls hl => ?_)
                exact hJ_91 _ _ _ _ _ hP hD hS hf _ (lv_sub hl [3, 4, 5, 0, 1, 6] rfl)
            refine lv_if_eq (tgt := 61) hx hb dX11_which_54 (by decide) (fun c18 => ?_) (fun c18 => ?_)
            · replace hf := pos_e c18 hf
              refine lv_aload_n hx hb dX11_which_61 rfl (lv_at hl 0 rfl) ?_
              refine gget E in_X11 hK hP (q_main ks ad σ8) rfl (k := 0) (by decide) wd_1_145 rfl (v := .ref (ad 1 0)) rfl dX11_which_62 ?_
              refine lv_iload hx hb dX11_which_65 (lv_at hl 5 rfl) ?_
              refine lv_iload_n hx hb dX11_which_67 rfl (lv_at hl 1 rfl) ?_
              refine lv_iload_n hx hb dX11_which_68 rfl (lv_at hl 2 rfl) ?_
              obtain ⟨r19, er19, hf⟩ := bd_e hf
              refine gVw_f E hK hP hD hS hA (cX3_spanOfc (by decide : (0 : Nat) < 3) _ _ _ er19) kV_X3_spanOf wd_2_179 rfl rfl (qh_0 ks ad σ8 (by decide : (0 : Nat) < 3)) rfl rfl rfl ⟨Nat.le_of_ble_eq_true rfl, Nat.le_of_ble_eq_true rfl⟩ ⟨Nat.zero_le _, Nat.zero_le _⟩ hl.1 (Nat.le_of_ble_eq_true rfl) rfl dX11_which_69 (fun H locs hP hD hS => ?_)
              obtain ⟨r20, er20, hf⟩ := bd_e hf
              refine gVr_i E hK hP (cX9_pairsc (by decide : (0 : Nat) < 3) er20) kV_X9_pairs wd_3_78 rfl rfl (qh_8 ks ad r19 (by decide : (0 : Nat) < 3)) rfl rfl rfl ⟨Nat.le_of_ble_eq_true rfl, Nat.le_of_ble_eq_true rfl⟩ ⟨Nat.zero_le _, Nat.zero_le _⟩ hl.1 (Nat.le_of_ble_eq_true rfl) rfl dX11_which_72 ?_
              exact hJ_75 _ _ _ _ hP hD hS hf _ (lv_sub hl [0, 1, 2, 3, 4, 5] rfl)
            · replace hf := neg_e c18 hf
              refine lv_iconst (v := 0) hx hb dX11_which_57 (by decide) ?_
              refine lv_goto (tgt := 75) hx hb dX11_which_58 (by decide) ?_
              exact hJ_75 _ _ _ _ hP hD hS hf _ (lv_sub hl [0, 1, 2, 3, 4, 5] rfl)
      refine loop_33 _ (fun y21 σ22 H locs hP hD hS hf ls hl => ?_) _ _ _ _ _ _ _ hP hD hS hf _ (lv_sub hl [3, 4, 5, 2, 1, 0] rfl)
      refine lv_iload_n hx hb dX11_which_97 rfl (lv_at hl 0 rfl) ?_
      exact gretw_i E hlk hP hD hS hr dX11_which_98 (som_e hf)
    · replace hf := pos_e c4 hf
      refine lv_iconst (v := -1) hx hb dX11_which_22 (by decide) ?_
      exact gretw_i E hlk hP hD hS hr dX11_which_23 (som_e hf)
noncomputable def fX11_wrong (σ : St) (a1 : Int32) (a2 : Int32) (a3 : Int32) (a4 : Int32) (a5 : Int32) : Option (Int32 × St) :=
  bd (fX3_hasAll σ 0 a1 a2 a3) fun r1 =>
  if r1 = 0 then
  some ((-1), σ)
  else
  bd (fX11_isOut σ a4 0 60) fun r3 =>
  if r3 = 0 then
  bd (fX11_isOut σ a5 0 60) fun r5 =>
  if r5 = 0 then
  bd (fX3_spanOf σ 0 a1 a2 a3) fun r7 =>
  bd (fX9_wrongBits r7 0 a4 a5) fun r8 =>
  some (r8, r7)
  else
  some ((-1), σ)
  else
  some ((-1), σ)
def rX11_wrong : Room := { frames := 4, cells := 0, slots := 0, locals := 94 }
set_option maxHeartbeats 4000000 in
set_option maxRecDepth 100000 in
theorem cX11_wrongc {l : Launch} {dC : Nat → ClassId} {dI : Nat → Nat → Nat} {ks : Nat → ClassId} {ad : Nat → Nat → Nat} {σ : St} (a1 : Int32) (a2 : Int32) (a3 : Int32) (a4 : Int32) (a5 : Int32)  {out : Int32 × St} (hf : fX11_wrong σ a1 a2 a3 a4 a5 = some out) : MWi l dC dI ks ad σ yX11_wrong cX11_wrong 6 (some .int) rX11_wrong [.ref (ad 0 0), .int a1, .int a2, .int a3, .int a4, .int a5] out := by
  intro sz
  refine met_w (Qc := fun A => va_Qi (fun r σ' => r = out.1 ∧ σ' = out.2) (gBw dC dI ks ad A) A) (own := RX11) (by decide) rfl (Nat.le_of_ble_eq_true rfl) ?_
  intro A p e s m args below meth c ls E hr hlk hA hP hD hS hK hl
  have hx := E.1
  have hb := E.2.1
  have hl : lv_has ls 6 [(0, .ref (ad 0 0)), (1, .int a1), (2, .int a2), (3, .int a3), (4, .int a4), (5, .int a5)] := hl
  unfold fX11_wrong at hf
  refine lv_aload_n hx hb dX11_wrong_0 rfl (lv_at hl 0 rfl) ?_
  refine gget E in_X11 hK hP (q_main ks ad σ) rfl (k := 0) (by decide) wd_1_145 rfl (v := .ref (ad 1 0)) rfl dX11_wrong_1 ?_
  refine lv_iload_n hx hb dX11_wrong_4 rfl (lv_at hl 1 rfl) ?_
  refine lv_iload_n hx hb dX11_wrong_5 rfl (lv_at hl 2 rfl) ?_
  refine lv_iload_n hx hb dX11_wrong_6 rfl (lv_at hl 3 rfl) ?_
  obtain ⟨r1, er1, hf⟩ := bd_e hf
  refine gVr_i E hK hP (cX3_hasAllc (by decide : (0 : Nat) < 3) _ _ _ er1) kV_X3_hasAll wd_2_86 rfl rfl (qh_0 ks ad σ (by decide : (0 : Nat) < 3)) rfl rfl rfl ⟨Nat.le_of_ble_eq_true rfl, Nat.le_of_ble_eq_true rfl⟩ ⟨Nat.zero_le _, Nat.zero_le _⟩ hl.1 (Nat.le_of_ble_eq_true rfl) rfl dX11_wrong_7 ?_
  refine lv_if_eq (tgt := 35) hx hb dX11_wrong_10 (by decide) (fun c2 => ?_) (fun c2 => ?_)
  · replace hf := pos_e c2 hf
    refine lv_iconst (v := -1) hx hb dX11_wrong_35 (by decide) ?_
    exact gretw_i E hlk hP hD hS hr dX11_wrong_36 (som_e hf)
  · replace hf := neg_e c2 hf
    refine lv_iload hx hb dX11_wrong_13 (lv_at hl 4 rfl) ?_
    refine lv_iconst (v := 0) hx hb dX11_wrong_15 (by decide) ?_
    refine lv_bipush (v := 60) hx hb dX11_wrong_16 (by decide) ?_
    obtain ⟨r3, er3, hf⟩ := bd_e hf
    refine gSr_i E hK hP (cX11_isOutc _ _ _ er3) kS_X11_isOut wd_1_178 rfl rfl rfl ⟨Nat.le_of_ble_eq_true rfl, Nat.le_of_ble_eq_true rfl⟩ ⟨Nat.zero_le _, Nat.zero_le _⟩ hl.1 (Nat.le_of_ble_eq_true rfl) rfl dX11_wrong_18 ?_
    refine lv_if_ne (tgt := 35) hx hb dX11_wrong_21 (by decide) (fun c4 => ?_) (fun c4 => ?_)
    · replace hf := neg_e c4 hf
      refine lv_iconst (v := -1) hx hb dX11_wrong_35 (by decide) ?_
      exact gretw_i E hlk hP hD hS hr dX11_wrong_36 (som_e hf)
    · replace hf := pos_e c4 hf
      refine lv_iload hx hb dX11_wrong_24 (lv_at hl 5 rfl) ?_
      refine lv_iconst (v := 0) hx hb dX11_wrong_26 (by decide) ?_
      refine lv_bipush (v := 60) hx hb dX11_wrong_27 (by decide) ?_
      obtain ⟨r5, er5, hf⟩ := bd_e hf
      refine gSr_i E hK hP (cX11_isOutc _ _ _ er5) kS_X11_isOut wd_1_178 rfl rfl rfl ⟨Nat.le_of_ble_eq_true rfl, Nat.le_of_ble_eq_true rfl⟩ ⟨Nat.zero_le _, Nat.zero_le _⟩ hl.1 (Nat.le_of_ble_eq_true rfl) rfl dX11_wrong_29 ?_
      refine lv_if_eq (tgt := 37) hx hb dX11_wrong_32 (by decide) (fun c6 => ?_) (fun c6 => ?_)
      · replace hf := pos_e c6 hf
        refine lv_aload_n hx hb dX11_wrong_37 rfl (lv_at hl 0 rfl) ?_
        refine gget E in_X11 hK hP (q_main ks ad σ) rfl (k := 0) (by decide) wd_1_145 rfl (v := .ref (ad 1 0)) rfl dX11_wrong_38 ?_
        refine lv_iload_n hx hb dX11_wrong_41 rfl (lv_at hl 1 rfl) ?_
        refine lv_iload_n hx hb dX11_wrong_42 rfl (lv_at hl 2 rfl) ?_
        refine lv_iload_n hx hb dX11_wrong_43 rfl (lv_at hl 3 rfl) ?_
        obtain ⟨r7, er7, hf⟩ := bd_e hf
        refine gVw_f E hK hP hD hS hA (cX3_spanOfc (by decide : (0 : Nat) < 3) _ _ _ er7) kV_X3_spanOf wd_2_179 rfl rfl (qh_0 ks ad σ (by decide : (0 : Nat) < 3)) rfl rfl rfl ⟨Nat.le_of_ble_eq_true rfl, Nat.le_of_ble_eq_true rfl⟩ ⟨Nat.zero_le _, Nat.zero_le _⟩ hl.1 (Nat.le_of_ble_eq_true rfl) rfl dX11_wrong_44 (fun H locs hP hD hS => ?_)
        refine lv_iload hx hb dX11_wrong_47 (lv_at hl 4 rfl) ?_
        refine lv_iload hx hb dX11_wrong_49 (lv_at hl 5 rfl) ?_
        obtain ⟨r8, er8, hf⟩ := bd_e hf
        refine gVr_i E hK hP (cX9_wrongBitsc (by decide : (0 : Nat) < 3) _ _ er8) kV_X9_wrongBits wd_3_31 rfl rfl (qh_8 ks ad r7 (by decide : (0 : Nat) < 3)) rfl rfl rfl ⟨Nat.le_of_ble_eq_true rfl, Nat.le_of_ble_eq_true rfl⟩ ⟨Nat.zero_le _, Nat.zero_le _⟩ hl.1 (Nat.le_of_ble_eq_true rfl) rfl dX11_wrong_51 ?_
        exact gretw_i E hlk hP hD hS hr dX11_wrong_54 (som_e hf)
      · replace hf := neg_e c6 hf
        refine lv_iconst (v := -1) hx hb dX11_wrong_35 (by decide) ?_
        exact gretw_i E hlk hP hD hS hr dX11_wrong_36 (som_e hf)
noncomputable def fX11_next (σ : St) (a1 : Int32) (a2 : Int32) (a3 : Int32) (a4 : Int32) (a5 : Int32) : Option (Int32 × St) :=
  nmv (a4 / 100) fun v1 =>
  nmv (a4 - a4 / 100 * 100) fun v2 =>
  bd (fX3_hasAll σ 0 a1 a2 a3) fun r3 =>
  if r3 = 0 then
  some ((-1), σ)
  else
  bd (fX11_isOut σ a5 0 1) fun r5 =>
  if r5 = 0 then
  bd (fX11_isOut σ v1 0 60) fun r7 =>
  if r7 = 0 then
  bd (fX11_isOut σ v2 0 60) fun r9 =>
  if r9 = 0 then
  bd (fX3_spanOf σ 0 a1 a2 a3) fun r11 =>
  bd (fX9_pairs r11 0) fun r12 =>
  if r12 = 0 then
  some ((-4), r11)
  else
  bd (fX9_topTight r11 0) fun r14 =>
  nmv (if v1 < r14 then v1 else r14) fun v15 =>
  nmv (if (gI r11 7 0 0) < v15 then v15 else gI r11 7 0 0) fun v16 =>
  bd (fX9_topForce r11 0) fun r17 =>
  nmv (if v2 < r17 then v2 else r17) fun v18 =>
  nmv (if (gI r11 7 0 3) < v18 then v18 else gI r11 7 0 3) fun v19 =>
  if a5 = 0 then
  some ((100 * v16) + v19, r11)
  else
  nmv (if 0 ≤ (v16 - v1) then v16 - v1 else 0 - (v16 - v1)) fun v21 =>
  nmv (if 0 ≤ (v19 - v2) then v19 - v2 else 0 - (v19 - v2)) fun v22 =>
  some (v21 + v22, r11)
  else
  some ((-1), σ)
  else
  some ((-1), σ)
  else
  some ((-1), σ)
def rX11_next : Room := { frames := 4, cells := 0, slots := 0, locals := 94 }
set_option maxHeartbeats 4000000 in
set_option maxRecDepth 100000 in
theorem cX11_nextc {l : Launch} {dC : Nat → ClassId} {dI : Nat → Nat → Nat} {ks : Nat → ClassId} {ad : Nat → Nat → Nat} {σ : St} (a1 : Int32) (a2 : Int32) (a3 : Int32) (a4 : Int32) (a5 : Int32)  {out : Int32 × St} (hf : fX11_next σ a1 a2 a3 a4 a5 = some out) : MWi l dC dI ks ad σ yX11_next cX11_next 11 (some .int) rX11_next [.ref (ad 0 0), .int a1, .int a2, .int a3, .int a4, .int a5] out := by
  intro sz
  refine met_w (Qc := fun A => va_Qi (fun r σ' => r = out.1 ∧ σ' = out.2) (gBw dC dI ks ad A) A) (own := RX11) (by decide) rfl (Nat.le_of_ble_eq_true rfl) ?_
  intro A p e s m args below meth c ls E hr hlk hA hP hD hS hK hl
  have hx := E.1
  have hb := E.2.1
  have hl : lv_has ls 11 [(0, .ref (ad 0 0)), (1, .int a1), (2, .int a2), (3, .int a3), (4, .int a4), (5, .int a5)] := hl
  unfold fX11_next at hf
  refine lv_iload hx hb dX11_next_0 (lv_at hl 4 rfl) ?_
  refine lv_bipush (v := 100) hx hb dX11_next_2 (by decide) ?_
  refine lv_idiv hx hb dX11_next_4 (by decide) ?_
  obtain ⟨v1, ev1, hf⟩ := nmv_e hf
  refine lv_nmi ev1 ?_
  refine lv_istore (lv' := [(6, .int v1), (0, .ref (ad 0 0)), (1, .int a1), (2, .int a2), (3, .int a3), (4, .int a4), (5, .int a5)]) hx hb dX11_next_5 hl (by decide) rfl (fun ls hl => ?_)
  refine lv_iload hx hb dX11_next_7 (lv_at hl 5 rfl) ?_
  refine lv_bipush (v := 100) hx hb dX11_next_9 (by decide) ?_
  refine lv_irem hx hb dX11_next_11 (by decide) ?_
  obtain ⟨v2, ev2, hf⟩ := nmv_e hf
  refine lv_nmi ev2 ?_
  refine lv_istore (lv' := [(7, .int v2), (6, .int v1), (0, .ref (ad 0 0)), (1, .int a1), (2, .int a2), (3, .int a3), (4, .int a4), (5, .int a5)]) hx hb dX11_next_12 hl (by decide) rfl (fun ls hl => ?_)
  refine lv_aload_n hx hb dX11_next_14 rfl (lv_at hl 2 rfl) ?_
  refine gget E in_X11 hK hP (q_main ks ad σ) rfl (k := 0) (by decide) wd_1_145 rfl (v := .ref (ad 1 0)) rfl dX11_next_15 ?_
  refine lv_iload_n hx hb dX11_next_18 rfl (lv_at hl 3 rfl) ?_
  refine lv_iload_n hx hb dX11_next_19 rfl (lv_at hl 4 rfl) ?_
  refine lv_iload_n hx hb dX11_next_20 rfl (lv_at hl 5 rfl) ?_
  obtain ⟨r3, er3, hf⟩ := bd_e hf
  refine gVr_i E hK hP (cX3_hasAllc (by decide : (0 : Nat) < 3) _ _ _ er3) kV_X3_hasAll wd_2_86 rfl rfl (qh_0 ks ad σ (by decide : (0 : Nat) < 3)) rfl rfl rfl ⟨Nat.le_of_ble_eq_true rfl, Nat.le_of_ble_eq_true rfl⟩ ⟨Nat.zero_le _, Nat.zero_le _⟩ hl.1 (Nat.le_of_ble_eq_true rfl) rfl dX11_next_21 ?_
  refine lv_if_eq (tgt := 59) hx hb dX11_next_24 (by decide) (fun c4 => ?_) (fun c4 => ?_)
  · replace hf := pos_e c4 hf
    refine lv_iconst (v := -1) hx hb dX11_next_59 (by decide) ?_
    exact gretw_i E hlk hP hD hS hr dX11_next_60 (som_e hf)
  · replace hf := neg_e c4 hf
    refine lv_iload hx hb dX11_next_27 (lv_at hl 7 rfl) ?_
    refine lv_iconst (v := 0) hx hb dX11_next_29 (by decide) ?_
    refine lv_iconst (v := 1) hx hb dX11_next_30 (by decide) ?_
    obtain ⟨r5, er5, hf⟩ := bd_e hf
    refine gSr_i E hK hP (cX11_isOutc _ _ _ er5) kS_X11_isOut wd_1_178 rfl rfl rfl ⟨Nat.le_of_ble_eq_true rfl, Nat.le_of_ble_eq_true rfl⟩ ⟨Nat.zero_le _, Nat.zero_le _⟩ hl.1 (Nat.le_of_ble_eq_true rfl) rfl dX11_next_31 ?_
    refine lv_if_ne (tgt := 59) hx hb dX11_next_34 (by decide) (fun c6 => ?_) (fun c6 => ?_)
    · replace hf := neg_e c6 hf
      refine lv_iconst (v := -1) hx hb dX11_next_59 (by decide) ?_
      exact gretw_i E hlk hP hD hS hr dX11_next_60 (som_e hf)
    · replace hf := pos_e c6 hf
      refine lv_iload hx hb dX11_next_37 (lv_at hl 1 rfl) ?_
      refine lv_iconst (v := 0) hx hb dX11_next_39 (by decide) ?_
      refine lv_bipush (v := 60) hx hb dX11_next_40 (by decide) ?_
      obtain ⟨r7, er7, hf⟩ := bd_e hf
      refine gSr_i E hK hP (cX11_isOutc _ _ _ er7) kS_X11_isOut wd_1_178 rfl rfl rfl ⟨Nat.le_of_ble_eq_true rfl, Nat.le_of_ble_eq_true rfl⟩ ⟨Nat.zero_le _, Nat.zero_le _⟩ hl.1 (Nat.le_of_ble_eq_true rfl) rfl dX11_next_42 ?_
      refine lv_if_ne (tgt := 59) hx hb dX11_next_45 (by decide) (fun c8 => ?_) (fun c8 => ?_)
      · replace hf := neg_e c8 hf
        refine lv_iconst (v := -1) hx hb dX11_next_59 (by decide) ?_
        exact gretw_i E hlk hP hD hS hr dX11_next_60 (som_e hf)
      · replace hf := pos_e c8 hf
        refine lv_iload hx hb dX11_next_48 (lv_at hl 0 rfl) ?_
        refine lv_iconst (v := 0) hx hb dX11_next_50 (by decide) ?_
        refine lv_bipush (v := 60) hx hb dX11_next_51 (by decide) ?_
        obtain ⟨r9, er9, hf⟩ := bd_e hf
        refine gSr_i E hK hP (cX11_isOutc _ _ _ er9) kS_X11_isOut wd_1_178 rfl rfl rfl ⟨Nat.le_of_ble_eq_true rfl, Nat.le_of_ble_eq_true rfl⟩ ⟨Nat.zero_le _, Nat.zero_le _⟩ hl.1 (Nat.le_of_ble_eq_true rfl) rfl dX11_next_53 ?_
        refine lv_if_eq (tgt := 61) hx hb dX11_next_56 (by decide) (fun c10 => ?_) (fun c10 => ?_)
        · replace hf := pos_e c10 hf
          refine lv_aload_n hx hb dX11_next_61 rfl (lv_at hl 2 rfl) ?_
          refine gget E in_X11 hK hP (q_main ks ad σ) rfl (k := 0) (by decide) wd_1_145 rfl (v := .ref (ad 1 0)) rfl dX11_next_62 ?_
          refine lv_iload_n hx hb dX11_next_65 rfl (lv_at hl 3 rfl) ?_
          refine lv_iload_n hx hb dX11_next_66 rfl (lv_at hl 4 rfl) ?_
          refine lv_iload_n hx hb dX11_next_67 rfl (lv_at hl 5 rfl) ?_
          obtain ⟨r11, er11, hf⟩ := bd_e hf
          refine gVw_f E hK hP hD hS hA (cX3_spanOfc (by decide : (0 : Nat) < 3) _ _ _ er11) kV_X3_spanOf wd_2_179 rfl rfl (qh_0 ks ad σ (by decide : (0 : Nat) < 3)) rfl rfl rfl ⟨Nat.le_of_ble_eq_true rfl, Nat.le_of_ble_eq_true rfl⟩ ⟨Nat.zero_le _, Nat.zero_le _⟩ hl.1 (Nat.le_of_ble_eq_true rfl) rfl dX11_next_68 (fun H locs hP hD hS => ?_)
          refine lv_astore (lv' := [(8, .ref (ad 9 0)), (7, .int v2), (6, .int v1), (0, .ref (ad 0 0)), (1, .int a1), (2, .int a2), (3, .int a3), (4, .int a4), (5, .int a5)]) hx hb dX11_next_71 hl (by decide) rfl (fun ls hl => ?_)
          refine lv_aload hx hb dX11_next_73 (lv_at hl 0 rfl) ?_
          obtain ⟨r12, er12, hf⟩ := bd_e hf
          refine gVr_i E hK hP (cX9_pairsc (by decide : (0 : Nat) < 3) er12) kV_X9_pairs wd_3_78 rfl rfl (qh_8 ks ad r11 (by decide : (0 : Nat) < 3)) rfl rfl rfl ⟨Nat.le_of_ble_eq_true rfl, Nat.le_of_ble_eq_true rfl⟩ ⟨Nat.zero_le _, Nat.zero_le _⟩ hl.1 (Nat.le_of_ble_eq_true rfl) rfl dX11_next_75 ?_
          refine lv_if_ne (tgt := 84) hx hb dX11_next_78 (by decide) (fun c13 => ?_) (fun c13 => ?_)
          · replace hf := neg_e c13 hf
            refine lv_aload hx hb dX11_next_84 (lv_at hl 0 rfl) ?_
            refine gget E in_X9 hK hP (qh_8 ks ad r11 (by decide : (0 : Nat) < 3)) rfl (k := 0) (by decide) wd_1_47 rfl (v := .int (gI r11 7 0 0)) rfl dX11_next_86 ?_
            refine lv_aload hx hb dX11_next_89 (lv_at hl 0 rfl) ?_
            obtain ⟨r14, er14, hf⟩ := bd_e hf
            refine gVr_i E hK hP (cX9_topTightc (by decide : (0 : Nat) < 3) er14) kV_X9_topTight wd_3_114 rfl rfl (qh_8 ks ad r11 (by decide : (0 : Nat) < 3)) rfl rfl rfl ⟨Nat.le_of_ble_eq_true rfl, Nat.le_of_ble_eq_true rfl⟩ ⟨Nat.zero_le _, Nat.zero_le _⟩ hl.1 (Nat.le_of_ble_eq_true rfl) rfl dX11_next_91 ?_
            refine lv_iload hx hb dX11_next_94 (lv_at hl 2 rfl) ?_
            refine gmin E hl.1 wd_3_115 wd_3_87 wd_1_15 wd_3_88 (Nat.le_of_ble_eq_true rfl) (Nat.le_of_ble_eq_true rfl) ⟨Nat.zero_le _, Nat.zero_le _⟩ dX11_next_96 ?_
            obtain ⟨v15, ev15, hf⟩ := nmv_e hf
            refine lv_nmi ev15 ?_
            refine gmax E hl.1 wd_2_137 wd_2_138 wd_1_15 wd_2_139 (Nat.le_of_ble_eq_true rfl) (Nat.le_of_ble_eq_true rfl) ⟨Nat.zero_le _, Nat.zero_le _⟩ dX11_next_99 ?_
            obtain ⟨v16, ev16, hf⟩ := nmv_e hf
            refine lv_nmi ev16 ?_
            refine lv_istore (lv' := [(9, .int v16), (8, .ref (ad 9 0)), (7, .int v2), (6, .int v1), (0, .ref (ad 0 0)), (1, .int a1), (2, .int a2), (3, .int a3), (4, .int a4), (5, .int a5)]) hx hb dX11_next_102 hl (by decide) rfl (fun ls hl => ?_)
            refine lv_aload hx hb dX11_next_104 (lv_at hl 1 rfl) ?_
            refine gget E in_X9 hK hP (qh_8 ks ad r11 (by decide : (0 : Nat) < 3)) rfl (k := 3) (by decide) wd_1_55 rfl (v := .int (gI r11 7 0 3)) rfl dX11_next_106 ?_
            refine lv_aload hx hb dX11_next_109 (lv_at hl 1 rfl) ?_
            obtain ⟨r17, er17, hf⟩ := bd_e hf
            refine gVr_i E hK hP (cX9_topForcec (by decide : (0 : Nat) < 3) er17) kV_X9_topForce wd_3_116 rfl rfl (qh_8 ks ad r11 (by decide : (0 : Nat) < 3)) rfl rfl rfl ⟨Nat.le_of_ble_eq_true rfl, Nat.le_of_ble_eq_true rfl⟩ ⟨Nat.zero_le _, Nat.zero_le _⟩ hl.1 (Nat.le_of_ble_eq_true rfl) rfl dX11_next_111 ?_
            refine lv_iload hx hb dX11_next_114 (lv_at hl 2 rfl) ?_
            refine gmin E hl.1 wd_3_115 wd_3_87 wd_1_15 wd_3_88 (Nat.le_of_ble_eq_true rfl) (Nat.le_of_ble_eq_true rfl) ⟨Nat.zero_le _, Nat.zero_le _⟩ dX11_next_116 ?_
            obtain ⟨v18, ev18, hf⟩ := nmv_e hf
            refine lv_nmi ev18 ?_
            refine gmax E hl.1 wd_2_137 wd_2_138 wd_1_15 wd_2_139 (Nat.le_of_ble_eq_true rfl) (Nat.le_of_ble_eq_true rfl) ⟨Nat.zero_le _, Nat.zero_le _⟩ dX11_next_119 ?_
            obtain ⟨v19, ev19, hf⟩ := nmv_e hf
            refine lv_nmi ev19 ?_
            refine lv_istore (lv' := [(10, .int v19), (9, .int v16), (8, .ref (ad 9 0)), (7, .int v2), (6, .int v1), (0, .ref (ad 0 0)), (1, .int a1), (2, .int a2), (3, .int a3), (4, .int a4), (5, .int a5)]) hx hb dX11_next_122 hl (by decide) rfl (fun ls hl => ?_)
            refine lv_iload hx hb dX11_next_124 (lv_at hl 10 rfl) ?_
            refine lv_if_ne (tgt := 138) hx hb dX11_next_126 (by decide) (fun c20 => ?_) (fun c20 => ?_)
            · replace hf := neg_e c20 hf
              refine lv_iload hx hb dX11_next_138 (lv_at hl 1 rfl) ?_
              refine lv_iload hx hb dX11_next_140 (lv_at hl 4 rfl) ?_
              refine lv_isub hx hb dX11_next_142 ?_
              refine gabs E hl.1 wd_3_117 wd_3_118 wd_1_15 wd_3_119 (Nat.le_of_ble_eq_true rfl) (Nat.le_of_ble_eq_true rfl) ⟨Nat.zero_le _, Nat.zero_le _⟩ dX11_next_143 ?_
              obtain ⟨v21, ev21, hf⟩ := nmv_e hf
              refine lv_nmi ev21 ?_
              refine lv_iload hx hb dX11_next_146 (lv_at hl 0 rfl) ?_
              refine lv_iload hx hb dX11_next_148 (lv_at hl 3 rfl) ?_
              refine lv_isub hx hb dX11_next_150 ?_
              refine gabs E hl.1 wd_3_117 wd_3_118 wd_1_15 wd_3_119 (Nat.le_of_ble_eq_true rfl) (Nat.le_of_ble_eq_true rfl) ⟨Nat.zero_le _, Nat.zero_le _⟩ dX11_next_151 ?_
              obtain ⟨v22, ev22, hf⟩ := nmv_e hf
              refine lv_nmi ev22 ?_
              refine lv_iadd hx hb dX11_next_154 ?_
              exact gretw_i E hlk hP hD hS hr dX11_next_155 (som_e hf)
            · replace hf := pos_e c20 hf
              refine lv_bipush (v := 100) hx hb dX11_next_129 (by decide) ?_
              refine lv_iload hx hb dX11_next_131 (lv_at hl 1 rfl) ?_
              refine lv_imul hx hb dX11_next_133 ?_
              refine lv_iload hx hb dX11_next_134 (lv_at hl 0 rfl) ?_
              refine lv_iadd hx hb dX11_next_136 ?_
              exact gretw_i E hlk hP hD hS hr dX11_next_137 (som_e hf)
          · replace hf := pos_e c13 hf
            refine lv_bipush (v := -4) hx hb dX11_next_81 (by decide) ?_
            exact gretw_i E hlk hP hD hS hr dX11_next_83 (som_e hf)
        · replace hf := neg_e c10 hf
          refine lv_iconst (v := -1) hx hb dX11_next_59 (by decide) ?_
          exact gretw_i E hlk hP hD hS hr dX11_next_60 (som_e hf)
noncomputable def fX11_halves_J101 (x6 : Int32) (rec_37 : Int32 → Int32 → Int32 → St → Option (Int32 × St)) (z11 : Int32) (z12 : Int32) (σ13 : St) : Option (Int32 × St) :=
  nmv (x6 + 1) fun v14 =>
  rec_37 z11 z12 v14 σ13
noncomputable def fX11_halves_L37B (K_37 : St → Option (Int32 × St)) (rec_37 : Int32 → Int32 → Int32 → St → Option (Int32 × St)) (x4 : Int32) (x5 : Int32) (x6 : Int32) (σ7 : St) : Option (Int32 × St) :=
  if 61 < x6 then
  K_37 σ7
  else
  if x5 < x4 then
  K_37 σ7
  else
  nmv ((x4 + x5) / 2) fun v10 =>
  if (gI σ7 7 0 0) ≤ v10 then
  if v10 ≤ (gI σ7 7 0 1) then
  some (x6, σ7)
  else
  nmv (v10 - 1) fun v17 =>
  fX11_halves_J101 x6 rec_37 x4 v17 σ7
  else
  nmv (v10 + 1) fun v18 =>
  fX11_halves_J101 x6 rec_37 v18 x5 σ7
noncomputable def fX11_halves_L37 (K_37 : St → Option (Int32 × St)) : Nat → Int32 → Int32 → Int32 → St → Option (Int32 × St)
  | 0 => fun _ _ _ _ => none
  | n + 1 => fX11_halves_L37B K_37 (fX11_halves_L37 K_37 n)
noncomputable def fX11_halves (σ : St) (a1 : Int32) (a2 : Int32) (a3 : Int32) : Option (Int32 × St) :=
  bd (fX3_hasAll σ 0 a1 a2 a3) fun r1 =>
  if r1 = 0 then
  some ((-1), σ)
  else
  bd (fX3_spanOf σ 0 a1 a2 a3) fun r3 =>
  fX11_halves_L37 (fun σ19 => some ((-4), σ19)) FU 0 60 1 r3
def rX11_halves : Room := { frames := 4, cells := 0, slots := 0, locals := 94 }
set_option maxHeartbeats 4000000 in
set_option maxRecDepth 100000 in
theorem cX11_halvesc {l : Launch} {dC : Nat → ClassId} {dI : Nat → Nat → Nat} {ks : Nat → ClassId} {ad : Nat → Nat → Nat} {σ : St} (a1 : Int32) (a2 : Int32) (a3 : Int32)  {out : Int32 × St} (hf : fX11_halves σ a1 a2 a3 = some out) : MWi l dC dI ks ad σ yX11_halves cX11_halves 9 (some .int) rX11_halves [.ref (ad 0 0), .int a1, .int a2, .int a3] out := by
  intro sz
  refine met_w (Qc := fun A => va_Qi (fun r σ' => r = out.1 ∧ σ' = out.2) (gBw dC dI ks ad A) A) (own := RX11) (by decide) rfl (Nat.le_of_ble_eq_true rfl) ?_
  intro A p e s m args below meth c ls E hr hlk hA hP hD hS hK hl
  have hx := E.1
  have hb := E.2.1
  have hl : lv_has ls 9 [(0, .ref (ad 0 0)), (1, .int a1), (2, .int a2), (3, .int a3)] := hl
  unfold fX11_halves at hf
  refine lv_aload_n hx hb dX11_halves_0 rfl (lv_at hl 0 rfl) ?_
  refine gget E in_X11 hK hP (q_main ks ad σ) rfl (k := 0) (by decide) wd_1_145 rfl (v := .ref (ad 1 0)) rfl dX11_halves_1 ?_
  refine lv_iload_n hx hb dX11_halves_4 rfl (lv_at hl 1 rfl) ?_
  refine lv_iload_n hx hb dX11_halves_5 rfl (lv_at hl 2 rfl) ?_
  refine lv_iload_n hx hb dX11_halves_6 rfl (lv_at hl 3 rfl) ?_
  obtain ⟨r1, er1, hf⟩ := bd_e hf
  refine gVr_i E hK hP (cX3_hasAllc (by decide : (0 : Nat) < 3) _ _ _ er1) kV_X3_hasAll wd_2_86 rfl rfl (qh_0 ks ad σ (by decide : (0 : Nat) < 3)) rfl rfl rfl ⟨Nat.le_of_ble_eq_true rfl, Nat.le_of_ble_eq_true rfl⟩ ⟨Nat.zero_le _, Nat.zero_le _⟩ hl.1 (Nat.le_of_ble_eq_true rfl) rfl dX11_halves_7 ?_
  refine lv_if_ne (tgt := 15) hx hb dX11_halves_10 (by decide) (fun c2 => ?_) (fun c2 => ?_)
  · replace hf := neg_e c2 hf
    refine lv_aload_n hx hb dX11_halves_15 rfl (lv_at hl 0 rfl) ?_
    refine gget E in_X11 hK hP (q_main ks ad σ) rfl (k := 0) (by decide) wd_1_145 rfl (v := .ref (ad 1 0)) rfl dX11_halves_16 ?_
    refine lv_iload_n hx hb dX11_halves_19 rfl (lv_at hl 1 rfl) ?_
    refine lv_iload_n hx hb dX11_halves_20 rfl (lv_at hl 2 rfl) ?_
    refine lv_iload_n hx hb dX11_halves_21 rfl (lv_at hl 3 rfl) ?_
    obtain ⟨r3, er3, hf⟩ := bd_e hf
    refine gVw_f E hK hP hD hS hA (cX3_spanOfc (by decide : (0 : Nat) < 3) _ _ _ er3) kV_X3_spanOf wd_2_179 rfl rfl (qh_0 ks ad σ (by decide : (0 : Nat) < 3)) rfl rfl rfl ⟨Nat.le_of_ble_eq_true rfl, Nat.le_of_ble_eq_true rfl⟩ ⟨Nat.zero_le _, Nat.zero_le _⟩ hl.1 (Nat.le_of_ble_eq_true rfl) rfl dX11_halves_22 (fun H locs hP hD hS => ?_)
    refine lv_astore (lv' := [(4, .ref (ad 9 0)), (0, .ref (ad 0 0)), (1, .int a1), (2, .int a2), (3, .int a3)]) hx hb dX11_halves_25 hl (by decide) rfl (fun ls hl => ?_)
    refine lv_iconst (v := 0) hx hb dX11_halves_27 (by decide) ?_
    refine lv_istore (lv' := [(5, .int 0), (4, .ref (ad 9 0)), (0, .ref (ad 0 0)), (1, .int a1), (2, .int a2), (3, .int a3)]) hx hb dX11_halves_28 hl (by decide) rfl (fun ls hl => ?_)
    refine lv_bipush (v := 60) hx hb dX11_halves_30 (by decide) ?_
    refine lv_istore (lv' := [(6, .int 60), (5, .int 0), (4, .ref (ad 9 0)), (0, .ref (ad 0 0)), (1, .int a1), (2, .int a2), (3, .int a3)]) hx hb dX11_halves_32 hl (by decide) rfl (fun ls hl => ?_)
    refine lv_iconst (v := 1) hx hb dX11_halves_34 (by decide) ?_
    refine lv_istore (lv' := [(7, .int 1), (6, .int 60), (5, .int 0), (4, .ref (ad 9 0)), (0, .ref (ad 0 0)), (1, .int a1), (2, .int a2), (3, .int a3)]) hx hb dX11_halves_35 hl (by decide) rfl (fun ls hl => ?_)
    have loop_37 : ∀ (K_37 : St → Option (Int32 × St)) (hK_37 : (∀ (σ19 : St) (H : Heap) (locs : List Loc) (hP : va_P (dC, dI) vwCl (wG ks ad σ19) H) (hD : va_D A (wG ks ad σ19)) (hS : va_S A s.heap H locs) (hf : K_37 σ19 = some out) (ls : Array Slot), lv_has ls 9 [] → W p l e rX11_halves s m args below meth c H locs 0 0 (MQ below (va_Qi (fun r σ' => r = out.1 ∧ σ' = out.2) (gBw dC dI ks ad A) A) args s 0 0 A) (F0 m 107 ls []))) (n_37 : Nat) (x4 : Int32) (x5 : Int32) (x6 : Int32) (σ7 : St) (H : Heap) (locs : List Loc) (hP : va_P (dC, dI) vwCl (wG ks ad σ7) H) (hD : va_D A (wG ks ad σ7)) (hS : va_S A s.heap H locs) (hf : fX11_halves_L37 K_37 n_37 x4 x5 x6 σ7 = some out) (ls : Array Slot), lv_has ls 9 [(4, .ref (ad 9 0)), (5, .int x4), (6, .int x5), (7, .int x6)] → W p l e rX11_halves s m args below meth c H locs 0 0 (MQ below (va_Qi (fun r σ' => r = out.1 ∧ σ' = out.2) (gBw dC dI ks ad A) A) args s 0 0 A) (F0 m 37 ls []) := by
      intro K_37 hK_37 n_37
      induction n_37 with
      | zero => intro x4 x5 x6 σ7 H locs hP hD hS hf; cases hf
      | succ n_37 ih_37 =>
        intro x4 x5 x6 σ7 H locs hP hD hS hf ls hl
        have hf : fX11_halves_L37B K_37 (fX11_halves_L37 K_37 n_37) x4 x5 x6 σ7 = some out := hf
        unfold fX11_halves_L37B at hf
        refine lv_iload hx hb dX11_halves_37 (lv_at hl 3 rfl) ?_
        refine lv_bipush (v := 61) hx hb dX11_halves_39 (by decide) ?_
        refine lv_icmp_gt (tgt := 107) hx hb dX11_halves_41 (by decide) (fun c8 => ?_) (fun c8 => ?_)
        · replace hf := pos_e c8 hf
          exact hK_37 _ _ _ hP hD hS hf _ (lv_sub hl [] rfl)
        · replace hf := neg_e c8 hf
          refine lv_iload hx hb dX11_halves_44 (lv_at hl 1 rfl) ?_
          refine lv_iload hx hb dX11_halves_46 (lv_at hl 2 rfl) ?_
          refine lv_icmp_gt (tgt := 107) hx hb dX11_halves_48 (by decide) (fun c9 => ?_) (fun c9 => ?_)
          · replace hf := pos_e c9 hf
            exact hK_37 _ _ _ hP hD hS hf _ (lv_sub hl [] rfl)
          · replace hf := neg_e c9 hf
            refine lv_iload hx hb dX11_halves_51 (lv_at hl 1 rfl) ?_
            refine lv_iload hx hb dX11_halves_53 (lv_at hl 2 rfl) ?_
            refine lv_iadd hx hb dX11_halves_55 ?_
            refine lv_iconst (v := 2) hx hb dX11_halves_56 (by decide) ?_
            refine lv_idiv hx hb dX11_halves_57 (by decide) ?_
            obtain ⟨v10, ev10, hf⟩ := nmv_e hf
            refine lv_nmi ev10 ?_
            refine lv_istore (lv' := [(8, .int v10), (4, .ref (ad 9 0)), (5, .int x4), (6, .int x5), (7, .int x6)]) hx hb dX11_halves_58 hl (by decide) rfl (fun ls hl => ?_)
            refine lv_iload hx hb dX11_halves_60 (lv_at hl 0 rfl) ?_
            refine lv_aload hx hb dX11_halves_62 (lv_at hl 1 rfl) ?_
            refine gget E in_X9 hK hP (qh_8 ks ad σ7 (by decide : (0 : Nat) < 3)) rfl (k := 0) (by decide) wd_1_47 rfl (v := .int (gI σ7 7 0 0)) rfl dX11_halves_64 ?_
            have hJ_101 : ∀ (z11 : Int32) (z12 : Int32) (σ13 : St) (H : Heap) (locs : List Loc) (hP : va_P (dC, dI) vwCl (wG ks ad σ13) H) (hD : va_D A (wG ks ad σ13)) (hS : va_S A s.heap H locs) (hf : fX11_halves_J101 x6 (fX11_halves_L37 K_37 n_37) z11 z12 σ13 = some out) (ls : Array Slot), lv_has ls 9 [(4, .ref (ad 9 0)), (5, .int z11), (6, .int z12), (7, .int x6)] → W p l e rX11_halves s m args below meth c H locs 0 0 (MQ below (va_Qi (fun r σ' => r = out.1 ∧ σ' = out.2) (gBw dC dI ks ad A) A) args s 0 0 A) (F0 m 101 ls []) := by
              intro z11 z12 σ13 H locs hP hD hS hf ls hl
              unfold fX11_halves_J101 at hf
              obtain ⟨v14, ev14, hf⟩ := nmv_e hf
              refine lv_iinc (v := v14) (lv' := [(7, .int v14), (4, .ref (ad 9 0)), (5, .int z11), (6, .int z12)]) hx hb dX11_halves_101 hl (k := 3) rfl (by rw [ev14]; rfl) (by decide) rfl (fun ls hl => ?_)
              refine lv_goto (tgt := 37) hx hb dX11_halves_104 (by decide) ?_
              exact ih_37 _ _ _ _ _ _ hP hD hS hf _ (lv_sub hl [1, 2, 3, 0] rfl)
            refine lv_icmp_ge (tgt := 79) hx hb dX11_halves_67 (by decide) (fun c15 => ?_) (fun c15 => ?_)
            · replace hf := pos_e c15 hf
              refine lv_iload hx hb dX11_halves_79 (lv_at hl 0 rfl) ?_
              refine lv_aload hx hb dX11_halves_81 (lv_at hl 1 rfl) ?_
              refine gget E in_X9 hK hP (qh_8 ks ad σ7 (by decide : (0 : Nat) < 3)) rfl (k := 1) (by decide) wd_1_50 rfl (v := .int (gI σ7 7 0 1)) rfl dX11_halves_83 ?_
              refine lv_icmp_le (tgt := 98) hx hb dX11_halves_86 (by decide) (fun c16 => ?_) (fun c16 => ?_)
              · replace hf := pos_e c16 hf
                refine lv_iload hx hb dX11_halves_98 (lv_at hl 4 rfl) ?_
                exact gretw_i E hlk hP hD hS hr dX11_halves_100 (som_e hf)
              · replace hf := neg_e c16 hf
                refine lv_iload hx hb dX11_halves_89 (lv_at hl 0 rfl) ?_
                refine lv_iconst (v := 1) hx hb dX11_halves_91 (by decide) ?_
                refine lv_isub hx hb dX11_halves_92 ?_
                obtain ⟨v17, ev17, hf⟩ := nmv_e hf
                refine lv_nmi ev17 ?_
                refine lv_istore (lv' := [(6, .int v17), (8, .int v10), (4, .ref (ad 9 0)), (5, .int x4), (7, .int x6)]) hx hb dX11_halves_93 hl (by decide) rfl (fun ls hl => ?_)
                refine lv_goto (tgt := 101) hx hb dX11_halves_95 (by decide) ?_
                exact hJ_101 _ _ _ _ _ hP hD hS hf _ (lv_sub hl [2, 3, 0, 4] rfl)
            · replace hf := neg_e c15 hf
              refine lv_iload hx hb dX11_halves_70 (lv_at hl 0 rfl) ?_
              refine lv_iconst (v := 1) hx hb dX11_halves_72 (by decide) ?_
              refine lv_iadd hx hb dX11_halves_73 ?_
              obtain ⟨v18, ev18, hf⟩ := nmv_e hf
              refine lv_nmi ev18 ?_
              refine lv_istore (lv' := [(5, .int v18), (8, .int v10), (4, .ref (ad 9 0)), (6, .int x5), (7, .int x6)]) hx hb dX11_halves_74 hl (by decide) rfl (fun ls hl => ?_)
              refine lv_goto (tgt := 101) hx hb dX11_halves_76 (by decide) ?_
              exact hJ_101 _ _ _ _ _ hP hD hS hf _ (lv_sub hl [2, 0, 3, 4] rfl)
    refine loop_37 _ (fun σ19 H locs hP hD hS hf ls hl => ?_) _ _ _ _ _ _ _ hP hD hS hf _ (lv_sub hl [3, 2, 1, 0] rfl)
    refine lv_bipush (v := -4) hx hb dX11_halves_107 (by decide) ?_
    exact gretw_i E hlk hP hD hS hr dX11_halves_109 (som_e hf)
  · replace hf := pos_e c2 hf
    refine lv_iconst (v := -1) hx hb dX11_halves_13 (by decide) ?_
    exact gretw_i E hlk hP hD hS hr dX11_halves_14 (som_e hf)
noncomputable def fX11_waysBy_J96 (x13 : Int32) (rec_56 : Int32 → Int32 → St → Option (Int32 × St)) (z20 : Int32) (σ21 : St) : Option (Int32 × St) :=
  nmv (x13 + 1) fun v22 =>
  rec_56 z20 v22 σ21
noncomputable def fX11_waysBy_L56B (a1 : Int32) (a3 : Int32) (a4 : Int32) (x8 : Int32) (K_56 : Int32 → St → Option (Int32 × St)) (rec_56 : Int32 → Int32 → St → Option (Int32 × St)) (x12 : Int32) (x13 : Int32) (σ14 : St) : Option (Int32 × St) :=
  if 9 < x13 then
  K_56 x12 σ14
  else
  ck (vp_in a3 6) <|
  bd (gR σ14 0 0 a3.toNatClampNeg) fun j17 =>
  ck (j17 < gS σ14 2 0 ∧ okc (gS σ14 1 j17)) <|
  ck (vp_in a1 6) <|
  bd (fvpitchAt σ14 j17 (gI σ14 1 0 a1.toNatClampNeg) x8 x13) fun r19 =>
  if r19 = a4 then
  nmv (x12 + 1) fun v24 =>
  fX11_waysBy_J96 x13 rec_56 v24 σ14
  else
  fX11_waysBy_J96 x13 rec_56 x12 σ14
noncomputable def fX11_waysBy_L56 (a1 : Int32) (a3 : Int32) (a4 : Int32) (x8 : Int32) (K_56 : Int32 → St → Option (Int32 × St)) : Nat → Int32 → Int32 → St → Option (Int32 × St)
  | 0 => fun _ _ _ => none
  | n + 1 => fX11_waysBy_L56B a1 a3 a4 x8 K_56 (fX11_waysBy_L56 a1 a3 a4 x8 K_56 n)
noncomputable def fX11_waysBy_L43B (a1 : Int32) (a3 : Int32) (a4 : Int32) (K_43 : Int32 → St → Option (Int32 × St)) (rec_43 : Int32 → Int32 → St → Option (Int32 × St)) (x7 : Int32) (x8 : Int32) (σ9 : St) : Option (Int32 × St) :=
  bd (fX9_topTight σ9 0) fun r10 =>
  if r10 < x8 then
  K_43 x7 σ9
  else
  fX11_waysBy_L56 a1 a3 a4 x8 (fun y25 σ26 => nmv (x8 + 1) fun v27 =>
  rec_43 y25 v27 σ26) FU x7 0 σ9
noncomputable def fX11_waysBy_L43 (a1 : Int32) (a3 : Int32) (a4 : Int32) (K_43 : Int32 → St → Option (Int32 × St)) : Nat → Int32 → Int32 → St → Option (Int32 × St)
  | 0 => fun _ _ _ => none
  | n + 1 => fX11_waysBy_L43B a1 a3 a4 K_43 (fX11_waysBy_L43 a1 a3 a4 K_43 n)
noncomputable def fX11_waysBy (σ : St) (a1 : Int32) (a2 : Int32) (a3 : Int32) (a4 : Int32) : Option (Int32 × St) :=
  bd (fX3_spanOf σ 0 a1 a2 a3) fun r1 =>
  bd (fX3_isSplit r1 0 a1) fun r2 =>
  if r2 = 0 then
  bd (fX9_pairs r1 0) fun r4 =>
  if r4 = 0 then
  some (0, r1)
  else
  nmv (gI r1 7 0 0) fun v6 =>
  fX11_waysBy_L43 a1 a3 a4 (fun y28 σ29 => some (y28, σ29)) FU 0 v6 r1
  else
  some (0, r1)
def rX11_waysBy : Room := { frames := 4, cells := 0, slots := 0, locals := 94 }
set_option maxHeartbeats 4000000 in
set_option maxRecDepth 100000 in
theorem cX11_waysByc {l : Launch} {dC : Nat → ClassId} {dI : Nat → Nat → Nat} {ks : Nat → ClassId} {ad : Nat → Nat → Nat} {σ : St} (a1 : Int32) (a2 : Int32) (a3 : Int32) (a4 : Int32)  {out : Int32 × St} (hf : fX11_waysBy σ a1 a2 a3 a4 = some out) : MWi l dC dI ks ad σ yX11_waysBy cX11_waysBy 9 (some .int) rX11_waysBy [.ref (ad 0 0), .int a1, .int a2, .int a3, .int a4] out := by
  intro sz
  refine met_w (Qc := fun A => va_Qi (fun r σ' => r = out.1 ∧ σ' = out.2) (gBw dC dI ks ad A) A) (own := RX11) (by decide) rfl (Nat.le_of_ble_eq_true rfl) ?_
  intro A p e s m args below meth c ls E hr hlk hA hP hD hS hK hl
  have hx := E.1
  have hb := E.2.1
  have hl : lv_has ls 9 [(0, .ref (ad 0 0)), (1, .int a1), (2, .int a2), (3, .int a3), (4, .int a4)] := hl
  unfold fX11_waysBy at hf
  refine lv_aload_n hx hb dX11_waysBy_0 rfl (lv_at hl 0 rfl) ?_
  refine gget E in_X11 hK hP (q_main ks ad σ) rfl (k := 0) (by decide) wd_1_145 rfl (v := .ref (ad 1 0)) rfl dX11_waysBy_1 ?_
  refine lv_iload_n hx hb dX11_waysBy_4 rfl (lv_at hl 1 rfl) ?_
  refine lv_iload_n hx hb dX11_waysBy_5 rfl (lv_at hl 2 rfl) ?_
  refine lv_iload_n hx hb dX11_waysBy_6 rfl (lv_at hl 3 rfl) ?_
  obtain ⟨r1, er1, hf⟩ := bd_e hf
  refine gVw_f E hK hP hD hS hA (cX3_spanOfc (by decide : (0 : Nat) < 3) _ _ _ er1) kV_X3_spanOf wd_2_179 rfl rfl (qh_0 ks ad σ (by decide : (0 : Nat) < 3)) rfl rfl rfl ⟨Nat.le_of_ble_eq_true rfl, Nat.le_of_ble_eq_true rfl⟩ ⟨Nat.zero_le _, Nat.zero_le _⟩ hl.1 (Nat.le_of_ble_eq_true rfl) rfl dX11_waysBy_7 (fun H locs hP hD hS => ?_)
  refine lv_astore (lv' := [(5, .ref (ad 9 0)), (0, .ref (ad 0 0)), (1, .int a1), (2, .int a2), (3, .int a3), (4, .int a4)]) hx hb dX11_waysBy_10 hl (by decide) rfl (fun ls hl => ?_)
  refine lv_aload_n hx hb dX11_waysBy_12 rfl (lv_at hl 1 rfl) ?_
  refine gget E in_X11 hK hP (q_main ks ad r1) rfl (k := 0) (by decide) wd_1_145 rfl (v := .ref (ad 1 0)) rfl dX11_waysBy_13 ?_
  refine lv_iload_n hx hb dX11_waysBy_16 rfl (lv_at hl 2 rfl) ?_
  obtain ⟨r2, er2, hf⟩ := bd_e hf
  refine gVr_i E hK hP (cX3_isSplitc (by decide : (0 : Nat) < 3) _ er2) kV_X3_isSplit wd_2_102 rfl rfl (qh_0 ks ad r1 (by decide : (0 : Nat) < 3)) rfl rfl rfl ⟨Nat.le_of_ble_eq_true rfl, Nat.le_of_ble_eq_true rfl⟩ ⟨Nat.zero_le _, Nat.zero_le _⟩ hl.1 (Nat.le_of_ble_eq_true rfl) rfl dX11_waysBy_17 ?_
  refine lv_if_ne (tgt := 31) hx hb dX11_waysBy_20 (by decide) (fun c3 => ?_) (fun c3 => ?_)
  · replace hf := neg_e c3 hf
    refine lv_iconst (v := 0) hx hb dX11_waysBy_31 (by decide) ?_
    exact gretw_i E hlk hP hD hS hr dX11_waysBy_32 (som_e hf)
  · replace hf := pos_e c3 hf
    refine lv_aload hx hb dX11_waysBy_23 (lv_at hl 0 rfl) ?_
    obtain ⟨r4, er4, hf⟩ := bd_e hf
    refine gVr_i E hK hP (cX9_pairsc (by decide : (0 : Nat) < 3) er4) kV_X9_pairs wd_3_78 rfl rfl (qh_8 ks ad r1 (by decide : (0 : Nat) < 3)) rfl rfl rfl ⟨Nat.le_of_ble_eq_true rfl, Nat.le_of_ble_eq_true rfl⟩ ⟨Nat.zero_le _, Nat.zero_le _⟩ hl.1 (Nat.le_of_ble_eq_true rfl) rfl dX11_waysBy_25 ?_
    refine lv_if_ne (tgt := 33) hx hb dX11_waysBy_28 (by decide) (fun c5 => ?_) (fun c5 => ?_)
    · replace hf := neg_e c5 hf
      refine lv_iconst (v := 0) hx hb dX11_waysBy_33 (by decide) ?_
      refine lv_istore (lv' := [(6, .int 0), (5, .ref (ad 9 0)), (0, .ref (ad 0 0)), (1, .int a1), (2, .int a2), (3, .int a3), (4, .int a4)]) hx hb dX11_waysBy_34 hl (by decide) rfl (fun ls hl => ?_)
      refine lv_aload hx hb dX11_waysBy_36 (lv_at hl 1 rfl) ?_
      refine gget E in_X9 hK hP (qh_8 ks ad r1 (by decide : (0 : Nat) < 3)) rfl (k := 0) (by decide) wd_1_47 rfl (v := .int (gI r1 7 0 0)) rfl dX11_waysBy_38 ?_
      obtain ⟨v6, ev6, hf⟩ := nmv_e hf
      refine lv_nmi ev6 ?_
      refine lv_istore (lv' := [(7, .int v6), (6, .int 0), (5, .ref (ad 9 0)), (0, .ref (ad 0 0)), (1, .int a1), (2, .int a2), (3, .int a3), (4, .int a4)]) hx hb dX11_waysBy_41 hl (by decide) rfl (fun ls hl => ?_)
      have loop_43 : ∀ (K_43 : Int32 → St → Option (Int32 × St)) (hK_43 : (∀ (y28 : Int32) (σ29 : St) (H : Heap) (locs : List Loc) (hP : va_P (dC, dI) vwCl (wG ks ad σ29) H) (hD : va_D A (wG ks ad σ29)) (hS : va_S A s.heap H locs) (hf : K_43 y28 σ29 = some out) (ls : Array Slot), lv_has ls 9 [(6, .int y28)] → W p l e rX11_waysBy s m args below meth c H locs 0 0 (MQ below (va_Qi (fun r σ' => r = out.1 ∧ σ' = out.2) (gBw dC dI ks ad A) A) args s 0 0 A) (F0 m 108 ls []))) (n_43 : Nat) (x7 : Int32) (x8 : Int32) (σ9 : St) (H : Heap) (locs : List Loc) (hP : va_P (dC, dI) vwCl (wG ks ad σ9) H) (hD : va_D A (wG ks ad σ9)) (hS : va_S A s.heap H locs) (hf : fX11_waysBy_L43 a1 a3 a4 K_43 n_43 x7 x8 σ9 = some out) (ls : Array Slot), lv_has ls 9 [(0, .ref (ad 0 0)), (1, .int a1), (3, .int a3), (4, .int a4), (5, .ref (ad 9 0)), (6, .int x7), (7, .int x8)] → W p l e rX11_waysBy s m args below meth c H locs 0 0 (MQ below (va_Qi (fun r σ' => r = out.1 ∧ σ' = out.2) (gBw dC dI ks ad A) A) args s 0 0 A) (F0 m 43 ls []) := by
        intro K_43 hK_43 n_43
        induction n_43 with
        | zero => intro x7 x8 σ9 H locs hP hD hS hf; cases hf
        | succ n_43 ih_43 =>
          intro x7 x8 σ9 H locs hP hD hS hf ls hl
          have hf : fX11_waysBy_L43B a1 a3 a4 K_43 (fX11_waysBy_L43 a1 a3 a4 K_43 n_43) x7 x8 σ9 = some out := hf
          unfold fX11_waysBy_L43B at hf
          refine lv_iload hx hb dX11_waysBy_43 (lv_at hl 6 rfl) ?_
          refine lv_aload hx hb dX11_waysBy_45 (lv_at hl 4 rfl) ?_
          obtain ⟨r10, er10, hf⟩ := bd_e hf
          refine gVr_i E hK hP (cX9_topTightc (by decide : (0 : Nat) < 3) er10) kV_X9_topTight wd_3_114 rfl rfl (qh_8 ks ad σ9 (by decide : (0 : Nat) < 3)) rfl rfl rfl ⟨Nat.le_of_ble_eq_true rfl, Nat.le_of_ble_eq_true rfl⟩ ⟨Nat.zero_le _, Nat.zero_le _⟩ hl.1 (Nat.le_of_ble_eq_true rfl) rfl dX11_waysBy_47 ?_
          refine lv_icmp_gt (tgt := 108) hx hb dX11_waysBy_50 (by decide) (fun c11 => ?_) (fun c11 => ?_)
          · replace hf := pos_e c11 hf
            exact hK_43 _ _ _ _ hP hD hS hf _ (lv_sub hl [5] rfl)
          · replace hf := neg_e c11 hf
            refine lv_iconst (v := 0) hx hb dX11_waysBy_53 (by decide) ?_
            refine lv_istore (lv' := [(8, .int 0), (0, .ref (ad 0 0)), (1, .int a1), (3, .int a3), (4, .int a4), (5, .ref (ad 9 0)), (6, .int x7), (7, .int x8)]) hx hb dX11_waysBy_54 hl (by decide) rfl (fun ls hl => ?_)
            have loop_56 : ∀ (K_56 : Int32 → St → Option (Int32 × St)) (hK_56 : (∀ (y25 : Int32) (σ26 : St) (H : Heap) (locs : List Loc) (hP : va_P (dC, dI) vwCl (wG ks ad σ26) H) (hD : va_D A (wG ks ad σ26)) (hS : va_S A s.heap H locs) (hf : K_56 y25 σ26 = some out) (ls : Array Slot), lv_has ls 9 [(0, .ref (ad 0 0)), (1, .int a1), (3, .int a3), (4, .int a4), (5, .ref (ad 9 0)), (6, .int y25), (7, .int x8)] → W p l e rX11_waysBy s m args below meth c H locs 0 0 (MQ below (va_Qi (fun r σ' => r = out.1 ∧ σ' = out.2) (gBw dC dI ks ad A) A) args s 0 0 A) (F0 m 102 ls []))) (n_56 : Nat) (x12 : Int32) (x13 : Int32) (σ14 : St) (H : Heap) (locs : List Loc) (hP : va_P (dC, dI) vwCl (wG ks ad σ14) H) (hD : va_D A (wG ks ad σ14)) (hS : va_S A s.heap H locs) (hf : fX11_waysBy_L56 a1 a3 a4 x8 K_56 n_56 x12 x13 σ14 = some out) (ls : Array Slot), lv_has ls 9 [(0, .ref (ad 0 0)), (1, .int a1), (3, .int a3), (4, .int a4), (5, .ref (ad 9 0)), (6, .int x12), (7, .int x8), (8, .int x13)] → W p l e rX11_waysBy s m args below meth c H locs 0 0 (MQ below (va_Qi (fun r σ' => r = out.1 ∧ σ' = out.2) (gBw dC dI ks ad A) A) args s 0 0 A) (F0 m 56 ls []) := by
              intro K_56 hK_56 n_56
              induction n_56 with
              | zero => intro x12 x13 σ14 H locs hP hD hS hf; cases hf
              | succ n_56 ih_56 =>
                intro x12 x13 σ14 H locs hP hD hS hf ls hl
                have hf : fX11_waysBy_L56B a1 a3 a4 x8 K_56 (fX11_waysBy_L56 a1 a3 a4 x8 K_56 n_56) x12 x13 σ14 = some out := hf
                unfold fX11_waysBy_L56B at hf
                refine lv_iload hx hb dX11_waysBy_56 (lv_at hl 7 rfl) ?_
                refine lv_bipush (v := 9) hx hb dX11_waysBy_58 (by decide) ?_
                refine lv_icmp_gt (tgt := 102) hx hb dX11_waysBy_60 (by decide) (fun c15 => ?_) (fun c15 => ?_)
                · replace hf := pos_e c15 hf
                  exact hK_56 _ _ _ _ hP hD hS hf _ (lv_sub hl [0, 1, 2, 3, 4, 5, 6] rfl)
                · replace hf := neg_e c15 hf
                  refine lv_aload_n hx hb dX11_waysBy_63 rfl (lv_at hl 0 rfl) ?_
                  refine gget E in_X11 hK hP (q_main ks ad σ14) rfl (k := 0) (by decide) wd_1_145 rfl (v := .ref (ad 1 0)) rfl dX11_waysBy_64 ?_
                  refine gget E in_X3 hK hP (qh_0 ks ad σ14 (by decide : (0 : Nat) < 3)) rfl (k := 9) (by decide) wd_1_91 rfl (v := .ref (ad 8 0)) rfl dX11_waysBy_67 ?_
                  refine lv_iload_n hx hb dX11_waysBy_70 rfl (lv_at hl 2 rfl) ?_
                  obtain ⟨c16, hf⟩ := ck_e hf
                  refine gaaldB (by decide : (0 : Nat) < 3) E hK hP c16 dX11_waysBy_71 ?_
                  obtain ⟨j17, ej17, hf⟩ := bd_e hf
                  obtain ⟨hj17, hf⟩ := ck_e hf
                  refine lv_nmo ej17 ?_
                  refine lv_aload_n hx hb dX11_waysBy_72 rfl (lv_at hl 0 rfl) ?_
                  refine gget E in_X11 hK hP (q_main ks ad σ14) rfl (k := 0) (by decide) wd_1_145 rfl (v := .ref (ad 1 0)) rfl dX11_waysBy_73 ?_
                  refine gget E in_X3 hK hP (qh_0 ks ad σ14 (by decide : (0 : Nat) < 3)) rfl (k := 1) (by decide) wd_1_75 rfl (v := .ref (ad 2 0)) rfl dX11_waysBy_76 ?_
                  refine lv_iload_n hx hb dX11_waysBy_79 rfl (lv_at hl 1 rfl) ?_
                  obtain ⟨c18, hf⟩ := ck_e hf
                  refine giald E hK hP (qh_1 ks ad σ14 (by decide : (0 : Nat) < 3)) c18 dX11_waysBy_80 ?_
                  refine lv_iload hx hb dX11_waysBy_81 (lv_at hl 6 rfl) ?_
                  refine lv_iload hx hb dX11_waysBy_83 (lv_at hl 7 rfl) ?_
                  obtain ⟨r19, er19, hf⟩ := bd_e hf
                  refine vpitchAt E hK hP hj17 er19 wd_3_40 ⟨Nat.le_of_ble_eq_true rfl, Nat.le_of_ble_eq_true rfl⟩ ⟨Nat.zero_le _, Nat.zero_le _⟩ hl.1 (Nat.le_of_ble_eq_true rfl) rfl dX11_waysBy_85 ?_
                  refine lv_iload hx hb dX11_waysBy_88 (lv_at hl 3 rfl) ?_
                  have hJ_96 : ∀ (z20 : Int32) (σ21 : St) (H : Heap) (locs : List Loc) (hP : va_P (dC, dI) vwCl (wG ks ad σ21) H) (hD : va_D A (wG ks ad σ21)) (hS : va_S A s.heap H locs) (hf : fX11_waysBy_J96 x13 (fX11_waysBy_L56 a1 a3 a4 x8 K_56 n_56) z20 σ21 = some out) (ls : Array Slot), lv_has ls 9 [(0, .ref (ad 0 0)), (1, .int a1), (3, .int a3), (4, .int a4), (5, .ref (ad 9 0)), (6, .int z20), (7, .int x8), (8, .int x13)] → W p l e rX11_waysBy s m args below meth c H locs 0 0 (MQ below (va_Qi (fun r σ' => r = out.1 ∧ σ' = out.2) (gBw dC dI ks ad A) A) args s 0 0 A) (F0 m 96 ls []) := by
                    intro z20 σ21 H locs hP hD hS hf ls hl
                    unfold fX11_waysBy_J96 at hf
                    obtain ⟨v22, ev22, hf⟩ := nmv_e hf
                    refine lv_iinc (v := v22) (lv' := [(8, .int v22), (0, .ref (ad 0 0)), (1, .int a1), (3, .int a3), (4, .int a4), (5, .ref (ad 9 0)), (6, .int z20), (7, .int x8)]) hx hb dX11_waysBy_96 hl (k := 7) rfl (by rw [ev22]; rfl) (by decide) rfl (fun ls hl => ?_)
                    refine lv_goto (tgt := 56) hx hb dX11_waysBy_99 (by decide) ?_
                    exact ih_56 _ _ _ _ _ hP hD hS hf _ (lv_sub hl [1, 2, 3, 4, 5, 6, 7, 0] rfl)
                  refine lv_icmp_ne (tgt := 96) hx hb dX11_waysBy_90 (by decide) (fun c23 => ?_) (fun c23 => ?_)
                  · replace hf := neg_e c23 hf
                    exact hJ_96 _ _ _ _ hP hD hS hf _ (lv_sub hl [0, 1, 2, 3, 4, 5, 6, 7] rfl)
                  · replace hf := pos_e c23 hf
                    obtain ⟨v24, ev24, hf⟩ := nmv_e hf
                    refine lv_iinc (v := v24) (lv' := [(6, .int v24), (0, .ref (ad 0 0)), (1, .int a1), (3, .int a3), (4, .int a4), (5, .ref (ad 9 0)), (7, .int x8), (8, .int x13)]) hx hb dX11_waysBy_93 hl (k := 5) rfl (by rw [ev24]; rfl) (by decide) rfl (fun ls hl => ?_)
                    exact hJ_96 _ _ _ _ hP hD hS hf _ (lv_sub hl [1, 2, 3, 4, 5, 0, 6, 7] rfl)
            refine loop_56 _ (fun y25 σ26 H locs hP hD hS hf ls hl => ?_) _ _ _ _ _ _ hP hD hS hf _ (lv_sub hl [1, 2, 3, 4, 5, 6, 7, 0] rfl)
            obtain ⟨v27, ev27, hf⟩ := nmv_e hf
            refine lv_iinc (v := v27) (lv' := [(7, .int v27), (0, .ref (ad 0 0)), (1, .int a1), (3, .int a3), (4, .int a4), (5, .ref (ad 9 0)), (6, .int y25)]) hx hb dX11_waysBy_102 hl (k := 6) rfl (by rw [ev27]; rfl) (by decide) rfl (fun ls hl => ?_)
            refine lv_goto (tgt := 43) hx hb dX11_waysBy_105 (by decide) ?_
            exact ih_43 _ _ _ _ _ hP hD hS hf _ (lv_sub hl [1, 2, 3, 4, 5, 6, 0] rfl)
      refine loop_43 _ (fun y28 σ29 H locs hP hD hS hf ls hl => ?_) _ _ _ _ _ _ hP hD hS hf _ (lv_sub hl [3, 4, 6, 7, 2, 1, 0] rfl)
      refine lv_iload hx hb dX11_waysBy_108 (lv_at hl 0 rfl) ?_
      exact gretw_i E hlk hP hD hS hr dX11_waysBy_110 (som_e hf)
    · replace hf := pos_e c5 hf
      refine lv_iconst (v := 0) hx hb dX11_waysBy_31 (by decide) ?_
      exact gretw_i E hlk hP hD hS hr dX11_waysBy_32 (som_e hf)
noncomputable def fX11_ways_L43B (a1 : Int32) (a2 : Int32) (x6 : Int32) (K_43 : Int32 → St → Option (Int32 × St)) (rec_43 : Int32 → Int32 → St → Option (Int32 × St)) (x9 : Int32) (x10 : Int32) (σ11 : St) : Option (Int32 × St) :=
  if (gI σ11 0 0 8) ≤ x10 then
  K_43 x9 σ11
  else
  bd (fX11_waysBy σ11 x6 a1 x10 a2) fun r13 =>
  nmv (x9 + r13.1) fun v14 =>
  nmv (x10 + 1) fun v15 =>
  rec_43 v14 v15 r13.2
noncomputable def fX11_ways_L43 (a1 : Int32) (a2 : Int32) (x6 : Int32) (K_43 : Int32 → St → Option (Int32 × St)) : Nat → Int32 → Int32 → St → Option (Int32 × St)
  | 0 => fun _ _ _ => none
  | n + 1 => fX11_ways_L43B a1 a2 x6 K_43 (fX11_ways_L43 a1 a2 x6 K_43 n)
noncomputable def fX11_ways_L28B (a1 : Int32) (a2 : Int32) (K_28 : Int32 → St → Option (Int32 × St)) (rec_28 : Int32 → Int32 → St → Option (Int32 × St)) (x5 : Int32) (x6 : Int32) (σ7 : St) : Option (Int32 × St) :=
  if (gI σ7 0 0 0) ≤ x6 then
  K_28 x5 σ7
  else
  fX11_ways_L43 a1 a2 x6 (fun y16 σ17 => nmv (x6 + 1) fun v18 =>
  rec_28 y16 v18 σ17) FU x5 0 σ7
noncomputable def fX11_ways_L28 (a1 : Int32) (a2 : Int32) (K_28 : Int32 → St → Option (Int32 × St)) : Nat → Int32 → Int32 → St → Option (Int32 × St)
  | 0 => fun _ _ _ => none
  | n + 1 => fX11_ways_L28B a1 a2 K_28 (fX11_ways_L28 a1 a2 K_28 n)
noncomputable def fX11_ways (σ : St) (a1 : Int32) (a2 : Int32) : Option (Int32 × St) :=
  bd (fX3_hasThumbs σ 0 a1) fun r1 =>
  if r1 = 0 then
  some ((-1), σ)
  else
  bd (fX11_isOut σ a2 0 99) fun r3 =>
  if r3 = 0 then
  fX11_ways_L28 a1 a2 (fun y19 σ20 => some (y19, σ20)) FU 0 0 σ
  else
  some ((-1), σ)
def rX11_ways : Room := { frames := 5, cells := 0, slots := 0, locals := 122 }
set_option maxHeartbeats 4000000 in
set_option maxRecDepth 100000 in
theorem cX11_waysc {l : Launch} {dC : Nat → ClassId} {dI : Nat → Nat → Nat} {ks : Nat → ClassId} {ad : Nat → Nat → Nat} {σ : St} (a1 : Int32) (a2 : Int32)  {out : Int32 × St} (hf : fX11_ways σ a1 a2 = some out) : MWi l dC dI ks ad σ yX11_ways cX11_ways 6 (some .int) rX11_ways [.ref (ad 0 0), .int a1, .int a2] out := by
  intro sz
  refine met_w (Qc := fun A => va_Qi (fun r σ' => r = out.1 ∧ σ' = out.2) (gBw dC dI ks ad A) A) (own := RX11) (by decide) rfl (Nat.le_of_ble_eq_true rfl) ?_
  intro A p e s m args below meth c ls E hr hlk hA hP hD hS hK hl
  have hx := E.1
  have hb := E.2.1
  have hl : lv_has ls 6 [(0, .ref (ad 0 0)), (1, .int a1), (2, .int a2)] := hl
  unfold fX11_ways at hf
  refine lv_aload_n hx hb dX11_ways_0 rfl (lv_at hl 0 rfl) ?_
  refine gget E in_X11 hK hP (q_main ks ad σ) rfl (k := 0) (by decide) wd_1_145 rfl (v := .ref (ad 1 0)) rfl dX11_ways_1 ?_
  refine lv_iload_n hx hb dX11_ways_4 rfl (lv_at hl 1 rfl) ?_
  obtain ⟨r1, er1, hf⟩ := bd_e hf
  refine gVr_i E hK hP (cX3_hasThumbsc (by decide : (0 : Nat) < 3) _ er1) kV_X3_hasThumbs wd_2_149 rfl rfl (qh_0 ks ad σ (by decide : (0 : Nat) < 3)) rfl rfl rfl ⟨Nat.le_of_ble_eq_true rfl, Nat.le_of_ble_eq_true rfl⟩ ⟨Nat.zero_le _, Nat.zero_le _⟩ hl.1 (Nat.le_of_ble_eq_true rfl) rfl dX11_ways_5 ?_
  refine lv_if_eq (tgt := 21) hx hb dX11_ways_8 (by decide) (fun c2 => ?_) (fun c2 => ?_)
  · replace hf := pos_e c2 hf
    refine lv_iconst (v := -1) hx hb dX11_ways_21 (by decide) ?_
    exact gretw_i E hlk hP hD hS hr dX11_ways_22 (som_e hf)
  · replace hf := neg_e c2 hf
    refine lv_iload_n hx hb dX11_ways_11 rfl (lv_at hl 2 rfl) ?_
    refine lv_iconst (v := 0) hx hb dX11_ways_12 (by decide) ?_
    refine lv_bipush (v := 99) hx hb dX11_ways_13 (by decide) ?_
    obtain ⟨r3, er3, hf⟩ := bd_e hf
    refine gSr_i E hK hP (cX11_isOutc _ _ _ er3) kS_X11_isOut wd_1_178 rfl rfl rfl ⟨Nat.le_of_ble_eq_true rfl, Nat.le_of_ble_eq_true rfl⟩ ⟨Nat.zero_le _, Nat.zero_le _⟩ hl.1 (Nat.le_of_ble_eq_true rfl) rfl dX11_ways_15 ?_
    refine lv_if_eq (tgt := 23) hx hb dX11_ways_18 (by decide) (fun c4 => ?_) (fun c4 => ?_)
    · replace hf := pos_e c4 hf
      refine lv_iconst (v := 0) hx hb dX11_ways_23 (by decide) ?_
      refine lv_istore_n (lv' := [(3, .int 0), (0, .ref (ad 0 0)), (1, .int a1), (2, .int a2)]) hx hb dX11_ways_24 rfl hl (by decide) rfl (fun ls hl => ?_)
      refine lv_iconst (v := 0) hx hb dX11_ways_25 (by decide) ?_
      refine lv_istore (lv' := [(4, .int 0), (3, .int 0), (0, .ref (ad 0 0)), (1, .int a1), (2, .int a2)]) hx hb dX11_ways_26 hl (by decide) rfl (fun ls hl => ?_)
      have loop_28 : ∀ (K_28 : Int32 → St → Option (Int32 × St)) (hK_28 : (∀ (y19 : Int32) (σ20 : St) (H : Heap) (locs : List Loc) (hP : va_P (dC, dI) vwCl (wG ks ad σ20) H) (hD : va_D A (wG ks ad σ20)) (hS : va_S A s.heap H locs) (hf : K_28 y19 σ20 = some out) (ls : Array Slot), lv_has ls 6 [(3, .int y19)] → W p l e rX11_ways s m args below meth c H locs 0 0 (MQ below (va_Qi (fun r σ' => r = out.1 ∧ σ' = out.2) (gBw dC dI ks ad A) A) args s 0 0 A) (F0 m 80 ls []))) (n_28 : Nat) (x5 : Int32) (x6 : Int32) (σ7 : St) (H : Heap) (locs : List Loc) (hP : va_P (dC, dI) vwCl (wG ks ad σ7) H) (hD : va_D A (wG ks ad σ7)) (hS : va_S A s.heap H locs) (hf : fX11_ways_L28 a1 a2 K_28 n_28 x5 x6 σ7 = some out) (ls : Array Slot), lv_has ls 6 [(0, .ref (ad 0 0)), (1, .int a1), (2, .int a2), (3, .int x5), (4, .int x6)] → W p l e rX11_ways s m args below meth c H locs 0 0 (MQ below (va_Qi (fun r σ' => r = out.1 ∧ σ' = out.2) (gBw dC dI ks ad A) A) args s 0 0 A) (F0 m 28 ls []) := by
        intro K_28 hK_28 n_28
        induction n_28 with
        | zero => intro x5 x6 σ7 H locs hP hD hS hf; cases hf
        | succ n_28 ih_28 =>
          intro x5 x6 σ7 H locs hP hD hS hf ls hl
          have hf : fX11_ways_L28B a1 a2 K_28 (fX11_ways_L28 a1 a2 K_28 n_28) x5 x6 σ7 = some out := hf
          unfold fX11_ways_L28B at hf
          refine lv_iload hx hb dX11_ways_28 (lv_at hl 4 rfl) ?_
          refine lv_aload_n hx hb dX11_ways_30 rfl (lv_at hl 0 rfl) ?_
          refine gget E in_X11 hK hP (q_main ks ad σ7) rfl (k := 0) (by decide) wd_1_145 rfl (v := .ref (ad 1 0)) rfl dX11_ways_31 ?_
          refine gget E in_X3 hK hP (qh_0 ks ad σ7 (by decide : (0 : Nat) < 3)) rfl (k := 0) (by decide) wd_1_73 rfl (v := .int (gI σ7 0 0 0)) rfl dX11_ways_34 ?_
          refine lv_icmp_ge (tgt := 80) hx hb dX11_ways_37 (by decide) (fun c8 => ?_) (fun c8 => ?_)
          · replace hf := pos_e c8 hf
            exact hK_28 _ _ _ _ hP hD hS hf _ (lv_sub hl [3] rfl)
          · replace hf := neg_e c8 hf
            refine lv_iconst (v := 0) hx hb dX11_ways_40 (by decide) ?_
            refine lv_istore (lv' := [(5, .int 0), (0, .ref (ad 0 0)), (1, .int a1), (2, .int a2), (3, .int x5), (4, .int x6)]) hx hb dX11_ways_41 hl (by decide) rfl (fun ls hl => ?_)
            have loop_43 : ∀ (K_43 : Int32 → St → Option (Int32 × St)) (hK_43 : (∀ (y16 : Int32) (σ17 : St) (H : Heap) (locs : List Loc) (hP : va_P (dC, dI) vwCl (wG ks ad σ17) H) (hD : va_D A (wG ks ad σ17)) (hS : va_S A s.heap H locs) (hf : K_43 y16 σ17 = some out) (ls : Array Slot), lv_has ls 6 [(0, .ref (ad 0 0)), (1, .int a1), (2, .int a2), (3, .int y16), (4, .int x6)] → W p l e rX11_ways s m args below meth c H locs 0 0 (MQ below (va_Qi (fun r σ' => r = out.1 ∧ σ' = out.2) (gBw dC dI ks ad A) A) args s 0 0 A) (F0 m 74 ls []))) (n_43 : Nat) (x9 : Int32) (x10 : Int32) (σ11 : St) (H : Heap) (locs : List Loc) (hP : va_P (dC, dI) vwCl (wG ks ad σ11) H) (hD : va_D A (wG ks ad σ11)) (hS : va_S A s.heap H locs) (hf : fX11_ways_L43 a1 a2 x6 K_43 n_43 x9 x10 σ11 = some out) (ls : Array Slot), lv_has ls 6 [(0, .ref (ad 0 0)), (1, .int a1), (2, .int a2), (3, .int x9), (4, .int x6), (5, .int x10)] → W p l e rX11_ways s m args below meth c H locs 0 0 (MQ below (va_Qi (fun r σ' => r = out.1 ∧ σ' = out.2) (gBw dC dI ks ad A) A) args s 0 0 A) (F0 m 43 ls []) := by
              intro K_43 hK_43 n_43
              induction n_43 with
              | zero => intro x9 x10 σ11 H locs hP hD hS hf; cases hf
              | succ n_43 ih_43 =>
                intro x9 x10 σ11 H locs hP hD hS hf ls hl
                have hf : fX11_ways_L43B a1 a2 x6 K_43 (fX11_ways_L43 a1 a2 x6 K_43 n_43) x9 x10 σ11 = some out := hf
                unfold fX11_ways_L43B at hf
                refine lv_iload hx hb dX11_ways_43 (lv_at hl 5 rfl) ?_
                refine lv_aload_n hx hb dX11_ways_45 rfl (lv_at hl 0 rfl) ?_
                refine gget E in_X11 hK hP (q_main ks ad σ11) rfl (k := 0) (by decide) wd_1_145 rfl (v := .ref (ad 1 0)) rfl dX11_ways_46 ?_
                refine gget E in_X3 hK hP (qh_0 ks ad σ11 (by decide : (0 : Nat) < 3)) rfl (k := 8) (by decide) wd_1_89 rfl (v := .int (gI σ11 0 0 8)) rfl dX11_ways_49 ?_
                refine lv_icmp_ge (tgt := 74) hx hb dX11_ways_52 (by decide) (fun c12 => ?_) (fun c12 => ?_)
                · replace hf := pos_e c12 hf
                  exact hK_43 _ _ _ _ hP hD hS hf _ (lv_sub hl [0, 1, 2, 3, 4] rfl)
                · replace hf := neg_e c12 hf
                  refine lv_iload_n hx hb dX11_ways_55 rfl (lv_at hl 3 rfl) ?_
                  refine lv_aload_n hx hb dX11_ways_56 rfl (lv_at hl 0 rfl) ?_
                  refine lv_iload hx hb dX11_ways_57 (lv_at hl 4 rfl) ?_
                  refine lv_iload_n hx hb dX11_ways_59 rfl (lv_at hl 1 rfl) ?_
                  refine lv_iload hx hb dX11_ways_60 (lv_at hl 5 rfl) ?_
                  refine lv_iload_n hx hb dX11_ways_62 rfl (lv_at hl 2 rfl) ?_
                  obtain ⟨r13, er13, hf⟩ := bd_e hf
                  refine gVw_i E hK hP hD hS hA (cX11_waysByc _ _ _ _ er13) kV_X11_waysBy wd_3_128 rfl rfl (q_main ks ad σ11) rfl rfl rfl ⟨Nat.le_of_ble_eq_true rfl, Nat.le_of_ble_eq_true rfl⟩ ⟨Nat.zero_le _, Nat.zero_le _⟩ hl.1 (Nat.le_of_ble_eq_true rfl) rfl dX11_ways_63 (fun H locs hP hD hS => ?_)
                  refine lv_iadd hx hb dX11_ways_66 ?_
                  obtain ⟨v14, ev14, hf⟩ := nmv_e hf
                  refine lv_nmi ev14 ?_
                  refine lv_istore_n (lv' := [(3, .int v14), (0, .ref (ad 0 0)), (1, .int a1), (2, .int a2), (4, .int x6), (5, .int x10)]) hx hb dX11_ways_67 rfl hl (by decide) rfl (fun ls hl => ?_)
                  obtain ⟨v15, ev15, hf⟩ := nmv_e hf
                  refine lv_iinc (v := v15) (lv' := [(5, .int v15), (3, .int v14), (0, .ref (ad 0 0)), (1, .int a1), (2, .int a2), (4, .int x6)]) hx hb dX11_ways_68 hl (k := 5) rfl (by rw [ev15]; rfl) (by decide) rfl (fun ls hl => ?_)
                  refine lv_goto (tgt := 43) hx hb dX11_ways_71 (by decide) ?_
                  exact ih_43 _ _ _ _ _ hP hD hS hf _ (lv_sub hl [2, 3, 4, 1, 5, 0] rfl)
            refine loop_43 _ (fun y16 σ17 H locs hP hD hS hf ls hl => ?_) _ _ _ _ _ _ hP hD hS hf _ (lv_sub hl [1, 2, 3, 4, 5, 0] rfl)
            obtain ⟨v18, ev18, hf⟩ := nmv_e hf
            refine lv_iinc (v := v18) (lv' := [(4, .int v18), (0, .ref (ad 0 0)), (1, .int a1), (2, .int a2), (3, .int y16)]) hx hb dX11_ways_74 hl (k := 4) rfl (by rw [ev18]; rfl) (by decide) rfl (fun ls hl => ?_)
            refine lv_goto (tgt := 28) hx hb dX11_ways_77 (by decide) ?_
            exact ih_28 _ _ _ _ _ hP hD hS hf _ (lv_sub hl [1, 2, 3, 4, 0] rfl)
      refine loop_28 _ (fun y19 σ20 H locs hP hD hS hf ls hl => ?_) _ _ _ _ _ _ hP hD hS hf _ (lv_sub hl [2, 3, 4, 1, 0] rfl)
      refine lv_iload_n hx hb dX11_ways_80 rfl (lv_at hl 0 rfl) ?_
      exact gretw_i E hlk hP hD hS hr dX11_ways_81 (som_e hf)
    · replace hf := neg_e c4 hf
      refine lv_iconst (v := -1) hx hb dX11_ways_21 (by decide) ?_
      exact gretw_i E hlk hP hD hS hr dX11_ways_22 (som_e hf)
noncomputable def fX11_bladesFor_J52 (x6 : Int32) (rec_20 : Int32 → Int32 → St → Option (Int32 × St)) (z10 : Int32) (σ11 : St) : Option (Int32 × St) :=
  nmv (x6 + 1) fun v12 =>
  rec_20 z10 v12 σ11
noncomputable def fX11_bladesFor_L20B (a1 : Int32) (a2 : Int32) (x2 : Int32) (K_20 : Int32 → St → Option (Int32 × St)) (rec_20 : Int32 → Int32 → St → Option (Int32 × St)) (x5 : Int32) (x6 : Int32) (σ7 : St) : Option (Int32 × St) :=
  if (gI σ7 0 0 8) ≤ x6 then
  K_20 x5 σ7
  else
  bd (fX11_waysBy σ7 x2 a1 x6 a2) fun r9 =>
  if r9.1 ≤ 0 then
  fX11_bladesFor_J52 x6 rec_20 x5 r9.2
  else
  nmv (x5 ||| ((1 : Int32) <<< (x2 &&& 31))) fun v14 =>
  fX11_bladesFor_J52 x6 rec_20 v14 r9.2
noncomputable def fX11_bladesFor_L20 (a1 : Int32) (a2 : Int32) (x2 : Int32) (K_20 : Int32 → St → Option (Int32 × St)) : Nat → Int32 → Int32 → St → Option (Int32 × St)
  | 0 => fun _ _ _ => none
  | n + 1 => fX11_bladesFor_L20B a1 a2 x2 K_20 (fX11_bladesFor_L20 a1 a2 x2 K_20 n)
noncomputable def fX11_bladesFor_L5B (a1 : Int32) (a2 : Int32) (K_5 : Int32 → St → Option (Int32 × St)) (rec_5 : Int32 → Int32 → St → Option (Int32 × St)) (x1 : Int32) (x2 : Int32) (σ3 : St) : Option (Int32 × St) :=
  if (gI σ3 0 0 0) ≤ x2 then
  K_5 x1 σ3
  else
  fX11_bladesFor_L20 a1 a2 x2 (fun y15 σ16 => nmv (x2 + 1) fun v17 =>
  rec_5 y15 v17 σ16) FU x1 0 σ3
noncomputable def fX11_bladesFor_L5 (a1 : Int32) (a2 : Int32) (K_5 : Int32 → St → Option (Int32 × St)) : Nat → Int32 → Int32 → St → Option (Int32 × St)
  | 0 => fun _ _ _ => none
  | n + 1 => fX11_bladesFor_L5B a1 a2 K_5 (fX11_bladesFor_L5 a1 a2 K_5 n)
noncomputable def fX11_bladesFor (σ : St) (a1 : Int32) (a2 : Int32) : Option (Int32 × St) :=
  fX11_bladesFor_L5 a1 a2 (fun y18 σ19 => some (y18, σ19)) FU 0 0 σ
def rX11_bladesFor : Room := { frames := 5, cells := 0, slots := 0, locals := 122 }
set_option maxHeartbeats 4000000 in
set_option maxRecDepth 100000 in
theorem cX11_bladesForc {l : Launch} {dC : Nat → ClassId} {dI : Nat → Nat → Nat} {ks : Nat → ClassId} {ad : Nat → Nat → Nat} {σ : St} (a1 : Int32) (a2 : Int32)  {out : Int32 × St} (hf : fX11_bladesFor σ a1 a2 = some out) : MWi l dC dI ks ad σ yX11_bladesFor cX11_bladesFor 6 (some .int) rX11_bladesFor [.ref (ad 0 0), .int a1, .int a2] out := by
  intro sz
  refine met_w (Qc := fun A => va_Qi (fun r σ' => r = out.1 ∧ σ' = out.2) (gBw dC dI ks ad A) A) (own := RX11) (by decide) rfl (Nat.le_of_ble_eq_true rfl) ?_
  intro A p e s m args below meth c ls E hr hlk hA hP hD hS hK hl
  have hx := E.1
  have hb := E.2.1
  have hl : lv_has ls 6 [(0, .ref (ad 0 0)), (1, .int a1), (2, .int a2)] := hl
  unfold fX11_bladesFor at hf
  refine lv_iconst (v := 0) hx hb dX11_bladesFor_0 (by decide) ?_
  refine lv_istore_n (lv' := [(3, .int 0), (0, .ref (ad 0 0)), (1, .int a1), (2, .int a2)]) hx hb dX11_bladesFor_1 rfl hl (by decide) rfl (fun ls hl => ?_)
  refine lv_iconst (v := 0) hx hb dX11_bladesFor_2 (by decide) ?_
  refine lv_istore (lv' := [(4, .int 0), (3, .int 0), (0, .ref (ad 0 0)), (1, .int a1), (2, .int a2)]) hx hb dX11_bladesFor_3 hl (by decide) rfl (fun ls hl => ?_)
  have loop_5 : ∀ (K_5 : Int32 → St → Option (Int32 × St)) (hK_5 : (∀ (y18 : Int32) (σ19 : St) (H : Heap) (locs : List Loc) (hP : va_P (dC, dI) vwCl (wG ks ad σ19) H) (hD : va_D A (wG ks ad σ19)) (hS : va_S A s.heap H locs) (hf : K_5 y18 σ19 = some out) (ls : Array Slot), lv_has ls 6 [(3, .int y18)] → W p l e rX11_bladesFor s m args below meth c H locs 0 0 (MQ below (va_Qi (fun r σ' => r = out.1 ∧ σ' = out.2) (gBw dC dI ks ad A) A) args s 0 0 A) (F0 m 64 ls []))) (n_5 : Nat) (x1 : Int32) (x2 : Int32) (σ3 : St) (H : Heap) (locs : List Loc) (hP : va_P (dC, dI) vwCl (wG ks ad σ3) H) (hD : va_D A (wG ks ad σ3)) (hS : va_S A s.heap H locs) (hf : fX11_bladesFor_L5 a1 a2 K_5 n_5 x1 x2 σ3 = some out) (ls : Array Slot), lv_has ls 6 [(0, .ref (ad 0 0)), (1, .int a1), (2, .int a2), (3, .int x1), (4, .int x2)] → W p l e rX11_bladesFor s m args below meth c H locs 0 0 (MQ below (va_Qi (fun r σ' => r = out.1 ∧ σ' = out.2) (gBw dC dI ks ad A) A) args s 0 0 A) (F0 m 5 ls []) := by
    intro K_5 hK_5 n_5
    induction n_5 with
    | zero => intro x1 x2 σ3 H locs hP hD hS hf; cases hf
    | succ n_5 ih_5 =>
      intro x1 x2 σ3 H locs hP hD hS hf ls hl
      have hf : fX11_bladesFor_L5B a1 a2 K_5 (fX11_bladesFor_L5 a1 a2 K_5 n_5) x1 x2 σ3 = some out := hf
      unfold fX11_bladesFor_L5B at hf
      refine lv_iload hx hb dX11_bladesFor_5 (lv_at hl 4 rfl) ?_
      refine lv_aload_n hx hb dX11_bladesFor_7 rfl (lv_at hl 0 rfl) ?_
      refine gget E in_X11 hK hP (q_main ks ad σ3) rfl (k := 0) (by decide) wd_1_145 rfl (v := .ref (ad 1 0)) rfl dX11_bladesFor_8 ?_
      refine gget E in_X3 hK hP (qh_0 ks ad σ3 (by decide : (0 : Nat) < 3)) rfl (k := 0) (by decide) wd_1_73 rfl (v := .int (gI σ3 0 0 0)) rfl dX11_bladesFor_11 ?_
      refine lv_icmp_ge (tgt := 64) hx hb dX11_bladesFor_14 (by decide) (fun c4 => ?_) (fun c4 => ?_)
      · replace hf := pos_e c4 hf
        exact hK_5 _ _ _ _ hP hD hS hf _ (lv_sub hl [3] rfl)
      · replace hf := neg_e c4 hf
        refine lv_iconst (v := 0) hx hb dX11_bladesFor_17 (by decide) ?_
        refine lv_istore (lv' := [(5, .int 0), (0, .ref (ad 0 0)), (1, .int a1), (2, .int a2), (3, .int x1), (4, .int x2)]) hx hb dX11_bladesFor_18 hl (by decide) rfl (fun ls hl => ?_)
        have loop_20 : ∀ (K_20 : Int32 → St → Option (Int32 × St)) (hK_20 : (∀ (y15 : Int32) (σ16 : St) (H : Heap) (locs : List Loc) (hP : va_P (dC, dI) vwCl (wG ks ad σ16) H) (hD : va_D A (wG ks ad σ16)) (hS : va_S A s.heap H locs) (hf : K_20 y15 σ16 = some out) (ls : Array Slot), lv_has ls 6 [(0, .ref (ad 0 0)), (1, .int a1), (2, .int a2), (3, .int y15), (4, .int x2)] → W p l e rX11_bladesFor s m args below meth c H locs 0 0 (MQ below (va_Qi (fun r σ' => r = out.1 ∧ σ' = out.2) (gBw dC dI ks ad A) A) args s 0 0 A) (F0 m 58 ls []))) (n_20 : Nat) (x5 : Int32) (x6 : Int32) (σ7 : St) (H : Heap) (locs : List Loc) (hP : va_P (dC, dI) vwCl (wG ks ad σ7) H) (hD : va_D A (wG ks ad σ7)) (hS : va_S A s.heap H locs) (hf : fX11_bladesFor_L20 a1 a2 x2 K_20 n_20 x5 x6 σ7 = some out) (ls : Array Slot), lv_has ls 6 [(0, .ref (ad 0 0)), (1, .int a1), (2, .int a2), (3, .int x5), (4, .int x2), (5, .int x6)] → W p l e rX11_bladesFor s m args below meth c H locs 0 0 (MQ below (va_Qi (fun r σ' => r = out.1 ∧ σ' = out.2) (gBw dC dI ks ad A) A) args s 0 0 A) (F0 m 20 ls []) := by
          intro K_20 hK_20 n_20
          induction n_20 with
          | zero => intro x5 x6 σ7 H locs hP hD hS hf; cases hf
          | succ n_20 ih_20 =>
            intro x5 x6 σ7 H locs hP hD hS hf ls hl
            have hf : fX11_bladesFor_L20B a1 a2 x2 K_20 (fX11_bladesFor_L20 a1 a2 x2 K_20 n_20) x5 x6 σ7 = some out := hf
            unfold fX11_bladesFor_L20B at hf
            refine lv_iload hx hb dX11_bladesFor_20 (lv_at hl 5 rfl) ?_
            refine lv_aload_n hx hb dX11_bladesFor_22 rfl (lv_at hl 0 rfl) ?_
            refine gget E in_X11 hK hP (q_main ks ad σ7) rfl (k := 0) (by decide) wd_1_145 rfl (v := .ref (ad 1 0)) rfl dX11_bladesFor_23 ?_
            refine gget E in_X3 hK hP (qh_0 ks ad σ7 (by decide : (0 : Nat) < 3)) rfl (k := 8) (by decide) wd_1_89 rfl (v := .int (gI σ7 0 0 8)) rfl dX11_bladesFor_26 ?_
            refine lv_icmp_ge (tgt := 58) hx hb dX11_bladesFor_29 (by decide) (fun c8 => ?_) (fun c8 => ?_)
            · replace hf := pos_e c8 hf
              exact hK_20 _ _ _ _ hP hD hS hf _ (lv_sub hl [0, 1, 2, 3, 4] rfl)
            · replace hf := neg_e c8 hf
              refine lv_aload_n hx hb dX11_bladesFor_32 rfl (lv_at hl 0 rfl) ?_
              refine lv_iload hx hb dX11_bladesFor_33 (lv_at hl 4 rfl) ?_
              refine lv_iload_n hx hb dX11_bladesFor_35 rfl (lv_at hl 1 rfl) ?_
              refine lv_iload hx hb dX11_bladesFor_36 (lv_at hl 5 rfl) ?_
              refine lv_iload_n hx hb dX11_bladesFor_38 rfl (lv_at hl 2 rfl) ?_
              obtain ⟨r9, er9, hf⟩ := bd_e hf
              refine gVw_i E hK hP hD hS hA (cX11_waysByc _ _ _ _ er9) kV_X11_waysBy wd_3_128 rfl rfl (q_main ks ad σ7) rfl rfl rfl ⟨Nat.le_of_ble_eq_true rfl, Nat.le_of_ble_eq_true rfl⟩ ⟨Nat.zero_le _, Nat.zero_le _⟩ hl.1 (Nat.le_of_ble_eq_true rfl) rfl dX11_bladesFor_39 (fun H locs hP hD hS => ?_)
              have hJ_52 : ∀ (z10 : Int32) (σ11 : St) (H : Heap) (locs : List Loc) (hP : va_P (dC, dI) vwCl (wG ks ad σ11) H) (hD : va_D A (wG ks ad σ11)) (hS : va_S A s.heap H locs) (hf : fX11_bladesFor_J52 x6 (fX11_bladesFor_L20 a1 a2 x2 K_20 n_20) z10 σ11 = some out) (ls : Array Slot), lv_has ls 6 [(0, .ref (ad 0 0)), (1, .int a1), (2, .int a2), (3, .int z10), (4, .int x2), (5, .int x6)] → W p l e rX11_bladesFor s m args below meth c H locs 0 0 (MQ below (va_Qi (fun r σ' => r = out.1 ∧ σ' = out.2) (gBw dC dI ks ad A) A) args s 0 0 A) (F0 m 52 ls []) := by
                intro z10 σ11 H locs hP hD hS hf ls hl
                unfold fX11_bladesFor_J52 at hf
                obtain ⟨v12, ev12, hf⟩ := nmv_e hf
                refine lv_iinc (v := v12) (lv' := [(5, .int v12), (0, .ref (ad 0 0)), (1, .int a1), (2, .int a2), (3, .int z10), (4, .int x2)]) hx hb dX11_bladesFor_52 hl (k := 5) rfl (by rw [ev12]; rfl) (by decide) rfl (fun ls hl => ?_)
                refine lv_goto (tgt := 20) hx hb dX11_bladesFor_55 (by decide) ?_
                exact ih_20 _ _ _ _ _ hP hD hS hf _ (lv_sub hl [1, 2, 3, 4, 5, 0] rfl)
              refine lv_if_le (tgt := 52) hx hb dX11_bladesFor_42 (by decide) (fun c13 => ?_) (fun c13 => ?_)
              · replace hf := pos_e c13 hf
                exact hJ_52 _ _ _ _ hP hD hS hf _ (lv_sub hl [0, 1, 2, 3, 4, 5] rfl)
              · replace hf := neg_e c13 hf
                refine lv_iload_n hx hb dX11_bladesFor_45 rfl (lv_at hl 3 rfl) ?_
                refine lv_iconst (v := 1) hx hb dX11_bladesFor_46 (by decide) ?_
                refine lv_iload hx hb dX11_bladesFor_47 (lv_at hl 4 rfl) ?_
                refine lv_ishl hx hb dX11_bladesFor_49 ?_
                refine lv_ior hx hb dX11_bladesFor_50 ?_
                obtain ⟨v14, ev14, hf⟩ := nmv_e hf
                refine lv_nmi ev14 ?_
                refine lv_istore_n (lv' := [(3, .int v14), (0, .ref (ad 0 0)), (1, .int a1), (2, .int a2), (4, .int x2), (5, .int x6)]) hx hb dX11_bladesFor_51 rfl hl (by decide) rfl (fun ls hl => ?_)
                exact hJ_52 _ _ _ _ hP hD hS hf _ (lv_sub hl [1, 2, 3, 0, 4, 5] rfl)
        refine loop_20 _ (fun y15 σ16 H locs hP hD hS hf ls hl => ?_) _ _ _ _ _ _ hP hD hS hf _ (lv_sub hl [1, 2, 3, 4, 5, 0] rfl)
        obtain ⟨v17, ev17, hf⟩ := nmv_e hf
        refine lv_iinc (v := v17) (lv' := [(4, .int v17), (0, .ref (ad 0 0)), (1, .int a1), (2, .int a2), (3, .int y15)]) hx hb dX11_bladesFor_58 hl (k := 4) rfl (by rw [ev17]; rfl) (by decide) rfl (fun ls hl => ?_)
        refine lv_goto (tgt := 5) hx hb dX11_bladesFor_61 (by decide) ?_
        exact ih_5 _ _ _ _ _ hP hD hS hf _ (lv_sub hl [1, 2, 3, 4, 0] rfl)
  refine loop_5 _ (fun y18 σ19 H locs hP hD hS hf ls hl => ?_) _ _ _ _ _ _ hP hD hS hf _ (lv_sub hl [2, 3, 4, 1, 0] rfl)
  refine lv_iload_n hx hb dX11_bladesFor_64 rfl (lv_at hl 0 rfl) ?_
  exact gretw_i E hlk hP hD hS hr dX11_bladesFor_65 (som_e hf)
noncomputable def fX11_areThreeUnlike_J64 (x3 : Int32) (rec_11 : Int32 → Option (Int32)) : Option (Int32) :=
  nmv (x3 <<< ((1 : Int32) &&& 31)) fun v6 =>
  rec_11 v6
noncomputable def fX11_areThreeUnlike_J42 (a3 : Int32) (x1 : Int32) (x3 : Int32) (rec_11 : Int32 → Option (Int32)) (z5 : Int32) : Option (Int32) :=
  if z5 = 0 then
  fX11_areThreeUnlike_J64 x3 rec_11
  else
  if ((a3 &&& (x1 ^^^ (-1 : Int32))) &&& (x3 ^^^ (-1 : Int32))) = 0 then
  fX11_areThreeUnlike_J64 x3 rec_11
  else
  some 1
noncomputable def fX11_areThreeUnlike_J41 (a3 : Int32) (x1 : Int32) (x3 : Int32) (rec_11 : Int32 → Option (Int32)) : Option (Int32) :=
  fX11_areThreeUnlike_J42 a3 x1 x3 rec_11 0
noncomputable def fX11_areThreeUnlike_L11B (a1 : Int32) (a2 : Int32) (a3 : Int32) (x1 : Int32) (K_11 : Option (Int32)) (rec_11 : Int32 → Option (Int32)) (x3 : Int32) : Option (Int32) :=
  if 64 ≤ x3 then
  K_11
  else
  if (a1 &&& x1) = 0 then
  fX11_areThreeUnlike_J41 a3 x1 x3 rec_11
  else
  if (a2 &&& x3) = 0 then
  fX11_areThreeUnlike_J41 a3 x1 x3 rec_11
  else
  if x1 = x3 then
  fX11_areThreeUnlike_J41 a3 x1 x3 rec_11
  else
  fX11_areThreeUnlike_J42 a3 x1 x3 rec_11 1
noncomputable def fX11_areThreeUnlike_L11 (a1 : Int32) (a2 : Int32) (a3 : Int32) (x1 : Int32) (K_11 : Option (Int32)) : Nat → Int32 → Option (Int32)
  | 0 => fun _ => none
  | n + 1 => fX11_areThreeUnlike_L11B a1 a2 a3 x1 K_11 (fX11_areThreeUnlike_L11 a1 a2 a3 x1 K_11 n)
noncomputable def fX11_areThreeUnlike_L2B (a1 : Int32) (a2 : Int32) (a3 : Int32) (K_2 : Option (Int32)) (rec_2 : Int32 → Option (Int32)) (x1 : Int32) : Option (Int32) :=
  if 64 ≤ x1 then
  K_2
  else
  fX11_areThreeUnlike_L11 a1 a2 a3 x1 (nmv (x1 <<< ((1 : Int32) &&& 31)) fun v12 =>
  rec_2 v12) FU 1
noncomputable def fX11_areThreeUnlike_L2 (a1 : Int32) (a2 : Int32) (a3 : Int32) (K_2 : Option (Int32)) : Nat → Int32 → Option (Int32)
  | 0 => fun _ => none
  | n + 1 => fX11_areThreeUnlike_L2B a1 a2 a3 K_2 (fX11_areThreeUnlike_L2 a1 a2 a3 K_2 n)
noncomputable def fX11_areThreeUnlike (σ : St) (a1 : Int32) (a2 : Int32) (a3 : Int32) : Option (Int32) :=
  fX11_areThreeUnlike_L2 a1 a2 a3 (some 0) FU 1
def rX11_areThreeUnlike : Room := { frames := 0, cells := 0, slots := 0, locals := 0 }
set_option maxHeartbeats 4000000 in
set_option maxRecDepth 100000 in
theorem cX11_areThreeUnlikec {l : Launch} {dC : Nat → ClassId} {dI : Nat → Nat → Nat} {ks : Nat → ClassId} {ad : Nat → Nat → Nat} {σ : St} (a1 : Int32) (a2 : Int32) (a3 : Int32)  {out : Int32} (hf : fX11_areThreeUnlike σ a1 a2 a3 = some out) : MRi l dC dI ks ad σ yX11_areThreeUnlike cX11_areThreeUnlike 6 (some .boolean) rX11_areThreeUnlike [.int a1, .int a2, .int a3] out := by
  refine met_r (own := RX11) (by decide) rfl (Nat.le_of_ble_eq_true rfl) ?_
  intro p e s m args below meth c ls E hr hlk hP hK hl
  have hx := E.1
  have hb := E.2.1
  have hl : lv_has ls 6 [(0, .int a1), (1, .int a2), (2, .int a3)] := hl
  unfold fX11_areThreeUnlike at hf
  refine lv_iconst (v := 1) hx hb dX11_areThreeUnlike_0 (by decide) ?_
  refine lv_istore_n (lv' := [(3, .int 1), (0, .int a1), (1, .int a2), (2, .int a3)]) hx hb dX11_areThreeUnlike_1 rfl hl (by decide) rfl (fun ls hl => ?_)
  have loop_2 : ∀ (K_2 : Option (Int32)) (hK_2 : (∀ (hf : K_2 = some out) (ls : Array Slot), lv_has ls 6 [] → W p l e rX11_areThreeUnlike s m args below meth c s.heap [] 0 0 (MQ below (vp_Si (fun r => r = out)) args s 0 0 (fun _ => False)) (F0 m 80 ls []))) (n_2 : Nat) (x1 : Int32) (hf : fX11_areThreeUnlike_L2 a1 a2 a3 K_2 n_2 x1 = some out) (ls : Array Slot), lv_has ls 6 [(0, .int a1), (1, .int a2), (2, .int a3), (3, .int x1)] → W p l e rX11_areThreeUnlike s m args below meth c s.heap [] 0 0 (MQ below (vp_Si (fun r => r = out)) args s 0 0 (fun _ => False)) (F0 m 2 ls []) := by
    intro K_2 hK_2 n_2
    induction n_2 with
    | zero => intro x1 hf; cases hf
    | succ n_2 ih_2 =>
      intro x1 hf ls hl
      have hf : fX11_areThreeUnlike_L2B a1 a2 a3 K_2 (fX11_areThreeUnlike_L2 a1 a2 a3 K_2 n_2) x1 = some out := hf
      unfold fX11_areThreeUnlike_L2B at hf
      refine lv_iload_n hx hb dX11_areThreeUnlike_2 rfl (lv_at hl 3 rfl) ?_
      refine lv_bipush (v := 64) hx hb dX11_areThreeUnlike_3 (by decide) ?_
      refine lv_icmp_ge (tgt := 80) hx hb dX11_areThreeUnlike_5 (by decide) (fun c2 => ?_) (fun c2 => ?_)
      · replace hf := pos_e c2 hf
        exact hK_2 hf _ (lv_sub hl [] rfl)
      · replace hf := neg_e c2 hf
        refine lv_iconst (v := 1) hx hb dX11_areThreeUnlike_8 (by decide) ?_
        refine lv_istore (lv' := [(4, .int 1), (0, .int a1), (1, .int a2), (2, .int a3), (3, .int x1)]) hx hb dX11_areThreeUnlike_9 hl (by decide) rfl (fun ls hl => ?_)
        have loop_11 : ∀ (K_11 : Option (Int32)) (hK_11 : (∀ (hf : K_11 = some out) (ls : Array Slot), lv_has ls 6 [(0, .int a1), (1, .int a2), (2, .int a3), (3, .int x1)] → W p l e rX11_areThreeUnlike s m args below meth c s.heap [] 0 0 (MQ below (vp_Si (fun r => r = out)) args s 0 0 (fun _ => False)) (F0 m 73 ls []))) (n_11 : Nat) (x3 : Int32) (hf : fX11_areThreeUnlike_L11 a1 a2 a3 x1 K_11 n_11 x3 = some out) (ls : Array Slot), lv_has ls 6 [(0, .int a1), (1, .int a2), (2, .int a3), (3, .int x1), (4, .int x3)] → W p l e rX11_areThreeUnlike s m args below meth c s.heap [] 0 0 (MQ below (vp_Si (fun r => r = out)) args s 0 0 (fun _ => False)) (F0 m 11 ls []) := by
          intro K_11 hK_11 n_11
          induction n_11 with
          | zero => intro x3 hf; cases hf
          | succ n_11 ih_11 =>
            intro x3 hf ls hl
            have hf : fX11_areThreeUnlike_L11B a1 a2 a3 x1 K_11 (fX11_areThreeUnlike_L11 a1 a2 a3 x1 K_11 n_11) x3 = some out := hf
            unfold fX11_areThreeUnlike_L11B at hf
            refine lv_iload hx hb dX11_areThreeUnlike_11 (lv_at hl 4 rfl) ?_
            refine lv_bipush (v := 64) hx hb dX11_areThreeUnlike_13 (by decide) ?_
            refine lv_icmp_ge (tgt := 73) hx hb dX11_areThreeUnlike_15 (by decide) (fun c4 => ?_) (fun c4 => ?_)
            · replace hf := pos_e c4 hf
              exact hK_11 hf _ (lv_sub hl [0, 1, 2, 3] rfl)
            · replace hf := neg_e c4 hf
              refine lv_iload_n hx hb dX11_areThreeUnlike_18 rfl (lv_at hl 0 rfl) ?_
              refine lv_iload_n hx hb dX11_areThreeUnlike_19 rfl (lv_at hl 3 rfl) ?_
              refine lv_iand hx hb dX11_areThreeUnlike_20 ?_
              have hJ_42 : ∀ (z5 : Int32) (hf : fX11_areThreeUnlike_J42 a3 x1 x3 (fX11_areThreeUnlike_L11 a1 a2 a3 x1 K_11 n_11) z5 = some out) (ls : Array Slot), lv_has ls 6 [(0, .int a1), (1, .int a2), (2, .int a3), (3, .int x1), (4, .int x3)] → W p l e rX11_areThreeUnlike s m args below meth c s.heap [] 0 0 (MQ below (vp_Si (fun r => r = out)) args s 0 0 (fun _ => False)) (F0 m 42 ls [.int z5]) := by
                intro z5 hf ls hl
                unfold fX11_areThreeUnlike_J42 at hf
                refine lv_istore (lv' := [(5, .int z5), (0, .int a1), (1, .int a2), (2, .int a3), (3, .int x1), (4, .int x3)]) hx hb dX11_areThreeUnlike_42 hl (by decide) rfl (fun ls hl => ?_)
                refine lv_iload hx hb dX11_areThreeUnlike_44 (lv_at hl 0 rfl) ?_
                have hJ_64 : ∀ (hf : fX11_areThreeUnlike_J64 x3 (fX11_areThreeUnlike_L11 a1 a2 a3 x1 K_11 n_11) = some out) (ls : Array Slot), lv_has ls 6 [(0, .int a1), (1, .int a2), (2, .int a3), (3, .int x1), (4, .int x3)] → W p l e rX11_areThreeUnlike s m args below meth c s.heap [] 0 0 (MQ below (vp_Si (fun r => r = out)) args s 0 0 (fun _ => False)) (F0 m 64 ls []) := by
                  intro hf ls hl
                  unfold fX11_areThreeUnlike_J64 at hf
                  refine lv_iload hx hb dX11_areThreeUnlike_64 (lv_at hl 4 rfl) ?_
                  refine lv_iconst (v := 1) hx hb dX11_areThreeUnlike_66 (by decide) ?_
                  refine lv_ishl hx hb dX11_areThreeUnlike_67 ?_
                  obtain ⟨v6, ev6, hf⟩ := nmv_e hf
                  refine lv_nmi ev6 ?_
                  refine lv_istore (lv' := [(4, .int v6), (0, .int a1), (1, .int a2), (2, .int a3), (3, .int x1)]) hx hb dX11_areThreeUnlike_68 hl (by decide) rfl (fun ls hl => ?_)
                  refine lv_goto (tgt := 11) hx hb dX11_areThreeUnlike_70 (by decide) ?_
                  exact ih_11 _ hf _ (lv_sub hl [1, 2, 3, 4, 0] rfl)
                refine lv_if_eq (tgt := 64) hx hb dX11_areThreeUnlike_46 (by decide) (fun c7 => ?_) (fun c7 => ?_)
                · replace hf := pos_e c7 hf
                  exact hJ_64 hf _ (lv_sub hl [1, 2, 3, 4, 5] rfl)
                · replace hf := neg_e c7 hf
                  refine lv_iload_n hx hb dX11_areThreeUnlike_49 rfl (lv_at hl 3 rfl) ?_
                  refine lv_iload_n hx hb dX11_areThreeUnlike_50 rfl (lv_at hl 4 rfl) ?_
                  refine lv_iconst (v := -1) hx hb dX11_areThreeUnlike_51 (by decide) ?_
                  refine lv_ixor hx hb dX11_areThreeUnlike_52 ?_
                  refine lv_iand hx hb dX11_areThreeUnlike_53 ?_
                  refine lv_iload hx hb dX11_areThreeUnlike_54 (lv_at hl 5 rfl) ?_
                  refine lv_iconst (v := -1) hx hb dX11_areThreeUnlike_56 (by decide) ?_
                  refine lv_ixor hx hb dX11_areThreeUnlike_57 ?_
                  refine lv_iand hx hb dX11_areThreeUnlike_58 ?_
                  refine lv_if_eq (tgt := 64) hx hb dX11_areThreeUnlike_59 (by decide) (fun c8 => ?_) (fun c8 => ?_)
                  · replace hf := pos_e c8 hf
                    exact hJ_64 hf _ (lv_sub hl [1, 2, 3, 4, 5] rfl)
                  · replace hf := neg_e c8 hf
                    refine lv_iconst (v := 1) hx hb dX11_areThreeUnlike_62 (by decide) ?_
                    exact gret_z rfl E hr hlk dX11_areThreeUnlike_63 (som_e hf).symm
              have hJ_41 : ∀ (hf : fX11_areThreeUnlike_J41 a3 x1 x3 (fX11_areThreeUnlike_L11 a1 a2 a3 x1 K_11 n_11) = some out) (ls : Array Slot), lv_has ls 6 [(0, .int a1), (1, .int a2), (2, .int a3), (3, .int x1), (4, .int x3)] → W p l e rX11_areThreeUnlike s m args below meth c s.heap [] 0 0 (MQ below (vp_Si (fun r => r = out)) args s 0 0 (fun _ => False)) (F0 m 41 ls []) := by
                intro hf ls hl
                unfold fX11_areThreeUnlike_J41 at hf
                refine lv_iconst (v := 0) hx hb dX11_areThreeUnlike_41 (by decide) ?_
                exact hJ_42 _ hf _ (lv_sub hl [0, 1, 2, 3, 4] rfl)
              refine lv_if_eq (tgt := 41) hx hb dX11_areThreeUnlike_21 (by decide) (fun c9 => ?_) (fun c9 => ?_)
              · replace hf := pos_e c9 hf
                exact hJ_41 hf _ (lv_sub hl [0, 1, 2, 3, 4] rfl)
              · replace hf := neg_e c9 hf
                refine lv_iload_n hx hb dX11_areThreeUnlike_24 rfl (lv_at hl 1 rfl) ?_
                refine lv_iload hx hb dX11_areThreeUnlike_25 (lv_at hl 4 rfl) ?_
                refine lv_iand hx hb dX11_areThreeUnlike_27 ?_
                refine lv_if_eq (tgt := 41) hx hb dX11_areThreeUnlike_28 (by decide) (fun c10 => ?_) (fun c10 => ?_)
                · replace hf := pos_e c10 hf
                  exact hJ_41 hf _ (lv_sub hl [0, 1, 2, 3, 4] rfl)
                · replace hf := neg_e c10 hf
                  refine lv_iload_n hx hb dX11_areThreeUnlike_31 rfl (lv_at hl 3 rfl) ?_
                  refine lv_iload hx hb dX11_areThreeUnlike_32 (lv_at hl 4 rfl) ?_
                  refine lv_icmp_eq (tgt := 41) hx hb dX11_areThreeUnlike_34 (by decide) (fun c11 => ?_) (fun c11 => ?_)
                  · replace hf := pos_e c11 hf
                    exact hJ_41 hf _ (lv_sub hl [0, 1, 2, 3, 4] rfl)
                  · replace hf := neg_e c11 hf
                    refine lv_iconst (v := 1) hx hb dX11_areThreeUnlike_37 (by decide) ?_
                    refine lv_goto (tgt := 42) hx hb dX11_areThreeUnlike_38 (by decide) ?_
                    exact hJ_42 _ hf _ (lv_sub hl [0, 1, 2, 3, 4] rfl)
        refine loop_11 _ (fun hf ls hl => ?_) _ _ hf _ (lv_sub hl [1, 2, 3, 4, 0] rfl)
        refine lv_iload_n hx hb dX11_areThreeUnlike_73 rfl (lv_at hl 3 rfl) ?_
        refine lv_iconst (v := 1) hx hb dX11_areThreeUnlike_74 (by decide) ?_
        refine lv_ishl hx hb dX11_areThreeUnlike_75 ?_
        obtain ⟨v12, ev12, hf⟩ := nmv_e hf
        refine lv_nmi ev12 ?_
        refine lv_istore_n (lv' := [(3, .int v12), (0, .int a1), (1, .int a2), (2, .int a3)]) hx hb dX11_areThreeUnlike_76 rfl hl (by decide) rfl (fun ls hl => ?_)
        refine lv_goto (tgt := 2) hx hb dX11_areThreeUnlike_77 (by decide) ?_
        exact ih_2 _ hf _ (lv_sub hl [1, 2, 3, 0] rfl)
  refine loop_2 _ (fun hf ls hl => ?_) _ _ hf _ (lv_sub hl [1, 2, 3, 0] rfl)
  refine lv_iconst (v := 0) hx hb dX11_areThreeUnlike_80 (by decide) ?_
  exact gret_z rfl E hr hlk dX11_areThreeUnlike_81 (som_e hf).symm
noncomputable def fX11_tune_J111 (r9 : Int32 × St) (z11 : Int32) (z13 : Int32) (σ14 : St) : Option (Int32 × St) :=
  if r9.1 = 0 then
  some ((z11 + z13) + 0, σ14)
  else
  some ((z11 + z13) + 1, σ14)
noncomputable def fX11_tune_J101 (r8 : Int32 × St) (r9 : Int32 × St) (z11 : Int32) (σ12 : St) : Option (Int32 × St) :=
  if r8.1 = 0 then
  fX11_tune_J111 r9 z11 0 σ12
  else
  fX11_tune_J111 r9 z11 1 σ12
noncomputable def fX11_tune (σ : St) (a1 : Int32) (a2 : Int32) (a3 : Int32) : Option (Int32 × St) :=
  bd (fX3_hasThumbs σ 0 a1) fun r1 =>
  if r1 = 0 then
  some ((-1), σ)
  else
  bd (fX11_isOut σ a2 0 999999) fun r3 =>
  if r3 = 0 then
  bd (fX11_isOut σ a3 0 1) fun r5 =>
  if r5 = 0 then
  bd (fX11_bladesFor σ a1 (a2 / 10000)) fun r7 =>
  bd (fX11_bladesFor r7.2 a1 ((a2 / 100) - (a2 / 100) / 100 * 100)) fun r8 =>
  bd (fX11_bladesFor r8.2 a1 (a2 - a2 / 100 * 100)) fun r9 =>
  if a3 = 0 then
  bd (fX11_areThreeUnlike r9.2 r7.1 r8.1 r9.1) fun r18 =>
  if r18 = 0 then
  some (0, r9.2)
  else
  some (1, r9.2)
  else
  if r7.1 = 0 then
  fX11_tune_J101 r8 r9 0 r9.2
  else
  fX11_tune_J101 r8 r9 1 r9.2
  else
  some ((-1), σ)
  else
  some ((-1), σ)
def rX11_tune : Room := { frames := 6, cells := 0, slots := 0, locals := 147 }
set_option maxHeartbeats 4000000 in
set_option maxRecDepth 100000 in
theorem cX11_tunec {l : Launch} {dC : Nat → ClassId} {dI : Nat → Nat → Nat} {ks : Nat → ClassId} {ad : Nat → Nat → Nat} {σ : St} (a1 : Int32) (a2 : Int32) (a3 : Int32)  {out : Int32 × St} (hf : fX11_tune σ a1 a2 a3 = some out) : MWi l dC dI ks ad σ yX11_tune cX11_tune 7 (some .int) rX11_tune [.ref (ad 0 0), .int a1, .int a2, .int a3] out := by
  intro sz
  refine met_w (Qc := fun A => va_Qi (fun r σ' => r = out.1 ∧ σ' = out.2) (gBw dC dI ks ad A) A) (own := RX11) (by decide) rfl (Nat.le_of_ble_eq_true rfl) ?_
  intro A p e s m args below meth c ls E hr hlk hA hP hD hS hK hl
  have hx := E.1
  have hb := E.2.1
  have hl : lv_has ls 7 [(0, .ref (ad 0 0)), (1, .int a1), (2, .int a2), (3, .int a3)] := hl
  unfold fX11_tune at hf
  refine lv_aload_n hx hb dX11_tune_0 rfl (lv_at hl 0 rfl) ?_
  refine gget E in_X11 hK hP (q_main ks ad σ) rfl (k := 0) (by decide) wd_1_145 rfl (v := .ref (ad 1 0)) rfl dX11_tune_1 ?_
  refine lv_iload_n hx hb dX11_tune_4 rfl (lv_at hl 1 rfl) ?_
  obtain ⟨r1, er1, hf⟩ := bd_e hf
  refine gVr_i E hK hP (cX3_hasThumbsc (by decide : (0 : Nat) < 3) _ er1) kV_X3_hasThumbs wd_2_149 rfl rfl (qh_0 ks ad σ (by decide : (0 : Nat) < 3)) rfl rfl rfl ⟨Nat.le_of_ble_eq_true rfl, Nat.le_of_ble_eq_true rfl⟩ ⟨Nat.zero_le _, Nat.zero_le _⟩ hl.1 (Nat.le_of_ble_eq_true rfl) rfl dX11_tune_5 ?_
  refine lv_if_eq (tgt := 30) hx hb dX11_tune_8 (by decide) (fun c2 => ?_) (fun c2 => ?_)
  · replace hf := pos_e c2 hf
    refine lv_iconst (v := -1) hx hb dX11_tune_30 (by decide) ?_
    exact gretw_i E hlk hP hD hS hr dX11_tune_31 (som_e hf)
  · replace hf := neg_e c2 hf
    refine lv_iload_n hx hb dX11_tune_11 rfl (lv_at hl 2 rfl) ?_
    refine lv_iconst (v := 0) hx hb dX11_tune_12 (by decide) ?_
    refine lv_ldc (v := 999999) hx hb E.2.2.2.1 (E.2.2.2.2 _ wd_3_136) dX11_tune_13 ?_
    obtain ⟨r3, er3, hf⟩ := bd_e hf
    refine gSr_i E hK hP (cX11_isOutc _ _ _ er3) kS_X11_isOut wd_1_178 rfl rfl rfl ⟨Nat.le_of_ble_eq_true rfl, Nat.le_of_ble_eq_true rfl⟩ ⟨Nat.zero_le _, Nat.zero_le _⟩ hl.1 (Nat.le_of_ble_eq_true rfl) rfl dX11_tune_15 ?_
    refine lv_if_ne (tgt := 30) hx hb dX11_tune_18 (by decide) (fun c4 => ?_) (fun c4 => ?_)
    · replace hf := neg_e c4 hf
      refine lv_iconst (v := -1) hx hb dX11_tune_30 (by decide) ?_
      exact gretw_i E hlk hP hD hS hr dX11_tune_31 (som_e hf)
    · replace hf := pos_e c4 hf
      refine lv_iload_n hx hb dX11_tune_21 rfl (lv_at hl 3 rfl) ?_
      refine lv_iconst (v := 0) hx hb dX11_tune_22 (by decide) ?_
      refine lv_iconst (v := 1) hx hb dX11_tune_23 (by decide) ?_
      obtain ⟨r5, er5, hf⟩ := bd_e hf
      refine gSr_i E hK hP (cX11_isOutc _ _ _ er5) kS_X11_isOut wd_1_178 rfl rfl rfl ⟨Nat.le_of_ble_eq_true rfl, Nat.le_of_ble_eq_true rfl⟩ ⟨Nat.zero_le _, Nat.zero_le _⟩ hl.1 (Nat.le_of_ble_eq_true rfl) rfl dX11_tune_24 ?_
      refine lv_if_eq (tgt := 32) hx hb dX11_tune_27 (by decide) (fun c6 => ?_) (fun c6 => ?_)
      · replace hf := pos_e c6 hf
        refine lv_aload_n hx hb dX11_tune_32 rfl (lv_at hl 0 rfl) ?_
        refine lv_iload_n hx hb dX11_tune_33 rfl (lv_at hl 1 rfl) ?_
        refine lv_iload_n hx hb dX11_tune_34 rfl (lv_at hl 2 rfl) ?_
        refine lv_sipush (v := 10000) hx hb dX11_tune_35 (by decide) ?_
        refine lv_idiv hx hb dX11_tune_38 (by decide) ?_
        obtain ⟨r7, er7, hf⟩ := bd_e hf
        refine gVw_i E hK hP hD hS hA (cX11_bladesForc _ _ er7) kV_X11_bladesFor wd_3_137 rfl rfl (q_main ks ad σ) rfl rfl rfl ⟨Nat.le_of_ble_eq_true rfl, Nat.le_of_ble_eq_true rfl⟩ ⟨Nat.zero_le _, Nat.zero_le _⟩ hl.1 (Nat.le_of_ble_eq_true rfl) rfl dX11_tune_39 (fun H locs hP hD hS => ?_)
        refine lv_istore (lv' := [(4, .int r7.1), (0, .ref (ad 0 0)), (1, .int a1), (2, .int a2), (3, .int a3)]) hx hb dX11_tune_42 hl (by decide) rfl (fun ls hl => ?_)
        refine lv_aload_n hx hb dX11_tune_44 rfl (lv_at hl 1 rfl) ?_
        refine lv_iload_n hx hb dX11_tune_45 rfl (lv_at hl 2 rfl) ?_
        refine lv_iload_n hx hb dX11_tune_46 rfl (lv_at hl 3 rfl) ?_
        refine lv_bipush (v := 100) hx hb dX11_tune_47 (by decide) ?_
        refine lv_idiv hx hb dX11_tune_49 (by decide) ?_
        refine lv_bipush (v := 100) hx hb dX11_tune_50 (by decide) ?_
        refine lv_irem hx hb dX11_tune_52 (by decide) ?_
        obtain ⟨r8, er8, hf⟩ := bd_e hf
        refine gVw_i E hK hP hD hS hA (cX11_bladesForc _ _ er8) kV_X11_bladesFor wd_3_137 rfl rfl (q_main ks ad r7.2) rfl rfl rfl ⟨Nat.le_of_ble_eq_true rfl, Nat.le_of_ble_eq_true rfl⟩ ⟨Nat.zero_le _, Nat.zero_le _⟩ hl.1 (Nat.le_of_ble_eq_true rfl) rfl dX11_tune_53 (fun H locs hP hD hS => ?_)
        refine lv_istore (lv' := [(5, .int r8.1), (4, .int r7.1), (0, .ref (ad 0 0)), (1, .int a1), (2, .int a2), (3, .int a3)]) hx hb dX11_tune_56 hl (by decide) rfl (fun ls hl => ?_)
        refine lv_aload_n hx hb dX11_tune_58 rfl (lv_at hl 2 rfl) ?_
        refine lv_iload_n hx hb dX11_tune_59 rfl (lv_at hl 3 rfl) ?_
        refine lv_iload_n hx hb dX11_tune_60 rfl (lv_at hl 4 rfl) ?_
        refine lv_bipush (v := 100) hx hb dX11_tune_61 (by decide) ?_
        refine lv_irem hx hb dX11_tune_63 (by decide) ?_
        obtain ⟨r9, er9, hf⟩ := bd_e hf
        refine gVw_i E hK hP hD hS hA (cX11_bladesForc _ _ er9) kV_X11_bladesFor wd_3_137 rfl rfl (q_main ks ad r8.2) rfl rfl rfl ⟨Nat.le_of_ble_eq_true rfl, Nat.le_of_ble_eq_true rfl⟩ ⟨Nat.zero_le _, Nat.zero_le _⟩ hl.1 (Nat.le_of_ble_eq_true rfl) rfl dX11_tune_64 (fun H locs hP hD hS => ?_)
        refine lv_istore (lv' := [(6, .int r9.1), (5, .int r8.1), (4, .int r7.1), (0, .ref (ad 0 0)), (1, .int a1), (2, .int a2), (3, .int a3)]) hx hb dX11_tune_67 hl (by decide) rfl (fun ls hl => ?_)
        refine lv_iload_n hx hb dX11_tune_69 rfl (lv_at hl 6 rfl) ?_
        refine lv_if_ne (tgt := 91) hx hb dX11_tune_70 (by decide) (fun c10 => ?_) (fun c10 => ?_)
        · replace hf := neg_e c10 hf
          refine lv_iload hx hb dX11_tune_91 (lv_at hl 2 rfl) ?_
          have hJ_101 : ∀ (z11 : Int32) (σ12 : St) (H : Heap) (locs : List Loc) (hP : va_P (dC, dI) vwCl (wG ks ad σ12) H) (hD : va_D A (wG ks ad σ12)) (hS : va_S A s.heap H locs) (hf : fX11_tune_J101 r8 r9 z11 σ12 = some out) (ls : Array Slot), lv_has ls 7 [(5, .int r8.1), (6, .int r9.1)] → W p l e rX11_tune s m args below meth c H locs 0 0 (MQ below (va_Qi (fun r σ' => r = out.1 ∧ σ' = out.2) (gBw dC dI ks ad A) A) args s 0 0 A) (F0 m 101 ls [.int z11]) := by
            intro z11 σ12 H locs hP hD hS hf ls hl
            unfold fX11_tune_J101 at hf
            refine lv_iload hx hb dX11_tune_101 (lv_at hl 0 rfl) ?_
            have hJ_111 : ∀ (z13 : Int32) (σ14 : St) (H : Heap) (locs : List Loc) (hP : va_P (dC, dI) vwCl (wG ks ad σ14) H) (hD : va_D A (wG ks ad σ14)) (hS : va_S A s.heap H locs) (hf : fX11_tune_J111 r9 z11 z13 σ14 = some out) (ls : Array Slot), lv_has ls 7 [(6, .int r9.1)] → W p l e rX11_tune s m args below meth c H locs 0 0 (MQ below (va_Qi (fun r σ' => r = out.1 ∧ σ' = out.2) (gBw dC dI ks ad A) A) args s 0 0 A) (F0 m 111 ls [.int z13, .int z11]) := by
              intro z13 σ14 H locs hP hD hS hf ls hl
              unfold fX11_tune_J111 at hf
              refine lv_iadd hx hb dX11_tune_111 ?_
              refine lv_iload hx hb dX11_tune_112 (lv_at hl 0 rfl) ?_
              refine lv_if_eq (tgt := 121) hx hb dX11_tune_114 (by decide) (fun c15 => ?_) (fun c15 => ?_)
              · replace hf := pos_e c15 hf
                refine lv_iconst (v := 0) hx hb dX11_tune_121 (by decide) ?_
                refine lv_iadd hx hb dX11_tune_122 ?_
                exact gretw_i E hlk hP hD hS hr dX11_tune_123 (som_e hf)
              · replace hf := neg_e c15 hf
                refine lv_iconst (v := 1) hx hb dX11_tune_117 (by decide) ?_
                refine lv_goto (tgt := 122) hx hb dX11_tune_118 (by decide) ?_
                refine lv_iadd hx hb dX11_tune_122 ?_
                exact gretw_i E hlk hP hD hS hr dX11_tune_123 (som_e hf)
            refine lv_if_eq (tgt := 110) hx hb dX11_tune_103 (by decide) (fun c16 => ?_) (fun c16 => ?_)
            · replace hf := pos_e c16 hf
              refine lv_iconst (v := 0) hx hb dX11_tune_110 (by decide) ?_
              exact hJ_111 _ _ _ _ hP hD hS hf _ (lv_sub hl [1] rfl)
            · replace hf := neg_e c16 hf
              refine lv_iconst (v := 1) hx hb dX11_tune_106 (by decide) ?_
              refine lv_goto (tgt := 111) hx hb dX11_tune_107 (by decide) ?_
              exact hJ_111 _ _ _ _ hP hD hS hf _ (lv_sub hl [1] rfl)
          refine lv_if_eq (tgt := 100) hx hb dX11_tune_93 (by decide) (fun c17 => ?_) (fun c17 => ?_)
          · replace hf := pos_e c17 hf
            refine lv_iconst (v := 0) hx hb dX11_tune_100 (by decide) ?_
            exact hJ_101 _ _ _ _ hP hD hS hf _ (lv_sub hl [1, 0] rfl)
          · replace hf := neg_e c17 hf
            refine lv_iconst (v := 1) hx hb dX11_tune_96 (by decide) ?_
            refine lv_goto (tgt := 101) hx hb dX11_tune_97 (by decide) ?_
            exact hJ_101 _ _ _ _ hP hD hS hf _ (lv_sub hl [1, 0] rfl)
        · replace hf := pos_e c10 hf
          refine lv_iload hx hb dX11_tune_73 (lv_at hl 2 rfl) ?_
          refine lv_iload hx hb dX11_tune_75 (lv_at hl 1 rfl) ?_
          refine lv_iload hx hb dX11_tune_77 (lv_at hl 0 rfl) ?_
          obtain ⟨r18, er18, hf⟩ := bd_e hf
          refine gSr_i E hK hP (cX11_areThreeUnlikec _ _ _ er18) kS_X11_areThreeUnlike wd_3_141 rfl rfl rfl ⟨Nat.le_of_ble_eq_true rfl, Nat.le_of_ble_eq_true rfl⟩ ⟨Nat.zero_le _, Nat.zero_le _⟩ hl.1 (Nat.le_of_ble_eq_true rfl) rfl dX11_tune_79 ?_
          refine lv_if_eq (tgt := 89) hx hb dX11_tune_82 (by decide) (fun c19 => ?_) (fun c19 => ?_)
          · replace hf := pos_e c19 hf
            refine lv_iconst (v := 0) hx hb dX11_tune_89 (by decide) ?_
            exact gretw_i E hlk hP hD hS hr dX11_tune_90 (som_e hf)
          · replace hf := neg_e c19 hf
            refine lv_iconst (v := 1) hx hb dX11_tune_85 (by decide) ?_
            refine lv_goto (tgt := 90) hx hb dX11_tune_86 (by decide) ?_
            exact gretw_i E hlk hP hD hS hr dX11_tune_90 (som_e hf)
      · replace hf := neg_e c6 hf
        refine lv_iconst (v := -1) hx hb dX11_tune_30 (by decide) ?_
        exact gretw_i E hlk hP hD hS hr dX11_tune_31 (som_e hf)
noncomputable def fX11_triesLeft (σ : St) (a1 : Int32) (a2 : Int32) (a3 : Int32) : Option (Int32) :=
  ck (vp_in a2 6) <|
  bd (gR σ 0 0 a2.toNatClampNeg) fun j2 =>
  ck (j2 < gS σ 2 0 ∧ okc (gS σ 1 j2)) <|
  bd (fvwearBy σ j2 a3) fun r3 =>
  if 0 < r3 then
  ck (vp_in a1 6) <|
  ck (vp_in a1 6) <|
  ck (vp_in a1 6) <|
  nmv (((gI σ 2 0 a1.toNatClampNeg) + (gI σ 3 0 a1.toNatClampNeg)) - (gI σ 4 0 a1.toNatClampNeg)) fun v8 =>
  ck (¬ r3 = 0) <|
  nmv (if ((v8 / r3) + 1) < 99 then (v8 / r3) + 1 else 99) fun v10 =>
  some v10
  else
  some 99
def rX11_triesLeft : Room := { frames := 3, cells := 0, slots := 0, locals := 63 }
set_option maxHeartbeats 4000000 in
set_option maxRecDepth 100000 in
theorem cX11_triesLeftc {l : Launch} {dC : Nat → ClassId} {dI : Nat → Nat → Nat} {ks : Nat → ClassId} {ad : Nat → Nat → Nat} {σ : St} (a1 : Int32) (a2 : Int32) (a3 : Int32)  {out : Int32} (hf : fX11_triesLeft σ a1 a2 a3 = some out) : MRi l dC dI ks ad σ yX11_triesLeft cX11_triesLeft 6 (some .int) rX11_triesLeft [.ref (ad 0 0), .int a1, .int a2, .int a3] out := by
  refine met_r (own := RX11) (by decide) rfl (Nat.le_of_ble_eq_true rfl) ?_
  intro p e s m args below meth c ls E hr hlk hP hK hl
  have hx := E.1
  have hb := E.2.1
  have hl : lv_has ls 6 [(0, .ref (ad 0 0)), (1, .int a1), (2, .int a2), (3, .int a3)] := hl
  unfold fX11_triesLeft at hf
  refine lv_aload_n hx hb dX11_triesLeft_0 rfl (lv_at hl 0 rfl) ?_
  refine gget E in_X11 hK hP (q_main ks ad σ) rfl (k := 0) (by decide) wd_1_145 rfl (v := .ref (ad 1 0)) rfl dX11_triesLeft_1 ?_
  refine gget E in_X3 hK hP (qh_0 ks ad σ (by decide : (0 : Nat) < 3)) rfl (k := 9) (by decide) wd_1_91 rfl (v := .ref (ad 8 0)) rfl dX11_triesLeft_4 ?_
  refine lv_iload_n hx hb dX11_triesLeft_7 rfl (lv_at hl 2 rfl) ?_
  obtain ⟨c1, hf⟩ := ck_e hf
  refine gaaldB (by decide : (0 : Nat) < 3) E hK hP c1 dX11_triesLeft_8 ?_
  obtain ⟨j2, ej2, hf⟩ := bd_e hf
  obtain ⟨hj2, hf⟩ := ck_e hf
  refine lv_nmo ej2 ?_
  refine lv_iload_n hx hb dX11_triesLeft_9 rfl (lv_at hl 3 rfl) ?_
  obtain ⟨r3, er3, hf⟩ := bd_e hf
  refine vwearBy E hK hP hj2 er3 wd_2_106 ⟨Nat.le_of_ble_eq_true rfl, Nat.le_of_ble_eq_true rfl⟩ ⟨Nat.zero_le _, Nat.zero_le _⟩ hl.1 (Nat.le_of_ble_eq_true rfl) rfl dX11_triesLeft_10 ?_
  refine lv_istore (lv' := [(4, .int r3), (0, .ref (ad 0 0)), (1, .int a1), (2, .int a2), (3, .int a3)]) hx hb dX11_triesLeft_13 hl (by decide) rfl (fun ls hl => ?_)
  refine lv_iload hx hb dX11_triesLeft_15 (lv_at hl 0 rfl) ?_
  refine lv_if_gt (tgt := 23) hx hb dX11_triesLeft_17 (by decide) (fun c4 => ?_) (fun c4 => ?_)
  · replace hf := pos_e c4 hf
    refine lv_aload_n hx hb dX11_triesLeft_23 rfl (lv_at hl 1 rfl) ?_
    refine gget E in_X11 hK hP (q_main ks ad σ) rfl (k := 0) (by decide) wd_1_145 rfl (v := .ref (ad 1 0)) rfl dX11_triesLeft_24 ?_
    refine gget E in_X3 hK hP (qh_0 ks ad σ (by decide : (0 : Nat) < 3)) rfl (k := 2) (by decide) wd_1_77 rfl (v := .ref (ad 3 0)) rfl dX11_triesLeft_27 ?_
    refine lv_iload_n hx hb dX11_triesLeft_30 rfl (lv_at hl 2 rfl) ?_
    obtain ⟨c5, hf⟩ := ck_e hf
    refine giald E hK hP (qh_2 ks ad σ (by decide : (0 : Nat) < 3)) c5 dX11_triesLeft_31 ?_
    refine lv_aload_n hx hb dX11_triesLeft_32 rfl (lv_at hl 1 rfl) ?_
    refine gget E in_X11 hK hP (q_main ks ad σ) rfl (k := 0) (by decide) wd_1_145 rfl (v := .ref (ad 1 0)) rfl dX11_triesLeft_33 ?_
    refine gget E in_X3 hK hP (qh_0 ks ad σ (by decide : (0 : Nat) < 3)) rfl (k := 3) (by decide) wd_1_79 rfl (v := .ref (ad 4 0)) rfl dX11_triesLeft_36 ?_
    refine lv_iload_n hx hb dX11_triesLeft_39 rfl (lv_at hl 2 rfl) ?_
    obtain ⟨c6, hf⟩ := ck_e hf
    refine giald E hK hP (qh_3 ks ad σ (by decide : (0 : Nat) < 3)) c6 dX11_triesLeft_40 ?_
    refine lv_iadd hx hb dX11_triesLeft_41 ?_
    refine lv_aload_n hx hb dX11_triesLeft_42 rfl (lv_at hl 1 rfl) ?_
    refine gget E in_X11 hK hP (q_main ks ad σ) rfl (k := 0) (by decide) wd_1_145 rfl (v := .ref (ad 1 0)) rfl dX11_triesLeft_43 ?_
    refine gget E in_X3 hK hP (qh_0 ks ad σ (by decide : (0 : Nat) < 3)) rfl (k := 4) (by decide) wd_1_81 rfl (v := .ref (ad 5 0)) rfl dX11_triesLeft_46 ?_
    refine lv_iload_n hx hb dX11_triesLeft_49 rfl (lv_at hl 2 rfl) ?_
    obtain ⟨c7, hf⟩ := ck_e hf
    refine giald E hK hP (qh_4 ks ad σ (by decide : (0 : Nat) < 3)) c7 dX11_triesLeft_50 ?_
    refine lv_isub hx hb dX11_triesLeft_51 ?_
    obtain ⟨v8, ev8, hf⟩ := nmv_e hf
    refine lv_nmi ev8 ?_
    refine lv_istore (lv' := [(5, .int v8), (4, .int r3), (0, .ref (ad 0 0)), (1, .int a1), (2, .int a2), (3, .int a3)]) hx hb dX11_triesLeft_52 hl (by decide) rfl (fun ls hl => ?_)
    refine lv_bipush (v := 99) hx hb dX11_triesLeft_54 (by decide) ?_
    refine lv_iload hx hb dX11_triesLeft_56 (lv_at hl 0 rfl) ?_
    refine lv_iload hx hb dX11_triesLeft_58 (lv_at hl 1 rfl) ?_
    obtain ⟨c9, hf⟩ := ck_e hf
    refine lv_idiv hx hb dX11_triesLeft_60 c9 ?_
    refine lv_iconst (v := 1) hx hb dX11_triesLeft_61 (by decide) ?_
    refine lv_iadd hx hb dX11_triesLeft_62 ?_
    refine gmin E hl.1 wd_3_115 wd_3_87 wd_1_15 wd_3_88 (Nat.le_of_ble_eq_true rfl) (Nat.le_of_ble_eq_true rfl) ⟨Nat.zero_le _, Nat.zero_le _⟩ dX11_triesLeft_63 ?_
    obtain ⟨v10, ev10, hf⟩ := nmv_e hf
    refine lv_nmi ev10 ?_
    exact gret_i E hr hlk dX11_triesLeft_66 (som_e hf).symm
  · replace hf := neg_e c4 hf
    refine lv_bipush (v := 99) hx hb dX11_triesLeft_20 (by decide) ?_
    exact gret_i E hr hlk dX11_triesLeft_22 (som_e hf).symm
noncomputable def fX11_lasts (σ : St) (a1 : Int32) (a2 : Int32) (a3 : Int32) : Option (Int32) :=
  bd (fX3_hasBlade σ 0 a1) fun r1 =>
  if r1 = 0 then
  some (-1)
  else
  bd (fX3_hasBlow σ 0 a2) fun r3 =>
  if r3 = 0 then
  some (-1)
  else
  bd (fX11_isOut σ a3 0 60) fun r5 =>
  if r5 = 0 then
  bd (fX3_isSplit σ 0 a1) fun r7 =>
  if r7 = 0 then
  bd (fX11_triesLeft σ a1 a2 a3) fun r9 =>
  some r9
  else
  some (-3)
  else
  some (-1)
def rX11_lasts : Room := { frames := 4, cells := 0, slots := 0, locals := 88 }
set_option maxHeartbeats 4000000 in
set_option maxRecDepth 100000 in
theorem cX11_lastsc {l : Launch} {dC : Nat → ClassId} {dI : Nat → Nat → Nat} {ks : Nat → ClassId} {ad : Nat → Nat → Nat} {σ : St} (a1 : Int32) (a2 : Int32) (a3 : Int32)  {out : Int32} (hf : fX11_lasts σ a1 a2 a3 = some out) : MRi l dC dI ks ad σ yX11_lasts cX11_lasts 4 (some .int) rX11_lasts [.ref (ad 0 0), .int a1, .int a2, .int a3] out := by
  refine met_r (own := RX11) (by decide) rfl (Nat.le_of_ble_eq_true rfl) ?_
  intro p e s m args below meth c ls E hr hlk hP hK hl
  have hx := E.1
  have hb := E.2.1
  have hl : lv_has ls 4 [(0, .ref (ad 0 0)), (1, .int a1), (2, .int a2), (3, .int a3)] := hl
  unfold fX11_lasts at hf
  refine lv_aload_n hx hb dX11_lasts_0 rfl (lv_at hl 0 rfl) ?_
  refine gget E in_X11 hK hP (q_main ks ad σ) rfl (k := 0) (by decide) wd_1_145 rfl (v := .ref (ad 1 0)) rfl dX11_lasts_1 ?_
  refine lv_iload_n hx hb dX11_lasts_4 rfl (lv_at hl 1 rfl) ?_
  obtain ⟨r1, er1, hf⟩ := bd_e hf
  refine gVr_i E hK hP (cX3_hasBladec (by decide : (0 : Nat) < 3) _ er1) kV_X3_hasBlade wd_2_144 rfl rfl (qh_0 ks ad σ (by decide : (0 : Nat) < 3)) rfl rfl rfl ⟨Nat.le_of_ble_eq_true rfl, Nat.le_of_ble_eq_true rfl⟩ ⟨Nat.zero_le _, Nat.zero_le _⟩ hl.1 (Nat.le_of_ble_eq_true rfl) rfl dX11_lasts_5 ?_
  refine lv_if_eq (tgt := 32) hx hb dX11_lasts_8 (by decide) (fun c2 => ?_) (fun c2 => ?_)
  · replace hf := pos_e c2 hf
    refine lv_iconst (v := -1) hx hb dX11_lasts_32 (by decide) ?_
    exact gret_i E hr hlk dX11_lasts_33 (som_e hf).symm
  · replace hf := neg_e c2 hf
    refine lv_aload_n hx hb dX11_lasts_11 rfl (lv_at hl 0 rfl) ?_
    refine gget E in_X11 hK hP (q_main ks ad σ) rfl (k := 0) (by decide) wd_1_145 rfl (v := .ref (ad 1 0)) rfl dX11_lasts_12 ?_
    refine lv_iload_n hx hb dX11_lasts_15 rfl (lv_at hl 2 rfl) ?_
    obtain ⟨r3, er3, hf⟩ := bd_e hf
    refine gVr_i E hK hP (cX3_hasBlowc (by decide : (0 : Nat) < 3) _ er3) kV_X3_hasBlow wd_2_154 rfl rfl (qh_0 ks ad σ (by decide : (0 : Nat) < 3)) rfl rfl rfl ⟨Nat.le_of_ble_eq_true rfl, Nat.le_of_ble_eq_true rfl⟩ ⟨Nat.zero_le _, Nat.zero_le _⟩ hl.1 (Nat.le_of_ble_eq_true rfl) rfl dX11_lasts_16 ?_
    refine lv_if_eq (tgt := 32) hx hb dX11_lasts_19 (by decide) (fun c4 => ?_) (fun c4 => ?_)
    · replace hf := pos_e c4 hf
      refine lv_iconst (v := -1) hx hb dX11_lasts_32 (by decide) ?_
      exact gret_i E hr hlk dX11_lasts_33 (som_e hf).symm
    · replace hf := neg_e c4 hf
      refine lv_iload_n hx hb dX11_lasts_22 rfl (lv_at hl 3 rfl) ?_
      refine lv_iconst (v := 0) hx hb dX11_lasts_23 (by decide) ?_
      refine lv_bipush (v := 60) hx hb dX11_lasts_24 (by decide) ?_
      obtain ⟨r5, er5, hf⟩ := bd_e hf
      refine gSr_i E hK hP (cX11_isOutc _ _ _ er5) kS_X11_isOut wd_1_178 rfl rfl rfl ⟨Nat.le_of_ble_eq_true rfl, Nat.le_of_ble_eq_true rfl⟩ ⟨Nat.zero_le _, Nat.zero_le _⟩ hl.1 (Nat.le_of_ble_eq_true rfl) rfl dX11_lasts_26 ?_
      refine lv_if_eq (tgt := 34) hx hb dX11_lasts_29 (by decide) (fun c6 => ?_) (fun c6 => ?_)
      · replace hf := pos_e c6 hf
        refine lv_aload_n hx hb dX11_lasts_34 rfl (lv_at hl 0 rfl) ?_
        refine gget E in_X11 hK hP (q_main ks ad σ) rfl (k := 0) (by decide) wd_1_145 rfl (v := .ref (ad 1 0)) rfl dX11_lasts_35 ?_
        refine lv_iload_n hx hb dX11_lasts_38 rfl (lv_at hl 1 rfl) ?_
        obtain ⟨r7, er7, hf⟩ := bd_e hf
        refine gVr_i E hK hP (cX3_isSplitc (by decide : (0 : Nat) < 3) _ er7) kV_X3_isSplit wd_2_102 rfl rfl (qh_0 ks ad σ (by decide : (0 : Nat) < 3)) rfl rfl rfl ⟨Nat.le_of_ble_eq_true rfl, Nat.le_of_ble_eq_true rfl⟩ ⟨Nat.zero_le _, Nat.zero_le _⟩ hl.1 (Nat.le_of_ble_eq_true rfl) rfl dX11_lasts_39 ?_
        refine lv_if_eq (tgt := 50) hx hb dX11_lasts_42 (by decide) (fun c8 => ?_) (fun c8 => ?_)
        · replace hf := pos_e c8 hf
          refine lv_aload_n hx hb dX11_lasts_50 rfl (lv_at hl 0 rfl) ?_
          refine lv_iload_n hx hb dX11_lasts_51 rfl (lv_at hl 1 rfl) ?_
          refine lv_iload_n hx hb dX11_lasts_52 rfl (lv_at hl 2 rfl) ?_
          refine lv_iload_n hx hb dX11_lasts_53 rfl (lv_at hl 3 rfl) ?_
          obtain ⟨r9, er9, hf⟩ := bd_e hf
          refine gVr_i E hK hP (cX11_triesLeftc _ _ _ er9) kV_X11_triesLeft wd_3_148 rfl rfl (q_main ks ad σ) rfl rfl rfl ⟨Nat.le_of_ble_eq_true rfl, Nat.le_of_ble_eq_true rfl⟩ ⟨Nat.zero_le _, Nat.zero_le _⟩ hl.1 (Nat.le_of_ble_eq_true rfl) rfl dX11_lasts_54 ?_
          exact gret_i E hr hlk dX11_lasts_57 (som_e hf).symm
        · replace hf := neg_e c8 hf
          refine lv_bipush (v := -3) hx hb dX11_lasts_45 (by decide) ?_
          refine lv_goto (tgt := 57) hx hb dX11_lasts_47 (by decide) ?_
          exact gret_i E hr hlk dX11_lasts_57 (som_e hf).symm
      · replace hf := neg_e c6 hf
        refine lv_iconst (v := -1) hx hb dX11_lasts_32 (by decide) ?_
        exact gret_i E hr hlk dX11_lasts_33 (som_e hf).symm
noncomputable def fX11_bestForce_J101 (x11 : Int32) (rec_66 : Int32 → Int32 → Int32 → St → Option (Int32 × St)) (z16 : Int32) (z17 : Int32) (σ18 : St) : Option (Int32 × St) :=
  nmv (x11 + 1) fun v19 =>
  rec_66 z16 z17 v19 σ18
noncomputable def fX11_bestForce_L66B (a1 : Int32) (a3 : Int32) (K_66 : Int32 → St → Option (Int32 × St)) (rec_66 : Int32 → Int32 → Int32 → St → Option (Int32 × St)) (x9 : Int32) (x10 : Int32) (x11 : Int32) (σ12 : St) : Option (Int32 × St) :=
  bd (fX9_topForce σ12 0) fun r13 =>
  if r13 < x11 then
  K_66 x9 σ12
  else
  bd (fX11_triesLeft σ12 a1 a3 x11) fun r15 =>
  if r15 ≤ x10 then
  fX11_bestForce_J101 x11 rec_66 x9 x10 σ12
  else
  fX11_bestForce_J101 x11 rec_66 x11 r15 σ12
noncomputable def fX11_bestForce_L66 (a1 : Int32) (a3 : Int32) (K_66 : Int32 → St → Option (Int32 × St)) : Nat → Int32 → Int32 → Int32 → St → Option (Int32 × St)
  | 0 => fun _ _ _ _ => none
  | n + 1 => fX11_bestForce_L66B a1 a3 K_66 (fX11_bestForce_L66 a1 a3 K_66 n)
noncomputable def fX11_bestForce (σ : St) (a1 : Int32) (a2 : Int32) (a3 : Int32) : Option (Int32 × St) :=
  bd (fX3_hasAll σ 0 a1 a2 a3) fun r1 =>
  if r1 = 0 then
  some ((-1), σ)
  else
  bd (fX3_isSplit σ 0 a1) fun r3 =>
  if r3 = 0 then
  bd (fX3_spanOf σ 0 a1 a2 a3) fun r5 =>
  bd (fX9_pairs r5 0) fun r6 =>
  if r6 = 0 then
  some ((-4), r5)
  else
  nmv (gI r5 7 0 3) fun v8 =>
  fX11_bestForce_L66 a1 a3 (fun y21 σ22 => some (y21, σ22)) FU (-4) 0 v8 r5
  else
  some ((-3), σ)
def rX11_bestForce : Room := { frames := 4, cells := 0, slots := 0, locals := 94 }
set_option maxHeartbeats 4000000 in
set_option maxRecDepth 100000 in
theorem cX11_bestForcec {l : Launch} {dC : Nat → ClassId} {dI : Nat → Nat → Nat} {ks : Nat → ClassId} {ad : Nat → Nat → Nat} {σ : St} (a1 : Int32) (a2 : Int32) (a3 : Int32)  {out : Int32 × St} (hf : fX11_bestForce σ a1 a2 a3 = some out) : MWi l dC dI ks ad σ yX11_bestForce cX11_bestForce 9 (some .int) rX11_bestForce [.ref (ad 0 0), .int a1, .int a2, .int a3] out := by
  intro sz
  refine met_w (Qc := fun A => va_Qi (fun r σ' => r = out.1 ∧ σ' = out.2) (gBw dC dI ks ad A) A) (own := RX11) (by decide) rfl (Nat.le_of_ble_eq_true rfl) ?_
  intro A p e s m args below meth c ls E hr hlk hA hP hD hS hK hl
  have hx := E.1
  have hb := E.2.1
  have hl : lv_has ls 9 [(0, .ref (ad 0 0)), (1, .int a1), (2, .int a2), (3, .int a3)] := hl
  unfold fX11_bestForce at hf
  refine lv_aload_n hx hb dX11_bestForce_0 rfl (lv_at hl 0 rfl) ?_
  refine gget E in_X11 hK hP (q_main ks ad σ) rfl (k := 0) (by decide) wd_1_145 rfl (v := .ref (ad 1 0)) rfl dX11_bestForce_1 ?_
  refine lv_iload_n hx hb dX11_bestForce_4 rfl (lv_at hl 1 rfl) ?_
  refine lv_iload_n hx hb dX11_bestForce_5 rfl (lv_at hl 2 rfl) ?_
  refine lv_iload_n hx hb dX11_bestForce_6 rfl (lv_at hl 3 rfl) ?_
  obtain ⟨r1, er1, hf⟩ := bd_e hf
  refine gVr_i E hK hP (cX3_hasAllc (by decide : (0 : Nat) < 3) _ _ _ er1) kV_X3_hasAll wd_2_86 rfl rfl (qh_0 ks ad σ (by decide : (0 : Nat) < 3)) rfl rfl rfl ⟨Nat.le_of_ble_eq_true rfl, Nat.le_of_ble_eq_true rfl⟩ ⟨Nat.zero_le _, Nat.zero_le _⟩ hl.1 (Nat.le_of_ble_eq_true rfl) rfl dX11_bestForce_7 ?_
  refine lv_if_ne (tgt := 15) hx hb dX11_bestForce_10 (by decide) (fun c2 => ?_) (fun c2 => ?_)
  · replace hf := neg_e c2 hf
    refine lv_aload_n hx hb dX11_bestForce_15 rfl (lv_at hl 0 rfl) ?_
    refine gget E in_X11 hK hP (q_main ks ad σ) rfl (k := 0) (by decide) wd_1_145 rfl (v := .ref (ad 1 0)) rfl dX11_bestForce_16 ?_
    refine lv_iload_n hx hb dX11_bestForce_19 rfl (lv_at hl 1 rfl) ?_
    obtain ⟨r3, er3, hf⟩ := bd_e hf
    refine gVr_i E hK hP (cX3_isSplitc (by decide : (0 : Nat) < 3) _ er3) kV_X3_isSplit wd_2_102 rfl rfl (qh_0 ks ad σ (by decide : (0 : Nat) < 3)) rfl rfl rfl ⟨Nat.le_of_ble_eq_true rfl, Nat.le_of_ble_eq_true rfl⟩ ⟨Nat.zero_le _, Nat.zero_le _⟩ hl.1 (Nat.le_of_ble_eq_true rfl) rfl dX11_bestForce_20 ?_
    refine lv_if_eq (tgt := 29) hx hb dX11_bestForce_23 (by decide) (fun c4 => ?_) (fun c4 => ?_)
    · replace hf := pos_e c4 hf
      refine lv_aload_n hx hb dX11_bestForce_29 rfl (lv_at hl 0 rfl) ?_
      refine gget E in_X11 hK hP (q_main ks ad σ) rfl (k := 0) (by decide) wd_1_145 rfl (v := .ref (ad 1 0)) rfl dX11_bestForce_30 ?_
      refine lv_iload_n hx hb dX11_bestForce_33 rfl (lv_at hl 1 rfl) ?_
      refine lv_iload_n hx hb dX11_bestForce_34 rfl (lv_at hl 2 rfl) ?_
      refine lv_iload_n hx hb dX11_bestForce_35 rfl (lv_at hl 3 rfl) ?_
      obtain ⟨r5, er5, hf⟩ := bd_e hf
      refine gVw_f E hK hP hD hS hA (cX3_spanOfc (by decide : (0 : Nat) < 3) _ _ _ er5) kV_X3_spanOf wd_2_179 rfl rfl (qh_0 ks ad σ (by decide : (0 : Nat) < 3)) rfl rfl rfl ⟨Nat.le_of_ble_eq_true rfl, Nat.le_of_ble_eq_true rfl⟩ ⟨Nat.zero_le _, Nat.zero_le _⟩ hl.1 (Nat.le_of_ble_eq_true rfl) rfl dX11_bestForce_36 (fun H locs hP hD hS => ?_)
      refine lv_astore (lv' := [(4, .ref (ad 9 0)), (0, .ref (ad 0 0)), (1, .int a1), (2, .int a2), (3, .int a3)]) hx hb dX11_bestForce_39 hl (by decide) rfl (fun ls hl => ?_)
      refine lv_aload hx hb dX11_bestForce_41 (lv_at hl 0 rfl) ?_
      obtain ⟨r6, er6, hf⟩ := bd_e hf
      refine gVr_i E hK hP (cX9_pairsc (by decide : (0 : Nat) < 3) er6) kV_X9_pairs wd_3_78 rfl rfl (qh_8 ks ad r5 (by decide : (0 : Nat) < 3)) rfl rfl rfl ⟨Nat.le_of_ble_eq_true rfl, Nat.le_of_ble_eq_true rfl⟩ ⟨Nat.zero_le _, Nat.zero_le _⟩ hl.1 (Nat.le_of_ble_eq_true rfl) rfl dX11_bestForce_43 ?_
      refine lv_if_ne (tgt := 52) hx hb dX11_bestForce_46 (by decide) (fun c7 => ?_) (fun c7 => ?_)
      · replace hf := neg_e c7 hf
        refine lv_bipush (v := -4) hx hb dX11_bestForce_52 (by decide) ?_
        refine lv_istore (lv' := [(5, .int (-4)), (4, .ref (ad 9 0)), (0, .ref (ad 0 0)), (1, .int a1), (2, .int a2), (3, .int a3)]) hx hb dX11_bestForce_54 hl (by decide) rfl (fun ls hl => ?_)
        refine lv_iconst (v := 0) hx hb dX11_bestForce_56 (by decide) ?_
        refine lv_istore (lv' := [(6, .int 0), (5, .int (-4)), (4, .ref (ad 9 0)), (0, .ref (ad 0 0)), (1, .int a1), (2, .int a2), (3, .int a3)]) hx hb dX11_bestForce_57 hl (by decide) rfl (fun ls hl => ?_)
        refine lv_aload hx hb dX11_bestForce_59 (lv_at hl 2 rfl) ?_
        refine gget E in_X9 hK hP (qh_8 ks ad r5 (by decide : (0 : Nat) < 3)) rfl (k := 3) (by decide) wd_1_55 rfl (v := .int (gI r5 7 0 3)) rfl dX11_bestForce_61 ?_
        obtain ⟨v8, ev8, hf⟩ := nmv_e hf
        refine lv_nmi ev8 ?_
        refine lv_istore (lv' := [(7, .int v8), (6, .int 0), (5, .int (-4)), (4, .ref (ad 9 0)), (0, .ref (ad 0 0)), (1, .int a1), (2, .int a2), (3, .int a3)]) hx hb dX11_bestForce_64 hl (by decide) rfl (fun ls hl => ?_)
        have loop_66 : ∀ (K_66 : Int32 → St → Option (Int32 × St)) (hK_66 : (∀ (y21 : Int32) (σ22 : St) (H : Heap) (locs : List Loc) (hP : va_P (dC, dI) vwCl (wG ks ad σ22) H) (hD : va_D A (wG ks ad σ22)) (hS : va_S A s.heap H locs) (hf : K_66 y21 σ22 = some out) (ls : Array Slot), lv_has ls 9 [(5, .int y21)] → W p l e rX11_bestForce s m args below meth c H locs 0 0 (MQ below (va_Qi (fun r σ' => r = out.1 ∧ σ' = out.2) (gBw dC dI ks ad A) A) args s 0 0 A) (F0 m 107 ls []))) (n_66 : Nat) (x9 : Int32) (x10 : Int32) (x11 : Int32) (σ12 : St) (H : Heap) (locs : List Loc) (hP : va_P (dC, dI) vwCl (wG ks ad σ12) H) (hD : va_D A (wG ks ad σ12)) (hS : va_S A s.heap H locs) (hf : fX11_bestForce_L66 a1 a3 K_66 n_66 x9 x10 x11 σ12 = some out) (ls : Array Slot), lv_has ls 9 [(0, .ref (ad 0 0)), (1, .int a1), (3, .int a3), (4, .ref (ad 9 0)), (5, .int x9), (6, .int x10), (7, .int x11)] → W p l e rX11_bestForce s m args below meth c H locs 0 0 (MQ below (va_Qi (fun r σ' => r = out.1 ∧ σ' = out.2) (gBw dC dI ks ad A) A) args s 0 0 A) (F0 m 66 ls []) := by
          intro K_66 hK_66 n_66
          induction n_66 with
          | zero => intro x9 x10 x11 σ12 H locs hP hD hS hf; cases hf
          | succ n_66 ih_66 =>
            intro x9 x10 x11 σ12 H locs hP hD hS hf ls hl
            have hf : fX11_bestForce_L66B a1 a3 K_66 (fX11_bestForce_L66 a1 a3 K_66 n_66) x9 x10 x11 σ12 = some out := hf
            unfold fX11_bestForce_L66B at hf
            refine lv_iload hx hb dX11_bestForce_66 (lv_at hl 6 rfl) ?_
            refine lv_aload hx hb dX11_bestForce_68 (lv_at hl 3 rfl) ?_
            obtain ⟨r13, er13, hf⟩ := bd_e hf
            refine gVr_i E hK hP (cX9_topForcec (by decide : (0 : Nat) < 3) er13) kV_X9_topForce wd_3_116 rfl rfl (qh_8 ks ad σ12 (by decide : (0 : Nat) < 3)) rfl rfl rfl ⟨Nat.le_of_ble_eq_true rfl, Nat.le_of_ble_eq_true rfl⟩ ⟨Nat.zero_le _, Nat.zero_le _⟩ hl.1 (Nat.le_of_ble_eq_true rfl) rfl dX11_bestForce_70 ?_
            refine lv_icmp_gt (tgt := 107) hx hb dX11_bestForce_73 (by decide) (fun c14 => ?_) (fun c14 => ?_)
            · replace hf := pos_e c14 hf
              exact hK_66 _ _ _ _ hP hD hS hf _ (lv_sub hl [4] rfl)
            · replace hf := neg_e c14 hf
              refine lv_aload_n hx hb dX11_bestForce_76 rfl (lv_at hl 0 rfl) ?_
              refine lv_iload_n hx hb dX11_bestForce_77 rfl (lv_at hl 1 rfl) ?_
              refine lv_iload_n hx hb dX11_bestForce_78 rfl (lv_at hl 2 rfl) ?_
              refine lv_iload hx hb dX11_bestForce_79 (lv_at hl 6 rfl) ?_
              obtain ⟨r15, er15, hf⟩ := bd_e hf
              refine gVr_i E hK hP (cX11_triesLeftc _ _ _ er15) kV_X11_triesLeft wd_3_148 rfl rfl (q_main ks ad σ12) rfl rfl rfl ⟨Nat.le_of_ble_eq_true rfl, Nat.le_of_ble_eq_true rfl⟩ ⟨Nat.zero_le _, Nat.zero_le _⟩ hl.1 (Nat.le_of_ble_eq_true rfl) rfl dX11_bestForce_81 ?_
              refine lv_istore (lv' := [(8, .int r15), (0, .ref (ad 0 0)), (1, .int a1), (3, .int a3), (4, .ref (ad 9 0)), (5, .int x9), (6, .int x10), (7, .int x11)]) hx hb dX11_bestForce_84 hl (by decide) rfl (fun ls hl => ?_)
              refine lv_iload hx hb dX11_bestForce_86 (lv_at hl 0 rfl) ?_
              refine lv_iload hx hb dX11_bestForce_88 (lv_at hl 6 rfl) ?_
              have hJ_101 : ∀ (z16 : Int32) (z17 : Int32) (σ18 : St) (H : Heap) (locs : List Loc) (hP : va_P (dC, dI) vwCl (wG ks ad σ18) H) (hD : va_D A (wG ks ad σ18)) (hS : va_S A s.heap H locs) (hf : fX11_bestForce_J101 x11 (fX11_bestForce_L66 a1 a3 K_66 n_66) z16 z17 σ18 = some out) (ls : Array Slot), lv_has ls 9 [(0, .ref (ad 0 0)), (1, .int a1), (3, .int a3), (4, .ref (ad 9 0)), (5, .int z16), (6, .int z17), (7, .int x11)] → W p l e rX11_bestForce s m args below meth c H locs 0 0 (MQ below (va_Qi (fun r σ' => r = out.1 ∧ σ' = out.2) (gBw dC dI ks ad A) A) args s 0 0 A) (F0 m 101 ls []) := by
                intro z16 z17 σ18 H locs hP hD hS hf ls hl
                unfold fX11_bestForce_J101 at hf
                obtain ⟨v19, ev19, hf⟩ := nmv_e hf
                refine lv_iinc (v := v19) (lv' := [(7, .int v19), (0, .ref (ad 0 0)), (1, .int a1), (3, .int a3), (4, .ref (ad 9 0)), (5, .int z16), (6, .int z17)]) hx hb dX11_bestForce_101 hl (k := 6) rfl (by rw [ev19]; rfl) (by decide) rfl (fun ls hl => ?_)
                refine lv_goto (tgt := 66) hx hb dX11_bestForce_104 (by decide) ?_
                exact ih_66 _ _ _ _ _ _ hP hD hS hf _ (lv_sub hl [1, 2, 3, 4, 5, 6, 0] rfl)
              refine lv_icmp_le (tgt := 101) hx hb dX11_bestForce_90 (by decide) (fun c20 => ?_) (fun c20 => ?_)
              · replace hf := pos_e c20 hf
                exact hJ_101 _ _ _ _ _ hP hD hS hf _ (lv_sub hl [1, 2, 3, 4, 5, 6, 7] rfl)
              · replace hf := neg_e c20 hf
                refine lv_iload hx hb dX11_bestForce_93 (lv_at hl 0 rfl) ?_
                refine lv_istore (lv' := [(6, .int r15), (8, .int r15), (0, .ref (ad 0 0)), (1, .int a1), (3, .int a3), (4, .ref (ad 9 0)), (5, .int x9), (7, .int x11)]) hx hb dX11_bestForce_95 hl (by decide) rfl (fun ls hl => ?_)
                refine lv_iload hx hb dX11_bestForce_97 (lv_at hl 7 rfl) ?_
                refine lv_istore (lv' := [(5, .int x11), (6, .int r15), (8, .int r15), (0, .ref (ad 0 0)), (1, .int a1), (3, .int a3), (4, .ref (ad 9 0)), (7, .int x11)]) hx hb dX11_bestForce_99 hl (by decide) rfl (fun ls hl => ?_)
                exact hJ_101 _ _ _ _ _ hP hD hS hf _ (lv_sub hl [3, 4, 5, 6, 0, 1, 7] rfl)
        refine loop_66 _ (fun y21 σ22 H locs hP hD hS hf ls hl => ?_) _ _ _ _ _ _ _ hP hD hS hf _ (lv_sub hl [4, 5, 7, 3, 2, 1, 0] rfl)
        refine lv_iload hx hb dX11_bestForce_107 (lv_at hl 0 rfl) ?_
        exact gretw_i E hlk hP hD hS hr dX11_bestForce_109 (som_e hf)
      · replace hf := pos_e c7 hf
        refine lv_bipush (v := -4) hx hb dX11_bestForce_49 (by decide) ?_
        exact gretw_i E hlk hP hD hS hr dX11_bestForce_51 (som_e hf)
    · replace hf := neg_e c4 hf
      refine lv_bipush (v := -3) hx hb dX11_bestForce_26 (by decide) ?_
      exact gretw_i E hlk hP hD hS hr dX11_bestForce_28 (som_e hf)
  · replace hf := pos_e c2 hf
    refine lv_iconst (v := -1) hx hb dX11_bestForce_13 (by decide) ?_
    exact gretw_i E hlk hP hD hS hr dX11_bestForce_14 (som_e hf)
noncomputable def fX11_doClash (σ : St) (a1 : Int32) (a2 : Int32) (a3 : Int32) (a4 : Int32) : Option (Int32) :=
  ck (vp_in a3 6) <|
  bd (gR σ 0 0 a3.toNatClampNeg) fun j2 =>
  ck (j2 < gS σ 2 0 ∧ okc (gS σ 1 j2)) <|
  ck (vp_in a1 6) <|
  bd (fvpitchAt σ j2 (gI σ 1 0 a1.toNatClampNeg) a4 0) fun r4 =>
  ck (vp_in a3 6) <|
  bd (gR σ 0 0 a3.toNatClampNeg) fun j6 =>
  ck (j6 < gS σ 2 0 ∧ okc (gS σ 1 j6)) <|
  ck (vp_in a2 6) <|
  bd (fvpitchAt σ j6 (gI σ 1 0 a2.toNatClampNeg) a4 0) fun r8 =>
  nmv (if 0 ≤ (r4 - r8) then r4 - r8 else 0 - (r4 - r8)) fun v9 =>
  if v9 = 1 then
  some 1
  else
  if v9 = 2 then
  some 1
  else
  some 0
def rX11_doClash : Room := { frames := 2, cells := 0, slots := 0, locals := 46 }
set_option maxHeartbeats 4000000 in
set_option maxRecDepth 100000 in
theorem cX11_doClashc {l : Launch} {dC : Nat → ClassId} {dI : Nat → Nat → Nat} {ks : Nat → ClassId} {ad : Nat → Nat → Nat} {σ : St} (a1 : Int32) (a2 : Int32) (a3 : Int32) (a4 : Int32)  {out : Int32} (hf : fX11_doClash σ a1 a2 a3 a4 = some out) : MRi l dC dI ks ad σ yX11_doClash cX11_doClash 8 (some .boolean) rX11_doClash [.ref (ad 0 0), .int a1, .int a2, .int a3, .int a4] out := by
  refine met_r (own := RX11) (by decide) rfl (Nat.le_of_ble_eq_true rfl) ?_
  intro p e s m args below meth c ls E hr hlk hP hK hl
  have hx := E.1
  have hb := E.2.1
  have hl : lv_has ls 8 [(0, .ref (ad 0 0)), (1, .int a1), (2, .int a2), (3, .int a3), (4, .int a4)] := hl
  unfold fX11_doClash at hf
  refine lv_aload_n hx hb dX11_doClash_0 rfl (lv_at hl 0 rfl) ?_
  refine gget E in_X11 hK hP (q_main ks ad σ) rfl (k := 0) (by decide) wd_1_145 rfl (v := .ref (ad 1 0)) rfl dX11_doClash_1 ?_
  refine gget E in_X3 hK hP (qh_0 ks ad σ (by decide : (0 : Nat) < 3)) rfl (k := 9) (by decide) wd_1_91 rfl (v := .ref (ad 8 0)) rfl dX11_doClash_4 ?_
  refine lv_iload_n hx hb dX11_doClash_7 rfl (lv_at hl 3 rfl) ?_
  obtain ⟨c1, hf⟩ := ck_e hf
  refine gaaldB (by decide : (0 : Nat) < 3) E hK hP c1 dX11_doClash_8 ?_
  obtain ⟨j2, ej2, hf⟩ := bd_e hf
  obtain ⟨hj2, hf⟩ := ck_e hf
  refine lv_nmo ej2 ?_
  refine lv_aload_n hx hb dX11_doClash_9 rfl (lv_at hl 0 rfl) ?_
  refine gget E in_X11 hK hP (q_main ks ad σ) rfl (k := 0) (by decide) wd_1_145 rfl (v := .ref (ad 1 0)) rfl dX11_doClash_10 ?_
  refine gget E in_X3 hK hP (qh_0 ks ad σ (by decide : (0 : Nat) < 3)) rfl (k := 1) (by decide) wd_1_75 rfl (v := .ref (ad 2 0)) rfl dX11_doClash_13 ?_
  refine lv_iload_n hx hb dX11_doClash_16 rfl (lv_at hl 1 rfl) ?_
  obtain ⟨c3, hf⟩ := ck_e hf
  refine giald E hK hP (qh_1 ks ad σ (by decide : (0 : Nat) < 3)) c3 dX11_doClash_17 ?_
  refine lv_iload hx hb dX11_doClash_18 (lv_at hl 4 rfl) ?_
  refine lv_iconst (v := 0) hx hb dX11_doClash_20 (by decide) ?_
  obtain ⟨r4, er4, hf⟩ := bd_e hf
  refine vpitchAt E hK hP hj2 er4 wd_3_40 ⟨Nat.le_of_ble_eq_true rfl, Nat.le_of_ble_eq_true rfl⟩ ⟨Nat.zero_le _, Nat.zero_le _⟩ hl.1 (Nat.le_of_ble_eq_true rfl) rfl dX11_doClash_21 ?_
  refine lv_istore (lv' := [(5, .int r4), (0, .ref (ad 0 0)), (1, .int a1), (2, .int a2), (3, .int a3), (4, .int a4)]) hx hb dX11_doClash_24 hl (by decide) rfl (fun ls hl => ?_)
  refine lv_aload_n hx hb dX11_doClash_26 rfl (lv_at hl 1 rfl) ?_
  refine gget E in_X11 hK hP (q_main ks ad σ) rfl (k := 0) (by decide) wd_1_145 rfl (v := .ref (ad 1 0)) rfl dX11_doClash_27 ?_
  refine gget E in_X3 hK hP (qh_0 ks ad σ (by decide : (0 : Nat) < 3)) rfl (k := 9) (by decide) wd_1_91 rfl (v := .ref (ad 8 0)) rfl dX11_doClash_30 ?_
  refine lv_iload_n hx hb dX11_doClash_33 rfl (lv_at hl 4 rfl) ?_
  obtain ⟨c5, hf⟩ := ck_e hf
  refine gaaldB (by decide : (0 : Nat) < 3) E hK hP c5 dX11_doClash_34 ?_
  obtain ⟨j6, ej6, hf⟩ := bd_e hf
  obtain ⟨hj6, hf⟩ := ck_e hf
  refine lv_nmo ej6 ?_
  refine lv_aload_n hx hb dX11_doClash_35 rfl (lv_at hl 1 rfl) ?_
  refine gget E in_X11 hK hP (q_main ks ad σ) rfl (k := 0) (by decide) wd_1_145 rfl (v := .ref (ad 1 0)) rfl dX11_doClash_36 ?_
  refine gget E in_X3 hK hP (qh_0 ks ad σ (by decide : (0 : Nat) < 3)) rfl (k := 1) (by decide) wd_1_75 rfl (v := .ref (ad 2 0)) rfl dX11_doClash_39 ?_
  refine lv_iload_n hx hb dX11_doClash_42 rfl (lv_at hl 3 rfl) ?_
  obtain ⟨c7, hf⟩ := ck_e hf
  refine giald E hK hP (qh_1 ks ad σ (by decide : (0 : Nat) < 3)) c7 dX11_doClash_43 ?_
  refine lv_iload hx hb dX11_doClash_44 (lv_at hl 5 rfl) ?_
  refine lv_iconst (v := 0) hx hb dX11_doClash_46 (by decide) ?_
  obtain ⟨r8, er8, hf⟩ := bd_e hf
  refine vpitchAt E hK hP hj6 er8 wd_3_40 ⟨Nat.le_of_ble_eq_true rfl, Nat.le_of_ble_eq_true rfl⟩ ⟨Nat.zero_le _, Nat.zero_le _⟩ hl.1 (Nat.le_of_ble_eq_true rfl) rfl dX11_doClash_47 ?_
  refine lv_istore (lv' := [(6, .int r8), (5, .int r4), (0, .ref (ad 0 0)), (1, .int a1), (2, .int a2), (3, .int a3), (4, .int a4)]) hx hb dX11_doClash_50 hl (by decide) rfl (fun ls hl => ?_)
  refine lv_iload hx hb dX11_doClash_52 (lv_at hl 1 rfl) ?_
  refine lv_iload hx hb dX11_doClash_54 (lv_at hl 0 rfl) ?_
  refine lv_isub hx hb dX11_doClash_56 ?_
  refine gabs E hl.1 wd_3_117 wd_3_118 wd_1_15 wd_3_119 (Nat.le_of_ble_eq_true rfl) (Nat.le_of_ble_eq_true rfl) ⟨Nat.zero_le _, Nat.zero_le _⟩ dX11_doClash_57 ?_
  obtain ⟨v9, ev9, hf⟩ := nmv_e hf
  refine lv_nmi ev9 ?_
  refine lv_istore (lv' := [(7, .int v9), (6, .int r8), (5, .int r4), (0, .ref (ad 0 0)), (1, .int a1), (2, .int a2), (3, .int a3), (4, .int a4)]) hx hb dX11_doClash_60 hl (by decide) rfl (fun ls hl => ?_)
  refine lv_iload hx hb dX11_doClash_62 (lv_at hl 0 rfl) ?_
  refine lv_iconst (v := 1) hx hb dX11_doClash_64 (by decide) ?_
  refine lv_icmp_eq (tgt := 74) hx hb dX11_doClash_65 (by decide) (fun c10 => ?_) (fun c10 => ?_)
  · replace hf := pos_e c10 hf
    refine lv_iconst (v := 1) hx hb dX11_doClash_74 (by decide) ?_
    refine lv_goto (tgt := 79) hx hb dX11_doClash_75 (by decide) ?_
    exact gret_z rfl E hr hlk dX11_doClash_79 (som_e hf).symm
  · replace hf := neg_e c10 hf
    refine lv_iload hx hb dX11_doClash_68 (lv_at hl 0 rfl) ?_
    refine lv_iconst (v := 2) hx hb dX11_doClash_70 (by decide) ?_
    refine lv_icmp_ne (tgt := 78) hx hb dX11_doClash_71 (by decide) (fun c11 => ?_) (fun c11 => ?_)
    · replace hf := neg_e c11 hf
      refine lv_iconst (v := 0) hx hb dX11_doClash_78 (by decide) ?_
      exact gret_z rfl E hr hlk dX11_doClash_79 (som_e hf).symm
    · replace hf := pos_e c11 hf
      refine lv_iconst (v := 1) hx hb dX11_doClash_74 (by decide) ?_
      refine lv_goto (tgt := 79) hx hb dX11_doClash_75 (by decide) ?_
      exact gret_z rfl E hr hlk dX11_doClash_79 (som_e hf).symm
noncomputable def fX11_clash_J109 (x14 : Int32) (rec_60 : Int32 → Int32 → Int32 → Option (Int32)) (z17 : Int32) (z18 : Int32) : Option (Int32) :=
  nmv (x14 + 1) fun v19 =>
  rec_60 z17 z18 v19
noncomputable def fX11_clash_J107 (x14 : Int32) (rec_60 : Int32 → Int32 → Int32 → Option (Int32)) (v21 : Int32) (z22 : Int32) : Option (Int32) :=
  fX11_clash_J109 x14 rec_60 v21 z22
noncomputable def fX11_clash_L60B (σ : St) (a1 : Int32) (a2 : Int32) (x9 : Int32) (K_60 : Int32 → Int32 → Option (Int32)) (rec_60 : Int32 → Int32 → Int32 → Option (Int32)) (x12 : Int32) (x13 : Int32) (x14 : Int32) : Option (Int32) :=
  if (gI σ 0 0 0) ≤ x14 then
  K_60 x12 x13
  else
  bd (fX11_doClash σ x9 x14 a1 a2) fun r16 =>
  if r16 = 0 then
  fX11_clash_J109 x14 rec_60 x12 x13
  else
  nmv (x12 + 1) fun v21 =>
  if v21 = 1 then
  fX11_clash_J107 x14 rec_60 v21 ((10 * x9) + x14)
  else
  fX11_clash_J107 x14 rec_60 v21 x13
noncomputable def fX11_clash_L60 (σ : St) (a1 : Int32) (a2 : Int32) (x9 : Int32) (K_60 : Int32 → Int32 → Option (Int32)) : Nat → Int32 → Int32 → Int32 → Option (Int32)
  | 0 => fun _ _ _ => none
  | n + 1 => fX11_clash_L60B σ a1 a2 x9 K_60 (fX11_clash_L60 σ a1 a2 x9 K_60 n)
noncomputable def fX11_clash_L42B (σ : St) (a1 : Int32) (a2 : Int32) (K_42 : Int32 → Int32 → Option (Int32)) (rec_42 : Int32 → Int32 → Int32 → Option (Int32)) (x7 : Int32) (x8 : Int32) (x9 : Int32) : Option (Int32) :=
  if (gI σ 0 0 0) ≤ x9 then
  K_42 x7 x8
  else
  nmv (x9 + 1) fun v11 =>
  fX11_clash_L60 σ a1 a2 x9 (fun y24 y25 => nmv (x9 + 1) fun v26 =>
  rec_42 y24 y25 v26) FU x7 x8 v11
noncomputable def fX11_clash_L42 (σ : St) (a1 : Int32) (a2 : Int32) (K_42 : Int32 → Int32 → Option (Int32)) : Nat → Int32 → Int32 → Int32 → Option (Int32)
  | 0 => fun _ _ _ => none
  | n + 1 => fX11_clash_L42B σ a1 a2 K_42 (fX11_clash_L42 σ a1 a2 K_42 n)
noncomputable def fX11_clash (σ : St) (a1 : Int32) (a2 : Int32) (a3 : Int32) : Option (Int32) :=
  bd (fX3_hasBlow σ 0 a1) fun r1 =>
  if r1 = 0 then
  some (-1)
  else
  bd (fX11_isOut σ a2 0 60) fun r3 =>
  if r3 = 0 then
  bd (fX11_isOut σ a3 0 1) fun r5 =>
  if r5 = 0 then
  fX11_clash_L42 σ a1 a2 (fun y27 y28 => if a3 = 0 then
  some y27
  else
  some y28) FU 0 (-4) 0
  else
  some (-1)
  else
  some (-1)
def rX11_clash : Room := { frames := 3, cells := 0, slots := 0, locals := 73 }
set_option maxHeartbeats 4000000 in
set_option maxRecDepth 100000 in
theorem cX11_clashc {l : Launch} {dC : Nat → ClassId} {dI : Nat → Nat → Nat} {ks : Nat → ClassId} {ad : Nat → Nat → Nat} {σ : St} (a1 : Int32) (a2 : Int32) (a3 : Int32)  {out : Int32} (hf : fX11_clash σ a1 a2 a3 = some out) : MRi l dC dI ks ad σ yX11_clash cX11_clash 8 (some .int) rX11_clash [.ref (ad 0 0), .int a1, .int a2, .int a3] out := by
  refine met_r (own := RX11) (by decide) rfl (Nat.le_of_ble_eq_true rfl) ?_
  intro p e s m args below meth c ls E hr hlk hP hK hl
  have hx := E.1
  have hb := E.2.1
  have hl : lv_has ls 8 [(0, .ref (ad 0 0)), (1, .int a1), (2, .int a2), (3, .int a3)] := hl
  unfold fX11_clash at hf
  refine lv_aload_n hx hb dX11_clash_0 rfl (lv_at hl 0 rfl) ?_
  refine gget E in_X11 hK hP (q_main ks ad σ) rfl (k := 0) (by decide) wd_1_145 rfl (v := .ref (ad 1 0)) rfl dX11_clash_1 ?_
  refine lv_iload_n hx hb dX11_clash_4 rfl (lv_at hl 1 rfl) ?_
  obtain ⟨r1, er1, hf⟩ := bd_e hf
  refine gVr_i E hK hP (cX3_hasBlowc (by decide : (0 : Nat) < 3) _ er1) kV_X3_hasBlow wd_2_154 rfl rfl (qh_0 ks ad σ (by decide : (0 : Nat) < 3)) rfl rfl rfl ⟨Nat.le_of_ble_eq_true rfl, Nat.le_of_ble_eq_true rfl⟩ ⟨Nat.zero_le _, Nat.zero_le _⟩ hl.1 (Nat.le_of_ble_eq_true rfl) rfl dX11_clash_5 ?_
  refine lv_if_eq (tgt := 30) hx hb dX11_clash_8 (by decide) (fun c2 => ?_) (fun c2 => ?_)
  · replace hf := pos_e c2 hf
    refine lv_iconst (v := -1) hx hb dX11_clash_30 (by decide) ?_
    exact gret_i E hr hlk dX11_clash_31 (som_e hf).symm
  · replace hf := neg_e c2 hf
    refine lv_iload_n hx hb dX11_clash_11 rfl (lv_at hl 2 rfl) ?_
    refine lv_iconst (v := 0) hx hb dX11_clash_12 (by decide) ?_
    refine lv_bipush (v := 60) hx hb dX11_clash_13 (by decide) ?_
    obtain ⟨r3, er3, hf⟩ := bd_e hf
    refine gSr_i E hK hP (cX11_isOutc _ _ _ er3) kS_X11_isOut wd_1_178 rfl rfl rfl ⟨Nat.le_of_ble_eq_true rfl, Nat.le_of_ble_eq_true rfl⟩ ⟨Nat.zero_le _, Nat.zero_le _⟩ hl.1 (Nat.le_of_ble_eq_true rfl) rfl dX11_clash_15 ?_
    refine lv_if_ne (tgt := 30) hx hb dX11_clash_18 (by decide) (fun c4 => ?_) (fun c4 => ?_)
    · replace hf := neg_e c4 hf
      refine lv_iconst (v := -1) hx hb dX11_clash_30 (by decide) ?_
      exact gret_i E hr hlk dX11_clash_31 (som_e hf).symm
    · replace hf := pos_e c4 hf
      refine lv_iload_n hx hb dX11_clash_21 rfl (lv_at hl 3 rfl) ?_
      refine lv_iconst (v := 0) hx hb dX11_clash_22 (by decide) ?_
      refine lv_iconst (v := 1) hx hb dX11_clash_23 (by decide) ?_
      obtain ⟨r5, er5, hf⟩ := bd_e hf
      refine gSr_i E hK hP (cX11_isOutc _ _ _ er5) kS_X11_isOut wd_1_178 rfl rfl rfl ⟨Nat.le_of_ble_eq_true rfl, Nat.le_of_ble_eq_true rfl⟩ ⟨Nat.zero_le _, Nat.zero_le _⟩ hl.1 (Nat.le_of_ble_eq_true rfl) rfl dX11_clash_24 ?_
      refine lv_if_eq (tgt := 32) hx hb dX11_clash_27 (by decide) (fun c6 => ?_) (fun c6 => ?_)
      · replace hf := pos_e c6 hf
        refine lv_iconst (v := 0) hx hb dX11_clash_32 (by decide) ?_
        refine lv_istore (lv' := [(4, .int 0), (0, .ref (ad 0 0)), (1, .int a1), (2, .int a2), (3, .int a3)]) hx hb dX11_clash_33 hl (by decide) rfl (fun ls hl => ?_)
        refine lv_bipush (v := -4) hx hb dX11_clash_35 (by decide) ?_
        refine lv_istore (lv' := [(5, .int (-4)), (4, .int 0), (0, .ref (ad 0 0)), (1, .int a1), (2, .int a2), (3, .int a3)]) hx hb dX11_clash_37 hl (by decide) rfl (fun ls hl => ?_)
        refine lv_iconst (v := 0) hx hb dX11_clash_39 (by decide) ?_
        refine lv_istore (lv' := [(6, .int 0), (5, .int (-4)), (4, .int 0), (0, .ref (ad 0 0)), (1, .int a1), (2, .int a2), (3, .int a3)]) hx hb dX11_clash_40 hl (by decide) rfl (fun ls hl => ?_)
        have loop_42 : ∀ (K_42 : Int32 → Int32 → Option (Int32)) (hK_42 : (∀ (y27 : Int32) (y28 : Int32) (hf : K_42 y27 y28 = some out) (ls : Array Slot), lv_has ls 8 [(3, .int a3), (4, .int y27), (5, .int y28)] → W p l e rX11_clash s m args below meth c s.heap [] 0 0 (MQ below (vp_Si (fun r => r = out)) args s 0 0 (fun _ => False)) (F0 m 121 ls []))) (n_42 : Nat) (x7 : Int32) (x8 : Int32) (x9 : Int32) (hf : fX11_clash_L42 σ a1 a2 K_42 n_42 x7 x8 x9 = some out) (ls : Array Slot), lv_has ls 8 [(0, .ref (ad 0 0)), (1, .int a1), (2, .int a2), (3, .int a3), (4, .int x7), (5, .int x8), (6, .int x9)] → W p l e rX11_clash s m args below meth c s.heap [] 0 0 (MQ below (vp_Si (fun r => r = out)) args s 0 0 (fun _ => False)) (F0 m 42 ls []) := by
          intro K_42 hK_42 n_42
          induction n_42 with
          | zero => intro x7 x8 x9 hf; cases hf
          | succ n_42 ih_42 =>
            intro x7 x8 x9 hf ls hl
            have hf : fX11_clash_L42B σ a1 a2 K_42 (fX11_clash_L42 σ a1 a2 K_42 n_42) x7 x8 x9 = some out := hf
            unfold fX11_clash_L42B at hf
            refine lv_iload hx hb dX11_clash_42 (lv_at hl 6 rfl) ?_
            refine lv_aload_n hx hb dX11_clash_44 rfl (lv_at hl 0 rfl) ?_
            refine gget E in_X11 hK hP (q_main ks ad σ) rfl (k := 0) (by decide) wd_1_145 rfl (v := .ref (ad 1 0)) rfl dX11_clash_45 ?_
            refine gget E in_X3 hK hP (qh_0 ks ad σ (by decide : (0 : Nat) < 3)) rfl (k := 0) (by decide) wd_1_73 rfl (v := .int (gI σ 0 0 0)) rfl dX11_clash_48 ?_
            refine lv_icmp_ge (tgt := 121) hx hb dX11_clash_51 (by decide) (fun c10 => ?_) (fun c10 => ?_)
            · replace hf := pos_e c10 hf
              exact hK_42 _ _ hf _ (lv_sub hl [3, 4, 5] rfl)
            · replace hf := neg_e c10 hf
              refine lv_iload hx hb dX11_clash_54 (lv_at hl 6 rfl) ?_
              refine lv_iconst (v := 1) hx hb dX11_clash_56 (by decide) ?_
              refine lv_iadd hx hb dX11_clash_57 ?_
              obtain ⟨v11, ev11, hf⟩ := nmv_e hf
              refine lv_nmi ev11 ?_
              refine lv_istore (lv' := [(7, .int v11), (0, .ref (ad 0 0)), (1, .int a1), (2, .int a2), (3, .int a3), (4, .int x7), (5, .int x8), (6, .int x9)]) hx hb dX11_clash_58 hl (by decide) rfl (fun ls hl => ?_)
              have loop_60 : ∀ (K_60 : Int32 → Int32 → Option (Int32)) (hK_60 : (∀ (y24 : Int32) (y25 : Int32) (hf : K_60 y24 y25 = some out) (ls : Array Slot), lv_has ls 8 [(0, .ref (ad 0 0)), (1, .int a1), (2, .int a2), (3, .int a3), (4, .int y24), (5, .int y25), (6, .int x9)] → W p l e rX11_clash s m args below meth c s.heap [] 0 0 (MQ below (vp_Si (fun r => r = out)) args s 0 0 (fun _ => False)) (F0 m 115 ls []))) (n_60 : Nat) (x12 : Int32) (x13 : Int32) (x14 : Int32) (hf : fX11_clash_L60 σ a1 a2 x9 K_60 n_60 x12 x13 x14 = some out) (ls : Array Slot), lv_has ls 8 [(0, .ref (ad 0 0)), (1, .int a1), (2, .int a2), (3, .int a3), (4, .int x12), (5, .int x13), (6, .int x9), (7, .int x14)] → W p l e rX11_clash s m args below meth c s.heap [] 0 0 (MQ below (vp_Si (fun r => r = out)) args s 0 0 (fun _ => False)) (F0 m 60 ls []) := by
                intro K_60 hK_60 n_60
                induction n_60 with
                | zero => intro x12 x13 x14 hf; cases hf
                | succ n_60 ih_60 =>
                  intro x12 x13 x14 hf ls hl
                  have hf : fX11_clash_L60B σ a1 a2 x9 K_60 (fX11_clash_L60 σ a1 a2 x9 K_60 n_60) x12 x13 x14 = some out := hf
                  unfold fX11_clash_L60B at hf
                  refine lv_iload hx hb dX11_clash_60 (lv_at hl 7 rfl) ?_
                  refine lv_aload_n hx hb dX11_clash_62 rfl (lv_at hl 0 rfl) ?_
                  refine gget E in_X11 hK hP (q_main ks ad σ) rfl (k := 0) (by decide) wd_1_145 rfl (v := .ref (ad 1 0)) rfl dX11_clash_63 ?_
                  refine gget E in_X3 hK hP (qh_0 ks ad σ (by decide : (0 : Nat) < 3)) rfl (k := 0) (by decide) wd_1_73 rfl (v := .int (gI σ 0 0 0)) rfl dX11_clash_66 ?_
                  refine lv_icmp_ge (tgt := 115) hx hb dX11_clash_69 (by decide) (fun c15 => ?_) (fun c15 => ?_)
                  · replace hf := pos_e c15 hf
                    exact hK_60 _ _ hf _ (lv_sub hl [0, 1, 2, 3, 4, 5, 6] rfl)
                  · replace hf := neg_e c15 hf
                    refine lv_aload_n hx hb dX11_clash_72 rfl (lv_at hl 0 rfl) ?_
                    refine lv_iload hx hb dX11_clash_73 (lv_at hl 6 rfl) ?_
                    refine lv_iload hx hb dX11_clash_75 (lv_at hl 7 rfl) ?_
                    refine lv_iload_n hx hb dX11_clash_77 rfl (lv_at hl 1 rfl) ?_
                    refine lv_iload_n hx hb dX11_clash_78 rfl (lv_at hl 2 rfl) ?_
                    obtain ⟨r16, er16, hf⟩ := bd_e hf
                    refine gVr_i E hK hP (cX11_doClashc _ _ _ _ er16) kV_X11_doClash wd_3_160 rfl rfl (q_main ks ad σ) rfl rfl rfl ⟨Nat.le_of_ble_eq_true rfl, Nat.le_of_ble_eq_true rfl⟩ ⟨Nat.zero_le _, Nat.zero_le _⟩ hl.1 (Nat.le_of_ble_eq_true rfl) rfl dX11_clash_79 ?_
                    have hJ_109 : ∀ (z17 : Int32) (z18 : Int32) (hf : fX11_clash_J109 x14 (fX11_clash_L60 σ a1 a2 x9 K_60 n_60) z17 z18 = some out) (ls : Array Slot), lv_has ls 8 [(0, .ref (ad 0 0)), (1, .int a1), (2, .int a2), (3, .int a3), (4, .int z17), (5, .int z18), (6, .int x9), (7, .int x14)] → W p l e rX11_clash s m args below meth c s.heap [] 0 0 (MQ below (vp_Si (fun r => r = out)) args s 0 0 (fun _ => False)) (F0 m 109 ls []) := by
                      intro z17 z18 hf ls hl
                      unfold fX11_clash_J109 at hf
                      obtain ⟨v19, ev19, hf⟩ := nmv_e hf
                      refine lv_iinc (v := v19) (lv' := [(7, .int v19), (0, .ref (ad 0 0)), (1, .int a1), (2, .int a2), (3, .int a3), (4, .int z17), (5, .int z18), (6, .int x9)]) hx hb dX11_clash_109 hl (k := 7) rfl (by rw [ev19]; rfl) (by decide) rfl (fun ls hl => ?_)
                      refine lv_goto (tgt := 60) hx hb dX11_clash_112 (by decide) ?_
                      exact ih_60 _ _ _ hf _ (lv_sub hl [1, 2, 3, 4, 5, 6, 7, 0] rfl)
                    refine lv_if_eq (tgt := 109) hx hb dX11_clash_82 (by decide) (fun c20 => ?_) (fun c20 => ?_)
                    · replace hf := pos_e c20 hf
                      exact hJ_109 _ _ hf _ (lv_sub hl [0, 1, 2, 3, 4, 5, 6, 7] rfl)
                    · replace hf := neg_e c20 hf
                      obtain ⟨v21, ev21, hf⟩ := nmv_e hf
                      refine lv_iinc (v := v21) (lv' := [(4, .int v21), (0, .ref (ad 0 0)), (1, .int a1), (2, .int a2), (3, .int a3), (5, .int x13), (6, .int x9), (7, .int x14)]) hx hb dX11_clash_85 hl (k := 4) rfl (by rw [ev21]; rfl) (by decide) rfl (fun ls hl => ?_)
                      refine lv_iload hx hb dX11_clash_88 (lv_at hl 0 rfl) ?_
                      refine lv_iconst (v := 1) hx hb dX11_clash_90 (by decide) ?_
                      have hJ_107 : ∀ (z22 : Int32) (hf : fX11_clash_J107 x14 (fX11_clash_L60 σ a1 a2 x9 K_60 n_60) v21 z22 = some out) (ls : Array Slot), lv_has ls 8 [(0, .ref (ad 0 0)), (1, .int a1), (2, .int a2), (3, .int a3), (4, .int v21), (6, .int x9), (7, .int x14)] → W p l e rX11_clash s m args below meth c s.heap [] 0 0 (MQ below (vp_Si (fun r => r = out)) args s 0 0 (fun _ => False)) (F0 m 107 ls [.int z22]) := by
                        intro z22 hf ls hl
                        unfold fX11_clash_J107 at hf
                        refine lv_istore (lv' := [(5, .int z22), (0, .ref (ad 0 0)), (1, .int a1), (2, .int a2), (3, .int a3), (4, .int v21), (6, .int x9), (7, .int x14)]) hx hb dX11_clash_107 hl (by decide) rfl (fun ls hl => ?_)
                        exact hJ_109 _ _ hf _ (lv_sub hl [1, 2, 3, 4, 5, 0, 6, 7] rfl)
                      refine lv_icmp_ne (tgt := 105) hx hb dX11_clash_91 (by decide) (fun c23 => ?_) (fun c23 => ?_)
                      · replace hf := neg_e c23 hf
                        refine lv_iload hx hb dX11_clash_105 (lv_at hl 5 rfl) ?_
                        exact hJ_107 _ hf _ (lv_sub hl [1, 2, 3, 4, 0, 6, 7] rfl)
                      · replace hf := pos_e c23 hf
                        refine lv_bipush (v := 10) hx hb dX11_clash_94 (by decide) ?_
                        refine lv_iload hx hb dX11_clash_96 (lv_at hl 6 rfl) ?_
                        refine lv_imul hx hb dX11_clash_98 ?_
                        refine lv_iload hx hb dX11_clash_99 (lv_at hl 7 rfl) ?_
                        refine lv_iadd hx hb dX11_clash_101 ?_
                        refine lv_goto (tgt := 107) hx hb dX11_clash_102 (by decide) ?_
                        exact hJ_107 _ hf _ (lv_sub hl [1, 2, 3, 4, 0, 6, 7] rfl)
              refine loop_60 _ (fun y24 y25 hf ls hl => ?_) _ _ _ _ hf _ (lv_sub hl [1, 2, 3, 4, 5, 6, 7, 0] rfl)
              obtain ⟨v26, ev26, hf⟩ := nmv_e hf
              refine lv_iinc (v := v26) (lv' := [(6, .int v26), (0, .ref (ad 0 0)), (1, .int a1), (2, .int a2), (3, .int a3), (4, .int y24), (5, .int y25)]) hx hb dX11_clash_115 hl (k := 6) rfl (by rw [ev26]; rfl) (by decide) rfl (fun ls hl => ?_)
              refine lv_goto (tgt := 42) hx hb dX11_clash_118 (by decide) ?_
              exact ih_42 _ _ _ hf _ (lv_sub hl [1, 2, 3, 4, 5, 6, 0] rfl)
        refine loop_42 _ (fun y27 y28 hf ls hl => ?_) _ _ _ _ hf _ (lv_sub hl [3, 4, 5, 6, 2, 1, 0] rfl)
        refine lv_iload_n hx hb dX11_clash_121 rfl (lv_at hl 0 rfl) ?_
        refine lv_if_ne (tgt := 130) hx hb dX11_clash_122 (by decide) (fun c29 => ?_) (fun c29 => ?_)
        · replace hf := neg_e c29 hf
          refine lv_iload hx hb dX11_clash_130 (lv_at hl 2 rfl) ?_
          exact gret_i E hr hlk dX11_clash_132 (som_e hf).symm
        · replace hf := pos_e c29 hf
          refine lv_iload hx hb dX11_clash_125 (lv_at hl 1 rfl) ?_
          refine lv_goto (tgt := 132) hx hb dX11_clash_127 (by decide) ?_
          exact gret_i E hr hlk dX11_clash_132 (som_e hf).symm
      · replace hf := neg_e c6 hf
        refine lv_iconst (v := -1) hx hb dX11_clash_30 (by decide) ?_
        exact gret_i E hr hlk dX11_clash_31 (som_e hf).symm
noncomputable def fX11_heard_J92 (z5 : Int32) (z6 : Int32) (z7 : Int32) (z8 : Int32) : Option (Int32) :=
  some (((z5 + z6) + z7) + z8)
noncomputable def fX11_heard_J76 (a1 : Int32) (z5 : Int32) (z6 : Int32) (z7 : Int32) : Option (Int32) :=
  if (a1 - a1 / 7 * 7) = 3 then
  fX11_heard_J92 z5 z6 z7 8
  else
  fX11_heard_J92 z5 z6 z7 0
noncomputable def fX11_heard_J75 (a1 : Int32) (z5 : Int32) (z6 : Int32) : Option (Int32) :=
  fX11_heard_J76 a1 z5 z6 0
noncomputable def fX11_heard_J57 (a1 : Int32) (a2 : Int32) (z5 : Int32) (z6 : Int32) : Option (Int32) :=
  if a1 ≤ 60 then
  fX11_heard_J75 a1 z5 z6
  else
  if a2 ≤ 20 then
  fX11_heard_J75 a1 z5 z6
  else
  fX11_heard_J76 a1 z5 z6 4
noncomputable def fX11_heard_J56 (a1 : Int32) (a2 : Int32) (z5 : Int32) : Option (Int32) :=
  fX11_heard_J57 a1 a2 z5 0
noncomputable def fX11_heard_J33 (a1 : Int32) (a2 : Int32) (z5 : Int32) : Option (Int32) :=
  if a1 < 50 then
  fX11_heard_J56 a1 a2 z5
  else
  if 70 < a1 then
  fX11_heard_J56 a1 a2 z5
  else
  if 20 < a2 then
  fX11_heard_J56 a1 a2 z5
  else
  fX11_heard_J57 a1 a2 z5 2
noncomputable def fX11_heard (σ : St) (a1 : Int32) (a2 : Int32) : Option (Int32) :=
  bd (fX11_isOut σ a1 0 99) fun r1 =>
  if r1 = 0 then
  bd (fX11_isOut σ a2 0 60) fun r3 =>
  if r3 = 0 then
  if a1 ≤ 70 then
  fX11_heard_J33 a1 a2 0
  else
  fX11_heard_J33 a1 a2 1
  else
  some (-1)
  else
  some (-1)
def rX11_heard : Room := { frames := 1, cells := 0, slots := 0, locals := 22 }
set_option maxHeartbeats 4000000 in
set_option maxRecDepth 100000 in
theorem cX11_heardc {l : Launch} {dC : Nat → ClassId} {dI : Nat → Nat → Nat} {ks : Nat → ClassId} {ad : Nat → Nat → Nat} {σ : St} (a1 : Int32) (a2 : Int32)  {out : Int32} (hf : fX11_heard σ a1 a2 = some out) : MRi l dC dI ks ad σ yX11_heard cX11_heard 7 (some .int) rX11_heard [.ref (ad 0 0), .int a1, .int a2] out := by
  refine met_r (own := RX11) (by decide) rfl (Nat.le_of_ble_eq_true rfl) ?_
  intro p e s m args below meth c ls E hr hlk hP hK hl
  have hx := E.1
  have hb := E.2.1
  have hl : lv_has ls 7 [(0, .ref (ad 0 0)), (1, .int a1), (2, .int a2)] := hl
  unfold fX11_heard at hf
  refine lv_iload_n hx hb dX11_heard_0 rfl (lv_at hl 1 rfl) ?_
  refine lv_iconst (v := 0) hx hb dX11_heard_1 (by decide) ?_
  refine lv_bipush (v := 99) hx hb dX11_heard_2 (by decide) ?_
  obtain ⟨r1, er1, hf⟩ := bd_e hf
  refine gSr_i E hK hP (cX11_isOutc _ _ _ er1) kS_X11_isOut wd_1_178 rfl rfl rfl ⟨Nat.le_of_ble_eq_true rfl, Nat.le_of_ble_eq_true rfl⟩ ⟨Nat.zero_le _, Nat.zero_le _⟩ hl.1 (Nat.le_of_ble_eq_true rfl) rfl dX11_heard_4 ?_
  refine lv_if_ne (tgt := 20) hx hb dX11_heard_7 (by decide) (fun c2 => ?_) (fun c2 => ?_)
  · replace hf := neg_e c2 hf
    refine lv_iconst (v := -1) hx hb dX11_heard_20 (by decide) ?_
    exact gret_i E hr hlk dX11_heard_21 (som_e hf).symm
  · replace hf := pos_e c2 hf
    refine lv_iload_n hx hb dX11_heard_10 rfl (lv_at hl 2 rfl) ?_
    refine lv_iconst (v := 0) hx hb dX11_heard_11 (by decide) ?_
    refine lv_bipush (v := 60) hx hb dX11_heard_12 (by decide) ?_
    obtain ⟨r3, er3, hf⟩ := bd_e hf
    refine gSr_i E hK hP (cX11_isOutc _ _ _ er3) kS_X11_isOut wd_1_178 rfl rfl rfl ⟨Nat.le_of_ble_eq_true rfl, Nat.le_of_ble_eq_true rfl⟩ ⟨Nat.zero_le _, Nat.zero_le _⟩ hl.1 (Nat.le_of_ble_eq_true rfl) rfl dX11_heard_14 ?_
    refine lv_if_eq (tgt := 22) hx hb dX11_heard_17 (by decide) (fun c4 => ?_) (fun c4 => ?_)
    · replace hf := pos_e c4 hf
      refine lv_iload_n hx hb dX11_heard_22 rfl (lv_at hl 1 rfl) ?_
      refine lv_bipush (v := 70) hx hb dX11_heard_23 (by decide) ?_
      have hJ_33 : ∀ (z5 : Int32) (hf : fX11_heard_J33 a1 a2 z5 = some out) (ls : Array Slot), lv_has ls 7 [(1, .int a1), (2, .int a2)] → W p l e rX11_heard s m args below meth c s.heap [] 0 0 (MQ below (vp_Si (fun r => r = out)) args s 0 0 (fun _ => False)) (F0 m 33 ls [.int z5]) := by
        intro z5 hf ls hl
        unfold fX11_heard_J33 at hf
        refine lv_istore_n (lv' := [(3, .int z5), (1, .int a1), (2, .int a2)]) hx hb dX11_heard_33 rfl hl (by decide) rfl (fun ls hl => ?_)
        refine lv_iload_n hx hb dX11_heard_34 rfl (lv_at hl 1 rfl) ?_
        refine lv_bipush (v := 50) hx hb dX11_heard_35 (by decide) ?_
        have hJ_57 : ∀ (z6 : Int32) (hf : fX11_heard_J57 a1 a2 z5 z6 = some out) (ls : Array Slot), lv_has ls 7 [(1, .int a1), (2, .int a2), (3, .int z5)] → W p l e rX11_heard s m args below meth c s.heap [] 0 0 (MQ below (vp_Si (fun r => r = out)) args s 0 0 (fun _ => False)) (F0 m 57 ls [.int z6]) := by
          intro z6 hf ls hl
          unfold fX11_heard_J57 at hf
          refine lv_istore (lv' := [(4, .int z6), (1, .int a1), (2, .int a2), (3, .int z5)]) hx hb dX11_heard_57 hl (by decide) rfl (fun ls hl => ?_)
          refine lv_iload_n hx hb dX11_heard_59 rfl (lv_at hl 1 rfl) ?_
          refine lv_bipush (v := 60) hx hb dX11_heard_60 (by decide) ?_
          have hJ_76 : ∀ (z7 : Int32) (hf : fX11_heard_J76 a1 z5 z6 z7 = some out) (ls : Array Slot), lv_has ls 7 [(1, .int a1), (3, .int z5), (4, .int z6)] → W p l e rX11_heard s m args below meth c s.heap [] 0 0 (MQ below (vp_Si (fun r => r = out)) args s 0 0 (fun _ => False)) (F0 m 76 ls [.int z7]) := by
            intro z7 hf ls hl
            unfold fX11_heard_J76 at hf
            refine lv_istore (lv' := [(5, .int z7), (1, .int a1), (3, .int z5), (4, .int z6)]) hx hb dX11_heard_76 hl (by decide) rfl (fun ls hl => ?_)
            refine lv_iload_n hx hb dX11_heard_78 rfl (lv_at hl 1 rfl) ?_
            refine lv_bipush (v := 7) hx hb dX11_heard_79 (by decide) ?_
            refine lv_irem hx hb dX11_heard_81 (by decide) ?_
            refine lv_iconst (v := 3) hx hb dX11_heard_82 (by decide) ?_
            have hJ_92 : ∀ (z8 : Int32) (hf : fX11_heard_J92 z5 z6 z7 z8 = some out) (ls : Array Slot), lv_has ls 7 [(3, .int z5), (4, .int z6), (5, .int z7)] → W p l e rX11_heard s m args below meth c s.heap [] 0 0 (MQ below (vp_Si (fun r => r = out)) args s 0 0 (fun _ => False)) (F0 m 92 ls [.int z8]) := by
              intro z8 hf ls hl
              unfold fX11_heard_J92 at hf
              refine lv_istore (lv' := [(6, .int z8), (3, .int z5), (4, .int z6), (5, .int z7)]) hx hb dX11_heard_92 hl (by decide) rfl (fun ls hl => ?_)
              refine lv_iload_n hx hb dX11_heard_94 rfl (lv_at hl 1 rfl) ?_
              refine lv_iload hx hb dX11_heard_95 (lv_at hl 2 rfl) ?_
              refine lv_iadd hx hb dX11_heard_97 ?_
              refine lv_iload hx hb dX11_heard_98 (lv_at hl 3 rfl) ?_
              refine lv_iadd hx hb dX11_heard_100 ?_
              refine lv_iload hx hb dX11_heard_101 (lv_at hl 0 rfl) ?_
              refine lv_iadd hx hb dX11_heard_103 ?_
              exact gret_i E hr hlk dX11_heard_104 (som_e hf).symm
            refine lv_icmp_ne (tgt := 91) hx hb dX11_heard_83 (by decide) (fun c9 => ?_) (fun c9 => ?_)
            · replace hf := neg_e c9 hf
              refine lv_iconst (v := 0) hx hb dX11_heard_91 (by decide) ?_
              exact hJ_92 _ hf _ (lv_sub hl [2, 3, 0] rfl)
            · replace hf := pos_e c9 hf
              refine lv_bipush (v := 8) hx hb dX11_heard_86 (by decide) ?_
              refine lv_goto (tgt := 92) hx hb dX11_heard_88 (by decide) ?_
              exact hJ_92 _ hf _ (lv_sub hl [2, 3, 0] rfl)
          have hJ_75 : ∀ (hf : fX11_heard_J75 a1 z5 z6 = some out) (ls : Array Slot), lv_has ls 7 [(1, .int a1), (3, .int z5), (4, .int z6)] → W p l e rX11_heard s m args below meth c s.heap [] 0 0 (MQ below (vp_Si (fun r => r = out)) args s 0 0 (fun _ => False)) (F0 m 75 ls []) := by
            intro hf ls hl
            unfold fX11_heard_J75 at hf
            refine lv_iconst (v := 0) hx hb dX11_heard_75 (by decide) ?_
            exact hJ_76 _ hf _ (lv_sub hl [0, 1, 2] rfl)
          refine lv_icmp_le (tgt := 75) hx hb dX11_heard_62 (by decide) (fun c10 => ?_) (fun c10 => ?_)
          · replace hf := pos_e c10 hf
            exact hJ_75 hf _ (lv_sub hl [1, 3, 0] rfl)
          · replace hf := neg_e c10 hf
            refine lv_iload_n hx hb dX11_heard_65 rfl (lv_at hl 2 rfl) ?_
            refine lv_bipush (v := 20) hx hb dX11_heard_66 (by decide) ?_
            refine lv_icmp_le (tgt := 75) hx hb dX11_heard_68 (by decide) (fun c11 => ?_) (fun c11 => ?_)
            · replace hf := pos_e c11 hf
              exact hJ_75 hf _ (lv_sub hl [1, 3, 0] rfl)
            · replace hf := neg_e c11 hf
              refine lv_iconst (v := 4) hx hb dX11_heard_71 (by decide) ?_
              refine lv_goto (tgt := 76) hx hb dX11_heard_72 (by decide) ?_
              exact hJ_76 _ hf _ (lv_sub hl [1, 3, 0] rfl)
        have hJ_56 : ∀ (hf : fX11_heard_J56 a1 a2 z5 = some out) (ls : Array Slot), lv_has ls 7 [(1, .int a1), (2, .int a2), (3, .int z5)] → W p l e rX11_heard s m args below meth c s.heap [] 0 0 (MQ below (vp_Si (fun r => r = out)) args s 0 0 (fun _ => False)) (F0 m 56 ls []) := by
          intro hf ls hl
          unfold fX11_heard_J56 at hf
          refine lv_iconst (v := 0) hx hb dX11_heard_56 (by decide) ?_
          exact hJ_57 _ hf _ (lv_sub hl [0, 1, 2] rfl)
        refine lv_icmp_lt (tgt := 56) hx hb dX11_heard_37 (by decide) (fun c12 => ?_) (fun c12 => ?_)
        · replace hf := pos_e c12 hf
          exact hJ_56 hf _ (lv_sub hl [1, 2, 0] rfl)
        · replace hf := neg_e c12 hf
          refine lv_iload_n hx hb dX11_heard_40 rfl (lv_at hl 1 rfl) ?_
          refine lv_bipush (v := 70) hx hb dX11_heard_41 (by decide) ?_
          refine lv_icmp_gt (tgt := 56) hx hb dX11_heard_43 (by decide) (fun c13 => ?_) (fun c13 => ?_)
          · replace hf := pos_e c13 hf
            exact hJ_56 hf _ (lv_sub hl [1, 2, 0] rfl)
          · replace hf := neg_e c13 hf
            refine lv_iload_n hx hb dX11_heard_46 rfl (lv_at hl 2 rfl) ?_
            refine lv_bipush (v := 20) hx hb dX11_heard_47 (by decide) ?_
            refine lv_icmp_gt (tgt := 56) hx hb dX11_heard_49 (by decide) (fun c14 => ?_) (fun c14 => ?_)
            · replace hf := pos_e c14 hf
              exact hJ_56 hf _ (lv_sub hl [1, 2, 0] rfl)
            · replace hf := neg_e c14 hf
              refine lv_iconst (v := 2) hx hb dX11_heard_52 (by decide) ?_
              refine lv_goto (tgt := 57) hx hb dX11_heard_53 (by decide) ?_
              exact hJ_57 _ hf _ (lv_sub hl [1, 2, 0] rfl)
      refine lv_icmp_le (tgt := 32) hx hb dX11_heard_25 (by decide) (fun c15 => ?_) (fun c15 => ?_)
      · replace hf := pos_e c15 hf
        refine lv_iconst (v := 0) hx hb dX11_heard_32 (by decide) ?_
        exact hJ_33 _ hf _ (lv_sub hl [1, 2] rfl)
      · replace hf := neg_e c15 hf
        refine lv_iconst (v := 1) hx hb dX11_heard_28 (by decide) ?_
        refine lv_goto (tgt := 33) hx hb dX11_heard_29 (by decide) ?_
        exact hJ_33 _ hf _ (lv_sub hl [1, 2] rfl)
    · replace hf := neg_e c4 hf
      refine lv_iconst (v := -1) hx hb dX11_heard_20 (by decide) ?_
      exact gret_i E hr hlk dX11_heard_21 (som_e hf).symm
