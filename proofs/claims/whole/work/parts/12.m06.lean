noncomputable def fX12_blade (σ : St) (a1 : Int32) (a2 : Int32) : Option (Int32) :=
  bd (fX12_isBlade σ a1) fun r1 =>
  if r1 = 0 then
  some (-1)
  else
  bd (fX12_isIn σ a2 0 4) fun r3 =>
  if r3 = 0 then
  some (-1)
  else
  if 4 ≤ a2 then
  bd (fX12_isSplit σ a1) fun r6 =>
  if r6 = 0 then
  some 0
  else
  some 1
  else
  bd (fX12_bladeOf σ a1 a2) fun r8 =>
  some r8
def rX12_blade : Room := { frames := 3, cells := 0, slots := 0, locals := 64 }
set_option maxHeartbeats 4000000 in
set_option maxRecDepth 100000 in
theorem cX12_bladec {l : Launch} {dC : Nat → ClassId} {dI : Nat → Nat → Nat} {ks : Nat → ClassId} {ad : Nat → Nat → Nat} {σ : St} (a1 : Int32) (a2 : Int32)  {out : Int32} (hf : fX12_blade σ a1 a2 = some out) : MRi l dC dI ks ad σ yX12_blade cX12_blade 3 (some .int) rX12_blade [.ref (ad 14 0), .int a1, .int a2] out := by
  refine met_r (own := RX12) (by decide) rfl (Nat.le_of_ble_eq_true rfl) ?_
  intro p e s m args below meth c ls E hr hlk hP hK hl
  have hx := E.1
  have hb := E.2.1
  have hl : lv_has ls 3 [(0, .ref (ad 14 0)), (1, .int a1), (2, .int a2)] := hl
  unfold fX12_blade at hf
  refine lv_aload_n hx hb dX12_blade_0 rfl (lv_at hl 0 rfl) ?_
  refine lv_iload_n hx hb dX12_blade_1 rfl (lv_at hl 1 rfl) ?_
  obtain ⟨r1, er1, hf⟩ := bd_e hf
  refine gVr_i E hK hP (cX12_isBladec _ er1) kV_X12_isBlade wd_5_188 rfl rfl (q_model ks ad σ) rfl rfl rfl ⟨Nat.le_of_ble_eq_true rfl, Nat.le_of_ble_eq_true rfl⟩ ⟨Nat.zero_le _, Nat.zero_le _⟩ hl.1 (Nat.le_of_ble_eq_true rfl) rfl dX12_blade_2 ?_
  refine lv_if_eq (tgt := 17) hx hb dX12_blade_5 (by decide) (fun c2 => ?_) (fun c2 => ?_)
  · replace hf := pos_e c2 hf
    refine lv_iconst (v := -1) hx hb dX12_blade_17 (by decide) ?_
    exact gret_i E hr hlk dX12_blade_18 (som_e hf).symm
  · replace hf := neg_e c2 hf
    refine lv_iload_n hx hb dX12_blade_8 rfl (lv_at hl 2 rfl) ?_
    refine lv_iconst (v := 0) hx hb dX12_blade_9 (by decide) ?_
    refine lv_iconst (v := 4) hx hb dX12_blade_10 (by decide) ?_
    obtain ⟨r3, er3, hf⟩ := bd_e hf
    refine gSr_i E hK hP (cX12_isInc _ _ _ er3) kS_X12_isIn wd_5_138 rfl rfl rfl ⟨Nat.le_of_ble_eq_true rfl, Nat.le_of_ble_eq_true rfl⟩ ⟨Nat.zero_le _, Nat.zero_le _⟩ hl.1 (Nat.le_of_ble_eq_true rfl) rfl dX12_blade_11 ?_
    refine lv_if_ne (tgt := 19) hx hb dX12_blade_14 (by decide) (fun c4 => ?_) (fun c4 => ?_)
    · replace hf := neg_e c4 hf
      refine lv_iload_n hx hb dX12_blade_19 rfl (lv_at hl 2 rfl) ?_
      refine lv_iconst (v := 4) hx hb dX12_blade_20 (by decide) ?_
      refine lv_icmp_ge (tgt := 33) hx hb dX12_blade_21 (by decide) (fun c5 => ?_) (fun c5 => ?_)
      · replace hf := pos_e c5 hf
        refine lv_aload_n hx hb dX12_blade_33 rfl (lv_at hl 0 rfl) ?_
        refine lv_iload_n hx hb dX12_blade_34 rfl (lv_at hl 1 rfl) ?_
        obtain ⟨r6, er6, hf⟩ := bd_e hf
        refine gVr_i E hK hP (cX12_isSplitc _ er6) kV_X12_isSplit wd_5_200 rfl rfl (q_model ks ad σ) rfl rfl rfl ⟨Nat.le_of_ble_eq_true rfl, Nat.le_of_ble_eq_true rfl⟩ ⟨Nat.zero_le _, Nat.zero_le _⟩ hl.1 (Nat.le_of_ble_eq_true rfl) rfl dX12_blade_35 ?_
        refine lv_if_eq (tgt := 45) hx hb dX12_blade_38 (by decide) (fun c7 => ?_) (fun c7 => ?_)
        · replace hf := pos_e c7 hf
          refine lv_iconst (v := 0) hx hb dX12_blade_45 (by decide) ?_
          exact gret_i E hr hlk dX12_blade_46 (som_e hf).symm
        · replace hf := neg_e c7 hf
          refine lv_iconst (v := 1) hx hb dX12_blade_41 (by decide) ?_
          refine lv_goto (tgt := 46) hx hb dX12_blade_42 (by decide) ?_
          exact gret_i E hr hlk dX12_blade_46 (som_e hf).symm
      · replace hf := neg_e c5 hf
        refine lv_aload_n hx hb dX12_blade_24 rfl (lv_at hl 0 rfl) ?_
        refine lv_iload_n hx hb dX12_blade_25 rfl (lv_at hl 1 rfl) ?_
        refine lv_iload_n hx hb dX12_blade_26 rfl (lv_at hl 2 rfl) ?_
        obtain ⟨r8, er8, hf⟩ := bd_e hf
        refine gVr_i E hK hP (cX12_bladeOfc _ _ er8) kV_X12_bladeOf wd_5_204 rfl rfl (q_model ks ad σ) rfl rfl rfl ⟨Nat.le_of_ble_eq_true rfl, Nat.le_of_ble_eq_true rfl⟩ ⟨Nat.zero_le _, Nat.zero_le _⟩ hl.1 (Nat.le_of_ble_eq_true rfl) rfl dX12_blade_27 ?_
        refine lv_goto (tgt := 46) hx hb dX12_blade_30 (by decide) ?_
        exact gret_i E hr hlk dX12_blade_46 (som_e hf).symm
    · replace hf := pos_e c4 hf
      refine lv_iconst (v := -1) hx hb dX12_blade_17 (by decide) ?_
      exact gret_i E hr hlk dX12_blade_18 (som_e hf).symm
noncomputable def fX12_thumbs (σ : St) (a1 : Int32) (a2 : Int32) : Option (Int32) :=
  bd (fX12_isThumbs σ a1) fun r1 =>
  if r1 = 0 then
  some (-1)
  else
  bd (fX12_isIn σ a2 0 1) fun r3 =>
  if r3 = 0 then
  some (-1)
  else
  bd (fX12_atThumbs σ a1 a2) fun r5 =>
  ck (vp_in r5 47) <|
  some (gI σ 12 0 r5.toNatClampNeg)
def rX12_thumbs : Room := { frames := 2, cells := 0, slots := 0, locals := 43 }
set_option maxHeartbeats 4000000 in
set_option maxRecDepth 100000 in
theorem cX12_thumbsc {l : Launch} {dC : Nat → ClassId} {dI : Nat → Nat → Nat} {ks : Nat → ClassId} {ad : Nat → Nat → Nat} {σ : St} (a1 : Int32) (a2 : Int32)  {out : Int32} (hf : fX12_thumbs σ a1 a2 = some out) : MRi l dC dI ks ad σ yX12_thumbs cX12_thumbs 3 (some .int) rX12_thumbs [.ref (ad 14 0), .int a1, .int a2] out := by
  refine met_r (own := RX12) (by decide) rfl (Nat.le_of_ble_eq_true rfl) ?_
  intro p e s m args below meth c ls E hr hlk hP hK hl
  have hx := E.1
  have hb := E.2.1
  have hl : lv_has ls 3 [(0, .ref (ad 14 0)), (1, .int a1), (2, .int a2)] := hl
  unfold fX12_thumbs at hf
  refine lv_aload_n hx hb dX12_thumbs_0 rfl (lv_at hl 0 rfl) ?_
  refine lv_iload_n hx hb dX12_thumbs_1 rfl (lv_at hl 1 rfl) ?_
  obtain ⟨r1, er1, hf⟩ := bd_e hf
  refine gVr_i E hK hP (cX12_isThumbsc _ er1) kV_X12_isThumbs wd_5_192 rfl rfl (q_model ks ad σ) rfl rfl rfl ⟨Nat.le_of_ble_eq_true rfl, Nat.le_of_ble_eq_true rfl⟩ ⟨Nat.zero_le _, Nat.zero_le _⟩ hl.1 (Nat.le_of_ble_eq_true rfl) rfl dX12_thumbs_2 ?_
  refine lv_if_eq (tgt := 30) hx hb dX12_thumbs_5 (by decide) (fun c2 => ?_) (fun c2 => ?_)
  · replace hf := pos_e c2 hf
    refine lv_iconst (v := -1) hx hb dX12_thumbs_30 (by decide) ?_
    exact gret_i E hr hlk dX12_thumbs_31 (som_e hf).symm
  · replace hf := neg_e c2 hf
    refine lv_iload_n hx hb dX12_thumbs_8 rfl (lv_at hl 2 rfl) ?_
    refine lv_iconst (v := 0) hx hb dX12_thumbs_9 (by decide) ?_
    refine lv_iconst (v := 1) hx hb dX12_thumbs_10 (by decide) ?_
    obtain ⟨r3, er3, hf⟩ := bd_e hf
    refine gSr_i E hK hP (cX12_isInc _ _ _ er3) kS_X12_isIn wd_5_138 rfl rfl rfl ⟨Nat.le_of_ble_eq_true rfl, Nat.le_of_ble_eq_true rfl⟩ ⟨Nat.zero_le _, Nat.zero_le _⟩ hl.1 (Nat.le_of_ble_eq_true rfl) rfl dX12_thumbs_11 ?_
    refine lv_if_eq (tgt := 30) hx hb dX12_thumbs_14 (by decide) (fun c4 => ?_) (fun c4 => ?_)
    · replace hf := pos_e c4 hf
      refine lv_iconst (v := -1) hx hb dX12_thumbs_30 (by decide) ?_
      exact gret_i E hr hlk dX12_thumbs_31 (som_e hf).symm
    · replace hf := neg_e c4 hf
      refine lv_aload_n hx hb dX12_thumbs_17 rfl (lv_at hl 0 rfl) ?_
      refine gget E in_X12 hK hP (q_model ks ad σ) rfl (k := 0) (by decide) wd_5_60 rfl (v := .ref (ad 15 0)) rfl dX12_thumbs_18 ?_
      refine lv_iload_n hx hb dX12_thumbs_21 rfl (lv_at hl 1 rfl) ?_
      refine lv_iload_n hx hb dX12_thumbs_22 rfl (lv_at hl 2 rfl) ?_
      obtain ⟨r5, er5, hf⟩ := bd_e hf
      refine gSr_i E hK hP (cX12_atThumbsc _ _ er5) kS_X12_atThumbs wd_5_174 rfl rfl rfl ⟨Nat.le_of_ble_eq_true rfl, Nat.le_of_ble_eq_true rfl⟩ ⟨Nat.zero_le _, Nat.zero_le _⟩ hl.1 (Nat.le_of_ble_eq_true rfl) rfl dX12_thumbs_23 ?_
      obtain ⟨c6, hf⟩ := ck_e hf
      refine giald E hK hP (q_M0 ks ad σ) c6 dX12_thumbs_26 ?_
      refine lv_goto (tgt := 31) hx hb dX12_thumbs_27 (by decide) ?_
      exact gret_i E hr hlk dX12_thumbs_31 (som_e hf).symm
noncomputable def fX12_blow (σ : St) (a1 : Int32) (a2 : Int32) : Option (Int32) :=
  bd (fX12_isBlow σ a1) fun r1 =>
  if r1 = 0 then
  some (-1)
  else
  bd (fX12_isIn σ a2 0 2) fun r3 =>
  if r3 = 0 then
  some (-1)
  else
  if 2 ≤ a2 then
  bd (fX12_wears σ a1 30) fun r6 =>
  some r6
  else
  bd (fX12_atBlow σ a1 a2) fun r7 =>
  ck (vp_in r7 47) <|
  some (gI σ 12 0 r7.toNatClampNeg)
def rX12_blow : Room := { frames := 3, cells := 0, slots := 0, locals := 65 }
set_option maxHeartbeats 4000000 in
set_option maxRecDepth 100000 in
theorem cX12_blowc {l : Launch} {dC : Nat → ClassId} {dI : Nat → Nat → Nat} {ks : Nat → ClassId} {ad : Nat → Nat → Nat} {σ : St} (a1 : Int32) (a2 : Int32)  {out : Int32} (hf : fX12_blow σ a1 a2 = some out) : MRi l dC dI ks ad σ yX12_blow cX12_blow 3 (some .int) rX12_blow [.ref (ad 14 0), .int a1, .int a2] out := by
  refine met_r (own := RX12) (by decide) rfl (Nat.le_of_ble_eq_true rfl) ?_
  intro p e s m args below meth c ls E hr hlk hP hK hl
  have hx := E.1
  have hb := E.2.1
  have hl : lv_has ls 3 [(0, .ref (ad 14 0)), (1, .int a1), (2, .int a2)] := hl
  unfold fX12_blow at hf
  refine lv_aload_n hx hb dX12_blow_0 rfl (lv_at hl 0 rfl) ?_
  refine lv_iload_n hx hb dX12_blow_1 rfl (lv_at hl 1 rfl) ?_
  obtain ⟨r1, er1, hf⟩ := bd_e hf
  refine gVr_i E hK hP (cX12_isBlowc _ er1) kV_X12_isBlow wd_5_196 rfl rfl (q_model ks ad σ) rfl rfl rfl ⟨Nat.le_of_ble_eq_true rfl, Nat.le_of_ble_eq_true rfl⟩ ⟨Nat.zero_le _, Nat.zero_le _⟩ hl.1 (Nat.le_of_ble_eq_true rfl) rfl dX12_blow_2 ?_
  refine lv_if_eq (tgt := 17) hx hb dX12_blow_5 (by decide) (fun c2 => ?_) (fun c2 => ?_)
  · replace hf := pos_e c2 hf
    refine lv_iconst (v := -1) hx hb dX12_blow_17 (by decide) ?_
    exact gret_i E hr hlk dX12_blow_18 (som_e hf).symm
  · replace hf := neg_e c2 hf
    refine lv_iload_n hx hb dX12_blow_8 rfl (lv_at hl 2 rfl) ?_
    refine lv_iconst (v := 0) hx hb dX12_blow_9 (by decide) ?_
    refine lv_iconst (v := 2) hx hb dX12_blow_10 (by decide) ?_
    obtain ⟨r3, er3, hf⟩ := bd_e hf
    refine gSr_i E hK hP (cX12_isInc _ _ _ er3) kS_X12_isIn wd_5_138 rfl rfl rfl ⟨Nat.le_of_ble_eq_true rfl, Nat.le_of_ble_eq_true rfl⟩ ⟨Nat.zero_le _, Nat.zero_le _⟩ hl.1 (Nat.le_of_ble_eq_true rfl) rfl dX12_blow_11 ?_
    refine lv_if_ne (tgt := 19) hx hb dX12_blow_14 (by decide) (fun c4 => ?_) (fun c4 => ?_)
    · replace hf := neg_e c4 hf
      refine lv_iload_n hx hb dX12_blow_19 rfl (lv_at hl 2 rfl) ?_
      refine lv_iconst (v := 2) hx hb dX12_blow_20 (by decide) ?_
      refine lv_icmp_ge (tgt := 37) hx hb dX12_blow_21 (by decide) (fun c5 => ?_) (fun c5 => ?_)
      · replace hf := pos_e c5 hf
        refine lv_aload_n hx hb dX12_blow_37 rfl (lv_at hl 0 rfl) ?_
        refine lv_iload_n hx hb dX12_blow_38 rfl (lv_at hl 1 rfl) ?_
        refine lv_bipush (v := 30) hx hb dX12_blow_39 (by decide) ?_
        obtain ⟨r6, er6, hf⟩ := bd_e hf
        refine gVr_i E hK hP (cX12_wearsc _ _ er6) kV_X12_wears wd_5_208 rfl rfl (q_model ks ad σ) rfl rfl rfl ⟨Nat.le_of_ble_eq_true rfl, Nat.le_of_ble_eq_true rfl⟩ ⟨Nat.zero_le _, Nat.zero_le _⟩ hl.1 (Nat.le_of_ble_eq_true rfl) rfl dX12_blow_41 ?_
        exact gret_i E hr hlk dX12_blow_44 (som_e hf).symm
      · replace hf := neg_e c5 hf
        refine lv_aload_n hx hb dX12_blow_24 rfl (lv_at hl 0 rfl) ?_
        refine gget E in_X12 hK hP (q_model ks ad σ) rfl (k := 0) (by decide) wd_5_60 rfl (v := .ref (ad 15 0)) rfl dX12_blow_25 ?_
        refine lv_iload_n hx hb dX12_blow_28 rfl (lv_at hl 1 rfl) ?_
        refine lv_iload_n hx hb dX12_blow_29 rfl (lv_at hl 2 rfl) ?_
        obtain ⟨r7, er7, hf⟩ := bd_e hf
        refine gSr_i E hK hP (cX12_atBlowc _ _ er7) kS_X12_atBlow wd_5_181 rfl rfl rfl ⟨Nat.le_of_ble_eq_true rfl, Nat.le_of_ble_eq_true rfl⟩ ⟨Nat.zero_le _, Nat.zero_le _⟩ hl.1 (Nat.le_of_ble_eq_true rfl) rfl dX12_blow_30 ?_
        obtain ⟨c8, hf⟩ := ck_e hf
        refine giald E hK hP (q_M0 ks ad σ) c8 dX12_blow_33 ?_
        refine lv_goto (tgt := 44) hx hb dX12_blow_34 (by decide) ?_
        exact gret_i E hr hlk dX12_blow_44 (som_e hf).symm
    · replace hf := pos_e c4 hf
      refine lv_iconst (v := -1) hx hb dX12_blow_17 (by decide) ?_
      exact gret_i E hr hlk dX12_blow_18 (som_e hf).symm
noncomputable def fX12_grows (σ : St) (a1 : Int32) (a2 : Int32) (a3 : Int32) : Option (Int32 × St) :=
  bd (fX12_isBladeLike σ a1 a2 a3) fun r1 =>
  if r1 = 0 then
  some ((-1), σ)
  else
  ck (vp_in 0 47) <|
  if (gI σ 12 0 (0 : Int32).toNatClampNeg) = 6 then
  some ((-2), σ)
  else
  bd (fX12_addsBlade σ a1 a2 a3) fun r5 =>
  ck (vp_in 0 47) <|
  some ((gI r5 12 0 (0 : Int32).toNatClampNeg) - 1, r5)
def rX12_grows : Room := { frames := 2, cells := 0, slots := 0, locals := 44 }
set_option maxHeartbeats 4000000 in
set_option maxRecDepth 100000 in
theorem cX12_growsc {l : Launch} {dC : Nat → ClassId} {dI : Nat → Nat → Nat} {ks : Nat → ClassId} {ad : Nat → Nat → Nat} {σ : St} (a1 : Int32) (a2 : Int32) (a3 : Int32)  {out : Int32 × St} (hf : fX12_grows σ a1 a2 a3 = some out) : MWi l dC dI ks ad σ yX12_grows cX12_grows 4 (some .int) rX12_grows [.ref (ad 14 0), .int a1, .int a2, .int a3] out := by
  intro sz
  refine met_w (Qc := fun A => va_Qi (fun r σ' => r = out.1 ∧ σ' = out.2) (gBw dC dI ks ad A) A) (own := RX12) (by decide) rfl (Nat.le_of_ble_eq_true rfl) ?_
  intro A p e s m args below meth c ls E hr hlk hA hP hD hS hK hl
  have hx := E.1
  have hb := E.2.1
  have hl : lv_has ls 4 [(0, .ref (ad 14 0)), (1, .int a1), (2, .int a2), (3, .int a3)] := hl
  unfold fX12_grows at hf
  refine lv_iload_n hx hb dX12_grows_0 rfl (lv_at hl 1 rfl) ?_
  refine lv_iload_n hx hb dX12_grows_1 rfl (lv_at hl 2 rfl) ?_
  refine lv_iload_n hx hb dX12_grows_2 rfl (lv_at hl 3 rfl) ?_
  obtain ⟨r1, er1, hf⟩ := bd_e hf
  refine gSr_i E hK hP (cX12_isBladeLikec _ _ _ er1) kS_X12_isBladeLike wd_5_160 rfl rfl rfl ⟨Nat.le_of_ble_eq_true rfl, Nat.le_of_ble_eq_true rfl⟩ ⟨Nat.zero_le _, Nat.zero_le _⟩ hl.1 (Nat.le_of_ble_eq_true rfl) rfl dX12_grows_3 ?_
  refine lv_if_ne (tgt := 11) hx hb dX12_grows_6 (by decide) (fun c2 => ?_) (fun c2 => ?_)
  · replace hf := neg_e c2 hf
    refine lv_aload_n hx hb dX12_grows_11 rfl (lv_at hl 0 rfl) ?_
    refine gget E in_X12 hK hP (q_model ks ad σ) rfl (k := 0) (by decide) wd_5_60 rfl (v := .ref (ad 15 0)) rfl dX12_grows_12 ?_
    refine lv_iconst (v := 0) hx hb dX12_grows_15 (by decide) ?_
    obtain ⟨c3, hf⟩ := ck_e hf
    refine giald E hK hP (q_M0 ks ad σ) c3 dX12_grows_16 ?_
    refine lv_bipush (v := 6) hx hb dX12_grows_17 (by decide) ?_
    refine lv_icmp_ne (tgt := 25) hx hb dX12_grows_19 (by decide) (fun c4 => ?_) (fun c4 => ?_)
    · replace hf := neg_e c4 hf
      refine lv_aload_n hx hb dX12_grows_25 rfl (lv_at hl 0 rfl) ?_
      refine lv_iload_n hx hb dX12_grows_26 rfl (lv_at hl 1 rfl) ?_
      refine lv_iload_n hx hb dX12_grows_27 rfl (lv_at hl 2 rfl) ?_
      refine lv_iload_n hx hb dX12_grows_28 rfl (lv_at hl 3 rfl) ?_
      obtain ⟨r5, er5, hf⟩ := bd_e hf
      refine gVw_v E hK hP hD hS hA (cX12_addsBladec _ _ _ er5) kV_X12_addsBlade wd_5_163 rfl rfl (q_model ks ad σ) rfl rfl rfl ⟨Nat.le_of_ble_eq_true rfl, Nat.le_of_ble_eq_true rfl⟩ ⟨Nat.zero_le _, Nat.zero_le _⟩ hl.1 (Nat.le_of_ble_eq_true rfl) rfl dX12_grows_29 (fun H locs hP hD hS => ?_)
      refine lv_aload_n hx hb dX12_grows_32 rfl (lv_at hl 0 rfl) ?_
      refine gget E in_X12 hK hP (q_model ks ad r5) rfl (k := 0) (by decide) wd_5_60 rfl (v := .ref (ad 15 0)) rfl dX12_grows_33 ?_
      refine lv_iconst (v := 0) hx hb dX12_grows_36 (by decide) ?_
      obtain ⟨c6, hf⟩ := ck_e hf
      refine giald E hK hP (q_M0 ks ad r5) c6 dX12_grows_37 ?_
      refine lv_iconst (v := 1) hx hb dX12_grows_38 (by decide) ?_
      refine lv_isub hx hb dX12_grows_39 ?_
      exact gretw_i E hlk hP hD hS hr dX12_grows_40 (som_e hf)
    · replace hf := pos_e c4 hf
      refine lv_bipush (v := -2) hx hb dX12_grows_22 (by decide) ?_
      exact gretw_i E hlk hP hD hS hr dX12_grows_24 (som_e hf)
  · replace hf := pos_e c2 hf
    refine lv_iconst (v := -1) hx hb dX12_grows_9 (by decide) ?_
    exact gretw_i E hlk hP hD hS hr dX12_grows_10 (som_e hf)
noncomputable def fX12_wrongKept (σ : St) (a1 : Int32) : Option (Int32) :=
  bd (fX12_isShelf σ a1) fun r1 =>
  if r1 = 0 then
  some (-1)
  else
  ck (vp_in a1 8) <|
  if (gI σ 12 15 a1.toNatClampNeg) = 0 then
  some (-11)
  else
  ck (vp_in a1 8) <|
  if (gI σ 12 15 a1.toNatClampNeg) = 2 then
  some (-12)
  else
  some 0
def rX12_wrongKept : Room := { frames := 2, cells := 0, slots := 0, locals := 42 }
set_option maxHeartbeats 4000000 in
set_option maxRecDepth 100000 in
theorem cX12_wrongKeptc {l : Launch} {dC : Nat → ClassId} {dI : Nat → Nat → Nat} {ks : Nat → ClassId} {ad : Nat → Nat → Nat} {σ : St} (a1 : Int32)  {out : Int32} (hf : fX12_wrongKept σ a1 = some out) : MRi l dC dI ks ad σ yX12_wrongKept cX12_wrongKept 2 (some .int) rX12_wrongKept [.ref (ad 14 0), .int a1] out := by
  refine met_r (own := RX12) (by decide) rfl (Nat.le_of_ble_eq_true rfl) ?_
  intro p e s m args below meth c ls E hr hlk hP hK hl
  have hx := E.1
  have hb := E.2.1
  have hl : lv_has ls 2 [(0, .ref (ad 14 0)), (1, .int a1)] := hl
  unfold fX12_wrongKept at hf
  refine lv_iload_n hx hb dX12_wrongKept_0 rfl (lv_at hl 1 rfl) ?_
  obtain ⟨r1, er1, hf⟩ := bd_e hf
  refine gSr_i E hK hP (cX12_isShelfc _ er1) kS_X12_isShelf wd_5_135 rfl rfl rfl ⟨Nat.le_of_ble_eq_true rfl, Nat.le_of_ble_eq_true rfl⟩ ⟨Nat.zero_le _, Nat.zero_le _⟩ hl.1 (Nat.le_of_ble_eq_true rfl) rfl dX12_wrongKept_1 ?_
  refine lv_if_ne (tgt := 11) hx hb dX12_wrongKept_4 (by decide) (fun c2 => ?_) (fun c2 => ?_)
  · replace hf := neg_e c2 hf
    refine lv_aload_n hx hb dX12_wrongKept_11 rfl (lv_at hl 0 rfl) ?_
    refine gget E in_X12 hK hP (q_model ks ad σ) rfl (k := 15) (by decide) wd_5_75 rfl (v := .ref (ad 15 15)) rfl dX12_wrongKept_12 ?_
    refine lv_iload_n hx hb dX12_wrongKept_15 rfl (lv_at hl 1 rfl) ?_
    obtain ⟨c3, hf⟩ := ck_e hf
    refine giald E hK hP (q_M15 ks ad σ) c3 dX12_wrongKept_16 ?_
    refine lv_if_ne (tgt := 25) hx hb dX12_wrongKept_17 (by decide) (fun c4 => ?_) (fun c4 => ?_)
    · replace hf := neg_e c4 hf
      refine lv_aload_n hx hb dX12_wrongKept_25 rfl (lv_at hl 0 rfl) ?_
      refine gget E in_X12 hK hP (q_model ks ad σ) rfl (k := 15) (by decide) wd_5_75 rfl (v := .ref (ad 15 15)) rfl dX12_wrongKept_26 ?_
      refine lv_iload_n hx hb dX12_wrongKept_29 rfl (lv_at hl 1 rfl) ?_
      obtain ⟨c5, hf⟩ := ck_e hf
      refine giald E hK hP (q_M15 ks ad σ) c5 dX12_wrongKept_30 ?_
      refine lv_iconst (v := 2) hx hb dX12_wrongKept_31 (by decide) ?_
      refine lv_icmp_ne (tgt := 40) hx hb dX12_wrongKept_32 (by decide) (fun c6 => ?_) (fun c6 => ?_)
      · replace hf := neg_e c6 hf
        refine lv_iconst (v := 0) hx hb dX12_wrongKept_40 (by decide) ?_
        exact gret_i E hr hlk dX12_wrongKept_41 (som_e hf).symm
      · replace hf := pos_e c6 hf
        refine lv_bipush (v := -12) hx hb dX12_wrongKept_35 (by decide) ?_
        refine lv_goto (tgt := 41) hx hb dX12_wrongKept_37 (by decide) ?_
        exact gret_i E hr hlk dX12_wrongKept_41 (som_e hf).symm
    · replace hf := pos_e c4 hf
      refine lv_bipush (v := -11) hx hb dX12_wrongKept_20 (by decide) ?_
      refine lv_goto (tgt := 41) hx hb dX12_wrongKept_22 (by decide) ?_
      exact gret_i E hr hlk dX12_wrongKept_41 (som_e hf).symm
  · replace hf := pos_e c2 hf
    refine lv_iconst (v := -1) hx hb dX12_wrongKept_7 (by decide) ?_
    refine lv_goto (tgt := 41) hx hb dX12_wrongKept_8 (by decide) ?_
    exact gret_i E hr hlk dX12_wrongKept_41 (som_e hf).symm
noncomputable def fX12_learns (σ : St) (a1 : Int32) : Option (Int32 × St) :=
  bd (fX12_wrongKept σ a1) fun r1 =>
  if r1 = 0 then
  ck (vp_in 2 47) <|
  if (gI σ 12 0 (2 : Int32).toNatClampNeg) = 6 then
  some ((-2), σ)
  else
  ck (vp_in a1 8) <|
  ck (vp_in a1 8) <|
  bd (fX12_addsBlow σ (gI σ 12 16 a1.toNatClampNeg) (gI σ 12 17 a1.toNatClampNeg)) fun r7 =>
  ck (vp_in 2 47) <|
  some ((gI r7 12 0 (2 : Int32).toNatClampNeg) - 1, r7)
  else
  some (r1, σ)
def rX12_learns : Room := { frames := 3, cells := 0, slots := 0, locals := 63 }
set_option maxHeartbeats 4000000 in
set_option maxRecDepth 100000 in
theorem cX12_learnsc {l : Launch} {dC : Nat → ClassId} {dI : Nat → Nat → Nat} {ks : Nat → ClassId} {ad : Nat → Nat → Nat} {σ : St} (a1 : Int32)  {out : Int32 × St} (hf : fX12_learns σ a1 = some out) : MWi l dC dI ks ad σ yX12_learns cX12_learns 3 (some .int) rX12_learns [.ref (ad 14 0), .int a1] out := by
  intro sz
  refine met_w (Qc := fun A => va_Qi (fun r σ' => r = out.1 ∧ σ' = out.2) (gBw dC dI ks ad A) A) (own := RX12) (by decide) rfl (Nat.le_of_ble_eq_true rfl) ?_
  intro A p e s m args below meth c ls E hr hlk hA hP hD hS hK hl
  have hx := E.1
  have hb := E.2.1
  have hl : lv_has ls 3 [(0, .ref (ad 14 0)), (1, .int a1)] := hl
  unfold fX12_learns at hf
  refine lv_aload_n hx hb dX12_learns_0 rfl (lv_at hl 0 rfl) ?_
  refine lv_iload_n hx hb dX12_learns_1 rfl (lv_at hl 1 rfl) ?_
  obtain ⟨r1, er1, hf⟩ := bd_e hf
  refine gVr_i E hK hP (cX12_wrongKeptc _ er1) kV_X12_wrongKept wd_6_0 rfl rfl (q_model ks ad σ) rfl rfl rfl ⟨Nat.le_of_ble_eq_true rfl, Nat.le_of_ble_eq_true rfl⟩ ⟨Nat.zero_le _, Nat.zero_le _⟩ hl.1 (Nat.le_of_ble_eq_true rfl) rfl dX12_learns_2 ?_
  refine lv_istore_n (lv' := [(2, .int r1), (0, .ref (ad 14 0)), (1, .int a1)]) hx hb dX12_learns_5 rfl hl (by decide) rfl (fun ls hl => ?_)
  refine lv_iload_n hx hb dX12_learns_6 rfl (lv_at hl 0 rfl) ?_
  refine lv_if_eq (tgt := 12) hx hb dX12_learns_7 (by decide) (fun c2 => ?_) (fun c2 => ?_)
  · replace hf := pos_e c2 hf
    refine lv_aload_n hx hb dX12_learns_12 rfl (lv_at hl 1 rfl) ?_
    refine gget E in_X12 hK hP (q_model ks ad σ) rfl (k := 0) (by decide) wd_5_60 rfl (v := .ref (ad 15 0)) rfl dX12_learns_13 ?_
    refine lv_iconst (v := 2) hx hb dX12_learns_16 (by decide) ?_
    obtain ⟨c3, hf⟩ := ck_e hf
    refine giald E hK hP (q_M0 ks ad σ) c3 dX12_learns_17 ?_
    refine lv_bipush (v := 6) hx hb dX12_learns_18 (by decide) ?_
    refine lv_icmp_ne (tgt := 26) hx hb dX12_learns_20 (by decide) (fun c4 => ?_) (fun c4 => ?_)
    · replace hf := neg_e c4 hf
      refine lv_aload_n hx hb dX12_learns_26 rfl (lv_at hl 1 rfl) ?_
      refine lv_aload_n hx hb dX12_learns_27 rfl (lv_at hl 1 rfl) ?_
      refine gget E in_X12 hK hP (q_model ks ad σ) rfl (k := 16) (by decide) wd_5_76 rfl (v := .ref (ad 15 16)) rfl dX12_learns_28 ?_
      refine lv_iload_n hx hb dX12_learns_31 rfl (lv_at hl 2 rfl) ?_
      obtain ⟨c5, hf⟩ := ck_e hf
      refine giald E hK hP (q_M16 ks ad σ) c5 dX12_learns_32 ?_
      refine lv_aload_n hx hb dX12_learns_33 rfl (lv_at hl 1 rfl) ?_
      refine gget E in_X12 hK hP (q_model ks ad σ) rfl (k := 17) (by decide) wd_5_77 rfl (v := .ref (ad 15 17)) rfl dX12_learns_34 ?_
      refine lv_iload_n hx hb dX12_learns_37 rfl (lv_at hl 2 rfl) ?_
      obtain ⟨c6, hf⟩ := ck_e hf
      refine giald E hK hP (q_M17 ks ad σ) c6 dX12_learns_38 ?_
      obtain ⟨r7, er7, hf⟩ := bd_e hf
      refine gVw_v E hK hP hD hS hA (cX12_addsBlowc _ _ er7) kV_X12_addsBlow wd_5_177 rfl rfl (q_model ks ad σ) rfl rfl rfl ⟨Nat.le_of_ble_eq_true rfl, Nat.le_of_ble_eq_true rfl⟩ ⟨Nat.zero_le _, Nat.zero_le _⟩ hl.1 (Nat.le_of_ble_eq_true rfl) rfl dX12_learns_39 (fun H locs hP hD hS => ?_)
      refine lv_aload_n hx hb dX12_learns_42 rfl (lv_at hl 1 rfl) ?_
      refine gget E in_X12 hK hP (q_model ks ad r7) rfl (k := 0) (by decide) wd_5_60 rfl (v := .ref (ad 15 0)) rfl dX12_learns_43 ?_
      refine lv_iconst (v := 2) hx hb dX12_learns_46 (by decide) ?_
      obtain ⟨c8, hf⟩ := ck_e hf
      refine giald E hK hP (q_M0 ks ad r7) c8 dX12_learns_47 ?_
      refine lv_iconst (v := 1) hx hb dX12_learns_48 (by decide) ?_
      refine lv_isub hx hb dX12_learns_49 ?_
      exact gretw_i E hlk hP hD hS hr dX12_learns_50 (som_e hf)
    · replace hf := pos_e c4 hf
      refine lv_bipush (v := -2) hx hb dX12_learns_23 (by decide) ?_
      exact gretw_i E hlk hP hD hS hr dX12_learns_25 (som_e hf)
  · replace hf := neg_e c2 hf
    refine lv_iload_n hx hb dX12_learns_10 rfl (lv_at hl 0 rfl) ?_
    exact gretw_i E hlk hP hD hS hr dX12_learns_11 (som_e hf)
noncomputable def fX12_comes (σ : St) (a1 : Int32) (a2 : Int32) : Option (Int32 × St) :=
  bd (fX12_isIn σ a1 0 9) fun r1 =>
  if r1 = 0 then
  some ((-1), σ)
  else
  bd (fX12_isForce σ a2) fun r3 =>
  if r3 = 0 then
  some ((-1), σ)
  else
  ck (vp_in 1 47) <|
  if (gI σ 12 0 (1 : Int32).toNatClampNeg) = 4 then
  some ((-2), σ)
  else
  bd (fX12_addsThumbs σ a1 a2) fun r7 =>
  ck (vp_in 1 47) <|
  some ((gI r7 12 0 (1 : Int32).toNatClampNeg) - 1, r7)
def rX12_comes : Room := { frames := 2, cells := 0, slots := 0, locals := 43 }
set_option maxHeartbeats 4000000 in
set_option maxRecDepth 100000 in
theorem cX12_comesc {l : Launch} {dC : Nat → ClassId} {dI : Nat → Nat → Nat} {ks : Nat → ClassId} {ad : Nat → Nat → Nat} {σ : St} (a1 : Int32) (a2 : Int32)  {out : Int32 × St} (hf : fX12_comes σ a1 a2 = some out) : MWi l dC dI ks ad σ yX12_comes cX12_comes 3 (some .int) rX12_comes [.ref (ad 14 0), .int a1, .int a2] out := by
  intro sz
  refine met_w (Qc := fun A => va_Qi (fun r σ' => r = out.1 ∧ σ' = out.2) (gBw dC dI ks ad A) A) (own := RX12) (by decide) rfl (Nat.le_of_ble_eq_true rfl) ?_
  intro A p e s m args below meth c ls E hr hlk hA hP hD hS hK hl
  have hx := E.1
  have hb := E.2.1
  have hl : lv_has ls 3 [(0, .ref (ad 14 0)), (1, .int a1), (2, .int a2)] := hl
  unfold fX12_comes at hf
  refine lv_iload_n hx hb dX12_comes_0 rfl (lv_at hl 1 rfl) ?_
  refine lv_iconst (v := 0) hx hb dX12_comes_1 (by decide) ?_
  refine lv_bipush (v := 9) hx hb dX12_comes_2 (by decide) ?_
  obtain ⟨r1, er1, hf⟩ := bd_e hf
  refine gSr_i E hK hP (cX12_isInc _ _ _ er1) kS_X12_isIn wd_5_138 rfl rfl rfl ⟨Nat.le_of_ble_eq_true rfl, Nat.le_of_ble_eq_true rfl⟩ ⟨Nat.zero_le _, Nat.zero_le _⟩ hl.1 (Nat.le_of_ble_eq_true rfl) rfl dX12_comes_4 ?_
  refine lv_if_eq (tgt := 17) hx hb dX12_comes_7 (by decide) (fun c2 => ?_) (fun c2 => ?_)
  · replace hf := pos_e c2 hf
    refine lv_iconst (v := -1) hx hb dX12_comes_17 (by decide) ?_
    exact gretw_i E hlk hP hD hS hr dX12_comes_18 (som_e hf)
  · replace hf := neg_e c2 hf
    refine lv_iload_n hx hb dX12_comes_10 rfl (lv_at hl 2 rfl) ?_
    obtain ⟨r3, er3, hf⟩ := bd_e hf
    refine gSr_i E hK hP (cX12_isForcec _ er3) kS_X12_isForce wd_6_8 rfl rfl rfl ⟨Nat.le_of_ble_eq_true rfl, Nat.le_of_ble_eq_true rfl⟩ ⟨Nat.zero_le _, Nat.zero_le _⟩ hl.1 (Nat.le_of_ble_eq_true rfl) rfl dX12_comes_11 ?_
    refine lv_if_ne (tgt := 19) hx hb dX12_comes_14 (by decide) (fun c4 => ?_) (fun c4 => ?_)
    · replace hf := neg_e c4 hf
      refine lv_aload_n hx hb dX12_comes_19 rfl (lv_at hl 0 rfl) ?_
      refine gget E in_X12 hK hP (q_model ks ad σ) rfl (k := 0) (by decide) wd_5_60 rfl (v := .ref (ad 15 0)) rfl dX12_comes_20 ?_
      refine lv_iconst (v := 1) hx hb dX12_comes_23 (by decide) ?_
      obtain ⟨c5, hf⟩ := ck_e hf
      refine giald E hK hP (q_M0 ks ad σ) c5 dX12_comes_24 ?_
      refine lv_iconst (v := 4) hx hb dX12_comes_25 (by decide) ?_
      refine lv_icmp_ne (tgt := 32) hx hb dX12_comes_26 (by decide) (fun c6 => ?_) (fun c6 => ?_)
      · replace hf := neg_e c6 hf
        refine lv_aload_n hx hb dX12_comes_32 rfl (lv_at hl 0 rfl) ?_
        refine lv_iload_n hx hb dX12_comes_33 rfl (lv_at hl 1 rfl) ?_
        refine lv_iload_n hx hb dX12_comes_34 rfl (lv_at hl 2 rfl) ?_
        obtain ⟨r7, er7, hf⟩ := bd_e hf
        refine gVw_v E hK hP hD hS hA (cX12_addsThumbsc _ _ er7) kV_X12_addsThumbs wd_5_170 rfl rfl (q_model ks ad σ) rfl rfl rfl ⟨Nat.le_of_ble_eq_true rfl, Nat.le_of_ble_eq_true rfl⟩ ⟨Nat.zero_le _, Nat.zero_le _⟩ hl.1 (Nat.le_of_ble_eq_true rfl) rfl dX12_comes_35 (fun H locs hP hD hS => ?_)
        refine lv_aload_n hx hb dX12_comes_38 rfl (lv_at hl 0 rfl) ?_
        refine gget E in_X12 hK hP (q_model ks ad r7) rfl (k := 0) (by decide) wd_5_60 rfl (v := .ref (ad 15 0)) rfl dX12_comes_39 ?_
        refine lv_iconst (v := 1) hx hb dX12_comes_42 (by decide) ?_
        obtain ⟨c8, hf⟩ := ck_e hf
        refine giald E hK hP (q_M0 ks ad r7) c8 dX12_comes_43 ?_
        refine lv_iconst (v := 1) hx hb dX12_comes_44 (by decide) ?_
        refine lv_isub hx hb dX12_comes_45 ?_
        exact gretw_i E hlk hP hD hS hr dX12_comes_46 (som_e hf)
      · replace hf := pos_e c6 hf
        refine lv_bipush (v := -2) hx hb dX12_comes_29 (by decide) ?_
        exact gretw_i E hlk hP hD hS hr dX12_comes_31 (som_e hf)
    · replace hf := pos_e c4 hf
      refine lv_iconst (v := -1) hx hb dX12_comes_17 (by decide) ?_
      exact gretw_i E hlk hP hD hS hr dX12_comes_18 (som_e hf)
noncomputable def fX12_wets (σ : St) (a1 : Int32) (a2 : Int32) : Option (Int32 × St) :=
  bd (fX12_isBlade σ a1) fun r1 =>
  if r1 = 0 then
  some ((-1), σ)
  else
  bd (fX12_isIn σ a2 0 9) fun r3 =>
  if r3 = 0 then
  some ((-1), σ)
  else
  bd (fX12_bladeOf σ a1 2) fun r5 =>
  bd (fX12_atBlade σ a1 2) fun r6 =>
  ck (vp_in r6 47) <|
  nmv (sI σ 12 0 r6.toNatClampNeg a2) fun σ8 =>
  some (r5, σ8)
def rX12_wets : Room := { frames := 2, cells := 0, slots := 0, locals := 43 }
set_option maxHeartbeats 4000000 in
set_option maxRecDepth 100000 in
theorem cX12_wetsc {l : Launch} {dC : Nat → ClassId} {dI : Nat → Nat → Nat} {ks : Nat → ClassId} {ad : Nat → Nat → Nat} {σ : St} (a1 : Int32) (a2 : Int32)  {out : Int32 × St} (hf : fX12_wets σ a1 a2 = some out) : MWi l dC dI ks ad σ yX12_wets cX12_wets 4 (some .int) rX12_wets [.ref (ad 14 0), .int a1, .int a2] out := by
  intro sz
  refine met_w (Qc := fun A => va_Qi (fun r σ' => r = out.1 ∧ σ' = out.2) (gBw dC dI ks ad A) A) (own := RX12) (by decide) rfl (Nat.le_of_ble_eq_true rfl) ?_
  intro A p e s m args below meth c ls E hr hlk hA hP hD hS hK hl
  have hx := E.1
  have hb := E.2.1
  have hl : lv_has ls 4 [(0, .ref (ad 14 0)), (1, .int a1), (2, .int a2)] := hl
  unfold fX12_wets at hf
  refine lv_aload_n hx hb dX12_wets_0 rfl (lv_at hl 0 rfl) ?_
  refine lv_iload_n hx hb dX12_wets_1 rfl (lv_at hl 1 rfl) ?_
  obtain ⟨r1, er1, hf⟩ := bd_e hf
  refine gVr_i E hK hP (cX12_isBladec _ er1) kV_X12_isBlade wd_5_188 rfl rfl (q_model ks ad σ) rfl rfl rfl ⟨Nat.le_of_ble_eq_true rfl, Nat.le_of_ble_eq_true rfl⟩ ⟨Nat.zero_le _, Nat.zero_le _⟩ hl.1 (Nat.le_of_ble_eq_true rfl) rfl dX12_wets_2 ?_
  refine lv_if_eq (tgt := 18) hx hb dX12_wets_5 (by decide) (fun c2 => ?_) (fun c2 => ?_)
  · replace hf := pos_e c2 hf
    refine lv_iconst (v := -1) hx hb dX12_wets_18 (by decide) ?_
    exact gretw_i E hlk hP hD hS hr dX12_wets_19 (som_e hf)
  · replace hf := neg_e c2 hf
    refine lv_iload_n hx hb dX12_wets_8 rfl (lv_at hl 2 rfl) ?_
    refine lv_iconst (v := 0) hx hb dX12_wets_9 (by decide) ?_
    refine lv_bipush (v := 9) hx hb dX12_wets_10 (by decide) ?_
    obtain ⟨r3, er3, hf⟩ := bd_e hf
    refine gSr_i E hK hP (cX12_isInc _ _ _ er3) kS_X12_isIn wd_5_138 rfl rfl rfl ⟨Nat.le_of_ble_eq_true rfl, Nat.le_of_ble_eq_true rfl⟩ ⟨Nat.zero_le _, Nat.zero_le _⟩ hl.1 (Nat.le_of_ble_eq_true rfl) rfl dX12_wets_12 ?_
    refine lv_if_ne (tgt := 20) hx hb dX12_wets_15 (by decide) (fun c4 => ?_) (fun c4 => ?_)
    · replace hf := neg_e c4 hf
      refine lv_aload_n hx hb dX12_wets_20 rfl (lv_at hl 0 rfl) ?_
      refine lv_iload_n hx hb dX12_wets_21 rfl (lv_at hl 1 rfl) ?_
      refine lv_iconst (v := 2) hx hb dX12_wets_22 (by decide) ?_
      obtain ⟨r5, er5, hf⟩ := bd_e hf
      refine gVr_i E hK hP (cX12_bladeOfc _ _ er5) kV_X12_bladeOf wd_5_204 rfl rfl (q_model ks ad σ) rfl rfl rfl ⟨Nat.le_of_ble_eq_true rfl, Nat.le_of_ble_eq_true rfl⟩ ⟨Nat.zero_le _, Nat.zero_le _⟩ hl.1 (Nat.le_of_ble_eq_true rfl) rfl dX12_wets_23 ?_
      refine lv_istore_n (lv' := [(3, .int r5), (0, .ref (ad 14 0)), (1, .int a1), (2, .int a2)]) hx hb dX12_wets_26 rfl hl (by decide) rfl (fun ls hl => ?_)
      refine lv_aload_n hx hb dX12_wets_27 rfl (lv_at hl 1 rfl) ?_
      refine gget E in_X12 hK hP (q_model ks ad σ) rfl (k := 0) (by decide) wd_5_60 rfl (v := .ref (ad 15 0)) rfl dX12_wets_28 ?_
      refine lv_iload_n hx hb dX12_wets_31 rfl (lv_at hl 2 rfl) ?_
      refine lv_iconst (v := 2) hx hb dX12_wets_32 (by decide) ?_
      obtain ⟨r6, er6, hf⟩ := bd_e hf
      refine gSr_i E hK hP (cX12_atBladec _ _ er6) kS_X12_atBlade wd_5_167 rfl rfl rfl ⟨Nat.le_of_ble_eq_true rfl, Nat.le_of_ble_eq_true rfl⟩ ⟨Nat.zero_le _, Nat.zero_le _⟩ hl.1 (Nat.le_of_ble_eq_true rfl) rfl dX12_wets_33 ?_
      refine lv_iload_n hx hb dX12_wets_36 rfl (lv_at hl 3 rfl) ?_
      obtain ⟨c7, hf⟩ := ck_e hf
      obtain ⟨σ8, eσ8, hf⟩ := nmv_e hf
      refine giast E hK hP hD hS (q_M0 ks ad σ) c7 (σ' := σ8) (by rw [eσ8]; exact st_M0 ks ad σ _) dX12_wets_37 (fun H locs hP hD hS => ?_)
      refine lv_iload_n hx hb dX12_wets_38 rfl (lv_at hl 0 rfl) ?_
      exact gretw_i E hlk hP hD hS hr dX12_wets_39 (som_e hf)
    · replace hf := pos_e c4 hf
      refine lv_iconst (v := -1) hx hb dX12_wets_18 (by decide) ?_
      exact gretw_i E hlk hP hD hS hr dX12_wets_19 (som_e hf)
noncomputable def fX12_span (σ : St) (a1 : Int32) (a2 : Int32) (a3 : Int32) (a4 : Int32) : Option (Int32) :=
  bd (fX12_areAll σ a1 a2 a3) fun r1 =>
  if r1 = 0 then
  some (-1)
  else
  bd (fX12_isIn σ a4 0 3) fun r3 =>
  if r3 = 0 then
  some (-1)
  else
  if a4 = 0 then
  bd (fX12_low σ a1 a2 a3) fun r11 =>
  some r11
  else
  if a4 = 1 then
  bd (fX12_high σ a1 a2 a3) fun r10 =>
  some r10
  else
  if a4 = 2 then
  bd (fX12_softest σ a2 a3) fun r9 =>
  some r9
  else
  bd (fX12_hardest σ a2 a3) fun r8 =>
  some r8
def rX12_span : Room := { frames := 4, cells := 0, slots := 0, locals := 91 }
set_option maxHeartbeats 4000000 in
set_option maxRecDepth 100000 in
theorem cX12_spanc {l : Launch} {dC : Nat → ClassId} {dI : Nat → Nat → Nat} {ks : Nat → ClassId} {ad : Nat → Nat → Nat} {σ : St} (a1 : Int32) (a2 : Int32) (a3 : Int32) (a4 : Int32)  {out : Int32} (hf : fX12_span σ a1 a2 a3 a4 = some out) : MRi l dC dI ks ad σ yX12_span cX12_span 5 (some .int) rX12_span [.ref (ad 14 0), .int a1, .int a2, .int a3, .int a4] out := by
  refine met_r (own := RX12) (by decide) rfl (Nat.le_of_ble_eq_true rfl) ?_
  intro p e s m args below meth c ls E hr hlk hP hK hl
  have hx := E.1
  have hb := E.2.1
  have hl : lv_has ls 5 [(0, .ref (ad 14 0)), (1, .int a1), (2, .int a2), (3, .int a3), (4, .int a4)] := hl
  unfold fX12_span at hf
  refine lv_aload_n hx hb dX12_span_0 rfl (lv_at hl 0 rfl) ?_
  refine lv_iload_n hx hb dX12_span_1 rfl (lv_at hl 1 rfl) ?_
  refine lv_iload_n hx hb dX12_span_2 rfl (lv_at hl 2 rfl) ?_
  refine lv_iload_n hx hb dX12_span_3 rfl (lv_at hl 3 rfl) ?_
  obtain ⟨r1, er1, hf⟩ := bd_e hf
  refine gVr_i E hK hP (cX12_areAllc _ _ _ er1) kV_X12_areAll wd_5_184 rfl rfl (q_model ks ad σ) rfl rfl rfl ⟨Nat.le_of_ble_eq_true rfl, Nat.le_of_ble_eq_true rfl⟩ ⟨Nat.zero_le _, Nat.zero_le _⟩ hl.1 (Nat.le_of_ble_eq_true rfl) rfl dX12_span_4 ?_
  refine lv_if_eq (tgt := 20) hx hb dX12_span_7 (by decide) (fun c2 => ?_) (fun c2 => ?_)
  · replace hf := pos_e c2 hf
    refine lv_iconst (v := -1) hx hb dX12_span_20 (by decide) ?_
    exact gret_i E hr hlk dX12_span_21 (som_e hf).symm
  · replace hf := neg_e c2 hf
    refine lv_iload hx hb dX12_span_10 (lv_at hl 4 rfl) ?_
    refine lv_iconst (v := 0) hx hb dX12_span_12 (by decide) ?_
    refine lv_iconst (v := 3) hx hb dX12_span_13 (by decide) ?_
    obtain ⟨r3, er3, hf⟩ := bd_e hf
    refine gSr_i E hK hP (cX12_isInc _ _ _ er3) kS_X12_isIn wd_5_138 rfl rfl rfl ⟨Nat.le_of_ble_eq_true rfl, Nat.le_of_ble_eq_true rfl⟩ ⟨Nat.zero_le _, Nat.zero_le _⟩ hl.1 (Nat.le_of_ble_eq_true rfl) rfl dX12_span_14 ?_
    refine lv_if_ne (tgt := 22) hx hb dX12_span_17 (by decide) (fun c4 => ?_) (fun c4 => ?_)
    · replace hf := neg_e c4 hf
      refine lv_iload hx hb dX12_span_22 (lv_at hl 4 rfl) ?_
      refine lv_if_ne (tgt := 37) hx hb dX12_span_24 (by decide) (fun c5 => ?_) (fun c5 => ?_)
      · replace hf := neg_e c5 hf
        refine lv_iload hx hb dX12_span_37 (lv_at hl 4 rfl) ?_
        refine lv_iconst (v := 1) hx hb dX12_span_39 (by decide) ?_
        refine lv_icmp_ne (tgt := 53) hx hb dX12_span_40 (by decide) (fun c6 => ?_) (fun c6 => ?_)
        · replace hf := neg_e c6 hf
          refine lv_iload hx hb dX12_span_53 (lv_at hl 4 rfl) ?_
          refine lv_iconst (v := 2) hx hb dX12_span_55 (by decide) ?_
          refine lv_icmp_ne (tgt := 68) hx hb dX12_span_56 (by decide) (fun c7 => ?_) (fun c7 => ?_)
          · replace hf := neg_e c7 hf
            refine lv_aload_n hx hb dX12_span_68 rfl (lv_at hl 0 rfl) ?_
            refine lv_iload_n hx hb dX12_span_69 rfl (lv_at hl 2 rfl) ?_
            refine lv_iload_n hx hb dX12_span_70 rfl (lv_at hl 3 rfl) ?_
            obtain ⟨r8, er8, hf⟩ := bd_e hf
            refine gVr_i E hK hP (cX12_hardestc _ _ er8) kV_X12_hardest wd_6_42 rfl rfl (q_model ks ad σ) rfl rfl rfl ⟨Nat.le_of_ble_eq_true rfl, Nat.le_of_ble_eq_true rfl⟩ ⟨Nat.zero_le _, Nat.zero_le _⟩ hl.1 (Nat.le_of_ble_eq_true rfl) rfl dX12_span_71 ?_
            exact gret_i E hr hlk dX12_span_74 (som_e hf).symm
          · replace hf := pos_e c7 hf
            refine lv_aload_n hx hb dX12_span_59 rfl (lv_at hl 0 rfl) ?_
            refine lv_iload_n hx hb dX12_span_60 rfl (lv_at hl 2 rfl) ?_
            refine lv_iload_n hx hb dX12_span_61 rfl (lv_at hl 3 rfl) ?_
            obtain ⟨r9, er9, hf⟩ := bd_e hf
            refine gVr_i E hK hP (cX12_softestc _ _ er9) kV_X12_softest wd_6_38 rfl rfl (q_model ks ad σ) rfl rfl rfl ⟨Nat.le_of_ble_eq_true rfl, Nat.le_of_ble_eq_true rfl⟩ ⟨Nat.zero_le _, Nat.zero_le _⟩ hl.1 (Nat.le_of_ble_eq_true rfl) rfl dX12_span_62 ?_
            refine lv_goto (tgt := 74) hx hb dX12_span_65 (by decide) ?_
            exact gret_i E hr hlk dX12_span_74 (som_e hf).symm
        · replace hf := pos_e c6 hf
          refine lv_aload_n hx hb dX12_span_43 rfl (lv_at hl 0 rfl) ?_
          refine lv_iload_n hx hb dX12_span_44 rfl (lv_at hl 1 rfl) ?_
          refine lv_iload_n hx hb dX12_span_45 rfl (lv_at hl 2 rfl) ?_
          refine lv_iload_n hx hb dX12_span_46 rfl (lv_at hl 3 rfl) ?_
          obtain ⟨r10, er10, hf⟩ := bd_e hf
          refine gVr_i E hK hP (cX12_highc _ _ _ er10) kV_X12_high wd_6_34 rfl rfl (q_model ks ad σ) rfl rfl rfl ⟨Nat.le_of_ble_eq_true rfl, Nat.le_of_ble_eq_true rfl⟩ ⟨Nat.zero_le _, Nat.zero_le _⟩ hl.1 (Nat.le_of_ble_eq_true rfl) rfl dX12_span_47 ?_
          refine lv_goto (tgt := 74) hx hb dX12_span_50 (by decide) ?_
          exact gret_i E hr hlk dX12_span_74 (som_e hf).symm
      · replace hf := pos_e c5 hf
        refine lv_aload_n hx hb dX12_span_27 rfl (lv_at hl 0 rfl) ?_
        refine lv_iload_n hx hb dX12_span_28 rfl (lv_at hl 1 rfl) ?_
        refine lv_iload_n hx hb dX12_span_29 rfl (lv_at hl 2 rfl) ?_
        refine lv_iload_n hx hb dX12_span_30 rfl (lv_at hl 3 rfl) ?_
        obtain ⟨r11, er11, hf⟩ := bd_e hf
        refine gVr_i E hK hP (cX12_lowc _ _ _ er11) kV_X12_low wd_6_19 rfl rfl (q_model ks ad σ) rfl rfl rfl ⟨Nat.le_of_ble_eq_true rfl, Nat.le_of_ble_eq_true rfl⟩ ⟨Nat.zero_le _, Nat.zero_le _⟩ hl.1 (Nat.le_of_ble_eq_true rfl) rfl dX12_span_31 ?_
        refine lv_goto (tgt := 74) hx hb dX12_span_34 (by decide) ?_
        exact gret_i E hr hlk dX12_span_74 (som_e hf).symm
    · replace hf := pos_e c4 hf
      refine lv_iconst (v := -1) hx hb dX12_span_20 (by decide) ?_
      exact gret_i E hr hlk dX12_span_21 (som_e hf).symm
noncomputable def fX12_isTold (σ : St) (a1 : Int32) (a2 : Int32) (a3 : Int32) (a4 : Int32) (a5 : Int32) : Option (Int32) :=
  bd (fX12_areAll σ a1 a2 a3) fun r1 =>
  if r1 = 0 then
  some 0
  else
  bd (fX12_isForce σ a4) fun r3 =>
  if r3 = 0 then
  some 0
  else
  bd (fX12_isForce σ a5) fun r5 =>
  if r5 = 0 then
  some 0
  else
  some 1
def rX12_isTold : Room := { frames := 3, cells := 0, slots := 0, locals := 66 }
set_option maxHeartbeats 4000000 in
set_option maxRecDepth 100000 in
theorem cX12_isToldc {l : Launch} {dC : Nat → ClassId} {dI : Nat → Nat → Nat} {ks : Nat → ClassId} {ad : Nat → Nat → Nat} {σ : St} (a1 : Int32) (a2 : Int32) (a3 : Int32) (a4 : Int32) (a5 : Int32)  {out : Int32} (hf : fX12_isTold σ a1 a2 a3 a4 a5 = some out) : MRi l dC dI ks ad σ yX12_isTold cX12_isTold 6 (some .boolean) rX12_isTold [.ref (ad 14 0), .int a1, .int a2, .int a3, .int a4, .int a5] out := by
  refine met_r (own := RX12) (by decide) rfl (Nat.le_of_ble_eq_true rfl) ?_
  intro p e s m args below meth c ls E hr hlk hP hK hl
  have hx := E.1
  have hb := E.2.1
  have hl : lv_has ls 6 [(0, .ref (ad 14 0)), (1, .int a1), (2, .int a2), (3, .int a3), (4, .int a4), (5, .int a5)] := hl
  unfold fX12_isTold at hf
  refine lv_aload_n hx hb dX12_isTold_0 rfl (lv_at hl 0 rfl) ?_
  refine lv_iload_n hx hb dX12_isTold_1 rfl (lv_at hl 1 rfl) ?_
  refine lv_iload_n hx hb dX12_isTold_2 rfl (lv_at hl 2 rfl) ?_
  refine lv_iload_n hx hb dX12_isTold_3 rfl (lv_at hl 3 rfl) ?_
  obtain ⟨r1, er1, hf⟩ := bd_e hf
  refine gVr_i E hK hP (cX12_areAllc _ _ _ er1) kV_X12_areAll wd_5_184 rfl rfl (q_model ks ad σ) rfl rfl rfl ⟨Nat.le_of_ble_eq_true rfl, Nat.le_of_ble_eq_true rfl⟩ ⟨Nat.zero_le _, Nat.zero_le _⟩ hl.1 (Nat.le_of_ble_eq_true rfl) rfl dX12_isTold_4 ?_
  refine lv_if_eq (tgt := 30) hx hb dX12_isTold_7 (by decide) (fun c2 => ?_) (fun c2 => ?_)
  · replace hf := pos_e c2 hf
    refine lv_iconst (v := 0) hx hb dX12_isTold_30 (by decide) ?_
    exact gret_z rfl E hr hlk dX12_isTold_31 (som_e hf).symm
  · replace hf := neg_e c2 hf
    refine lv_iload hx hb dX12_isTold_10 (lv_at hl 4 rfl) ?_
    obtain ⟨r3, er3, hf⟩ := bd_e hf
    refine gSr_i E hK hP (cX12_isForcec _ er3) kS_X12_isForce wd_6_8 rfl rfl rfl ⟨Nat.le_of_ble_eq_true rfl, Nat.le_of_ble_eq_true rfl⟩ ⟨Nat.zero_le _, Nat.zero_le _⟩ hl.1 (Nat.le_of_ble_eq_true rfl) rfl dX12_isTold_12 ?_
    refine lv_if_eq (tgt := 30) hx hb dX12_isTold_15 (by decide) (fun c4 => ?_) (fun c4 => ?_)
    · replace hf := pos_e c4 hf
      refine lv_iconst (v := 0) hx hb dX12_isTold_30 (by decide) ?_
      exact gret_z rfl E hr hlk dX12_isTold_31 (som_e hf).symm
    · replace hf := neg_e c4 hf
      refine lv_iload hx hb dX12_isTold_18 (lv_at hl 5 rfl) ?_
      obtain ⟨r5, er5, hf⟩ := bd_e hf
      refine gSr_i E hK hP (cX12_isForcec _ er5) kS_X12_isForce wd_6_8 rfl rfl rfl ⟨Nat.le_of_ble_eq_true rfl, Nat.le_of_ble_eq_true rfl⟩ ⟨Nat.zero_le _, Nat.zero_le _⟩ hl.1 (Nat.le_of_ble_eq_true rfl) rfl dX12_isTold_20 ?_
      refine lv_if_eq (tgt := 30) hx hb dX12_isTold_23 (by decide) (fun c6 => ?_) (fun c6 => ?_)
      · replace hf := pos_e c6 hf
        refine lv_iconst (v := 0) hx hb dX12_isTold_30 (by decide) ?_
        exact gret_z rfl E hr hlk dX12_isTold_31 (som_e hf).symm
      · replace hf := neg_e c6 hf
        refine lv_iconst (v := 1) hx hb dX12_isTold_26 (by decide) ?_
        refine lv_goto (tgt := 31) hx hb dX12_isTold_27 (by decide) ?_
        exact gret_z rfl E hr hlk dX12_isTold_31 (som_e hf).symm
noncomputable def fX12_sounds (σ : St) (a1 : Int32) (a2 : Int32) (a3 : Int32) (a4 : Int32) (a5 : Int32) : Option (Int32) :=
  bd (fX12_isTold σ a1 a2 a3 a4 a5) fun r1 =>
  if r1 = 0 then
  some (-1)
  else
  bd (fX12_isSound σ a1 a2 a3 a4 a5) fun r3 =>
  if r3 = 0 then
  some 0
  else
  some 1
def rX12_sounds : Room := { frames := 6, cells := 0, slots := 0, locals := 140 }
set_option maxHeartbeats 4000000 in
set_option maxRecDepth 100000 in
theorem cX12_soundsc {l : Launch} {dC : Nat → ClassId} {dI : Nat → Nat → Nat} {ks : Nat → ClassId} {ad : Nat → Nat → Nat} {σ : St} (a1 : Int32) (a2 : Int32) (a3 : Int32) (a4 : Int32) (a5 : Int32)  {out : Int32} (hf : fX12_sounds σ a1 a2 a3 a4 a5 = some out) : MRi l dC dI ks ad σ yX12_sounds cX12_sounds 6 (some .int) rX12_sounds [.ref (ad 14 0), .int a1, .int a2, .int a3, .int a4, .int a5] out := by
  refine met_r (own := RX12) (by decide) rfl (Nat.le_of_ble_eq_true rfl) ?_
  intro p e s m args below meth c ls E hr hlk hP hK hl
  have hx := E.1
  have hb := E.2.1
  have hl : lv_has ls 6 [(0, .ref (ad 14 0)), (1, .int a1), (2, .int a2), (3, .int a3), (4, .int a4), (5, .int a5)] := hl
  unfold fX12_sounds at hf
  refine lv_aload_n hx hb dX12_sounds_0 rfl (lv_at hl 0 rfl) ?_
  refine lv_iload_n hx hb dX12_sounds_1 rfl (lv_at hl 1 rfl) ?_
  refine lv_iload_n hx hb dX12_sounds_2 rfl (lv_at hl 2 rfl) ?_
  refine lv_iload_n hx hb dX12_sounds_3 rfl (lv_at hl 3 rfl) ?_
  refine lv_iload hx hb dX12_sounds_4 (lv_at hl 4 rfl) ?_
  refine lv_iload hx hb dX12_sounds_6 (lv_at hl 5 rfl) ?_
  obtain ⟨r1, er1, hf⟩ := bd_e hf
  refine gVr_i E hK hP (cX12_isToldc _ _ _ _ _ er1) kV_X12_isTold wd_6_50 rfl rfl (q_model ks ad σ) rfl rfl rfl ⟨Nat.le_of_ble_eq_true rfl, Nat.le_of_ble_eq_true rfl⟩ ⟨Nat.zero_le _, Nat.zero_le _⟩ hl.1 (Nat.le_of_ble_eq_true rfl) rfl dX12_sounds_8 ?_
  refine lv_if_ne (tgt := 18) hx hb dX12_sounds_11 (by decide) (fun c2 => ?_) (fun c2 => ?_)
  · replace hf := neg_e c2 hf
    refine lv_aload_n hx hb dX12_sounds_18 rfl (lv_at hl 0 rfl) ?_
    refine lv_iload_n hx hb dX12_sounds_19 rfl (lv_at hl 1 rfl) ?_
    refine lv_iload_n hx hb dX12_sounds_20 rfl (lv_at hl 2 rfl) ?_
    refine lv_iload_n hx hb dX12_sounds_21 rfl (lv_at hl 3 rfl) ?_
    refine lv_iload hx hb dX12_sounds_22 (lv_at hl 4 rfl) ?_
    refine lv_iload hx hb dX12_sounds_24 (lv_at hl 5 rfl) ?_
    obtain ⟨r3, er3, hf⟩ := bd_e hf
    refine gVr_i E hK hP (cX12_isSoundc _ _ _ _ _ er3) kV_X12_isSound wd_6_54 rfl rfl (q_model ks ad σ) rfl rfl rfl ⟨Nat.le_of_ble_eq_true rfl, Nat.le_of_ble_eq_true rfl⟩ ⟨Nat.zero_le _, Nat.zero_le _⟩ hl.1 (Nat.le_of_ble_eq_true rfl) rfl dX12_sounds_26 ?_
    refine lv_if_eq (tgt := 36) hx hb dX12_sounds_29 (by decide) (fun c4 => ?_) (fun c4 => ?_)
    · replace hf := pos_e c4 hf
      refine lv_iconst (v := 0) hx hb dX12_sounds_36 (by decide) ?_
      exact gret_i E hr hlk dX12_sounds_37 (som_e hf).symm
    · replace hf := neg_e c4 hf
      refine lv_iconst (v := 1) hx hb dX12_sounds_32 (by decide) ?_
      refine lv_goto (tgt := 37) hx hb dX12_sounds_33 (by decide) ?_
      exact gret_i E hr hlk dX12_sounds_37 (som_e hf).symm
  · replace hf := pos_e c2 hf
    refine lv_iconst (v := -1) hx hb dX12_sounds_14 (by decide) ?_
    refine lv_goto (tgt := 37) hx hb dX12_sounds_15 (by decide) ?_
    exact gret_i E hr hlk dX12_sounds_37 (som_e hf).symm
noncomputable def fX12_pitch (σ : St) (a1 : Int32) (a2 : Int32) (a3 : Int32) (a4 : Int32) : Option (Int32) :=
  bd (fX12_isBlade σ a1) fun r1 =>
  if r1 = 0 then
  some 1000000001
  else
  bd (fX12_isBlow σ a2) fun r3 =>
  if r3 = 0 then
  some 1000000001
  else
  bd (fX12_isForce σ a3) fun r5 =>
  if r5 = 0 then
  some 1000000001
  else
  bd (fX12_isIn σ a4 0 9) fun r7 =>
  if r7 = 0 then
  some 1000000001
  else
  bd (fX12_pitchOf σ a1 a2 a3 a4) fun r9 =>
  some r9
def rX12_pitch : Room := { frames := 3, cells := 0, slots := 0, locals := 68 }
set_option maxHeartbeats 4000000 in
set_option maxRecDepth 100000 in
theorem cX12_pitchc {l : Launch} {dC : Nat → ClassId} {dI : Nat → Nat → Nat} {ks : Nat → ClassId} {ad : Nat → Nat → Nat} {σ : St} (a1 : Int32) (a2 : Int32) (a3 : Int32) (a4 : Int32)  {out : Int32} (hf : fX12_pitch σ a1 a2 a3 a4 = some out) : MRi l dC dI ks ad σ yX12_pitch cX12_pitch 5 (some .int) rX12_pitch [.ref (ad 14 0), .int a1, .int a2, .int a3, .int a4] out := by
  refine met_r (own := RX12) (by decide) rfl (Nat.le_of_ble_eq_true rfl) ?_
  intro p e s m args below meth c ls E hr hlk hP hK hl
  have hx := E.1
  have hb := E.2.1
  have hl : lv_has ls 5 [(0, .ref (ad 14 0)), (1, .int a1), (2, .int a2), (3, .int a3), (4, .int a4)] := hl
  unfold fX12_pitch at hf
  refine lv_aload_n hx hb dX12_pitch_0 rfl (lv_at hl 0 rfl) ?_
  refine lv_iload_n hx hb dX12_pitch_1 rfl (lv_at hl 1 rfl) ?_
  obtain ⟨r1, er1, hf⟩ := bd_e hf
  refine gVr_i E hK hP (cX12_isBladec _ er1) kV_X12_isBlade wd_5_188 rfl rfl (q_model ks ad σ) rfl rfl rfl ⟨Nat.le_of_ble_eq_true rfl, Nat.le_of_ble_eq_true rfl⟩ ⟨Nat.zero_le _, Nat.zero_le _⟩ hl.1 (Nat.le_of_ble_eq_true rfl) rfl dX12_pitch_2 ?_
  refine lv_if_eq (tgt := 46) hx hb dX12_pitch_5 (by decide) (fun c2 => ?_) (fun c2 => ?_)
  · replace hf := pos_e c2 hf
    refine lv_ldc (v := 1000000001) hx hb E.2.2.2.1 (E.2.2.2.2 _ wd_6_78) dX12_pitch_46 ?_
    exact gret_i E hr hlk dX12_pitch_48 (som_e hf).symm
  · replace hf := neg_e c2 hf
    refine lv_aload_n hx hb dX12_pitch_8 rfl (lv_at hl 0 rfl) ?_
    refine lv_iload_n hx hb dX12_pitch_9 rfl (lv_at hl 2 rfl) ?_
    obtain ⟨r3, er3, hf⟩ := bd_e hf
    refine gVr_i E hK hP (cX12_isBlowc _ er3) kV_X12_isBlow wd_5_196 rfl rfl (q_model ks ad σ) rfl rfl rfl ⟨Nat.le_of_ble_eq_true rfl, Nat.le_of_ble_eq_true rfl⟩ ⟨Nat.zero_le _, Nat.zero_le _⟩ hl.1 (Nat.le_of_ble_eq_true rfl) rfl dX12_pitch_10 ?_
    refine lv_if_eq (tgt := 46) hx hb dX12_pitch_13 (by decide) (fun c4 => ?_) (fun c4 => ?_)
    · replace hf := pos_e c4 hf
      refine lv_ldc (v := 1000000001) hx hb E.2.2.2.1 (E.2.2.2.2 _ wd_6_78) dX12_pitch_46 ?_
      exact gret_i E hr hlk dX12_pitch_48 (som_e hf).symm
    · replace hf := neg_e c4 hf
      refine lv_iload_n hx hb dX12_pitch_16 rfl (lv_at hl 3 rfl) ?_
      obtain ⟨r5, er5, hf⟩ := bd_e hf
      refine gSr_i E hK hP (cX12_isForcec _ er5) kS_X12_isForce wd_6_8 rfl rfl rfl ⟨Nat.le_of_ble_eq_true rfl, Nat.le_of_ble_eq_true rfl⟩ ⟨Nat.zero_le _, Nat.zero_le _⟩ hl.1 (Nat.le_of_ble_eq_true rfl) rfl dX12_pitch_17 ?_
      refine lv_if_eq (tgt := 46) hx hb dX12_pitch_20 (by decide) (fun c6 => ?_) (fun c6 => ?_)
      · replace hf := pos_e c6 hf
        refine lv_ldc (v := 1000000001) hx hb E.2.2.2.1 (E.2.2.2.2 _ wd_6_78) dX12_pitch_46 ?_
        exact gret_i E hr hlk dX12_pitch_48 (som_e hf).symm
      · replace hf := neg_e c6 hf
        refine lv_iload hx hb dX12_pitch_23 (lv_at hl 4 rfl) ?_
        refine lv_iconst (v := 0) hx hb dX12_pitch_25 (by decide) ?_
        refine lv_bipush (v := 9) hx hb dX12_pitch_26 (by decide) ?_
        obtain ⟨r7, er7, hf⟩ := bd_e hf
        refine gSr_i E hK hP (cX12_isInc _ _ _ er7) kS_X12_isIn wd_5_138 rfl rfl rfl ⟨Nat.le_of_ble_eq_true rfl, Nat.le_of_ble_eq_true rfl⟩ ⟨Nat.zero_le _, Nat.zero_le _⟩ hl.1 (Nat.le_of_ble_eq_true rfl) rfl dX12_pitch_28 ?_
        refine lv_if_eq (tgt := 46) hx hb dX12_pitch_31 (by decide) (fun c8 => ?_) (fun c8 => ?_)
        · replace hf := pos_e c8 hf
          refine lv_ldc (v := 1000000001) hx hb E.2.2.2.1 (E.2.2.2.2 _ wd_6_78) dX12_pitch_46 ?_
          exact gret_i E hr hlk dX12_pitch_48 (som_e hf).symm
        · replace hf := neg_e c8 hf
          refine lv_aload_n hx hb dX12_pitch_34 rfl (lv_at hl 0 rfl) ?_
          refine lv_iload_n hx hb dX12_pitch_35 rfl (lv_at hl 1 rfl) ?_
          refine lv_iload_n hx hb dX12_pitch_36 rfl (lv_at hl 2 rfl) ?_
          refine lv_iload_n hx hb dX12_pitch_37 rfl (lv_at hl 3 rfl) ?_
          refine lv_iload hx hb dX12_pitch_38 (lv_at hl 4 rfl) ?_
          obtain ⟨r9, er9, hf⟩ := bd_e hf
          refine gVr_i E hK hP (cX12_pitchOfc _ _ _ _ er9) kV_X12_pitchOf wd_6_74 rfl rfl (q_model ks ad σ) rfl rfl rfl ⟨Nat.le_of_ble_eq_true rfl, Nat.le_of_ble_eq_true rfl⟩ ⟨Nat.zero_le _, Nat.zero_le _⟩ hl.1 (Nat.le_of_ble_eq_true rfl) rfl dX12_pitch_40 ?_
          refine lv_goto (tgt := 48) hx hb dX12_pitch_43 (by decide) ?_
          exact gret_i E hr hlk dX12_pitch_48 (som_e hf).symm
noncomputable def fX12_tries_J66 (a1 : Int32) (z11 : Int32) (σ12 : St) : Option (Int32 × St) :=
  bd (fX12_isSplit σ12 a1) fun r13 =>
  if r13 = 0 then
  some (z11 + 0, σ12)
  else
  some (z11 + 2, σ12)
noncomputable def fX12_tries (σ : St) (a1 : Int32) (a2 : Int32) (a3 : Int32) (a4 : Int32) (a5 : Int32) : Option (Int32 × St) :=
  bd (fX12_isTold σ a1 a2 a3 a4 a5) fun r1 =>
  if r1 = 0 then
  some ((-1), σ)
  else
  bd (fX12_isSplit σ a1) fun r3 =>
  if r3 = 0 then
  bd (fX12_atBlade σ a1 3) fun r5 =>
  ck (vp_in r5 47) <|
  bd (fX12_wears σ a3 a5) fun r7 =>
  ck (vp_in r5 47) <|
  nmv (sI σ 12 0 r5.toNatClampNeg ((gI σ 12 0 r5.toNatClampNeg) + r7)) fun σ9 =>
  bd (fX12_isSound σ9 a1 a2 a3 a4 a5) fun r10 =>
  if r10 = 0 then
  fX12_tries_J66 a1 0 σ9
  else
  fX12_tries_J66 a1 1 σ9
  else
  some ((-3), σ)
def rX12_tries : Room := { frames := 6, cells := 0, slots := 0, locals := 140 }
set_option maxHeartbeats 4000000 in
set_option maxRecDepth 100000 in
theorem cX12_triesc {l : Launch} {dC : Nat → ClassId} {dI : Nat → Nat → Nat} {ks : Nat → ClassId} {ad : Nat → Nat → Nat} {σ : St} (a1 : Int32) (a2 : Int32) (a3 : Int32) (a4 : Int32) (a5 : Int32)  {out : Int32 × St} (hf : fX12_tries σ a1 a2 a3 a4 a5 = some out) : MWi l dC dI ks ad σ yX12_tries cX12_tries 6 (some .int) rX12_tries [.ref (ad 14 0), .int a1, .int a2, .int a3, .int a4, .int a5] out := by
  intro sz
  refine met_w (Qc := fun A => va_Qi (fun r σ' => r = out.1 ∧ σ' = out.2) (gBw dC dI ks ad A) A) (own := RX12) (by decide) rfl (Nat.le_of_ble_eq_true rfl) ?_
  intro A p e s m args below meth c ls E hr hlk hA hP hD hS hK hl
  have hx := E.1
  have hb := E.2.1
  have hl : lv_has ls 6 [(0, .ref (ad 14 0)), (1, .int a1), (2, .int a2), (3, .int a3), (4, .int a4), (5, .int a5)] := hl
  unfold fX12_tries at hf
  refine lv_aload_n hx hb dX12_tries_0 rfl (lv_at hl 0 rfl) ?_
  refine lv_iload_n hx hb dX12_tries_1 rfl (lv_at hl 1 rfl) ?_
  refine lv_iload_n hx hb dX12_tries_2 rfl (lv_at hl 2 rfl) ?_
  refine lv_iload_n hx hb dX12_tries_3 rfl (lv_at hl 3 rfl) ?_
  refine lv_iload hx hb dX12_tries_4 (lv_at hl 4 rfl) ?_
  refine lv_iload hx hb dX12_tries_6 (lv_at hl 5 rfl) ?_
  obtain ⟨r1, er1, hf⟩ := bd_e hf
  refine gVr_i E hK hP (cX12_isToldc _ _ _ _ _ er1) kV_X12_isTold wd_6_50 rfl rfl (q_model ks ad σ) rfl rfl rfl ⟨Nat.le_of_ble_eq_true rfl, Nat.le_of_ble_eq_true rfl⟩ ⟨Nat.zero_le _, Nat.zero_le _⟩ hl.1 (Nat.le_of_ble_eq_true rfl) rfl dX12_tries_8 ?_
  refine lv_if_ne (tgt := 16) hx hb dX12_tries_11 (by decide) (fun c2 => ?_) (fun c2 => ?_)
  · replace hf := neg_e c2 hf
    refine lv_aload_n hx hb dX12_tries_16 rfl (lv_at hl 0 rfl) ?_
    refine lv_iload_n hx hb dX12_tries_17 rfl (lv_at hl 1 rfl) ?_
    obtain ⟨r3, er3, hf⟩ := bd_e hf
    refine gVr_i E hK hP (cX12_isSplitc _ er3) kV_X12_isSplit wd_5_200 rfl rfl (q_model ks ad σ) rfl rfl rfl ⟨Nat.le_of_ble_eq_true rfl, Nat.le_of_ble_eq_true rfl⟩ ⟨Nat.zero_le _, Nat.zero_le _⟩ hl.1 (Nat.le_of_ble_eq_true rfl) rfl dX12_tries_18 ?_
    refine lv_if_eq (tgt := 27) hx hb dX12_tries_21 (by decide) (fun c4 => ?_) (fun c4 => ?_)
    · replace hf := pos_e c4 hf
      refine lv_aload_n hx hb dX12_tries_27 rfl (lv_at hl 0 rfl) ?_
      refine gget E in_X12 hK hP (q_model ks ad σ) rfl (k := 0) (by decide) wd_5_60 rfl (v := .ref (ad 15 0)) rfl dX12_tries_28 ?_
      refine lv_iload_n hx hb dX12_tries_31 rfl (lv_at hl 1 rfl) ?_
      refine lv_iconst (v := 3) hx hb dX12_tries_32 (by decide) ?_
      obtain ⟨r5, er5, hf⟩ := bd_e hf
      refine gSr_i E hK hP (cX12_atBladec _ _ er5) kS_X12_atBlade wd_5_167 rfl rfl rfl ⟨Nat.le_of_ble_eq_true rfl, Nat.le_of_ble_eq_true rfl⟩ ⟨Nat.zero_le _, Nat.zero_le _⟩ hl.1 (Nat.le_of_ble_eq_true rfl) rfl dX12_tries_33 ?_
      refine lv_dup2_11 hx hb dX12_tries_36 rfl rfl ?_
      obtain ⟨c6, hf⟩ := ck_e hf
      refine giald E hK hP (q_M0 ks ad σ) c6 dX12_tries_37 ?_
      refine lv_aload_n hx hb dX12_tries_38 rfl (lv_at hl 0 rfl) ?_
      refine lv_iload_n hx hb dX12_tries_39 rfl (lv_at hl 3 rfl) ?_
      refine lv_iload hx hb dX12_tries_40 (lv_at hl 5 rfl) ?_
      obtain ⟨r7, er7, hf⟩ := bd_e hf
      refine gVr_i E hK hP (cX12_wearsc _ _ er7) kV_X12_wears wd_5_208 rfl rfl (q_model ks ad σ) rfl rfl rfl ⟨Nat.le_of_ble_eq_true rfl, Nat.le_of_ble_eq_true rfl⟩ ⟨Nat.zero_le _, Nat.zero_le _⟩ hl.1 (Nat.le_of_ble_eq_true rfl) rfl dX12_tries_42 ?_
      refine lv_iadd hx hb dX12_tries_45 ?_
      obtain ⟨c8, hf⟩ := ck_e hf
      obtain ⟨σ9, eσ9, hf⟩ := nmv_e hf
      refine giast E hK hP hD hS (q_M0 ks ad σ) c8 (σ' := σ9) (by rw [eσ9]; exact st_M0 ks ad σ _) dX12_tries_46 (fun H locs hP hD hS => ?_)
      refine lv_aload_n hx hb dX12_tries_47 rfl (lv_at hl 0 rfl) ?_
      refine lv_iload_n hx hb dX12_tries_48 rfl (lv_at hl 1 rfl) ?_
      refine lv_iload_n hx hb dX12_tries_49 rfl (lv_at hl 2 rfl) ?_
      refine lv_iload_n hx hb dX12_tries_50 rfl (lv_at hl 3 rfl) ?_
      refine lv_iload hx hb dX12_tries_51 (lv_at hl 4 rfl) ?_
      refine lv_iload hx hb dX12_tries_53 (lv_at hl 5 rfl) ?_
      obtain ⟨r10, er10, hf⟩ := bd_e hf
      refine gVr_i E hK hP (cX12_isSoundc _ _ _ _ _ er10) kV_X12_isSound wd_6_54 rfl rfl (q_model ks ad σ9) rfl rfl rfl ⟨Nat.le_of_ble_eq_true rfl, Nat.le_of_ble_eq_true rfl⟩ ⟨Nat.zero_le _, Nat.zero_le _⟩ hl.1 (Nat.le_of_ble_eq_true rfl) rfl dX12_tries_55 ?_
      have hJ_66 : ∀ (z11 : Int32) (σ12 : St) (H : Heap) (locs : List Loc) (hP : va_P (dC, dI) vwCl (wG ks ad σ12) H) (hD : va_D A (wG ks ad σ12)) (hS : va_S A s.heap H locs) (hf : fX12_tries_J66 a1 z11 σ12 = some out) (ls : Array Slot), lv_has ls 6 [(0, .ref (ad 14 0)), (1, .int a1)] → W p l e rX12_tries s m args below meth c H locs 0 0 (MQ below (va_Qi (fun r σ' => r = out.1 ∧ σ' = out.2) (gBw dC dI ks ad A) A) args s 0 0 A) (F0 m 66 ls [.int z11]) := by
        intro z11 σ12 H locs hP hD hS hf ls hl
        unfold fX12_tries_J66 at hf
        refine lv_aload_n hx hb dX12_tries_66 rfl (lv_at hl 0 rfl) ?_
        refine lv_iload_n hx hb dX12_tries_67 rfl (lv_at hl 1 rfl) ?_
        obtain ⟨r13, er13, hf⟩ := bd_e hf
        refine gVr_i E hK hP (cX12_isSplitc _ er13) kV_X12_isSplit wd_5_200 rfl rfl (q_model ks ad σ12) rfl rfl rfl ⟨Nat.le_of_ble_eq_true rfl, Nat.le_of_ble_eq_true rfl⟩ ⟨Nat.zero_le _, Nat.zero_le _⟩ hl.1 (Nat.le_of_ble_eq_true rfl) rfl dX12_tries_68 ?_
        refine lv_if_eq (tgt := 78) hx hb dX12_tries_71 (by decide) (fun c14 => ?_) (fun c14 => ?_)
        · replace hf := pos_e c14 hf
          refine lv_iconst (v := 0) hx hb dX12_tries_78 (by decide) ?_
          refine lv_iadd hx hb dX12_tries_79 ?_
          exact gretw_i E hlk hP hD hS hr dX12_tries_80 (som_e hf)
        · replace hf := neg_e c14 hf
          refine lv_iconst (v := 2) hx hb dX12_tries_74 (by decide) ?_
          refine lv_goto (tgt := 79) hx hb dX12_tries_75 (by decide) ?_
          refine lv_iadd hx hb dX12_tries_79 ?_
          exact gretw_i E hlk hP hD hS hr dX12_tries_80 (som_e hf)
      refine lv_if_eq (tgt := 65) hx hb dX12_tries_58 (by decide) (fun c15 => ?_) (fun c15 => ?_)
      · replace hf := pos_e c15 hf
        refine lv_iconst (v := 0) hx hb dX12_tries_65 (by decide) ?_
        exact hJ_66 _ _ _ _ hP hD hS hf _ (lv_sub hl [0, 1] rfl)
      · replace hf := neg_e c15 hf
        refine lv_iconst (v := 1) hx hb dX12_tries_61 (by decide) ?_
        refine lv_goto (tgt := 66) hx hb dX12_tries_62 (by decide) ?_
        exact hJ_66 _ _ _ _ hP hD hS hf _ (lv_sub hl [0, 1] rfl)
    · replace hf := neg_e c4 hf
      refine lv_bipush (v := -3) hx hb dX12_tries_24 (by decide) ?_
      exact gretw_i E hlk hP hD hS hr dX12_tries_26 (som_e hf)
  · replace hf := pos_e c2 hf
    refine lv_iconst (v := -1) hx hb dX12_tries_14 (by decide) ?_
    exact gretw_i E hlk hP hD hS hr dX12_tries_15 (som_e hf)
noncomputable def fX12_looks_J68 (x5 : Int32) (rec_22 : Int32 → Int32 → Int32 → St → Option (St)) (z9 : Int32) (z12 : Int32) (σ13 : St) : Option (St) :=
  nmv (x5 + (-1)) fun v14 =>
  rec_22 z9 z12 v14 σ13
noncomputable def fX12_looks_J48 (a2 : Int32) (a3 : Int32) (x4 : Int32) (x5 : Int32) (rec_22 : Int32 → Int32 → Int32 → St → Option (St)) (z9 : Int32) (σ10 : St) : Option (St) :=
  bd (fX12_isHard σ10 a2 a3 x5) fun r11 =>
  if r11 = 0 then
  fX12_looks_J68 x5 rec_22 z9 x4 σ10
  else
  nmv (x4 + 1) fun v16 =>
  nmv (sI σ10 11 0 11 x5) fun σ17 =>
  fX12_looks_J68 x5 rec_22 z9 v16 σ17
noncomputable def fX12_looks_L22B (a1 : Int32) (a2 : Int32) (a3 : Int32) (K_22 : Int32 → Int32 → St → Option (St)) (rec_22 : Int32 → Int32 → Int32 → St → Option (St)) (x3 : Int32) (x4 : Int32) (x5 : Int32) (σ6 : St) : Option (St) :=
  if x5 < 0 then
  K_22 x3 x4 σ6
  else
  bd (fX12_isTight σ6 a1 a2 a3 x5) fun r8 =>
  if r8 = 0 then
  fX12_looks_J48 a2 a3 x4 x5 rec_22 x3 σ6
  else
  nmv (x3 + 1) fun v19 =>
  nmv (sI σ6 11 0 10 x5) fun σ20 =>
  fX12_looks_J48 a2 a3 x4 x5 rec_22 v19 σ20
noncomputable def fX12_looks_L22 (a1 : Int32) (a2 : Int32) (a3 : Int32) (K_22 : Int32 → Int32 → St → Option (St)) : Nat → Int32 → Int32 → Int32 → St → Option (St)
  | 0 => fun _ _ _ _ => none
  | n + 1 => fX12_looks_L22B a1 a2 a3 K_22 (fX12_looks_L22 a1 a2 a3 K_22 n)
noncomputable def fX12_looks (σ : St) (a1 : Int32) (a2 : Int32) (a3 : Int32) : Option (St) :=
  nmv (sI σ 11 0 10 (-4)) fun σ1 =>
  nmv (sI σ1 11 0 11 (-4)) fun σ2 =>
  fX12_looks_L22 a1 a2 a3 (fun y21 y22 σ23 => nmv (sI σ23 11 0 9 (y21 * y22)) fun σ24 =>
  if (gI σ24 11 0 9) ≤ 0 then
  nmv (sI σ24 11 0 10 (-4)) fun σ26 =>
  nmv (sI σ26 11 0 11 (-4)) fun σ27 =>
  some σ27
  else
  some σ24) FU 0 0 60 σ2
def rX12_looks : Room := { frames := 5, cells := 0, slots := 0, locals := 115 }
set_option maxHeartbeats 4000000 in
set_option maxRecDepth 100000 in
theorem cX12_looksc {l : Launch} {dC : Nat → ClassId} {dI : Nat → Nat → Nat} {ks : Nat → ClassId} {ad : Nat → Nat → Nat} {σ : St} (a1 : Int32) (a2 : Int32) (a3 : Int32)  {out : St} (hf : fX12_looks σ a1 a2 a3 = some out) : MWv l dC dI ks ad σ yX12_looks cX12_looks 7 none rX12_looks [.ref (ad 14 0), .int a1, .int a2, .int a3] out := by
  intro sz
  refine met_w (Qc := fun A => va_Qv (fun σ' => σ' = out) (gBw dC dI ks ad A) A) (own := RX12) (by decide) rfl (Nat.le_of_ble_eq_true rfl) ?_
  intro A p e s m args below meth c ls E hr hlk hA hP hD hS hK hl
  have hx := E.1
  have hb := E.2.1
  have hl : lv_has ls 7 [(0, .ref (ad 14 0)), (1, .int a1), (2, .int a2), (3, .int a3)] := hl
  unfold fX12_looks at hf
  refine lv_iconst (v := 0) hx hb dX12_looks_0 (by decide) ?_
  refine lv_istore (lv' := [(4, .int 0), (0, .ref (ad 14 0)), (1, .int a1), (2, .int a2), (3, .int a3)]) hx hb dX12_looks_1 hl (by decide) rfl (fun ls hl => ?_)
  refine lv_iconst (v := 0) hx hb dX12_looks_3 (by decide) ?_
  refine lv_istore (lv' := [(5, .int 0), (4, .int 0), (0, .ref (ad 14 0)), (1, .int a1), (2, .int a2), (3, .int a3)]) hx hb dX12_looks_4 hl (by decide) rfl (fun ls hl => ?_)
  refine lv_aload_n hx hb dX12_looks_6 rfl (lv_at hl 2 rfl) ?_
  refine lv_bipush (v := -4) hx hb dX12_looks_7 (by decide) ?_
  obtain ⟨σ1, eσ1, hf⟩ := nmv_e hf
  refine gput (k := 10) E in_X12 tyX12 tyX12_ok nmX12 hK hP hD hS (q_model ks ad σ) rfl (by decide) wd_5_70 rfl rfl rfl rfl rfl (Nat.le_of_ble_eq_true rfl) (σ' := σ1) (by rw [eσ1]; exact st_model_10 ks ad σ _) dX12_looks_9 (fun H locs hP hD hS => ?_)
  refine lv_aload_n hx hb dX12_looks_12 rfl (lv_at hl 2 rfl) ?_
  refine lv_bipush (v := -4) hx hb dX12_looks_13 (by decide) ?_
  obtain ⟨σ2, eσ2, hf⟩ := nmv_e hf
  refine gput (k := 11) E in_X12 tyX12 tyX12_ok nmX12 hK hP hD hS (q_model ks ad σ1) rfl (by decide) wd_5_71 rfl rfl rfl rfl rfl (Nat.le_of_ble_eq_true rfl) (σ' := σ2) (by rw [eσ2]; exact st_model_11 ks ad σ1 _) dX12_looks_15 (fun H locs hP hD hS => ?_)
  refine lv_bipush (v := 60) hx hb dX12_looks_18 (by decide) ?_
  refine lv_istore (lv' := [(6, .int 60), (5, .int 0), (4, .int 0), (0, .ref (ad 14 0)), (1, .int a1), (2, .int a2), (3, .int a3)]) hx hb dX12_looks_20 hl (by decide) rfl (fun ls hl => ?_)
  have loop_22 : ∀ (K_22 : Int32 → Int32 → St → Option (St)) (hK_22 : (∀ (y21 : Int32) (y22 : Int32) (σ23 : St) (H : Heap) (locs : List Loc) (hP : va_P (dC, dI) vwCl (wG ks ad σ23) H) (hD : va_D A (wG ks ad σ23)) (hS : va_S A s.heap H locs) (hf : K_22 y21 y22 σ23 = some out) (ls : Array Slot), lv_has ls 7 [(0, .ref (ad 14 0)), (4, .int y21), (5, .int y22)] → W p l e rX12_looks s m args below meth c H locs 0 0 (MQ below (va_Qv (fun σ' => σ' = out) (gBw dC dI ks ad A) A) args s 0 0 A) (F0 m 74 ls []))) (n_22 : Nat) (x3 : Int32) (x4 : Int32) (x5 : Int32) (σ6 : St) (H : Heap) (locs : List Loc) (hP : va_P (dC, dI) vwCl (wG ks ad σ6) H) (hD : va_D A (wG ks ad σ6)) (hS : va_S A s.heap H locs) (hf : fX12_looks_L22 a1 a2 a3 K_22 n_22 x3 x4 x5 σ6 = some out) (ls : Array Slot), lv_has ls 7 [(0, .ref (ad 14 0)), (1, .int a1), (2, .int a2), (3, .int a3), (4, .int x3), (5, .int x4), (6, .int x5)] → W p l e rX12_looks s m args below meth c H locs 0 0 (MQ below (va_Qv (fun σ' => σ' = out) (gBw dC dI ks ad A) A) args s 0 0 A) (F0 m 22 ls []) := by
    intro K_22 hK_22 n_22
    induction n_22 with
    | zero => intro x3 x4 x5 σ6 H locs hP hD hS hf; cases hf
    | succ n_22 ih_22 =>
      intro x3 x4 x5 σ6 H locs hP hD hS hf ls hl
      have hf : fX12_looks_L22B a1 a2 a3 K_22 (fX12_looks_L22 a1 a2 a3 K_22 n_22) x3 x4 x5 σ6 = some out := hf
      unfold fX12_looks_L22B at hf
      refine lv_iload hx hb dX12_looks_22 (lv_at hl 6 rfl) ?_
      refine lv_if_lt (tgt := 74) hx hb dX12_looks_24 (by decide) (fun c7 => ?_) (fun c7 => ?_)
      · replace hf := pos_e c7 hf
        exact hK_22 _ _ _ _ _ hP hD hS hf _ (lv_sub hl [0, 4, 5] rfl)
      · replace hf := neg_e c7 hf
        refine lv_aload_n hx hb dX12_looks_27 rfl (lv_at hl 0 rfl) ?_
        refine lv_iload_n hx hb dX12_looks_28 rfl (lv_at hl 1 rfl) ?_
        refine lv_iload_n hx hb dX12_looks_29 rfl (lv_at hl 2 rfl) ?_
        refine lv_iload_n hx hb dX12_looks_30 rfl (lv_at hl 3 rfl) ?_
        refine lv_iload hx hb dX12_looks_31 (lv_at hl 6 rfl) ?_
        obtain ⟨r8, er8, hf⟩ := bd_e hf
        refine gVr_i E hK hP (cX12_isTightc _ _ _ _ er8) kV_X12_isTight wd_6_58 rfl rfl (q_model ks ad σ6) rfl rfl rfl ⟨Nat.le_of_ble_eq_true rfl, Nat.le_of_ble_eq_true rfl⟩ ⟨Nat.zero_le _, Nat.zero_le _⟩ hl.1 (Nat.le_of_ble_eq_true rfl) rfl dX12_looks_33 ?_
        have hJ_48 : ∀ (z9 : Int32) (σ10 : St) (H : Heap) (locs : List Loc) (hP : va_P (dC, dI) vwCl (wG ks ad σ10) H) (hD : va_D A (wG ks ad σ10)) (hS : va_S A s.heap H locs) (hf : fX12_looks_J48 a2 a3 x4 x5 (fX12_looks_L22 a1 a2 a3 K_22 n_22) z9 σ10 = some out) (ls : Array Slot), lv_has ls 7 [(0, .ref (ad 14 0)), (1, .int a1), (2, .int a2), (3, .int a3), (4, .int z9), (5, .int x4), (6, .int x5)] → W p l e rX12_looks s m args below meth c H locs 0 0 (MQ below (va_Qv (fun σ' => σ' = out) (gBw dC dI ks ad A) A) args s 0 0 A) (F0 m 48 ls []) := by
          intro z9 σ10 H locs hP hD hS hf ls hl
          unfold fX12_looks_J48 at hf
          refine lv_aload_n hx hb dX12_looks_48 rfl (lv_at hl 0 rfl) ?_
          refine lv_iload_n hx hb dX12_looks_49 rfl (lv_at hl 2 rfl) ?_
          refine lv_iload_n hx hb dX12_looks_50 rfl (lv_at hl 3 rfl) ?_
          refine lv_iload hx hb dX12_looks_51 (lv_at hl 6 rfl) ?_
          obtain ⟨r11, er11, hf⟩ := bd_e hf
          refine gVr_i E hK hP (cX12_isHardc _ _ _ er11) kV_X12_isHard wd_6_66 rfl rfl (q_model ks ad σ10) rfl rfl rfl ⟨Nat.le_of_ble_eq_true rfl, Nat.le_of_ble_eq_true rfl⟩ ⟨Nat.zero_le _, Nat.zero_le _⟩ hl.1 (Nat.le_of_ble_eq_true rfl) rfl dX12_looks_53 ?_
          have hJ_68 : ∀ (z12 : Int32) (σ13 : St) (H : Heap) (locs : List Loc) (hP : va_P (dC, dI) vwCl (wG ks ad σ13) H) (hD : va_D A (wG ks ad σ13)) (hS : va_S A s.heap H locs) (hf : fX12_looks_J68 x5 (fX12_looks_L22 a1 a2 a3 K_22 n_22) z9 z12 σ13 = some out) (ls : Array Slot), lv_has ls 7 [(0, .ref (ad 14 0)), (1, .int a1), (2, .int a2), (3, .int a3), (4, .int z9), (5, .int z12), (6, .int x5)] → W p l e rX12_looks s m args below meth c H locs 0 0 (MQ below (va_Qv (fun σ' => σ' = out) (gBw dC dI ks ad A) A) args s 0 0 A) (F0 m 68 ls []) := by
            intro z12 σ13 H locs hP hD hS hf ls hl
            unfold fX12_looks_J68 at hf
            obtain ⟨v14, ev14, hf⟩ := nmv_e hf
            refine lv_iinc (v := v14) (lv' := [(6, .int v14), (0, .ref (ad 14 0)), (1, .int a1), (2, .int a2), (3, .int a3), (4, .int z9), (5, .int z12)]) hx hb dX12_looks_68 hl (k := 6) rfl (by rw [ev14]; rfl) (by decide) rfl (fun ls hl => ?_)
            refine lv_goto (tgt := 22) hx hb dX12_looks_71 (by decide) ?_
            exact ih_22 _ _ _ _ _ _ hP hD hS hf _ (lv_sub hl [1, 2, 3, 4, 5, 6, 0] rfl)
          refine lv_if_eq (tgt := 68) hx hb dX12_looks_56 (by decide) (fun c15 => ?_) (fun c15 => ?_)
          · replace hf := pos_e c15 hf
            exact hJ_68 _ _ _ _ hP hD hS hf _ (lv_sub hl [0, 1, 2, 3, 4, 5, 6] rfl)
          · replace hf := neg_e c15 hf
            obtain ⟨v16, ev16, hf⟩ := nmv_e hf
            refine lv_iinc (v := v16) (lv' := [(5, .int v16), (0, .ref (ad 14 0)), (1, .int a1), (2, .int a2), (3, .int a3), (4, .int z9), (6, .int x5)]) hx hb dX12_looks_59 hl (k := 5) rfl (by rw [ev16]; rfl) (by decide) rfl (fun ls hl => ?_)
            refine lv_aload_n hx hb dX12_looks_62 rfl (lv_at hl 1 rfl) ?_
            refine lv_iload hx hb dX12_looks_63 (lv_at hl 6 rfl) ?_
            obtain ⟨σ17, eσ17, hf⟩ := nmv_e hf
            refine gput (k := 11) E in_X12 tyX12 tyX12_ok nmX12 hK hP hD hS (q_model ks ad σ10) rfl (by decide) wd_5_71 rfl rfl rfl rfl rfl (Nat.le_of_ble_eq_true rfl) (σ' := σ17) (by rw [eσ17]; exact st_model_11 ks ad σ10 _) dX12_looks_65 (fun H locs hP hD hS => ?_)
            exact hJ_68 _ _ _ _ hP hD hS hf _ (lv_sub hl [1, 2, 3, 4, 5, 0, 6] rfl)
        refine lv_if_eq (tgt := 48) hx hb dX12_looks_36 (by decide) (fun c18 => ?_) (fun c18 => ?_)
        · replace hf := pos_e c18 hf
          exact hJ_48 _ _ _ _ hP hD hS hf _ (lv_sub hl [0, 1, 2, 3, 4, 5, 6] rfl)
        · replace hf := neg_e c18 hf
          obtain ⟨v19, ev19, hf⟩ := nmv_e hf
          refine lv_iinc (v := v19) (lv' := [(4, .int v19), (0, .ref (ad 14 0)), (1, .int a1), (2, .int a2), (3, .int a3), (5, .int x4), (6, .int x5)]) hx hb dX12_looks_39 hl (k := 4) rfl (by rw [ev19]; rfl) (by decide) rfl (fun ls hl => ?_)
          refine lv_aload_n hx hb dX12_looks_42 rfl (lv_at hl 1 rfl) ?_
          refine lv_iload hx hb dX12_looks_43 (lv_at hl 6 rfl) ?_
          obtain ⟨σ20, eσ20, hf⟩ := nmv_e hf
          refine gput (k := 10) E in_X12 tyX12 tyX12_ok nmX12 hK hP hD hS (q_model ks ad σ6) rfl (by decide) wd_5_70 rfl rfl rfl rfl rfl (Nat.le_of_ble_eq_true rfl) (σ' := σ20) (by rw [eσ20]; exact st_model_10 ks ad σ6 _) dX12_looks_45 (fun H locs hP hD hS => ?_)
          exact hJ_48 _ _ _ _ hP hD hS hf _ (lv_sub hl [1, 2, 3, 4, 0, 5, 6] rfl)
  refine loop_22 _ (fun y21 y22 σ23 H locs hP hD hS hf ls hl => ?_) _ _ _ _ _ _ _ hP hD hS hf _ (lv_sub hl [3, 4, 5, 6, 2, 1, 0] rfl)
  refine lv_aload_n hx hb dX12_looks_74 rfl (lv_at hl 0 rfl) ?_
  refine lv_iload hx hb dX12_looks_75 (lv_at hl 1 rfl) ?_
  refine lv_iload hx hb dX12_looks_77 (lv_at hl 2 rfl) ?_
  refine lv_imul hx hb dX12_looks_79 ?_
  obtain ⟨σ24, eσ24, hf⟩ := nmv_e hf
  refine gput (k := 9) E in_X12 tyX12 tyX12_ok nmX12 hK hP hD hS (q_model ks ad σ23) rfl (by decide) wd_5_69 rfl rfl rfl rfl rfl (Nat.le_of_ble_eq_true rfl) (σ' := σ24) (by rw [eσ24]; exact st_model_9 ks ad σ23 _) dX12_looks_80 (fun H locs hP hD hS => ?_)
  refine lv_aload_n hx hb dX12_looks_83 rfl (lv_at hl 0 rfl) ?_
  refine gget E in_X12 hK hP (q_model ks ad σ24) rfl (k := 9) (by decide) wd_5_69 rfl (v := .int (gI σ24 11 0 9)) rfl dX12_looks_84 ?_
  refine lv_if_le (tgt := 91) hx hb dX12_looks_87 (by decide) (fun c25 => ?_) (fun c25 => ?_)
  · replace hf := pos_e c25 hf
    refine lv_aload_n hx hb dX12_looks_91 rfl (lv_at hl 0 rfl) ?_
    refine lv_bipush (v := -4) hx hb dX12_looks_92 (by decide) ?_
    obtain ⟨σ26, eσ26, hf⟩ := nmv_e hf
    refine gput (k := 10) E in_X12 tyX12 tyX12_ok nmX12 hK hP hD hS (q_model ks ad σ24) rfl (by decide) wd_5_70 rfl rfl rfl rfl rfl (Nat.le_of_ble_eq_true rfl) (σ' := σ26) (by rw [eσ26]; exact st_model_10 ks ad σ24 _) dX12_looks_94 (fun H locs hP hD hS => ?_)
    refine lv_aload_n hx hb dX12_looks_97 rfl (lv_at hl 0 rfl) ?_
    refine lv_bipush (v := -4) hx hb dX12_looks_98 (by decide) ?_
    obtain ⟨σ27, eσ27, hf⟩ := nmv_e hf
    refine gput (k := 11) E in_X12 tyX12 tyX12_ok nmX12 hK hP hD hS (q_model ks ad σ26) rfl (by decide) wd_5_71 rfl rfl rfl rfl rfl (Nat.le_of_ble_eq_true rfl) (σ' := σ27) (by rw [eσ27]; exact st_model_11 ks ad σ26 _) dX12_looks_100 (fun H locs hP hD hS => ?_)
    exact gretw_v E hlk hP hD hS hr dX12_looks_103 (som_e hf)
  · replace hf := neg_e c25 hf
    exact gretw_v E hlk hP hD hS hr dX12_looks_90 (som_e hf)
noncomputable def fX12_where (σ : St) (a1 : Int32) (a2 : Int32) (a3 : Int32) (a4 : Int32) : Option (Int32 × St) :=
  bd (fX12_areAll σ a1 a2 a3) fun r1 =>
  if r1 = 0 then
  some ((-1), σ)
  else
  bd (fX12_isIn σ a4 0 2) fun r3 =>
  if r3 = 0 then
  some ((-1), σ)
  else
  bd (fX12_looks σ a1 a2 a3) fun r5 =>
  if a4 = 0 then
  some (gI r5 11 0 9, r5)
  else
  if a4 = 1 then
  some (gI r5 11 0 10, r5)
  else
  some (gI r5 11 0 11, r5)
def rX12_where : Room := { frames := 6, cells := 0, slots := 0, locals := 141 }
set_option maxHeartbeats 4000000 in
set_option maxRecDepth 100000 in
theorem cX12_wherec {l : Launch} {dC : Nat → ClassId} {dI : Nat → Nat → Nat} {ks : Nat → ClassId} {ad : Nat → Nat → Nat} {σ : St} (a1 : Int32) (a2 : Int32) (a3 : Int32) (a4 : Int32)  {out : Int32 × St} (hf : fX12_where σ a1 a2 a3 a4 = some out) : MWi l dC dI ks ad σ yX12_where cX12_where 5 (some .int) rX12_where [.ref (ad 14 0), .int a1, .int a2, .int a3, .int a4] out := by
  intro sz
  refine met_w (Qc := fun A => va_Qi (fun r σ' => r = out.1 ∧ σ' = out.2) (gBw dC dI ks ad A) A) (own := RX12) (by decide) rfl (Nat.le_of_ble_eq_true rfl) ?_
  intro A p e s m args below meth c ls E hr hlk hA hP hD hS hK hl
  have hx := E.1
  have hb := E.2.1
  have hl : lv_has ls 5 [(0, .ref (ad 14 0)), (1, .int a1), (2, .int a2), (3, .int a3), (4, .int a4)] := hl
  unfold fX12_where at hf
  refine lv_aload_n hx hb dX12_where_0 rfl (lv_at hl 0 rfl) ?_
  refine lv_iload_n hx hb dX12_where_1 rfl (lv_at hl 1 rfl) ?_
  refine lv_iload_n hx hb dX12_where_2 rfl (lv_at hl 2 rfl) ?_
  refine lv_iload_n hx hb dX12_where_3 rfl (lv_at hl 3 rfl) ?_
  obtain ⟨r1, er1, hf⟩ := bd_e hf
  refine gVr_i E hK hP (cX12_areAllc _ _ _ er1) kV_X12_areAll wd_5_184 rfl rfl (q_model ks ad σ) rfl rfl rfl ⟨Nat.le_of_ble_eq_true rfl, Nat.le_of_ble_eq_true rfl⟩ ⟨Nat.zero_le _, Nat.zero_le _⟩ hl.1 (Nat.le_of_ble_eq_true rfl) rfl dX12_where_4 ?_
  refine lv_if_eq (tgt := 20) hx hb dX12_where_7 (by decide) (fun c2 => ?_) (fun c2 => ?_)
  · replace hf := pos_e c2 hf
    refine lv_iconst (v := -1) hx hb dX12_where_20 (by decide) ?_
    exact gretw_i E hlk hP hD hS hr dX12_where_21 (som_e hf)
  · replace hf := neg_e c2 hf
    refine lv_iload hx hb dX12_where_10 (lv_at hl 4 rfl) ?_
    refine lv_iconst (v := 0) hx hb dX12_where_12 (by decide) ?_
    refine lv_iconst (v := 2) hx hb dX12_where_13 (by decide) ?_
    obtain ⟨r3, er3, hf⟩ := bd_e hf
    refine gSr_i E hK hP (cX12_isInc _ _ _ er3) kS_X12_isIn wd_5_138 rfl rfl rfl ⟨Nat.le_of_ble_eq_true rfl, Nat.le_of_ble_eq_true rfl⟩ ⟨Nat.zero_le _, Nat.zero_le _⟩ hl.1 (Nat.le_of_ble_eq_true rfl) rfl dX12_where_14 ?_
    refine lv_if_ne (tgt := 22) hx hb dX12_where_17 (by decide) (fun c4 => ?_) (fun c4 => ?_)
    · replace hf := neg_e c4 hf
      refine lv_aload_n hx hb dX12_where_22 rfl (lv_at hl 0 rfl) ?_
      refine lv_iload_n hx hb dX12_where_23 rfl (lv_at hl 1 rfl) ?_
      refine lv_iload_n hx hb dX12_where_24 rfl (lv_at hl 2 rfl) ?_
      refine lv_iload_n hx hb dX12_where_25 rfl (lv_at hl 3 rfl) ?_
      obtain ⟨r5, er5, hf⟩ := bd_e hf
      refine gVw_v E hK hP hD hS hA (cX12_looksc _ _ _ er5) kV_X12_looks wd_6_87 rfl rfl (q_model ks ad σ) rfl rfl rfl ⟨Nat.le_of_ble_eq_true rfl, Nat.le_of_ble_eq_true rfl⟩ ⟨Nat.zero_le _, Nat.zero_le _⟩ hl.1 (Nat.le_of_ble_eq_true rfl) rfl dX12_where_26 (fun H locs hP hD hS => ?_)
      refine lv_iload hx hb dX12_where_29 (lv_at hl 4 rfl) ?_
      refine lv_if_ne (tgt := 41) hx hb dX12_where_31 (by decide) (fun c6 => ?_) (fun c6 => ?_)
      · replace hf := neg_e c6 hf
        refine lv_iload hx hb dX12_where_41 (lv_at hl 4 rfl) ?_
        refine lv_iconst (v := 1) hx hb dX12_where_43 (by decide) ?_
        refine lv_icmp_ne (tgt := 54) hx hb dX12_where_44 (by decide) (fun c7 => ?_) (fun c7 => ?_)
        · replace hf := neg_e c7 hf
          refine lv_aload_n hx hb dX12_where_54 rfl (lv_at hl 0 rfl) ?_
          refine gget E in_X12 hK hP (q_model ks ad r5) rfl (k := 11) (by decide) wd_5_71 rfl (v := .int (gI r5 11 0 11)) rfl dX12_where_55 ?_
          exact gretw_i E hlk hP hD hS hr dX12_where_58 (som_e hf)
        · replace hf := pos_e c7 hf
          refine lv_aload_n hx hb dX12_where_47 rfl (lv_at hl 0 rfl) ?_
          refine gget E in_X12 hK hP (q_model ks ad r5) rfl (k := 10) (by decide) wd_5_70 rfl (v := .int (gI r5 11 0 10)) rfl dX12_where_48 ?_
          refine lv_goto (tgt := 58) hx hb dX12_where_51 (by decide) ?_
          exact gretw_i E hlk hP hD hS hr dX12_where_58 (som_e hf)
      · replace hf := pos_e c6 hf
        refine lv_aload_n hx hb dX12_where_34 rfl (lv_at hl 0 rfl) ?_
        refine gget E in_X12 hK hP (q_model ks ad r5) rfl (k := 9) (by decide) wd_5_69 rfl (v := .int (gI r5 11 0 9)) rfl dX12_where_35 ?_
        refine lv_goto (tgt := 58) hx hb dX12_where_38 (by decide) ?_
        exact gretw_i E hlk hP hD hS hr dX12_where_58 (som_e hf)
    · replace hf := pos_e c4 hf
      refine lv_iconst (v := -1) hx hb dX12_where_20 (by decide) ?_
      exact gretw_i E hlk hP hD hS hr dX12_where_21 (som_e hf)
noncomputable def fX12_bestBlade_J61 (x3 : Int32) (rec_9 : Int32 → Int32 → Int32 → St → Option (Int32 × St)) (z8 : Int32) (z9 : Int32) (σ10 : St) : Option (Int32 × St) :=
  nmv (x3 + 1) fun v11 =>
  rec_9 z8 z9 v11 σ10
noncomputable def fX12_bestBlade_L9B (a1 : Int32) (a2 : Int32) (K_9 : Int32 → St → Option (Int32 × St)) (rec_9 : Int32 → Int32 → Int32 → St → Option (Int32 × St)) (x1 : Int32) (x2 : Int32) (x3 : Int32) (σ4 : St) : Option (Int32 × St) :=
  ck (vp_in 0 47) <|
  if (gI σ4 12 0 (0 : Int32).toNatClampNeg) ≤ x3 then
  K_9 x1 σ4
  else
  bd (fX12_isSplit σ4 x3) fun r7 =>
  if r7 = 0 then
  bd (fX12_looks σ4 x3 a1 a2) fun r13 =>
  if x2 < (gI r13 11 0 9) then
  nmv (gI r13 11 0 9) fun v15 =>
  fX12_bestBlade_J61 x3 rec_9 x3 v15 r13
  else
  fX12_bestBlade_J61 x3 rec_9 x1 x2 r13
  else
  fX12_bestBlade_J61 x3 rec_9 x1 x2 σ4
noncomputable def fX12_bestBlade_L9 (a1 : Int32) (a2 : Int32) (K_9 : Int32 → St → Option (Int32 × St)) : Nat → Int32 → Int32 → Int32 → St → Option (Int32 × St)
  | 0 => fun _ _ _ _ => none
  | n + 1 => fX12_bestBlade_L9B a1 a2 K_9 (fX12_bestBlade_L9 a1 a2 K_9 n)
noncomputable def fX12_bestBlade (σ : St) (a1 : Int32) (a2 : Int32) : Option (Int32 × St) :=
  fX12_bestBlade_L9 a1 a2 (fun y16 σ17 => some (y16, σ17)) FU (-4) 0 0 σ
def rX12_bestBlade : Room := { frames := 6, cells := 0, slots := 0, locals := 141 }
set_option maxHeartbeats 4000000 in
set_option maxRecDepth 100000 in
theorem cX12_bestBladec {l : Launch} {dC : Nat → ClassId} {dI : Nat → Nat → Nat} {ks : Nat → ClassId} {ad : Nat → Nat → Nat} {σ : St} (a1 : Int32) (a2 : Int32)  {out : Int32 × St} (hf : fX12_bestBlade σ a1 a2 = some out) : MWi l dC dI ks ad σ yX12_bestBlade cX12_bestBlade 6 (some .int) rX12_bestBlade [.ref (ad 14 0), .int a1, .int a2] out := by
  intro sz
  refine met_w (Qc := fun A => va_Qi (fun r σ' => r = out.1 ∧ σ' = out.2) (gBw dC dI ks ad A) A) (own := RX12) (by decide) rfl (Nat.le_of_ble_eq_true rfl) ?_
  intro A p e s m args below meth c ls E hr hlk hA hP hD hS hK hl
  have hx := E.1
  have hb := E.2.1
  have hl : lv_has ls 6 [(0, .ref (ad 14 0)), (1, .int a1), (2, .int a2)] := hl
  unfold fX12_bestBlade at hf
  refine lv_bipush (v := -4) hx hb dX12_bestBlade_0 (by decide) ?_
  refine lv_istore_n (lv' := [(3, .int (-4)), (0, .ref (ad 14 0)), (1, .int a1), (2, .int a2)]) hx hb dX12_bestBlade_2 rfl hl (by decide) rfl (fun ls hl => ?_)
  refine lv_iconst (v := 0) hx hb dX12_bestBlade_3 (by decide) ?_
  refine lv_istore (lv' := [(4, .int 0), (3, .int (-4)), (0, .ref (ad 14 0)), (1, .int a1), (2, .int a2)]) hx hb dX12_bestBlade_4 hl (by decide) rfl (fun ls hl => ?_)
  refine lv_iconst (v := 0) hx hb dX12_bestBlade_6 (by decide) ?_
  refine lv_istore (lv' := [(5, .int 0), (4, .int 0), (3, .int (-4)), (0, .ref (ad 14 0)), (1, .int a1), (2, .int a2)]) hx hb dX12_bestBlade_7 hl (by decide) rfl (fun ls hl => ?_)
  have loop_9 : ∀ (K_9 : Int32 → St → Option (Int32 × St)) (hK_9 : (∀ (y16 : Int32) (σ17 : St) (H : Heap) (locs : List Loc) (hP : va_P (dC, dI) vwCl (wG ks ad σ17) H) (hD : va_D A (wG ks ad σ17)) (hS : va_S A s.heap H locs) (hf : K_9 y16 σ17 = some out) (ls : Array Slot), lv_has ls 6 [(3, .int y16)] → W p l e rX12_bestBlade s m args below meth c H locs 0 0 (MQ below (va_Qi (fun r σ' => r = out.1 ∧ σ' = out.2) (gBw dC dI ks ad A) A) args s 0 0 A) (F0 m 67 ls []))) (n_9 : Nat) (x1 : Int32) (x2 : Int32) (x3 : Int32) (σ4 : St) (H : Heap) (locs : List Loc) (hP : va_P (dC, dI) vwCl (wG ks ad σ4) H) (hD : va_D A (wG ks ad σ4)) (hS : va_S A s.heap H locs) (hf : fX12_bestBlade_L9 a1 a2 K_9 n_9 x1 x2 x3 σ4 = some out) (ls : Array Slot), lv_has ls 6 [(0, .ref (ad 14 0)), (1, .int a1), (2, .int a2), (3, .int x1), (4, .int x2), (5, .int x3)] → W p l e rX12_bestBlade s m args below meth c H locs 0 0 (MQ below (va_Qi (fun r σ' => r = out.1 ∧ σ' = out.2) (gBw dC dI ks ad A) A) args s 0 0 A) (F0 m 9 ls []) := by
    intro K_9 hK_9 n_9
    induction n_9 with
    | zero => intro x1 x2 x3 σ4 H locs hP hD hS hf; cases hf
    | succ n_9 ih_9 =>
      intro x1 x2 x3 σ4 H locs hP hD hS hf ls hl
      have hf : fX12_bestBlade_L9B a1 a2 K_9 (fX12_bestBlade_L9 a1 a2 K_9 n_9) x1 x2 x3 σ4 = some out := hf
      unfold fX12_bestBlade_L9B at hf
      refine lv_iload hx hb dX12_bestBlade_9 (lv_at hl 5 rfl) ?_
      refine lv_aload_n hx hb dX12_bestBlade_11 rfl (lv_at hl 0 rfl) ?_
      refine gget E in_X12 hK hP (q_model ks ad σ4) rfl (k := 0) (by decide) wd_5_60 rfl (v := .ref (ad 15 0)) rfl dX12_bestBlade_12 ?_
      refine lv_iconst (v := 0) hx hb dX12_bestBlade_15 (by decide) ?_
      obtain ⟨c5, hf⟩ := ck_e hf
      refine giald E hK hP (q_M0 ks ad σ4) c5 dX12_bestBlade_16 ?_
      refine lv_icmp_ge (tgt := 67) hx hb dX12_bestBlade_17 (by decide) (fun c6 => ?_) (fun c6 => ?_)
      · replace hf := pos_e c6 hf
        exact hK_9 _ _ _ _ hP hD hS hf _ (lv_sub hl [3] rfl)
      · replace hf := neg_e c6 hf
        refine lv_aload_n hx hb dX12_bestBlade_20 rfl (lv_at hl 0 rfl) ?_
        refine lv_iload hx hb dX12_bestBlade_21 (lv_at hl 5 rfl) ?_
        obtain ⟨r7, er7, hf⟩ := bd_e hf
        refine gVr_i E hK hP (cX12_isSplitc _ er7) kV_X12_isSplit wd_5_200 rfl rfl (q_model ks ad σ4) rfl rfl rfl ⟨Nat.le_of_ble_eq_true rfl, Nat.le_of_ble_eq_true rfl⟩ ⟨Nat.zero_le _, Nat.zero_le _⟩ hl.1 (Nat.le_of_ble_eq_true rfl) rfl dX12_bestBlade_23 ?_
        have hJ_61 : ∀ (z8 : Int32) (z9 : Int32) (σ10 : St) (H : Heap) (locs : List Loc) (hP : va_P (dC, dI) vwCl (wG ks ad σ10) H) (hD : va_D A (wG ks ad σ10)) (hS : va_S A s.heap H locs) (hf : fX12_bestBlade_J61 x3 (fX12_bestBlade_L9 a1 a2 K_9 n_9) z8 z9 σ10 = some out) (ls : Array Slot), lv_has ls 6 [(0, .ref (ad 14 0)), (1, .int a1), (2, .int a2), (3, .int z8), (4, .int z9), (5, .int x3)] → W p l e rX12_bestBlade s m args below meth c H locs 0 0 (MQ below (va_Qi (fun r σ' => r = out.1 ∧ σ' = out.2) (gBw dC dI ks ad A) A) args s 0 0 A) (F0 m 61 ls []) := by
          intro z8 z9 σ10 H locs hP hD hS hf ls hl
          unfold fX12_bestBlade_J61 at hf
          obtain ⟨v11, ev11, hf⟩ := nmv_e hf
          refine lv_iinc (v := v11) (lv' := [(5, .int v11), (0, .ref (ad 14 0)), (1, .int a1), (2, .int a2), (3, .int z8), (4, .int z9)]) hx hb dX12_bestBlade_61 hl (k := 5) rfl (by rw [ev11]; rfl) (by decide) rfl (fun ls hl => ?_)
          refine lv_goto (tgt := 9) hx hb dX12_bestBlade_64 (by decide) ?_
          exact ih_9 _ _ _ _ _ _ hP hD hS hf _ (lv_sub hl [1, 2, 3, 4, 5, 0] rfl)
        refine lv_if_eq (tgt := 32) hx hb dX12_bestBlade_26 (by decide) (fun c12 => ?_) (fun c12 => ?_)
        · replace hf := pos_e c12 hf
          refine lv_aload_n hx hb dX12_bestBlade_32 rfl (lv_at hl 0 rfl) ?_
          refine lv_iload hx hb dX12_bestBlade_33 (lv_at hl 5 rfl) ?_
          refine lv_iload_n hx hb dX12_bestBlade_35 rfl (lv_at hl 1 rfl) ?_
          refine lv_iload_n hx hb dX12_bestBlade_36 rfl (lv_at hl 2 rfl) ?_
          obtain ⟨r13, er13, hf⟩ := bd_e hf
          refine gVw_v E hK hP hD hS hA (cX12_looksc _ _ _ er13) kV_X12_looks wd_6_87 rfl rfl (q_model ks ad σ4) rfl rfl rfl ⟨Nat.le_of_ble_eq_true rfl, Nat.le_of_ble_eq_true rfl⟩ ⟨Nat.zero_le _, Nat.zero_le _⟩ hl.1 (Nat.le_of_ble_eq_true rfl) rfl dX12_bestBlade_37 (fun H locs hP hD hS => ?_)
          refine lv_aload_n hx hb dX12_bestBlade_40 rfl (lv_at hl 0 rfl) ?_
          refine gget E in_X12 hK hP (q_model ks ad r13) rfl (k := 9) (by decide) wd_5_69 rfl (v := .int (gI r13 11 0 9)) rfl dX12_bestBlade_41 ?_
          refine lv_iload hx hb dX12_bestBlade_44 (lv_at hl 4 rfl) ?_
          refine lv_icmp_gt (tgt := 52) hx hb dX12_bestBlade_46 (by decide) (fun c14 => ?_) (fun c14 => ?_)
          · replace hf := pos_e c14 hf
            refine lv_iload hx hb dX12_bestBlade_52 (lv_at hl 5 rfl) ?_
            refine lv_istore_n (lv' := [(3, .int x3), (0, .ref (ad 14 0)), (1, .int a1), (2, .int a2), (4, .int x2), (5, .int x3)]) hx hb dX12_bestBlade_54 rfl hl (by decide) rfl (fun ls hl => ?_)
            refine lv_aload_n hx hb dX12_bestBlade_55 rfl (lv_at hl 1 rfl) ?_
            refine gget E in_X12 hK hP (q_model ks ad r13) rfl (k := 9) (by decide) wd_5_69 rfl (v := .int (gI r13 11 0 9)) rfl dX12_bestBlade_56 ?_
            obtain ⟨v15, ev15, hf⟩ := nmv_e hf
            refine lv_nmi ev15 ?_
            refine lv_istore (lv' := [(4, .int v15), (3, .int x3), (0, .ref (ad 14 0)), (1, .int a1), (2, .int a2), (5, .int x3)]) hx hb dX12_bestBlade_59 hl (by decide) rfl (fun ls hl => ?_)
            exact hJ_61 _ _ _ _ _ hP hD hS hf _ (lv_sub hl [2, 3, 4, 1, 0, 5] rfl)
          · replace hf := neg_e c14 hf
            refine lv_goto (tgt := 61) hx hb dX12_bestBlade_49 (by decide) ?_
            exact hJ_61 _ _ _ _ _ hP hD hS hf _ (lv_sub hl [0, 1, 2, 3, 4, 5] rfl)
        · replace hf := neg_e c12 hf
          refine lv_goto (tgt := 61) hx hb dX12_bestBlade_29 (by decide) ?_
          exact hJ_61 _ _ _ _ _ hP hD hS hf _ (lv_sub hl [0, 1, 2, 3, 4, 5] rfl)
  refine loop_9 _ (fun y16 σ17 H locs hP hD hS hf ls hl => ?_) _ _ _ _ _ _ _ hP hD hS hf _ (lv_sub hl [3, 4, 5, 2, 1, 0] rfl)
  refine lv_iload_n hx hb dX12_bestBlade_67 rfl (lv_at hl 0 rfl) ?_
  exact gretw_i E hlk hP hD hS hr dX12_bestBlade_68 (som_e hf)
noncomputable def fX12_whoCan_J41 (x7 : Int32) (rec_16 : Int32 → Int32 → St → Option (Int32 × St)) (z12 : Int32) (σ13 : St) : Option (Int32 × St) :=
  nmv (x7 + 1) fun v14 =>
  rec_16 z12 v14 σ13
noncomputable def fX12_whoCan_L16B (x2 : Int32) (K_16 : Int32 → St → Option (Int32 × St)) (rec_16 : Int32 → Int32 → St → Option (Int32 × St)) (x6 : Int32) (x7 : Int32) (σ8 : St) : Option (Int32 × St) :=
  ck (vp_in 2 47) <|
  if (gI σ8 12 0 (2 : Int32).toNatClampNeg) ≤ x7 then
  K_16 x6 σ8
  else
  bd (fX12_bestBlade σ8 x2 x7) fun r11 =>
  if r11.1 < 0 then
  fX12_whoCan_J41 x7 rec_16 x6 r11.2
  else
  nmv (x6 ||| ((1 : Int32) <<< (x2 &&& 31))) fun v16 =>
  fX12_whoCan_J41 x7 rec_16 v16 r11.2
noncomputable def fX12_whoCan_L16 (x2 : Int32) (K_16 : Int32 → St → Option (Int32 × St)) : Nat → Int32 → Int32 → St → Option (Int32 × St)
  | 0 => fun _ _ _ => none
  | n + 1 => fX12_whoCan_L16B x2 K_16 (fX12_whoCan_L16 x2 K_16 n)
noncomputable def fX12_whoCan_L4B (K_4 : Int32 → St → Option (Int32 × St)) (rec_4 : Int32 → Int32 → St → Option (Int32 × St)) (x1 : Int32) (x2 : Int32) (σ3 : St) : Option (Int32 × St) :=
  ck (vp_in 1 47) <|
  if (gI σ3 12 0 (1 : Int32).toNatClampNeg) ≤ x2 then
  K_4 x1 σ3
  else
  fX12_whoCan_L16 x2 (fun y17 σ18 => nmv (x2 + 1) fun v19 =>
  rec_4 y17 v19 σ18) FU x1 0 σ3
noncomputable def fX12_whoCan_L4 (K_4 : Int32 → St → Option (Int32 × St)) : Nat → Int32 → Int32 → St → Option (Int32 × St)
  | 0 => fun _ _ _ => none
  | n + 1 => fX12_whoCan_L4B K_4 (fX12_whoCan_L4 K_4 n)
noncomputable def fX12_whoCan (σ : St) : Option (Int32 × St) :=
  fX12_whoCan_L4 (fun y20 σ21 => some (y20, σ21)) FU 0 0 σ
def rX12_whoCan : Room := { frames := 7, cells := 0, slots := 0, locals := 166 }
set_option maxHeartbeats 4000000 in
set_option maxRecDepth 100000 in
theorem cX12_whoCanc {l : Launch} {dC : Nat → ClassId} {dI : Nat → Nat → Nat} {ks : Nat → ClassId} {ad : Nat → Nat → Nat} {σ : St}   {out : Int32 × St} (hf : fX12_whoCan σ = some out) : MWi l dC dI ks ad σ yX12_whoCan cX12_whoCan 4 (some .int) rX12_whoCan [.ref (ad 14 0)] out := by
  intro sz
  refine met_w (Qc := fun A => va_Qi (fun r σ' => r = out.1 ∧ σ' = out.2) (gBw dC dI ks ad A) A) (own := RX12) (by decide) rfl (Nat.le_of_ble_eq_true rfl) ?_
  intro A p e s m args below meth c ls E hr hlk hA hP hD hS hK hl
  have hx := E.1
  have hb := E.2.1
  have hl : lv_has ls 4 [(0, .ref (ad 14 0))] := hl
  unfold fX12_whoCan at hf
  refine lv_iconst (v := 0) hx hb dX12_whoCan_0 (by decide) ?_
  refine lv_istore_n (lv' := [(1, .int 0), (0, .ref (ad 14 0))]) hx hb dX12_whoCan_1 rfl hl (by decide) rfl (fun ls hl => ?_)
  refine lv_iconst (v := 0) hx hb dX12_whoCan_2 (by decide) ?_
  refine lv_istore_n (lv' := [(2, .int 0), (1, .int 0), (0, .ref (ad 14 0))]) hx hb dX12_whoCan_3 rfl hl (by decide) rfl (fun ls hl => ?_)
  have loop_4 : ∀ (K_4 : Int32 → St → Option (Int32 × St)) (hK_4 : (∀ (y20 : Int32) (σ21 : St) (H : Heap) (locs : List Loc) (hP : va_P (dC, dI) vwCl (wG ks ad σ21) H) (hD : va_D A (wG ks ad σ21)) (hS : va_S A s.heap H locs) (hf : K_4 y20 σ21 = some out) (ls : Array Slot), lv_has ls 4 [(1, .int y20)] → W p l e rX12_whoCan s m args below meth c H locs 0 0 (MQ below (va_Qi (fun r σ' => r = out.1 ∧ σ' = out.2) (gBw dC dI ks ad A) A) args s 0 0 A) (F0 m 53 ls []))) (n_4 : Nat) (x1 : Int32) (x2 : Int32) (σ3 : St) (H : Heap) (locs : List Loc) (hP : va_P (dC, dI) vwCl (wG ks ad σ3) H) (hD : va_D A (wG ks ad σ3)) (hS : va_S A s.heap H locs) (hf : fX12_whoCan_L4 K_4 n_4 x1 x2 σ3 = some out) (ls : Array Slot), lv_has ls 4 [(0, .ref (ad 14 0)), (1, .int x1), (2, .int x2)] → W p l e rX12_whoCan s m args below meth c H locs 0 0 (MQ below (va_Qi (fun r σ' => r = out.1 ∧ σ' = out.2) (gBw dC dI ks ad A) A) args s 0 0 A) (F0 m 4 ls []) := by
    intro K_4 hK_4 n_4
    induction n_4 with
    | zero => intro x1 x2 σ3 H locs hP hD hS hf; cases hf
    | succ n_4 ih_4 =>
      intro x1 x2 σ3 H locs hP hD hS hf ls hl
      have hf : fX12_whoCan_L4B K_4 (fX12_whoCan_L4 K_4 n_4) x1 x2 σ3 = some out := hf
      unfold fX12_whoCan_L4B at hf
      refine lv_iload_n hx hb dX12_whoCan_4 rfl (lv_at hl 2 rfl) ?_
      refine lv_aload_n hx hb dX12_whoCan_5 rfl (lv_at hl 0 rfl) ?_
      refine gget E in_X12 hK hP (q_model ks ad σ3) rfl (k := 0) (by decide) wd_5_60 rfl (v := .ref (ad 15 0)) rfl dX12_whoCan_6 ?_
      refine lv_iconst (v := 1) hx hb dX12_whoCan_9 (by decide) ?_
      obtain ⟨c4, hf⟩ := ck_e hf
      refine giald E hK hP (q_M0 ks ad σ3) c4 dX12_whoCan_10 ?_
      refine lv_icmp_ge (tgt := 53) hx hb dX12_whoCan_11 (by decide) (fun c5 => ?_) (fun c5 => ?_)
      · replace hf := pos_e c5 hf
        exact hK_4 _ _ _ _ hP hD hS hf _ (lv_sub hl [1] rfl)
      · replace hf := neg_e c5 hf
        refine lv_iconst (v := 0) hx hb dX12_whoCan_14 (by decide) ?_
        refine lv_istore_n (lv' := [(3, .int 0), (0, .ref (ad 14 0)), (1, .int x1), (2, .int x2)]) hx hb dX12_whoCan_15 rfl hl (by decide) rfl (fun ls hl => ?_)
        have loop_16 : ∀ (K_16 : Int32 → St → Option (Int32 × St)) (hK_16 : (∀ (y17 : Int32) (σ18 : St) (H : Heap) (locs : List Loc) (hP : va_P (dC, dI) vwCl (wG ks ad σ18) H) (hD : va_D A (wG ks ad σ18)) (hS : va_S A s.heap H locs) (hf : K_16 y17 σ18 = some out) (ls : Array Slot), lv_has ls 4 [(0, .ref (ad 14 0)), (1, .int y17), (2, .int x2)] → W p l e rX12_whoCan s m args below meth c H locs 0 0 (MQ below (va_Qi (fun r σ' => r = out.1 ∧ σ' = out.2) (gBw dC dI ks ad A) A) args s 0 0 A) (F0 m 47 ls []))) (n_16 : Nat) (x6 : Int32) (x7 : Int32) (σ8 : St) (H : Heap) (locs : List Loc) (hP : va_P (dC, dI) vwCl (wG ks ad σ8) H) (hD : va_D A (wG ks ad σ8)) (hS : va_S A s.heap H locs) (hf : fX12_whoCan_L16 x2 K_16 n_16 x6 x7 σ8 = some out) (ls : Array Slot), lv_has ls 4 [(0, .ref (ad 14 0)), (1, .int x6), (2, .int x2), (3, .int x7)] → W p l e rX12_whoCan s m args below meth c H locs 0 0 (MQ below (va_Qi (fun r σ' => r = out.1 ∧ σ' = out.2) (gBw dC dI ks ad A) A) args s 0 0 A) (F0 m 16 ls []) := by
          intro K_16 hK_16 n_16
          induction n_16 with
          | zero => intro x6 x7 σ8 H locs hP hD hS hf; cases hf
          | succ n_16 ih_16 =>
            intro x6 x7 σ8 H locs hP hD hS hf ls hl
            have hf : fX12_whoCan_L16B x2 K_16 (fX12_whoCan_L16 x2 K_16 n_16) x6 x7 σ8 = some out := hf
            unfold fX12_whoCan_L16B at hf
            refine lv_iload_n hx hb dX12_whoCan_16 rfl (lv_at hl 3 rfl) ?_
            refine lv_aload_n hx hb dX12_whoCan_17 rfl (lv_at hl 0 rfl) ?_
            refine gget E in_X12 hK hP (q_model ks ad σ8) rfl (k := 0) (by decide) wd_5_60 rfl (v := .ref (ad 15 0)) rfl dX12_whoCan_18 ?_
            refine lv_iconst (v := 2) hx hb dX12_whoCan_21 (by decide) ?_
            obtain ⟨c9, hf⟩ := ck_e hf
            refine giald E hK hP (q_M0 ks ad σ8) c9 dX12_whoCan_22 ?_
            refine lv_icmp_ge (tgt := 47) hx hb dX12_whoCan_23 (by decide) (fun c10 => ?_) (fun c10 => ?_)
            · replace hf := pos_e c10 hf
              exact hK_16 _ _ _ _ hP hD hS hf _ (lv_sub hl [0, 1, 2] rfl)
            · replace hf := neg_e c10 hf
              refine lv_aload_n hx hb dX12_whoCan_26 rfl (lv_at hl 0 rfl) ?_
              refine lv_iload_n hx hb dX12_whoCan_27 rfl (lv_at hl 2 rfl) ?_
              refine lv_iload_n hx hb dX12_whoCan_28 rfl (lv_at hl 3 rfl) ?_
              obtain ⟨r11, er11, hf⟩ := bd_e hf
              refine gVw_i E hK hP hD hS hA (cX12_bestBladec _ _ er11) kV_X12_bestBlade wd_6_95 rfl rfl (q_model ks ad σ8) rfl rfl rfl ⟨Nat.le_of_ble_eq_true rfl, Nat.le_of_ble_eq_true rfl⟩ ⟨Nat.zero_le _, Nat.zero_le _⟩ hl.1 (Nat.le_of_ble_eq_true rfl) rfl dX12_whoCan_29 (fun H locs hP hD hS => ?_)
              have hJ_41 : ∀ (z12 : Int32) (σ13 : St) (H : Heap) (locs : List Loc) (hP : va_P (dC, dI) vwCl (wG ks ad σ13) H) (hD : va_D A (wG ks ad σ13)) (hS : va_S A s.heap H locs) (hf : fX12_whoCan_J41 x7 (fX12_whoCan_L16 x2 K_16 n_16) z12 σ13 = some out) (ls : Array Slot), lv_has ls 4 [(0, .ref (ad 14 0)), (1, .int z12), (2, .int x2), (3, .int x7)] → W p l e rX12_whoCan s m args below meth c H locs 0 0 (MQ below (va_Qi (fun r σ' => r = out.1 ∧ σ' = out.2) (gBw dC dI ks ad A) A) args s 0 0 A) (F0 m 41 ls []) := by
                intro z12 σ13 H locs hP hD hS hf ls hl
                unfold fX12_whoCan_J41 at hf
                obtain ⟨v14, ev14, hf⟩ := nmv_e hf
                refine lv_iinc (v := v14) (lv' := [(3, .int v14), (0, .ref (ad 14 0)), (1, .int z12), (2, .int x2)]) hx hb dX12_whoCan_41 hl (k := 3) rfl (by rw [ev14]; rfl) (by decide) rfl (fun ls hl => ?_)
                refine lv_goto (tgt := 16) hx hb dX12_whoCan_44 (by decide) ?_
                exact ih_16 _ _ _ _ _ hP hD hS hf _ (lv_sub hl [1, 2, 3, 0] rfl)
              refine lv_if_lt (tgt := 41) hx hb dX12_whoCan_32 (by decide) (fun c15 => ?_) (fun c15 => ?_)
              · replace hf := pos_e c15 hf
                exact hJ_41 _ _ _ _ hP hD hS hf _ (lv_sub hl [0, 1, 2, 3] rfl)
              · replace hf := neg_e c15 hf
                refine lv_iload_n hx hb dX12_whoCan_35 rfl (lv_at hl 1 rfl) ?_
                refine lv_iconst (v := 1) hx hb dX12_whoCan_36 (by decide) ?_
                refine lv_iload_n hx hb dX12_whoCan_37 rfl (lv_at hl 2 rfl) ?_
                refine lv_ishl hx hb dX12_whoCan_38 ?_
                refine lv_ior hx hb dX12_whoCan_39 ?_
                obtain ⟨v16, ev16, hf⟩ := nmv_e hf
                refine lv_nmi ev16 ?_
                refine lv_istore_n (lv' := [(1, .int v16), (0, .ref (ad 14 0)), (2, .int x2), (3, .int x7)]) hx hb dX12_whoCan_40 rfl hl (by decide) rfl (fun ls hl => ?_)
                exact hJ_41 _ _ _ _ hP hD hS hf _ (lv_sub hl [1, 0, 2, 3] rfl)
        refine loop_16 _ (fun y17 σ18 H locs hP hD hS hf ls hl => ?_) _ _ _ _ _ _ hP hD hS hf _ (lv_sub hl [1, 2, 3, 0] rfl)
        obtain ⟨v19, ev19, hf⟩ := nmv_e hf
        refine lv_iinc (v := v19) (lv' := [(2, .int v19), (0, .ref (ad 14 0)), (1, .int y17)]) hx hb dX12_whoCan_47 hl (k := 2) rfl (by rw [ev19]; rfl) (by decide) rfl (fun ls hl => ?_)
        refine lv_goto (tgt := 4) hx hb dX12_whoCan_50 (by decide) ?_
        exact ih_4 _ _ _ _ _ hP hD hS hf _ (lv_sub hl [1, 2, 0] rfl)
  refine loop_4 _ (fun y20 σ21 H locs hP hD hS hf ls hl => ?_) _ _ _ _ _ _ hP hD hS hf _ (lv_sub hl [2, 1, 0] rfl)
  refine lv_iload_n hx hb dX12_whoCan_53 rfl (lv_at hl 0 rfl) ?_
  exact gretw_i E hlk hP hD hS hr dX12_whoCan_54 (som_e hf)
noncomputable def fX12_which (σ : St) (a1 : Int32) (a2 : Int32) : Option (Int32 × St) :=
  bd (fX12_isThumbs σ a1) fun r1 =>
  if r1 = 0 then
  some ((-1), σ)
  else
  bd (fX12_isBlow σ a2) fun r3 =>
  if r3 = 0 then
  some ((-1), σ)
  else
  bd (fX12_bestBlade σ a1 a2) fun r5 =>
  some (r5.1, r5.2)
def rX12_which : Room := { frames := 7, cells := 0, slots := 0, locals := 166 }
set_option maxHeartbeats 4000000 in
set_option maxRecDepth 100000 in
theorem cX12_whichc {l : Launch} {dC : Nat → ClassId} {dI : Nat → Nat → Nat} {ks : Nat → ClassId} {ad : Nat → Nat → Nat} {σ : St} (a1 : Int32) (a2 : Int32)  {out : Int32 × St} (hf : fX12_which σ a1 a2 = some out) : MWi l dC dI ks ad σ yX12_which cX12_which 3 (some .int) rX12_which [.ref (ad 14 0), .int a1, .int a2] out := by
  intro sz
  refine met_w (Qc := fun A => va_Qi (fun r σ' => r = out.1 ∧ σ' = out.2) (gBw dC dI ks ad A) A) (own := RX12) (by decide) rfl (Nat.le_of_ble_eq_true rfl) ?_
  intro A p e s m args below meth c ls E hr hlk hA hP hD hS hK hl
  have hx := E.1
  have hb := E.2.1
  have hl : lv_has ls 3 [(0, .ref (ad 14 0)), (1, .int a1), (2, .int a2)] := hl
  unfold fX12_which at hf
  refine lv_aload_n hx hb dX12_which_0 rfl (lv_at hl 0 rfl) ?_
  refine lv_iload_n hx hb dX12_which_1 rfl (lv_at hl 1 rfl) ?_
  obtain ⟨r1, er1, hf⟩ := bd_e hf
  refine gVr_i E hK hP (cX12_isThumbsc _ er1) kV_X12_isThumbs wd_5_192 rfl rfl (q_model ks ad σ) rfl rfl rfl ⟨Nat.le_of_ble_eq_true rfl, Nat.le_of_ble_eq_true rfl⟩ ⟨Nat.zero_le _, Nat.zero_le _⟩ hl.1 (Nat.le_of_ble_eq_true rfl) rfl dX12_which_2 ?_
  refine lv_if_eq (tgt := 25) hx hb dX12_which_5 (by decide) (fun c2 => ?_) (fun c2 => ?_)
  · replace hf := pos_e c2 hf
    refine lv_iconst (v := -1) hx hb dX12_which_25 (by decide) ?_
    exact gretw_i E hlk hP hD hS hr dX12_which_26 (som_e hf)
  · replace hf := neg_e c2 hf
    refine lv_aload_n hx hb dX12_which_8 rfl (lv_at hl 0 rfl) ?_
    refine lv_iload_n hx hb dX12_which_9 rfl (lv_at hl 2 rfl) ?_
    obtain ⟨r3, er3, hf⟩ := bd_e hf
    refine gVr_i E hK hP (cX12_isBlowc _ er3) kV_X12_isBlow wd_5_196 rfl rfl (q_model ks ad σ) rfl rfl rfl ⟨Nat.le_of_ble_eq_true rfl, Nat.le_of_ble_eq_true rfl⟩ ⟨Nat.zero_le _, Nat.zero_le _⟩ hl.1 (Nat.le_of_ble_eq_true rfl) rfl dX12_which_10 ?_
    refine lv_if_eq (tgt := 25) hx hb dX12_which_13 (by decide) (fun c4 => ?_) (fun c4 => ?_)
    · replace hf := pos_e c4 hf
      refine lv_iconst (v := -1) hx hb dX12_which_25 (by decide) ?_
      exact gretw_i E hlk hP hD hS hr dX12_which_26 (som_e hf)
    · replace hf := neg_e c4 hf
      refine lv_aload_n hx hb dX12_which_16 rfl (lv_at hl 0 rfl) ?_
      refine lv_iload_n hx hb dX12_which_17 rfl (lv_at hl 1 rfl) ?_
      refine lv_iload_n hx hb dX12_which_18 rfl (lv_at hl 2 rfl) ?_
      obtain ⟨r5, er5, hf⟩ := bd_e hf
      refine gVw_i E hK hP hD hS hA (cX12_bestBladec _ _ er5) kV_X12_bestBlade wd_6_95 rfl rfl (q_model ks ad σ) rfl rfl rfl ⟨Nat.le_of_ble_eq_true rfl, Nat.le_of_ble_eq_true rfl⟩ ⟨Nat.zero_le _, Nat.zero_le _⟩ hl.1 (Nat.le_of_ble_eq_true rfl) rfl dX12_which_19 (fun H locs hP hD hS => ?_)
      refine lv_goto (tgt := 26) hx hb dX12_which_22 (by decide) ?_
      exact gretw_i E hlk hP hD hS hr dX12_which_26 (som_e hf)
noncomputable def fX12_wrong_J96 (σ : St) (a2 : Int32) (a3 : Int32) (a5 : Int32) (v10 : Int32) (z12 : Int32) : Option (Int32) :=
  nmv (v10 ||| z12) fun v13 =>
  bd (fX12_hardest σ a2 a3) fun r14 =>
  if a5 ≤ r14 then
  some (v13 ||| (0 : Int32))
  else
  some (v13 ||| (16 : Int32))
noncomputable def fX12_wrong_J74 (σ : St) (a2 : Int32) (a3 : Int32) (a5 : Int32) (v7 : Int32) (z9 : Int32) : Option (Int32) :=
  nmv (v7 ||| z9) fun v10 =>
  bd (fX12_softest σ a2 a3) fun r11 =>
  if r11 ≤ a5 then
  fX12_wrong_J96 σ a2 a3 a5 v10 0
  else
  fX12_wrong_J96 σ a2 a3 a5 v10 8
noncomputable def fX12_wrong_J54 (σ : St) (a2 : Int32) (a3 : Int32) (a4 : Int32) (a5 : Int32) (z4 : Int32) (z6 : Int32) : Option (Int32) :=
  nmv (z4 ||| z6) fun v7 =>
  bd (fX12_gripOf σ a2) fun r8 =>
  if a4 ≤ r8 then
  fX12_wrong_J74 σ a2 a3 a5 v7 0
  else
  fX12_wrong_J74 σ a2 a3 a5 v7 4
noncomputable def fX12_wrong_J33 (σ : St) (a1 : Int32) (a2 : Int32) (a3 : Int32) (a4 : Int32) (a5 : Int32) (z4 : Int32) : Option (Int32) :=
  bd (fX12_high σ a1 a2 a3) fun r5 =>
  if a4 ≤ r5 then
  fX12_wrong_J54 σ a2 a3 a4 a5 z4 0
  else
  fX12_wrong_J54 σ a2 a3 a4 a5 z4 2
noncomputable def fX12_wrong (σ : St) (a1 : Int32) (a2 : Int32) (a3 : Int32) (a4 : Int32) (a5 : Int32) : Option (Int32) :=
  bd (fX12_isTold σ a1 a2 a3 a4 a5) fun r1 =>
  if r1 = 0 then
  some (-1)
  else
  bd (fX12_low σ a1 a2 a3) fun r3 =>
  if r3 ≤ a4 then
  fX12_wrong_J33 σ a1 a2 a3 a4 a5 0
  else
  fX12_wrong_J33 σ a1 a2 a3 a4 a5 1
def rX12_wrong : Room := { frames := 4, cells := 0, slots := 0, locals := 91 }
set_option maxHeartbeats 4000000 in
set_option maxRecDepth 100000 in
theorem cX12_wrongc {l : Launch} {dC : Nat → ClassId} {dI : Nat → Nat → Nat} {ks : Nat → ClassId} {ad : Nat → Nat → Nat} {σ : St} (a1 : Int32) (a2 : Int32) (a3 : Int32) (a4 : Int32) (a5 : Int32)  {out : Int32} (hf : fX12_wrong σ a1 a2 a3 a4 a5 = some out) : MRi l dC dI ks ad σ yX12_wrong cX12_wrong 7 (some .int) rX12_wrong [.ref (ad 14 0), .int a1, .int a2, .int a3, .int a4, .int a5] out := by
  refine met_r (own := RX12) (by decide) rfl (Nat.le_of_ble_eq_true rfl) ?_
  intro p e s m args below meth c ls E hr hlk hP hK hl
  have hx := E.1
  have hb := E.2.1
  have hl : lv_has ls 7 [(0, .ref (ad 14 0)), (1, .int a1), (2, .int a2), (3, .int a3), (4, .int a4), (5, .int a5)] := hl
  unfold fX12_wrong at hf
  refine lv_aload_n hx hb dX12_wrong_0 rfl (lv_at hl 0 rfl) ?_
  refine lv_iload_n hx hb dX12_wrong_1 rfl (lv_at hl 1 rfl) ?_
  refine lv_iload_n hx hb dX12_wrong_2 rfl (lv_at hl 2 rfl) ?_
  refine lv_iload_n hx hb dX12_wrong_3 rfl (lv_at hl 3 rfl) ?_
  refine lv_iload hx hb dX12_wrong_4 (lv_at hl 4 rfl) ?_
  refine lv_iload hx hb dX12_wrong_6 (lv_at hl 5 rfl) ?_
  obtain ⟨r1, er1, hf⟩ := bd_e hf
  refine gVr_i E hK hP (cX12_isToldc _ _ _ _ _ er1) kV_X12_isTold wd_6_50 rfl rfl (q_model ks ad σ) rfl rfl rfl ⟨Nat.le_of_ble_eq_true rfl, Nat.le_of_ble_eq_true rfl⟩ ⟨Nat.zero_le _, Nat.zero_le _⟩ hl.1 (Nat.le_of_ble_eq_true rfl) rfl dX12_wrong_8 ?_
  refine lv_if_ne (tgt := 16) hx hb dX12_wrong_11 (by decide) (fun c2 => ?_) (fun c2 => ?_)
  · replace hf := neg_e c2 hf
    refine lv_iload hx hb dX12_wrong_16 (lv_at hl 4 rfl) ?_
    refine lv_aload_n hx hb dX12_wrong_18 rfl (lv_at hl 0 rfl) ?_
    refine lv_iload_n hx hb dX12_wrong_19 rfl (lv_at hl 1 rfl) ?_
    refine lv_iload_n hx hb dX12_wrong_20 rfl (lv_at hl 2 rfl) ?_
    refine lv_iload_n hx hb dX12_wrong_21 rfl (lv_at hl 3 rfl) ?_
    obtain ⟨r3, er3, hf⟩ := bd_e hf
    refine gVr_i E hK hP (cX12_lowc _ _ _ er3) kV_X12_low wd_6_19 rfl rfl (q_model ks ad σ) rfl rfl rfl ⟨Nat.le_of_ble_eq_true rfl, Nat.le_of_ble_eq_true rfl⟩ ⟨Nat.zero_le _, Nat.zero_le _⟩ hl.1 (Nat.le_of_ble_eq_true rfl) rfl dX12_wrong_22 ?_
    have hJ_33 : ∀ (z4 : Int32) (hf : fX12_wrong_J33 σ a1 a2 a3 a4 a5 z4 = some out) (ls : Array Slot), lv_has ls 7 [(0, .ref (ad 14 0)), (1, .int a1), (2, .int a2), (3, .int a3), (4, .int a4), (5, .int a5)] → W p l e rX12_wrong s m args below meth c s.heap [] 0 0 (MQ below (vp_Si (fun r => r = out)) args s 0 0 (fun _ => False)) (F0 m 33 ls [.int z4]) := by
      intro z4 hf ls hl
      unfold fX12_wrong_J33 at hf
      refine lv_istore (lv' := [(6, .int z4), (0, .ref (ad 14 0)), (1, .int a1), (2, .int a2), (3, .int a3), (4, .int a4), (5, .int a5)]) hx hb dX12_wrong_33 hl (by decide) rfl (fun ls hl => ?_)
      refine lv_iload hx hb dX12_wrong_35 (lv_at hl 0 rfl) ?_
      refine lv_iload hx hb dX12_wrong_37 (lv_at hl 5 rfl) ?_
      refine lv_aload_n hx hb dX12_wrong_39 rfl (lv_at hl 1 rfl) ?_
      refine lv_iload_n hx hb dX12_wrong_40 rfl (lv_at hl 2 rfl) ?_
      refine lv_iload_n hx hb dX12_wrong_41 rfl (lv_at hl 3 rfl) ?_
      refine lv_iload_n hx hb dX12_wrong_42 rfl (lv_at hl 4 rfl) ?_
      obtain ⟨r5, er5, hf⟩ := bd_e hf
      refine gVr_i E hK hP (cX12_highc _ _ _ er5) kV_X12_high wd_6_34 rfl rfl (q_model ks ad σ) rfl rfl rfl ⟨Nat.le_of_ble_eq_true rfl, Nat.le_of_ble_eq_true rfl⟩ ⟨Nat.zero_le _, Nat.zero_le _⟩ hl.1 (Nat.le_of_ble_eq_true rfl) rfl dX12_wrong_43 ?_
      have hJ_54 : ∀ (z6 : Int32) (hf : fX12_wrong_J54 σ a2 a3 a4 a5 z4 z6 = some out) (ls : Array Slot), lv_has ls 7 [(0, .ref (ad 14 0)), (2, .int a2), (3, .int a3), (4, .int a4), (5, .int a5)] → W p l e rX12_wrong s m args below meth c s.heap [] 0 0 (MQ below (vp_Si (fun r => r = out)) args s 0 0 (fun _ => False)) (F0 m 54 ls [.int z6, .int z4]) := by
        intro z6 hf ls hl
        unfold fX12_wrong_J54 at hf
        refine lv_ior hx hb dX12_wrong_54 ?_
        obtain ⟨v7, ev7, hf⟩ := nmv_e hf
        refine lv_nmi ev7 ?_
        refine lv_istore (lv' := [(6, .int v7), (0, .ref (ad 14 0)), (2, .int a2), (3, .int a3), (4, .int a4), (5, .int a5)]) hx hb dX12_wrong_55 hl (by decide) rfl (fun ls hl => ?_)
        refine lv_iload hx hb dX12_wrong_57 (lv_at hl 0 rfl) ?_
        refine lv_iload hx hb dX12_wrong_59 (lv_at hl 4 rfl) ?_
        refine lv_aload_n hx hb dX12_wrong_61 rfl (lv_at hl 1 rfl) ?_
        refine lv_iload_n hx hb dX12_wrong_62 rfl (lv_at hl 2 rfl) ?_
        obtain ⟨r8, er8, hf⟩ := bd_e hf
        refine gVr_i E hK hP (cX12_gripOfc _ er8) kV_X12_gripOf wd_6_62 rfl rfl (q_model ks ad σ) rfl rfl rfl ⟨Nat.le_of_ble_eq_true rfl, Nat.le_of_ble_eq_true rfl⟩ ⟨Nat.zero_le _, Nat.zero_le _⟩ hl.1 (Nat.le_of_ble_eq_true rfl) rfl dX12_wrong_63 ?_
        have hJ_74 : ∀ (z9 : Int32) (hf : fX12_wrong_J74 σ a2 a3 a5 v7 z9 = some out) (ls : Array Slot), lv_has ls 7 [(0, .ref (ad 14 0)), (2, .int a2), (3, .int a3), (5, .int a5)] → W p l e rX12_wrong s m args below meth c s.heap [] 0 0 (MQ below (vp_Si (fun r => r = out)) args s 0 0 (fun _ => False)) (F0 m 74 ls [.int z9, .int v7]) := by
          intro z9 hf ls hl
          unfold fX12_wrong_J74 at hf
          refine lv_ior hx hb dX12_wrong_74 ?_
          obtain ⟨v10, ev10, hf⟩ := nmv_e hf
          refine lv_nmi ev10 ?_
          refine lv_istore (lv' := [(6, .int v10), (0, .ref (ad 14 0)), (2, .int a2), (3, .int a3), (5, .int a5)]) hx hb dX12_wrong_75 hl (by decide) rfl (fun ls hl => ?_)
          refine lv_iload hx hb dX12_wrong_77 (lv_at hl 0 rfl) ?_
          refine lv_iload hx hb dX12_wrong_79 (lv_at hl 4 rfl) ?_
          refine lv_aload_n hx hb dX12_wrong_81 rfl (lv_at hl 1 rfl) ?_
          refine lv_iload_n hx hb dX12_wrong_82 rfl (lv_at hl 2 rfl) ?_
          refine lv_iload_n hx hb dX12_wrong_83 rfl (lv_at hl 3 rfl) ?_
          obtain ⟨r11, er11, hf⟩ := bd_e hf
          refine gVr_i E hK hP (cX12_softestc _ _ er11) kV_X12_softest wd_6_38 rfl rfl (q_model ks ad σ) rfl rfl rfl ⟨Nat.le_of_ble_eq_true rfl, Nat.le_of_ble_eq_true rfl⟩ ⟨Nat.zero_le _, Nat.zero_le _⟩ hl.1 (Nat.le_of_ble_eq_true rfl) rfl dX12_wrong_84 ?_
          have hJ_96 : ∀ (z12 : Int32) (hf : fX12_wrong_J96 σ a2 a3 a5 v10 z12 = some out) (ls : Array Slot), lv_has ls 7 [(0, .ref (ad 14 0)), (2, .int a2), (3, .int a3), (5, .int a5)] → W p l e rX12_wrong s m args below meth c s.heap [] 0 0 (MQ below (vp_Si (fun r => r = out)) args s 0 0 (fun _ => False)) (F0 m 96 ls [.int z12, .int v10]) := by
            intro z12 hf ls hl
            unfold fX12_wrong_J96 at hf
            refine lv_ior hx hb dX12_wrong_96 ?_
            obtain ⟨v13, ev13, hf⟩ := nmv_e hf
            refine lv_nmi ev13 ?_
            refine lv_istore (lv' := [(6, .int v13), (0, .ref (ad 14 0)), (2, .int a2), (3, .int a3), (5, .int a5)]) hx hb dX12_wrong_97 hl (by decide) rfl (fun ls hl => ?_)
            refine lv_iload hx hb dX12_wrong_99 (lv_at hl 0 rfl) ?_
            refine lv_iload hx hb dX12_wrong_101 (lv_at hl 4 rfl) ?_
            refine lv_aload_n hx hb dX12_wrong_103 rfl (lv_at hl 1 rfl) ?_
            refine lv_iload_n hx hb dX12_wrong_104 rfl (lv_at hl 2 rfl) ?_
            refine lv_iload_n hx hb dX12_wrong_105 rfl (lv_at hl 3 rfl) ?_
            obtain ⟨r14, er14, hf⟩ := bd_e hf
            refine gVr_i E hK hP (cX12_hardestc _ _ er14) kV_X12_hardest wd_6_42 rfl rfl (q_model ks ad σ) rfl rfl rfl ⟨Nat.le_of_ble_eq_true rfl, Nat.le_of_ble_eq_true rfl⟩ ⟨Nat.zero_le _, Nat.zero_le _⟩ hl.1 (Nat.le_of_ble_eq_true rfl) rfl dX12_wrong_106 ?_
            refine lv_icmp_le (tgt := 117) hx hb dX12_wrong_109 (by decide) (fun c15 => ?_) (fun c15 => ?_)
            · replace hf := pos_e c15 hf
              refine lv_iconst (v := 0) hx hb dX12_wrong_117 (by decide) ?_
              refine lv_ior hx hb dX12_wrong_118 ?_
              exact gret_i E hr hlk dX12_wrong_119 (som_e hf).symm
            · replace hf := neg_e c15 hf
              refine lv_bipush (v := 16) hx hb dX12_wrong_112 (by decide) ?_
              refine lv_goto (tgt := 118) hx hb dX12_wrong_114 (by decide) ?_
              refine lv_ior hx hb dX12_wrong_118 ?_
              exact gret_i E hr hlk dX12_wrong_119 (som_e hf).symm
          refine lv_icmp_ge (tgt := 95) hx hb dX12_wrong_87 (by decide) (fun c16 => ?_) (fun c16 => ?_)
          · replace hf := pos_e c16 hf
            refine lv_iconst (v := 0) hx hb dX12_wrong_95 (by decide) ?_
            exact hJ_96 _ hf _ (lv_sub hl [1, 2, 3, 4] rfl)
          · replace hf := neg_e c16 hf
            refine lv_bipush (v := 8) hx hb dX12_wrong_90 (by decide) ?_
            refine lv_goto (tgt := 96) hx hb dX12_wrong_92 (by decide) ?_
            exact hJ_96 _ hf _ (lv_sub hl [1, 2, 3, 4] rfl)
        refine lv_icmp_le (tgt := 73) hx hb dX12_wrong_66 (by decide) (fun c17 => ?_) (fun c17 => ?_)
        · replace hf := pos_e c17 hf
          refine lv_iconst (v := 0) hx hb dX12_wrong_73 (by decide) ?_
          exact hJ_74 _ hf _ (lv_sub hl [1, 2, 3, 5] rfl)
        · replace hf := neg_e c17 hf
          refine lv_iconst (v := 4) hx hb dX12_wrong_69 (by decide) ?_
          refine lv_goto (tgt := 74) hx hb dX12_wrong_70 (by decide) ?_
          exact hJ_74 _ hf _ (lv_sub hl [1, 2, 3, 5] rfl)
      refine lv_icmp_le (tgt := 53) hx hb dX12_wrong_46 (by decide) (fun c18 => ?_) (fun c18 => ?_)
      · replace hf := pos_e c18 hf
        refine lv_iconst (v := 0) hx hb dX12_wrong_53 (by decide) ?_
        exact hJ_54 _ hf _ (lv_sub hl [1, 3, 4, 5, 6] rfl)
      · replace hf := neg_e c18 hf
        refine lv_iconst (v := 2) hx hb dX12_wrong_49 (by decide) ?_
        refine lv_goto (tgt := 54) hx hb dX12_wrong_50 (by decide) ?_
        exact hJ_54 _ hf _ (lv_sub hl [1, 3, 4, 5, 6] rfl)
    refine lv_icmp_ge (tgt := 32) hx hb dX12_wrong_25 (by decide) (fun c19 => ?_) (fun c19 => ?_)
    · replace hf := pos_e c19 hf
      refine lv_iconst (v := 0) hx hb dX12_wrong_32 (by decide) ?_
      exact hJ_33 _ hf _ (lv_sub hl [0, 1, 2, 3, 4, 5] rfl)
    · replace hf := neg_e c19 hf
      refine lv_iconst (v := 1) hx hb dX12_wrong_28 (by decide) ?_
      refine lv_goto (tgt := 33) hx hb dX12_wrong_29 (by decide) ?_
      exact hJ_33 _ hf _ (lv_sub hl [0, 1, 2, 3, 4, 5] rfl)
  · replace hf := pos_e c2 hf
    refine lv_iconst (v := -1) hx hb dX12_wrong_14 (by decide) ?_
    exact gret_i E hr hlk dX12_wrong_15 (som_e hf).symm
noncomputable def fX12_next_J141 (x14 : Int32) (rec_68 : Int32 → Int32 → Int32 → Option (Int32)) (z17 : Int32) (z18 : Int32) : Option (Int32) :=
  nmv (x14 + 1) fun v19 =>
  rec_68 z17 z18 v19
noncomputable def fX12_next_L68B (σ : St) (a1 : Int32) (a2 : Int32) (a3 : Int32) (a4 : Int32) (x10 : Int32) (K_68 : Int32 → Int32 → Option (Int32)) (rec_68 : Int32 → Int32 → Int32 → Option (Int32)) (x12 : Int32) (x13 : Int32) (x14 : Int32) : Option (Int32) :=
  if 60 < x14 then
  K_68 x12 x13
  else
  bd (fX12_isSound σ a1 a2 a3 x10 x14) fun r16 =>
  if r16 = 0 then
  fX12_next_J141 x14 rec_68 x12 x13
  else
  bd (fX12_size σ (x10 - (a4 / 100))) fun r21 =>
  bd (fX12_size σ (x14 - (a4 - a4 / 100 * 100))) fun r22 =>
  nmv (r21 + r22) fun v23 =>
  if v23 < x13 then
  nmv ((100 * x10) + x14) fun v25 =>
  fX12_next_J141 x14 rec_68 v25 v23
  else
  fX12_next_J141 x14 rec_68 x12 x13
noncomputable def fX12_next_L68 (σ : St) (a1 : Int32) (a2 : Int32) (a3 : Int32) (a4 : Int32) (x10 : Int32) (K_68 : Int32 → Int32 → Option (Int32)) : Nat → Int32 → Int32 → Int32 → Option (Int32)
  | 0 => fun _ _ _ => none
  | n + 1 => fX12_next_L68B σ a1 a2 a3 a4 x10 K_68 (fX12_next_L68 σ a1 a2 a3 a4 x10 K_68 n)
noncomputable def fX12_next_L58B (σ : St) (a1 : Int32) (a2 : Int32) (a3 : Int32) (a4 : Int32) (K_58 : Int32 → Int32 → Option (Int32)) (rec_58 : Int32 → Int32 → Int32 → Option (Int32)) (x8 : Int32) (x9 : Int32) (x10 : Int32) : Option (Int32) :=
  if 60 < x10 then
  K_58 x8 x9
  else
  fX12_next_L68 σ a1 a2 a3 a4 x10 (fun y26 y27 => nmv (x10 + 1) fun v28 =>
  rec_58 y26 y27 v28) FU x8 x9 0
noncomputable def fX12_next_L58 (σ : St) (a1 : Int32) (a2 : Int32) (a3 : Int32) (a4 : Int32) (K_58 : Int32 → Int32 → Option (Int32)) : Nat → Int32 → Int32 → Int32 → Option (Int32)
  | 0 => fun _ _ _ => none
  | n + 1 => fX12_next_L58B σ a1 a2 a3 a4 K_58 (fX12_next_L58 σ a1 a2 a3 a4 K_58 n)
noncomputable def fX12_next (σ : St) (a1 : Int32) (a2 : Int32) (a3 : Int32) (a4 : Int32) (a5 : Int32) : Option (Int32) :=
  bd (fX12_areAll σ a1 a2 a3) fun r1 =>
  if r1 = 0 then
  some (-1)
  else
  if a4 < 0 then
  some (-1)
  else
  if 60 < (a4 / 100) then
  some (-1)
  else
  if 60 < (a4 - a4 / 100 * 100) then
  some (-1)
  else
  bd (fX12_isIn σ a5 0 1) fun r6 =>
  if r6 = 0 then
  some (-1)
  else
  fX12_next_L58 σ a1 a2 a3 a4 (fun y29 y30 => if y29 < 0 then
  some y29
  else
  if a5 = 0 then
  some y29
  else
  some y30) FU (-4) 1000000000 0
def rX12_next : Room := { frames := 6, cells := 0, slots := 0, locals := 140 }
set_option maxHeartbeats 4000000 in
set_option maxRecDepth 100000 in
theorem cX12_nextc {l : Launch} {dC : Nat → ClassId} {dI : Nat → Nat → Nat} {ks : Nat → ClassId} {ad : Nat → Nat → Nat} {σ : St} (a1 : Int32) (a2 : Int32) (a3 : Int32) (a4 : Int32) (a5 : Int32)  {out : Int32} (hf : fX12_next σ a1 a2 a3 a4 a5 = some out) : MRi l dC dI ks ad σ yX12_next cX12_next 11 (some .int) rX12_next [.ref (ad 14 0), .int a1, .int a2, .int a3, .int a4, .int a5] out := by
  refine met_r (own := RX12) (by decide) rfl (Nat.le_of_ble_eq_true rfl) ?_
  intro p e s m args below meth c ls E hr hlk hP hK hl
  have hx := E.1
  have hb := E.2.1
  have hl : lv_has ls 11 [(0, .ref (ad 14 0)), (1, .int a1), (2, .int a2), (3, .int a3), (4, .int a4), (5, .int a5)] := hl
  unfold fX12_next at hf
  refine lv_aload_n hx hb dX12_next_0 rfl (lv_at hl 0 rfl) ?_
  refine lv_iload_n hx hb dX12_next_1 rfl (lv_at hl 1 rfl) ?_
  refine lv_iload_n hx hb dX12_next_2 rfl (lv_at hl 2 rfl) ?_
  refine lv_iload_n hx hb dX12_next_3 rfl (lv_at hl 3 rfl) ?_
  obtain ⟨r1, er1, hf⟩ := bd_e hf
  refine gVr_i E hK hP (cX12_areAllc _ _ _ er1) kV_X12_areAll wd_5_184 rfl rfl (q_model ks ad σ) rfl rfl rfl ⟨Nat.le_of_ble_eq_true rfl, Nat.le_of_ble_eq_true rfl⟩ ⟨Nat.zero_le _, Nat.zero_le _⟩ hl.1 (Nat.le_of_ble_eq_true rfl) rfl dX12_next_4 ?_
  refine lv_if_eq (tgt := 45) hx hb dX12_next_7 (by decide) (fun c2 => ?_) (fun c2 => ?_)
  · replace hf := pos_e c2 hf
    refine lv_iconst (v := -1) hx hb dX12_next_45 (by decide) ?_
    exact gret_i E hr hlk dX12_next_46 (som_e hf).symm
  · replace hf := neg_e c2 hf
    refine lv_iload hx hb dX12_next_10 (lv_at hl 4 rfl) ?_
    refine lv_if_lt (tgt := 45) hx hb dX12_next_12 (by decide) (fun c3 => ?_) (fun c3 => ?_)
    · replace hf := pos_e c3 hf
      refine lv_iconst (v := -1) hx hb dX12_next_45 (by decide) ?_
      exact gret_i E hr hlk dX12_next_46 (som_e hf).symm
    · replace hf := neg_e c3 hf
      refine lv_iload hx hb dX12_next_15 (lv_at hl 4 rfl) ?_
      refine lv_bipush (v := 100) hx hb dX12_next_17 (by decide) ?_
      refine lv_idiv hx hb dX12_next_19 (by decide) ?_
      refine lv_bipush (v := 60) hx hb dX12_next_20 (by decide) ?_
      refine lv_icmp_gt (tgt := 45) hx hb dX12_next_22 (by decide) (fun c4 => ?_) (fun c4 => ?_)
      · replace hf := pos_e c4 hf
        refine lv_iconst (v := -1) hx hb dX12_next_45 (by decide) ?_
        exact gret_i E hr hlk dX12_next_46 (som_e hf).symm
      · replace hf := neg_e c4 hf
        refine lv_iload hx hb dX12_next_25 (lv_at hl 4 rfl) ?_
        refine lv_bipush (v := 100) hx hb dX12_next_27 (by decide) ?_
        refine lv_irem hx hb dX12_next_29 (by decide) ?_
        refine lv_bipush (v := 60) hx hb dX12_next_30 (by decide) ?_
        refine lv_icmp_gt (tgt := 45) hx hb dX12_next_32 (by decide) (fun c5 => ?_) (fun c5 => ?_)
        · replace hf := pos_e c5 hf
          refine lv_iconst (v := -1) hx hb dX12_next_45 (by decide) ?_
          exact gret_i E hr hlk dX12_next_46 (som_e hf).symm
        · replace hf := neg_e c5 hf
          refine lv_iload hx hb dX12_next_35 (lv_at hl 5 rfl) ?_
          refine lv_iconst (v := 0) hx hb dX12_next_37 (by decide) ?_
          refine lv_iconst (v := 1) hx hb dX12_next_38 (by decide) ?_
          obtain ⟨r6, er6, hf⟩ := bd_e hf
          refine gSr_i E hK hP (cX12_isInc _ _ _ er6) kS_X12_isIn wd_5_138 rfl rfl rfl ⟨Nat.le_of_ble_eq_true rfl, Nat.le_of_ble_eq_true rfl⟩ ⟨Nat.zero_le _, Nat.zero_le _⟩ hl.1 (Nat.le_of_ble_eq_true rfl) rfl dX12_next_39 ?_
          refine lv_if_ne (tgt := 47) hx hb dX12_next_42 (by decide) (fun c7 => ?_) (fun c7 => ?_)
          · replace hf := neg_e c7 hf
            refine lv_bipush (v := -4) hx hb dX12_next_47 (by decide) ?_
            refine lv_istore (lv' := [(6, .int (-4)), (0, .ref (ad 14 0)), (1, .int a1), (2, .int a2), (3, .int a3), (4, .int a4), (5, .int a5)]) hx hb dX12_next_49 hl (by decide) rfl (fun ls hl => ?_)
            refine lv_ldc (v := 1000000000) hx hb E.2.2.2.1 (E.2.2.2.2 _ wd_6_111) dX12_next_51 ?_
            refine lv_istore (lv' := [(7, .int 1000000000), (6, .int (-4)), (0, .ref (ad 14 0)), (1, .int a1), (2, .int a2), (3, .int a3), (4, .int a4), (5, .int a5)]) hx hb dX12_next_53 hl (by decide) rfl (fun ls hl => ?_)
            refine lv_iconst (v := 0) hx hb dX12_next_55 (by decide) ?_
            refine lv_istore (lv' := [(8, .int 0), (7, .int 1000000000), (6, .int (-4)), (0, .ref (ad 14 0)), (1, .int a1), (2, .int a2), (3, .int a3), (4, .int a4), (5, .int a5)]) hx hb dX12_next_56 hl (by decide) rfl (fun ls hl => ?_)
            have loop_58 : ∀ (K_58 : Int32 → Int32 → Option (Int32)) (hK_58 : (∀ (y29 : Int32) (y30 : Int32) (hf : K_58 y29 y30 = some out) (ls : Array Slot), lv_has ls 11 [(5, .int a5), (6, .int y29), (7, .int y30)] → W p l e rX12_next s m args below meth c s.heap [] 0 0 (MQ below (vp_Si (fun r => r = out)) args s 0 0 (fun _ => False)) (F0 m 153 ls []))) (n_58 : Nat) (x8 : Int32) (x9 : Int32) (x10 : Int32) (hf : fX12_next_L58 σ a1 a2 a3 a4 K_58 n_58 x8 x9 x10 = some out) (ls : Array Slot), lv_has ls 11 [(0, .ref (ad 14 0)), (1, .int a1), (2, .int a2), (3, .int a3), (4, .int a4), (5, .int a5), (6, .int x8), (7, .int x9), (8, .int x10)] → W p l e rX12_next s m args below meth c s.heap [] 0 0 (MQ below (vp_Si (fun r => r = out)) args s 0 0 (fun _ => False)) (F0 m 58 ls []) := by
              intro K_58 hK_58 n_58
              induction n_58 with
              | zero => intro x8 x9 x10 hf; cases hf
              | succ n_58 ih_58 =>
                intro x8 x9 x10 hf ls hl
                have hf : fX12_next_L58B σ a1 a2 a3 a4 K_58 (fX12_next_L58 σ a1 a2 a3 a4 K_58 n_58) x8 x9 x10 = some out := hf
                unfold fX12_next_L58B at hf
                refine lv_iload hx hb dX12_next_58 (lv_at hl 8 rfl) ?_
                refine lv_bipush (v := 60) hx hb dX12_next_60 (by decide) ?_
                refine lv_icmp_gt (tgt := 153) hx hb dX12_next_62 (by decide) (fun c11 => ?_) (fun c11 => ?_)
                · replace hf := pos_e c11 hf
                  exact hK_58 _ _ hf _ (lv_sub hl [5, 6, 7] rfl)
                · replace hf := neg_e c11 hf
                  refine lv_iconst (v := 0) hx hb dX12_next_65 (by decide) ?_
                  refine lv_istore (lv' := [(9, .int 0), (0, .ref (ad 14 0)), (1, .int a1), (2, .int a2), (3, .int a3), (4, .int a4), (5, .int a5), (6, .int x8), (7, .int x9), (8, .int x10)]) hx hb dX12_next_66 hl (by decide) rfl (fun ls hl => ?_)
                  have loop_68 : ∀ (K_68 : Int32 → Int32 → Option (Int32)) (hK_68 : (∀ (y26 : Int32) (y27 : Int32) (hf : K_68 y26 y27 = some out) (ls : Array Slot), lv_has ls 11 [(0, .ref (ad 14 0)), (1, .int a1), (2, .int a2), (3, .int a3), (4, .int a4), (5, .int a5), (6, .int y26), (7, .int y27), (8, .int x10)] → W p l e rX12_next s m args below meth c s.heap [] 0 0 (MQ below (vp_Si (fun r => r = out)) args s 0 0 (fun _ => False)) (F0 m 147 ls []))) (n_68 : Nat) (x12 : Int32) (x13 : Int32) (x14 : Int32) (hf : fX12_next_L68 σ a1 a2 a3 a4 x10 K_68 n_68 x12 x13 x14 = some out) (ls : Array Slot), lv_has ls 11 [(0, .ref (ad 14 0)), (1, .int a1), (2, .int a2), (3, .int a3), (4, .int a4), (5, .int a5), (6, .int x12), (7, .int x13), (8, .int x10), (9, .int x14)] → W p l e rX12_next s m args below meth c s.heap [] 0 0 (MQ below (vp_Si (fun r => r = out)) args s 0 0 (fun _ => False)) (F0 m 68 ls []) := by
                    intro K_68 hK_68 n_68
                    induction n_68 with
                    | zero => intro x12 x13 x14 hf; cases hf
                    | succ n_68 ih_68 =>
                      intro x12 x13 x14 hf ls hl
                      have hf : fX12_next_L68B σ a1 a2 a3 a4 x10 K_68 (fX12_next_L68 σ a1 a2 a3 a4 x10 K_68 n_68) x12 x13 x14 = some out := hf
                      unfold fX12_next_L68B at hf
                      refine lv_iload hx hb dX12_next_68 (lv_at hl 9 rfl) ?_
                      refine lv_bipush (v := 60) hx hb dX12_next_70 (by decide) ?_
                      refine lv_icmp_gt (tgt := 147) hx hb dX12_next_72 (by decide) (fun c15 => ?_) (fun c15 => ?_)
                      · replace hf := pos_e c15 hf
                        exact hK_68 _ _ hf _ (lv_sub hl [0, 1, 2, 3, 4, 5, 6, 7, 8] rfl)
                      · replace hf := neg_e c15 hf
                        refine lv_aload_n hx hb dX12_next_75 rfl (lv_at hl 0 rfl) ?_
                        refine lv_iload_n hx hb dX12_next_76 rfl (lv_at hl 1 rfl) ?_
                        refine lv_iload_n hx hb dX12_next_77 rfl (lv_at hl 2 rfl) ?_
                        refine lv_iload_n hx hb dX12_next_78 rfl (lv_at hl 3 rfl) ?_
                        refine lv_iload hx hb dX12_next_79 (lv_at hl 8 rfl) ?_
                        refine lv_iload hx hb dX12_next_81 (lv_at hl 9 rfl) ?_
                        obtain ⟨r16, er16, hf⟩ := bd_e hf
                        refine gVr_i E hK hP (cX12_isSoundc _ _ _ _ _ er16) kV_X12_isSound wd_6_54 rfl rfl (q_model ks ad σ) rfl rfl rfl ⟨Nat.le_of_ble_eq_true rfl, Nat.le_of_ble_eq_true rfl⟩ ⟨Nat.zero_le _, Nat.zero_le _⟩ hl.1 (Nat.le_of_ble_eq_true rfl) rfl dX12_next_83 ?_
                        have hJ_141 : ∀ (z17 : Int32) (z18 : Int32) (hf : fX12_next_J141 x14 (fX12_next_L68 σ a1 a2 a3 a4 x10 K_68 n_68) z17 z18 = some out) (ls : Array Slot), lv_has ls 11 [(0, .ref (ad 14 0)), (1, .int a1), (2, .int a2), (3, .int a3), (4, .int a4), (5, .int a5), (6, .int z17), (7, .int z18), (8, .int x10), (9, .int x14)] → W p l e rX12_next s m args below meth c s.heap [] 0 0 (MQ below (vp_Si (fun r => r = out)) args s 0 0 (fun _ => False)) (F0 m 141 ls []) := by
                          intro z17 z18 hf ls hl
                          unfold fX12_next_J141 at hf
                          obtain ⟨v19, ev19, hf⟩ := nmv_e hf
                          refine lv_iinc (v := v19) (lv' := [(9, .int v19), (0, .ref (ad 14 0)), (1, .int a1), (2, .int a2), (3, .int a3), (4, .int a4), (5, .int a5), (6, .int z17), (7, .int z18), (8, .int x10)]) hx hb dX12_next_141 hl (k := 9) rfl (by rw [ev19]; rfl) (by decide) rfl (fun ls hl => ?_)
                          refine lv_goto (tgt := 68) hx hb dX12_next_144 (by decide) ?_
                          exact ih_68 _ _ _ hf _ (lv_sub hl [1, 2, 3, 4, 5, 6, 7, 8, 9, 0] rfl)
                        refine lv_if_ne (tgt := 92) hx hb dX12_next_86 (by decide) (fun c20 => ?_) (fun c20 => ?_)
                        · replace hf := neg_e c20 hf
                          refine lv_iload hx hb dX12_next_92 (lv_at hl 8 rfl) ?_
                          refine lv_iload hx hb dX12_next_94 (lv_at hl 4 rfl) ?_
                          refine lv_bipush (v := 100) hx hb dX12_next_96 (by decide) ?_
                          refine lv_idiv hx hb dX12_next_98 (by decide) ?_
                          refine lv_isub hx hb dX12_next_99 ?_
                          obtain ⟨r21, er21, hf⟩ := bd_e hf
                          refine gSr_i E hK hP (cX12_sizec _ er21) kS_X12_size wd_6_112 rfl rfl rfl ⟨Nat.le_of_ble_eq_true rfl, Nat.le_of_ble_eq_true rfl⟩ ⟨Nat.zero_le _, Nat.zero_le _⟩ hl.1 (Nat.le_of_ble_eq_true rfl) rfl dX12_next_100 ?_
                          refine lv_iload hx hb dX12_next_103 (lv_at hl 9 rfl) ?_
                          refine lv_iload hx hb dX12_next_105 (lv_at hl 4 rfl) ?_
                          refine lv_bipush (v := 100) hx hb dX12_next_107 (by decide) ?_
                          refine lv_irem hx hb dX12_next_109 (by decide) ?_
                          refine lv_isub hx hb dX12_next_110 ?_
                          obtain ⟨r22, er22, hf⟩ := bd_e hf
                          refine gSr_i E hK hP (cX12_sizec _ er22) kS_X12_size wd_6_112 rfl rfl rfl ⟨Nat.le_of_ble_eq_true rfl, Nat.le_of_ble_eq_true rfl⟩ ⟨Nat.zero_le _, Nat.zero_le _⟩ hl.1 (Nat.le_of_ble_eq_true rfl) rfl dX12_next_111 ?_
                          refine lv_iadd hx hb dX12_next_114 ?_
                          obtain ⟨v23, ev23, hf⟩ := nmv_e hf
                          refine lv_nmi ev23 ?_
                          refine lv_istore (lv' := [(10, .int v23), (0, .ref (ad 14 0)), (1, .int a1), (2, .int a2), (3, .int a3), (4, .int a4), (5, .int a5), (6, .int x12), (7, .int x13), (8, .int x10), (9, .int x14)]) hx hb dX12_next_115 hl (by decide) rfl (fun ls hl => ?_)
                          refine lv_iload hx hb dX12_next_117 (lv_at hl 0 rfl) ?_
                          refine lv_iload hx hb dX12_next_119 (lv_at hl 8 rfl) ?_
                          refine lv_icmp_lt (tgt := 127) hx hb dX12_next_121 (by decide) (fun c24 => ?_) (fun c24 => ?_)
                          · replace hf := pos_e c24 hf
                            refine lv_bipush (v := 100) hx hb dX12_next_127 (by decide) ?_
                            refine lv_iload hx hb dX12_next_129 (lv_at hl 9 rfl) ?_
                            refine lv_imul hx hb dX12_next_131 ?_
                            refine lv_iload hx hb dX12_next_132 (lv_at hl 10 rfl) ?_
                            refine lv_iadd hx hb dX12_next_134 ?_
                            obtain ⟨v25, ev25, hf⟩ := nmv_e hf
                            refine lv_nmi ev25 ?_
                            refine lv_istore (lv' := [(6, .int v25), (10, .int v23), (0, .ref (ad 14 0)), (1, .int a1), (2, .int a2), (3, .int a3), (4, .int a4), (5, .int a5), (7, .int x13), (8, .int x10), (9, .int x14)]) hx hb dX12_next_135 hl (by decide) rfl (fun ls hl => ?_)
                            refine lv_iload hx hb dX12_next_137 (lv_at hl 1 rfl) ?_
                            refine lv_istore (lv' := [(7, .int v23), (6, .int v25), (10, .int v23), (0, .ref (ad 14 0)), (1, .int a1), (2, .int a2), (3, .int a3), (4, .int a4), (5, .int a5), (8, .int x10), (9, .int x14)]) hx hb dX12_next_139 hl (by decide) rfl (fun ls hl => ?_)
                            exact hJ_141 _ _ hf _ (lv_sub hl [3, 4, 5, 6, 7, 8, 1, 0, 9, 10] rfl)
                          · replace hf := neg_e c24 hf
                            refine lv_goto (tgt := 141) hx hb dX12_next_124 (by decide) ?_
                            exact hJ_141 _ _ hf _ (lv_sub hl [1, 2, 3, 4, 5, 6, 7, 8, 9, 10] rfl)
                        · replace hf := pos_e c20 hf
                          refine lv_goto (tgt := 141) hx hb dX12_next_89 (by decide) ?_
                          exact hJ_141 _ _ hf _ (lv_sub hl [0, 1, 2, 3, 4, 5, 6, 7, 8, 9] rfl)
                  refine loop_68 _ (fun y26 y27 hf ls hl => ?_) _ _ _ _ hf _ (lv_sub hl [1, 2, 3, 4, 5, 6, 7, 8, 9, 0] rfl)
                  obtain ⟨v28, ev28, hf⟩ := nmv_e hf
                  refine lv_iinc (v := v28) (lv' := [(8, .int v28), (0, .ref (ad 14 0)), (1, .int a1), (2, .int a2), (3, .int a3), (4, .int a4), (5, .int a5), (6, .int y26), (7, .int y27)]) hx hb dX12_next_147 hl (k := 8) rfl (by rw [ev28]; rfl) (by decide) rfl (fun ls hl => ?_)
                  refine lv_goto (tgt := 58) hx hb dX12_next_150 (by decide) ?_
                  exact ih_58 _ _ _ hf _ (lv_sub hl [1, 2, 3, 4, 5, 6, 7, 8, 0] rfl)
            refine loop_58 _ (fun y29 y30 hf ls hl => ?_) _ _ _ _ hf _ (lv_sub hl [3, 4, 5, 6, 7, 8, 2, 1, 0] rfl)
            refine lv_iload hx hb dX12_next_153 (lv_at hl 1 rfl) ?_
            refine lv_if_lt (tgt := 163) hx hb dX12_next_155 (by decide) (fun c31 => ?_) (fun c31 => ?_)
            · replace hf := pos_e c31 hf
              refine lv_iload hx hb dX12_next_163 (lv_at hl 1 rfl) ?_
              refine lv_goto (tgt := 170) hx hb dX12_next_165 (by decide) ?_
              exact gret_i E hr hlk dX12_next_170 (som_e hf).symm
            · replace hf := neg_e c31 hf
              refine lv_iload hx hb dX12_next_158 (lv_at hl 0 rfl) ?_
              refine lv_if_ne (tgt := 168) hx hb dX12_next_160 (by decide) (fun c32 => ?_) (fun c32 => ?_)
              · replace hf := neg_e c32 hf
                refine lv_iload hx hb dX12_next_168 (lv_at hl 2 rfl) ?_
                exact gret_i E hr hlk dX12_next_170 (som_e hf).symm
              · replace hf := pos_e c32 hf
                refine lv_iload hx hb dX12_next_163 (lv_at hl 1 rfl) ?_
                refine lv_goto (tgt := 170) hx hb dX12_next_165 (by decide) ?_
                exact gret_i E hr hlk dX12_next_170 (som_e hf).symm
          · replace hf := pos_e c7 hf
            refine lv_iconst (v := -1) hx hb dX12_next_45 (by decide) ?_
            exact gret_i E hr hlk dX12_next_46 (som_e hf).symm
noncomputable def fX12_halves_J83 (x5 : Int32) (rec_22 : Int32 → Int32 → Int32 → Option (Int32)) (z9 : Int32) (z10 : Int32) : Option (Int32) :=
  nmv (x5 + 1) fun v11 =>
  rec_22 z9 z10 v11
noncomputable def fX12_halves_L22B (σ : St) (a1 : Int32) (a2 : Int32) (a3 : Int32) (K_22 : Option (Int32)) (rec_22 : Int32 → Int32 → Int32 → Option (Int32)) (x3 : Int32) (x4 : Int32) (x5 : Int32) : Option (Int32) :=
  if x4 < x3 then
  K_22
  else
  nmv ((x3 + x4) / 2) fun v7 =>
  bd (fX12_low σ a1 a2 a3) fun r8 =>
  if r8 ≤ v7 then
  bd (fX12_high σ a1 a2 a3) fun r13 =>
  if v7 ≤ r13 then
  some x5
  else
  nmv (v7 - 1) fun v15 =>
  fX12_halves_J83 x5 rec_22 x3 v15
  else
  nmv (v7 + 1) fun v16 =>
  fX12_halves_J83 x5 rec_22 v16 x4
noncomputable def fX12_halves_L22 (σ : St) (a1 : Int32) (a2 : Int32) (a3 : Int32) (K_22 : Option (Int32)) : Nat → Int32 → Int32 → Int32 → Option (Int32)
  | 0 => fun _ _ _ => none
  | n + 1 => fX12_halves_L22B σ a1 a2 a3 K_22 (fX12_halves_L22 σ a1 a2 a3 K_22 n)
noncomputable def fX12_halves (σ : St) (a1 : Int32) (a2 : Int32) (a3 : Int32) : Option (Int32) :=
  bd (fX12_areAll σ a1 a2 a3) fun r1 =>
  if r1 = 0 then
  some (-1)
  else
  fX12_halves_L22 σ a1 a2 a3 (some (-4)) FU 0 60 1
def rX12_halves : Room := { frames := 4, cells := 0, slots := 0, locals := 91 }
set_option maxHeartbeats 4000000 in
set_option maxRecDepth 100000 in
theorem cX12_halvesc {l : Launch} {dC : Nat → ClassId} {dI : Nat → Nat → Nat} {ks : Nat → ClassId} {ad : Nat → Nat → Nat} {σ : St} (a1 : Int32) (a2 : Int32) (a3 : Int32)  {out : Int32} (hf : fX12_halves σ a1 a2 a3 = some out) : MRi l dC dI ks ad σ yX12_halves cX12_halves 8 (some .int) rX12_halves [.ref (ad 14 0), .int a1, .int a2, .int a3] out := by
  refine met_r (own := RX12) (by decide) rfl (Nat.le_of_ble_eq_true rfl) ?_
  intro p e s m args below meth c ls E hr hlk hP hK hl
  have hx := E.1
  have hb := E.2.1
  have hl : lv_has ls 8 [(0, .ref (ad 14 0)), (1, .int a1), (2, .int a2), (3, .int a3)] := hl
  unfold fX12_halves at hf
  refine lv_aload_n hx hb dX12_halves_0 rfl (lv_at hl 0 rfl) ?_
  refine lv_iload_n hx hb dX12_halves_1 rfl (lv_at hl 1 rfl) ?_
  refine lv_iload_n hx hb dX12_halves_2 rfl (lv_at hl 2 rfl) ?_
  refine lv_iload_n hx hb dX12_halves_3 rfl (lv_at hl 3 rfl) ?_
  obtain ⟨r1, er1, hf⟩ := bd_e hf
  refine gVr_i E hK hP (cX12_areAllc _ _ _ er1) kV_X12_areAll wd_5_184 rfl rfl (q_model ks ad σ) rfl rfl rfl ⟨Nat.le_of_ble_eq_true rfl, Nat.le_of_ble_eq_true rfl⟩ ⟨Nat.zero_le _, Nat.zero_le _⟩ hl.1 (Nat.le_of_ble_eq_true rfl) rfl dX12_halves_4 ?_
  refine lv_if_ne (tgt := 12) hx hb dX12_halves_7 (by decide) (fun c2 => ?_) (fun c2 => ?_)
  · replace hf := neg_e c2 hf
    refine lv_iconst (v := 0) hx hb dX12_halves_12 (by decide) ?_
    refine lv_istore (lv' := [(4, .int 0), (0, .ref (ad 14 0)), (1, .int a1), (2, .int a2), (3, .int a3)]) hx hb dX12_halves_13 hl (by decide) rfl (fun ls hl => ?_)
    refine lv_bipush (v := 60) hx hb dX12_halves_15 (by decide) ?_
    refine lv_istore (lv' := [(5, .int 60), (4, .int 0), (0, .ref (ad 14 0)), (1, .int a1), (2, .int a2), (3, .int a3)]) hx hb dX12_halves_17 hl (by decide) rfl (fun ls hl => ?_)
    refine lv_iconst (v := 1) hx hb dX12_halves_19 (by decide) ?_
    refine lv_istore (lv' := [(6, .int 1), (5, .int 60), (4, .int 0), (0, .ref (ad 14 0)), (1, .int a1), (2, .int a2), (3, .int a3)]) hx hb dX12_halves_20 hl (by decide) rfl (fun ls hl => ?_)
    have loop_22 : ∀ (K_22 : Option (Int32)) (hK_22 : (∀ (hf : K_22 = some out) (ls : Array Slot), lv_has ls 8 [] → W p l e rX12_halves s m args below meth c s.heap [] 0 0 (MQ below (vp_Si (fun r => r = out)) args s 0 0 (fun _ => False)) (F0 m 89 ls []))) (n_22 : Nat) (x3 : Int32) (x4 : Int32) (x5 : Int32) (hf : fX12_halves_L22 σ a1 a2 a3 K_22 n_22 x3 x4 x5 = some out) (ls : Array Slot), lv_has ls 8 [(0, .ref (ad 14 0)), (1, .int a1), (2, .int a2), (3, .int a3), (4, .int x3), (5, .int x4), (6, .int x5)] → W p l e rX12_halves s m args below meth c s.heap [] 0 0 (MQ below (vp_Si (fun r => r = out)) args s 0 0 (fun _ => False)) (F0 m 22 ls []) := by
      intro K_22 hK_22 n_22
      induction n_22 with
      | zero => intro x3 x4 x5 hf; cases hf
      | succ n_22 ih_22 =>
        intro x3 x4 x5 hf ls hl
        have hf : fX12_halves_L22B σ a1 a2 a3 K_22 (fX12_halves_L22 σ a1 a2 a3 K_22 n_22) x3 x4 x5 = some out := hf
        unfold fX12_halves_L22B at hf
        refine lv_iload hx hb dX12_halves_22 (lv_at hl 4 rfl) ?_
        refine lv_iload hx hb dX12_halves_24 (lv_at hl 5 rfl) ?_
        refine lv_icmp_gt (tgt := 89) hx hb dX12_halves_26 (by decide) (fun c6 => ?_) (fun c6 => ?_)
        · replace hf := pos_e c6 hf
          exact hK_22 hf _ (lv_sub hl [] rfl)
        · replace hf := neg_e c6 hf
          refine lv_iload hx hb dX12_halves_29 (lv_at hl 4 rfl) ?_
          refine lv_iload hx hb dX12_halves_31 (lv_at hl 5 rfl) ?_
          refine lv_iadd hx hb dX12_halves_33 ?_
          refine lv_iconst (v := 2) hx hb dX12_halves_34 (by decide) ?_
          refine lv_idiv hx hb dX12_halves_35 (by decide) ?_
          obtain ⟨v7, ev7, hf⟩ := nmv_e hf
          refine lv_nmi ev7 ?_
          refine lv_istore (lv' := [(7, .int v7), (0, .ref (ad 14 0)), (1, .int a1), (2, .int a2), (3, .int a3), (4, .int x3), (5, .int x4), (6, .int x5)]) hx hb dX12_halves_36 hl (by decide) rfl (fun ls hl => ?_)
          refine lv_iload hx hb dX12_halves_38 (lv_at hl 0 rfl) ?_
          refine lv_aload_n hx hb dX12_halves_40 rfl (lv_at hl 1 rfl) ?_
          refine lv_iload_n hx hb dX12_halves_41 rfl (lv_at hl 2 rfl) ?_
          refine lv_iload_n hx hb dX12_halves_42 rfl (lv_at hl 3 rfl) ?_
          refine lv_iload_n hx hb dX12_halves_43 rfl (lv_at hl 4 rfl) ?_
          obtain ⟨r8, er8, hf⟩ := bd_e hf
          refine gVr_i E hK hP (cX12_lowc _ _ _ er8) kV_X12_low wd_6_19 rfl rfl (q_model ks ad σ) rfl rfl rfl ⟨Nat.le_of_ble_eq_true rfl, Nat.le_of_ble_eq_true rfl⟩ ⟨Nat.zero_le _, Nat.zero_le _⟩ hl.1 (Nat.le_of_ble_eq_true rfl) rfl dX12_halves_44 ?_
          have hJ_83 : ∀ (z9 : Int32) (z10 : Int32) (hf : fX12_halves_J83 x5 (fX12_halves_L22 σ a1 a2 a3 K_22 n_22) z9 z10 = some out) (ls : Array Slot), lv_has ls 8 [(0, .ref (ad 14 0)), (1, .int a1), (2, .int a2), (3, .int a3), (4, .int z9), (5, .int z10), (6, .int x5)] → W p l e rX12_halves s m args below meth c s.heap [] 0 0 (MQ below (vp_Si (fun r => r = out)) args s 0 0 (fun _ => False)) (F0 m 83 ls []) := by
            intro z9 z10 hf ls hl
            unfold fX12_halves_J83 at hf
            obtain ⟨v11, ev11, hf⟩ := nmv_e hf
            refine lv_iinc (v := v11) (lv' := [(6, .int v11), (0, .ref (ad 14 0)), (1, .int a1), (2, .int a2), (3, .int a3), (4, .int z9), (5, .int z10)]) hx hb dX12_halves_83 hl (k := 6) rfl (by rw [ev11]; rfl) (by decide) rfl (fun ls hl => ?_)
            refine lv_goto (tgt := 22) hx hb dX12_halves_86 (by decide) ?_
            exact ih_22 _ _ _ hf _ (lv_sub hl [1, 2, 3, 4, 5, 6, 0] rfl)
          refine lv_icmp_ge (tgt := 59) hx hb dX12_halves_47 (by decide) (fun c12 => ?_) (fun c12 => ?_)
          · replace hf := pos_e c12 hf
            refine lv_iload hx hb dX12_halves_59 (lv_at hl 0 rfl) ?_
            refine lv_aload_n hx hb dX12_halves_61 rfl (lv_at hl 1 rfl) ?_
            refine lv_iload_n hx hb dX12_halves_62 rfl (lv_at hl 2 rfl) ?_
            refine lv_iload_n hx hb dX12_halves_63 rfl (lv_at hl 3 rfl) ?_
            refine lv_iload_n hx hb dX12_halves_64 rfl (lv_at hl 4 rfl) ?_
            obtain ⟨r13, er13, hf⟩ := bd_e hf
            refine gVr_i E hK hP (cX12_highc _ _ _ er13) kV_X12_high wd_6_34 rfl rfl (q_model ks ad σ) rfl rfl rfl ⟨Nat.le_of_ble_eq_true rfl, Nat.le_of_ble_eq_true rfl⟩ ⟨Nat.zero_le _, Nat.zero_le _⟩ hl.1 (Nat.le_of_ble_eq_true rfl) rfl dX12_halves_65 ?_
            refine lv_icmp_le (tgt := 80) hx hb dX12_halves_68 (by decide) (fun c14 => ?_) (fun c14 => ?_)
            · replace hf := pos_e c14 hf
              refine lv_iload hx hb dX12_halves_80 (lv_at hl 7 rfl) ?_
              exact gret_i E hr hlk dX12_halves_82 (som_e hf).symm
            · replace hf := neg_e c14 hf
              refine lv_iload hx hb dX12_halves_71 (lv_at hl 0 rfl) ?_
              refine lv_iconst (v := 1) hx hb dX12_halves_73 (by decide) ?_
              refine lv_isub hx hb dX12_halves_74 ?_
              obtain ⟨v15, ev15, hf⟩ := nmv_e hf
              refine lv_nmi ev15 ?_
              refine lv_istore (lv' := [(5, .int v15), (7, .int v7), (0, .ref (ad 14 0)), (1, .int a1), (2, .int a2), (3, .int a3), (4, .int x3), (6, .int x5)]) hx hb dX12_halves_75 hl (by decide) rfl (fun ls hl => ?_)
              refine lv_goto (tgt := 83) hx hb dX12_halves_77 (by decide) ?_
              exact hJ_83 _ _ hf _ (lv_sub hl [2, 3, 4, 5, 6, 0, 7] rfl)
          · replace hf := neg_e c12 hf
            refine lv_iload hx hb dX12_halves_50 (lv_at hl 0 rfl) ?_
            refine lv_iconst (v := 1) hx hb dX12_halves_52 (by decide) ?_
            refine lv_iadd hx hb dX12_halves_53 ?_
            obtain ⟨v16, ev16, hf⟩ := nmv_e hf
            refine lv_nmi ev16 ?_
            refine lv_istore (lv' := [(4, .int v16), (7, .int v7), (0, .ref (ad 14 0)), (1, .int a1), (2, .int a2), (3, .int a3), (5, .int x4), (6, .int x5)]) hx hb dX12_halves_54 hl (by decide) rfl (fun ls hl => ?_)
            refine lv_goto (tgt := 83) hx hb dX12_halves_56 (by decide) ?_
            exact hJ_83 _ _ hf _ (lv_sub hl [2, 3, 4, 5, 0, 6, 7] rfl)
    refine loop_22 _ (fun hf ls hl => ?_) _ _ _ _ hf _ (lv_sub hl [3, 4, 5, 6, 2, 1, 0] rfl)
    refine lv_bipush (v := -4) hx hb dX12_halves_89 (by decide) ?_
    exact gret_i E hr hlk dX12_halves_91 (som_e hf).symm
  · replace hf := pos_e c2 hf
    refine lv_iconst (v := -1) hx hb dX12_halves_10 (by decide) ?_
    exact gret_i E hr hlk dX12_halves_11 (som_e hf).symm
noncomputable def fX12_canAnyForce_L2B (σ : St) (a1 : Int32) (a2 : Int32) (K_2 : Option (Int32)) (rec_2 : Int32 → Option (Int32)) (x1 : Int32) : Option (Int32) :=
  if 60 < x1 then
  K_2
  else
  bd (fX12_isHard σ a1 a2 x1) fun r3 =>
  if r3 = 0 then
  nmv (x1 + 1) fun v5 =>
  rec_2 v5
  else
  some 1
noncomputable def fX12_canAnyForce_L2 (σ : St) (a1 : Int32) (a2 : Int32) (K_2 : Option (Int32)) : Nat → Int32 → Option (Int32)
  | 0 => fun _ => none
  | n + 1 => fX12_canAnyForce_L2B σ a1 a2 K_2 (fX12_canAnyForce_L2 σ a1 a2 K_2 n)
noncomputable def fX12_canAnyForce (σ : St) (a1 : Int32) (a2 : Int32) : Option (Int32) :=
  fX12_canAnyForce_L2 σ a1 a2 (some 0) FU 0
def rX12_canAnyForce : Room := { frames := 5, cells := 0, slots := 0, locals := 111 }
set_option maxHeartbeats 4000000 in
set_option maxRecDepth 100000 in
theorem cX12_canAnyForcec {l : Launch} {dC : Nat → ClassId} {dI : Nat → Nat → Nat} {ks : Nat → ClassId} {ad : Nat → Nat → Nat} {σ : St} (a1 : Int32) (a2 : Int32)  {out : Int32} (hf : fX12_canAnyForce σ a1 a2 = some out) : MRi l dC dI ks ad σ yX12_canAnyForce cX12_canAnyForce 4 (some .boolean) rX12_canAnyForce [.ref (ad 14 0), .int a1, .int a2] out := by
  refine met_r (own := RX12) (by decide) rfl (Nat.le_of_ble_eq_true rfl) ?_
  intro p e s m args below meth c ls E hr hlk hP hK hl
  have hx := E.1
  have hb := E.2.1
  have hl : lv_has ls 4 [(0, .ref (ad 14 0)), (1, .int a1), (2, .int a2)] := hl
  unfold fX12_canAnyForce at hf
  refine lv_iconst (v := 0) hx hb dX12_canAnyForce_0 (by decide) ?_
  refine lv_istore_n (lv' := [(3, .int 0), (0, .ref (ad 14 0)), (1, .int a1), (2, .int a2)]) hx hb dX12_canAnyForce_1 rfl hl (by decide) rfl (fun ls hl => ?_)
  have loop_2 : ∀ (K_2 : Option (Int32)) (hK_2 : (∀ (hf : K_2 = some out) (ls : Array Slot), lv_has ls 4 [] → W p l e rX12_canAnyForce s m args below meth c s.heap [] 0 0 (MQ below (vp_Si (fun r => r = out)) args s 0 0 (fun _ => False)) (F0 m 26 ls []))) (n_2 : Nat) (x1 : Int32) (hf : fX12_canAnyForce_L2 σ a1 a2 K_2 n_2 x1 = some out) (ls : Array Slot), lv_has ls 4 [(0, .ref (ad 14 0)), (1, .int a1), (2, .int a2), (3, .int x1)] → W p l e rX12_canAnyForce s m args below meth c s.heap [] 0 0 (MQ below (vp_Si (fun r => r = out)) args s 0 0 (fun _ => False)) (F0 m 2 ls []) := by
    intro K_2 hK_2 n_2
    induction n_2 with
    | zero => intro x1 hf; cases hf
    | succ n_2 ih_2 =>
      intro x1 hf ls hl
      have hf : fX12_canAnyForce_L2B σ a1 a2 K_2 (fX12_canAnyForce_L2 σ a1 a2 K_2 n_2) x1 = some out := hf
      unfold fX12_canAnyForce_L2B at hf
      refine lv_iload_n hx hb dX12_canAnyForce_2 rfl (lv_at hl 3 rfl) ?_
      refine lv_bipush (v := 60) hx hb dX12_canAnyForce_3 (by decide) ?_
      refine lv_icmp_gt (tgt := 26) hx hb dX12_canAnyForce_5 (by decide) (fun c2 => ?_) (fun c2 => ?_)
      · replace hf := pos_e c2 hf
        exact hK_2 hf _ (lv_sub hl [] rfl)
      · replace hf := neg_e c2 hf
        refine lv_aload_n hx hb dX12_canAnyForce_8 rfl (lv_at hl 0 rfl) ?_
        refine lv_iload_n hx hb dX12_canAnyForce_9 rfl (lv_at hl 1 rfl) ?_
        refine lv_iload_n hx hb dX12_canAnyForce_10 rfl (lv_at hl 2 rfl) ?_
        refine lv_iload_n hx hb dX12_canAnyForce_11 rfl (lv_at hl 3 rfl) ?_
        obtain ⟨r3, er3, hf⟩ := bd_e hf
        refine gVr_i E hK hP (cX12_isHardc _ _ _ er3) kV_X12_isHard wd_6_66 rfl rfl (q_model ks ad σ) rfl rfl rfl ⟨Nat.le_of_ble_eq_true rfl, Nat.le_of_ble_eq_true rfl⟩ ⟨Nat.zero_le _, Nat.zero_le _⟩ hl.1 (Nat.le_of_ble_eq_true rfl) rfl dX12_canAnyForce_12 ?_
        refine lv_if_eq (tgt := 20) hx hb dX12_canAnyForce_15 (by decide) (fun c4 => ?_) (fun c4 => ?_)
        · replace hf := pos_e c4 hf
          obtain ⟨v5, ev5, hf⟩ := nmv_e hf
          refine lv_iinc (v := v5) (lv' := [(3, .int v5), (0, .ref (ad 14 0)), (1, .int a1), (2, .int a2)]) hx hb dX12_canAnyForce_20 hl (k := 3) rfl (by rw [ev5]; rfl) (by decide) rfl (fun ls hl => ?_)
          refine lv_goto (tgt := 2) hx hb dX12_canAnyForce_23 (by decide) ?_
          exact ih_2 _ hf _ (lv_sub hl [1, 2, 3, 0] rfl)
        · replace hf := neg_e c4 hf
          refine lv_iconst (v := 1) hx hb dX12_canAnyForce_18 (by decide) ?_
          exact gret_z rfl E hr hlk dX12_canAnyForce_19 (som_e hf).symm
  refine loop_2 _ (fun hf ls hl => ?_) _ _ hf _ (lv_sub hl [1, 2, 3, 0] rfl)
  refine lv_iconst (v := 0) hx hb dX12_canAnyForce_26 (by decide) ?_
  exact gret_z rfl E hr hlk dX12_canAnyForce_27 (som_e hf).symm
noncomputable def fX12_waysBy_J98 (x14 : Int32) (x15 : Int32) (rec_69 : Int32 → Int32 → Option (Int32)) (z18 : Int32) : Option (Int32) :=
  nmv (x14 + z18) fun v19 =>
  nmv (x15 + 1) fun v20 =>
  rec_69 v19 v20
noncomputable def fX12_waysBy_L69B (σ : St) (a1 : Int32) (a3 : Int32) (x4 : Int32) (x10 : Int32) (K_69 : Int32 → Option (Int32)) (rec_69 : Int32 → Int32 → Option (Int32)) (x14 : Int32) (x15 : Int32) : Option (Int32) :=
  if 10 ≤ x15 then
  K_69 x14
  else
  bd (fX12_pitchOf σ a1 x4 x10 x15) fun r17 =>
  if r17 = a3 then
  fX12_waysBy_J98 x14 x15 rec_69 1
  else
  fX12_waysBy_J98 x14 x15 rec_69 0
noncomputable def fX12_waysBy_L69 (σ : St) (a1 : Int32) (a3 : Int32) (x4 : Int32) (x10 : Int32) (K_69 : Int32 → Option (Int32)) : Nat → Int32 → Int32 → Option (Int32)
  | 0 => fun _ _ => none
  | n + 1 => fX12_waysBy_L69B σ a1 a3 x4 x10 K_69 (fX12_waysBy_L69 σ a1 a3 x4 x10 K_69 n)
noncomputable def fX12_waysBy_L43B (σ : St) (a1 : Int32) (a2 : Int32) (a3 : Int32) (x4 : Int32) (K_43 : Int32 → Option (Int32)) (rec_43 : Int32 → Int32 → Option (Int32)) (x9 : Int32) (x10 : Int32) : Option (Int32) :=
  if 60 < x10 then
  K_43 x9
  else
  bd (fX12_isTight σ a1 a2 x4 x10) fun r12 =>
  if r12 = 0 then
  nmv (x10 + 1) fun v24 =>
  rec_43 x9 v24
  else
  fX12_waysBy_L69 σ a1 a3 x4 x10 (fun y22 => nmv (x10 + 1) fun v23 =>
  rec_43 y22 v23) FU x9 0
noncomputable def fX12_waysBy_L43 (σ : St) (a1 : Int32) (a2 : Int32) (a3 : Int32) (x4 : Int32) (K_43 : Int32 → Option (Int32)) : Nat → Int32 → Int32 → Option (Int32)
  | 0 => fun _ _ => none
  | n + 1 => fX12_waysBy_L43B σ a1 a2 a3 x4 K_43 (fX12_waysBy_L43 σ a1 a2 a3 x4 K_43 n)
noncomputable def fX12_waysBy_L16B (σ : St) (a1 : Int32) (a2 : Int32) (a3 : Int32) (K_16 : Int32 → Option (Int32)) (rec_16 : Int32 → Int32 → Option (Int32)) (x3 : Int32) (x4 : Int32) : Option (Int32) :=
  ck (vp_in 2 47) <|
  if (gI σ 12 0 (2 : Int32).toNatClampNeg) ≤ x4 then
  K_16 x3
  else
  bd (fX12_canAnyForce σ a2 x4) fun r7 =>
  if r7 = 0 then
  nmv (x4 + 1) fun v27 =>
  rec_16 x3 v27
  else
  fX12_waysBy_L43 σ a1 a2 a3 x4 (fun y25 => nmv (x4 + 1) fun v26 =>
  rec_16 y25 v26) FU x3 0
noncomputable def fX12_waysBy_L16 (σ : St) (a1 : Int32) (a2 : Int32) (a3 : Int32) (K_16 : Int32 → Option (Int32)) : Nat → Int32 → Int32 → Option (Int32)
  | 0 => fun _ _ => none
  | n + 1 => fX12_waysBy_L16B σ a1 a2 a3 K_16 (fX12_waysBy_L16 σ a1 a2 a3 K_16 n)
noncomputable def fX12_waysBy (σ : St) (a1 : Int32) (a2 : Int32) (a3 : Int32) : Option (Int32) :=
  bd (fX12_isSplit σ a1) fun r1 =>
  if r1 = 0 then
  fX12_waysBy_L16 σ a1 a2 a3 (fun y28 => some y28) FU 0 0
  else
  some 0
def rX12_waysBy : Room := { frames := 6, cells := 0, slots := 0, locals := 134 }
set_option maxHeartbeats 4000000 in
set_option maxRecDepth 100000 in
theorem cX12_waysByc {l : Launch} {dC : Nat → ClassId} {dI : Nat → Nat → Nat} {ks : Nat → ClassId} {ad : Nat → Nat → Nat} {σ : St} (a1 : Int32) (a2 : Int32) (a3 : Int32)  {out : Int32} (hf : fX12_waysBy σ a1 a2 a3 = some out) : MRi l dC dI ks ad σ yX12_waysBy cX12_waysBy 8 (some .int) rX12_waysBy [.ref (ad 14 0), .int a1, .int a2, .int a3] out := by
  refine met_r (own := RX12) (by decide) rfl (Nat.le_of_ble_eq_true rfl) ?_
  intro p e s m args below meth c ls E hr hlk hP hK hl
  have hx := E.1
  have hb := E.2.1
  have hl : lv_has ls 8 [(0, .ref (ad 14 0)), (1, .int a1), (2, .int a2), (3, .int a3)] := hl
  unfold fX12_waysBy at hf
  refine lv_aload_n hx hb dX12_waysBy_0 rfl (lv_at hl 0 rfl) ?_
  refine lv_iload_n hx hb dX12_waysBy_1 rfl (lv_at hl 1 rfl) ?_
  obtain ⟨r1, er1, hf⟩ := bd_e hf
  refine gVr_i E hK hP (cX12_isSplitc _ er1) kV_X12_isSplit wd_5_200 rfl rfl (q_model ks ad σ) rfl rfl rfl ⟨Nat.le_of_ble_eq_true rfl, Nat.le_of_ble_eq_true rfl⟩ ⟨Nat.zero_le _, Nat.zero_le _⟩ hl.1 (Nat.le_of_ble_eq_true rfl) rfl dX12_waysBy_2 ?_
  refine lv_if_eq (tgt := 10) hx hb dX12_waysBy_5 (by decide) (fun c2 => ?_) (fun c2 => ?_)
  · replace hf := pos_e c2 hf
    refine lv_iconst (v := 0) hx hb dX12_waysBy_10 (by decide) ?_
    refine lv_istore (lv' := [(4, .int 0), (0, .ref (ad 14 0)), (1, .int a1), (2, .int a2), (3, .int a3)]) hx hb dX12_waysBy_11 hl (by decide) rfl (fun ls hl => ?_)
    refine lv_iconst (v := 0) hx hb dX12_waysBy_13 (by decide) ?_
    refine lv_istore (lv' := [(5, .int 0), (4, .int 0), (0, .ref (ad 14 0)), (1, .int a1), (2, .int a2), (3, .int a3)]) hx hb dX12_waysBy_14 hl (by decide) rfl (fun ls hl => ?_)
    have loop_16 : ∀ (K_16 : Int32 → Option (Int32)) (hK_16 : (∀ (y28 : Int32) (hf : K_16 y28 = some out) (ls : Array Slot), lv_has ls 8 [(4, .int y28)] → W p l e rX12_waysBy s m args below meth c s.heap [] 0 0 (MQ below (vp_Si (fun r => r = out)) args s 0 0 (fun _ => False)) (F0 m 119 ls []))) (n_16 : Nat) (x3 : Int32) (x4 : Int32) (hf : fX12_waysBy_L16 σ a1 a2 a3 K_16 n_16 x3 x4 = some out) (ls : Array Slot), lv_has ls 8 [(0, .ref (ad 14 0)), (1, .int a1), (2, .int a2), (3, .int a3), (4, .int x3), (5, .int x4)] → W p l e rX12_waysBy s m args below meth c s.heap [] 0 0 (MQ below (vp_Si (fun r => r = out)) args s 0 0 (fun _ => False)) (F0 m 16 ls []) := by
      intro K_16 hK_16 n_16
      induction n_16 with
      | zero => intro x3 x4 hf; cases hf
      | succ n_16 ih_16 =>
        intro x3 x4 hf ls hl
        have hf : fX12_waysBy_L16B σ a1 a2 a3 K_16 (fX12_waysBy_L16 σ a1 a2 a3 K_16 n_16) x3 x4 = some out := hf
        unfold fX12_waysBy_L16B at hf
        refine lv_iload hx hb dX12_waysBy_16 (lv_at hl 5 rfl) ?_
        refine lv_aload_n hx hb dX12_waysBy_18 rfl (lv_at hl 0 rfl) ?_
        refine gget E in_X12 hK hP (q_model ks ad σ) rfl (k := 0) (by decide) wd_5_60 rfl (v := .ref (ad 15 0)) rfl dX12_waysBy_19 ?_
        refine lv_iconst (v := 2) hx hb dX12_waysBy_22 (by decide) ?_
        obtain ⟨c5, hf⟩ := ck_e hf
        refine giald E hK hP (q_M0 ks ad σ) c5 dX12_waysBy_23 ?_
        refine lv_icmp_ge (tgt := 119) hx hb dX12_waysBy_24 (by decide) (fun c6 => ?_) (fun c6 => ?_)
        · replace hf := pos_e c6 hf
          exact hK_16 _ hf _ (lv_sub hl [4] rfl)
        · replace hf := neg_e c6 hf
          refine lv_aload_n hx hb dX12_waysBy_27 rfl (lv_at hl 0 rfl) ?_
          refine lv_iload_n hx hb dX12_waysBy_28 rfl (lv_at hl 2 rfl) ?_
          refine lv_iload hx hb dX12_waysBy_29 (lv_at hl 5 rfl) ?_
          obtain ⟨r7, er7, hf⟩ := bd_e hf
          refine gVr_i E hK hP (cX12_canAnyForcec _ _ er7) kV_X12_canAnyForce wd_6_127 rfl rfl (q_model ks ad σ) rfl rfl rfl ⟨Nat.le_of_ble_eq_true rfl, Nat.le_of_ble_eq_true rfl⟩ ⟨Nat.zero_le _, Nat.zero_le _⟩ hl.1 (Nat.le_of_ble_eq_true rfl) rfl dX12_waysBy_31 ?_
          refine lv_if_ne (tgt := 40) hx hb dX12_waysBy_34 (by decide) (fun c8 => ?_) (fun c8 => ?_)
          · replace hf := neg_e c8 hf
            refine lv_iconst (v := 0) hx hb dX12_waysBy_40 (by decide) ?_
            refine lv_istore (lv' := [(6, .int 0), (0, .ref (ad 14 0)), (1, .int a1), (2, .int a2), (3, .int a3), (4, .int x3), (5, .int x4)]) hx hb dX12_waysBy_41 hl (by decide) rfl (fun ls hl => ?_)
            have loop_43 : ∀ (K_43 : Int32 → Option (Int32)) (hK_43 : (∀ (y25 : Int32) (hf : K_43 y25 = some out) (ls : Array Slot), lv_has ls 8 [(0, .ref (ad 14 0)), (1, .int a1), (2, .int a2), (3, .int a3), (4, .int y25), (5, .int x4)] → W p l e rX12_waysBy s m args below meth c s.heap [] 0 0 (MQ below (vp_Si (fun r => r = out)) args s 0 0 (fun _ => False)) (F0 m 113 ls []))) (n_43 : Nat) (x9 : Int32) (x10 : Int32) (hf : fX12_waysBy_L43 σ a1 a2 a3 x4 K_43 n_43 x9 x10 = some out) (ls : Array Slot), lv_has ls 8 [(0, .ref (ad 14 0)), (1, .int a1), (2, .int a2), (3, .int a3), (4, .int x9), (5, .int x4), (6, .int x10)] → W p l e rX12_waysBy s m args below meth c s.heap [] 0 0 (MQ below (vp_Si (fun r => r = out)) args s 0 0 (fun _ => False)) (F0 m 43 ls []) := by
              intro K_43 hK_43 n_43
              induction n_43 with
              | zero => intro x9 x10 hf; cases hf
              | succ n_43 ih_43 =>
                intro x9 x10 hf ls hl
                have hf : fX12_waysBy_L43B σ a1 a2 a3 x4 K_43 (fX12_waysBy_L43 σ a1 a2 a3 x4 K_43 n_43) x9 x10 = some out := hf
                unfold fX12_waysBy_L43B at hf
                refine lv_iload hx hb dX12_waysBy_43 (lv_at hl 6 rfl) ?_
                refine lv_bipush (v := 60) hx hb dX12_waysBy_45 (by decide) ?_
                refine lv_icmp_gt (tgt := 113) hx hb dX12_waysBy_47 (by decide) (fun c11 => ?_) (fun c11 => ?_)
                · replace hf := pos_e c11 hf
                  exact hK_43 _ hf _ (lv_sub hl [0, 1, 2, 3, 4, 5] rfl)
                · replace hf := neg_e c11 hf
                  refine lv_aload_n hx hb dX12_waysBy_50 rfl (lv_at hl 0 rfl) ?_
                  refine lv_iload_n hx hb dX12_waysBy_51 rfl (lv_at hl 1 rfl) ?_
                  refine lv_iload_n hx hb dX12_waysBy_52 rfl (lv_at hl 2 rfl) ?_
                  refine lv_iload hx hb dX12_waysBy_53 (lv_at hl 5 rfl) ?_
                  refine lv_iload hx hb dX12_waysBy_55 (lv_at hl 6 rfl) ?_
                  obtain ⟨r12, er12, hf⟩ := bd_e hf
                  refine gVr_i E hK hP (cX12_isTightc _ _ _ _ er12) kV_X12_isTight wd_6_58 rfl rfl (q_model ks ad σ) rfl rfl rfl ⟨Nat.le_of_ble_eq_true rfl, Nat.le_of_ble_eq_true rfl⟩ ⟨Nat.zero_le _, Nat.zero_le _⟩ hl.1 (Nat.le_of_ble_eq_true rfl) rfl dX12_waysBy_57 ?_
                  refine lv_if_ne (tgt := 66) hx hb dX12_waysBy_60 (by decide) (fun c13 => ?_) (fun c13 => ?_)
                  · replace hf := neg_e c13 hf
                    refine lv_iconst (v := 0) hx hb dX12_waysBy_66 (by decide) ?_
                    refine lv_istore (lv' := [(7, .int 0), (0, .ref (ad 14 0)), (1, .int a1), (2, .int a2), (3, .int a3), (4, .int x9), (5, .int x4), (6, .int x10)]) hx hb dX12_waysBy_67 hl (by decide) rfl (fun ls hl => ?_)
                    have loop_69 : ∀ (K_69 : Int32 → Option (Int32)) (hK_69 : (∀ (y22 : Int32) (hf : K_69 y22 = some out) (ls : Array Slot), lv_has ls 8 [(0, .ref (ad 14 0)), (1, .int a1), (2, .int a2), (3, .int a3), (4, .int y22), (5, .int x4), (6, .int x10)] → W p l e rX12_waysBy s m args below meth c s.heap [] 0 0 (MQ below (vp_Si (fun r => r = out)) args s 0 0 (fun _ => False)) (F0 m 107 ls []))) (n_69 : Nat) (x14 : Int32) (x15 : Int32) (hf : fX12_waysBy_L69 σ a1 a3 x4 x10 K_69 n_69 x14 x15 = some out) (ls : Array Slot), lv_has ls 8 [(0, .ref (ad 14 0)), (1, .int a1), (2, .int a2), (3, .int a3), (4, .int x14), (5, .int x4), (6, .int x10), (7, .int x15)] → W p l e rX12_waysBy s m args below meth c s.heap [] 0 0 (MQ below (vp_Si (fun r => r = out)) args s 0 0 (fun _ => False)) (F0 m 69 ls []) := by
                      intro K_69 hK_69 n_69
                      induction n_69 with
                      | zero => intro x14 x15 hf; cases hf
                      | succ n_69 ih_69 =>
                        intro x14 x15 hf ls hl
                        have hf : fX12_waysBy_L69B σ a1 a3 x4 x10 K_69 (fX12_waysBy_L69 σ a1 a3 x4 x10 K_69 n_69) x14 x15 = some out := hf
                        unfold fX12_waysBy_L69B at hf
                        refine lv_iload hx hb dX12_waysBy_69 (lv_at hl 7 rfl) ?_
                        refine lv_bipush (v := 10) hx hb dX12_waysBy_71 (by decide) ?_
                        refine lv_icmp_ge (tgt := 107) hx hb dX12_waysBy_73 (by decide) (fun c16 => ?_) (fun c16 => ?_)
                        · replace hf := pos_e c16 hf
                          exact hK_69 _ hf _ (lv_sub hl [0, 1, 2, 3, 4, 5, 6] rfl)
                        · replace hf := neg_e c16 hf
                          refine lv_iload hx hb dX12_waysBy_76 (lv_at hl 4 rfl) ?_
                          refine lv_aload_n hx hb dX12_waysBy_78 rfl (lv_at hl 0 rfl) ?_
                          refine lv_iload_n hx hb dX12_waysBy_79 rfl (lv_at hl 1 rfl) ?_
                          refine lv_iload hx hb dX12_waysBy_80 (lv_at hl 5 rfl) ?_
                          refine lv_iload hx hb dX12_waysBy_82 (lv_at hl 6 rfl) ?_
                          refine lv_iload hx hb dX12_waysBy_84 (lv_at hl 7 rfl) ?_
                          obtain ⟨r17, er17, hf⟩ := bd_e hf
                          refine gVr_i E hK hP (cX12_pitchOfc _ _ _ _ er17) kV_X12_pitchOf wd_6_74 rfl rfl (q_model ks ad σ) rfl rfl rfl ⟨Nat.le_of_ble_eq_true rfl, Nat.le_of_ble_eq_true rfl⟩ ⟨Nat.zero_le _, Nat.zero_le _⟩ hl.1 (Nat.le_of_ble_eq_true rfl) rfl dX12_waysBy_86 ?_
                          refine lv_iload_n hx hb dX12_waysBy_89 rfl (lv_at hl 3 rfl) ?_
                          have hJ_98 : ∀ (z18 : Int32) (hf : fX12_waysBy_J98 x14 x15 (fX12_waysBy_L69 σ a1 a3 x4 x10 K_69 n_69) z18 = some out) (ls : Array Slot), lv_has ls 8 [(0, .ref (ad 14 0)), (1, .int a1), (2, .int a2), (3, .int a3), (5, .int x4), (6, .int x10), (7, .int x15)] → W p l e rX12_waysBy s m args below meth c s.heap [] 0 0 (MQ below (vp_Si (fun r => r = out)) args s 0 0 (fun _ => False)) (F0 m 98 ls [.int z18, .int x14]) := by
                            intro z18 hf ls hl
                            unfold fX12_waysBy_J98 at hf
                            refine lv_iadd hx hb dX12_waysBy_98 ?_
                            obtain ⟨v19, ev19, hf⟩ := nmv_e hf
                            refine lv_nmi ev19 ?_
                            refine lv_istore (lv' := [(4, .int v19), (0, .ref (ad 14 0)), (1, .int a1), (2, .int a2), (3, .int a3), (5, .int x4), (6, .int x10), (7, .int x15)]) hx hb dX12_waysBy_99 hl (by decide) rfl (fun ls hl => ?_)
                            obtain ⟨v20, ev20, hf⟩ := nmv_e hf
                            refine lv_iinc (v := v20) (lv' := [(7, .int v20), (4, .int v19), (0, .ref (ad 14 0)), (1, .int a1), (2, .int a2), (3, .int a3), (5, .int x4), (6, .int x10)]) hx hb dX12_waysBy_101 hl (k := 7) rfl (by rw [ev20]; rfl) (by decide) rfl (fun ls hl => ?_)
                            refine lv_goto (tgt := 69) hx hb dX12_waysBy_104 (by decide) ?_
                            exact ih_69 _ _ hf _ (lv_sub hl [2, 3, 4, 5, 1, 6, 7, 0] rfl)
                          refine lv_icmp_ne (tgt := 97) hx hb dX12_waysBy_90 (by decide) (fun c21 => ?_) (fun c21 => ?_)
                          · replace hf := neg_e c21 hf
                            refine lv_iconst (v := 0) hx hb dX12_waysBy_97 (by decide) ?_
                            exact hJ_98 _ hf _ (lv_sub hl [0, 1, 2, 3, 5, 6, 7] rfl)
                          · replace hf := pos_e c21 hf
                            refine lv_iconst (v := 1) hx hb dX12_waysBy_93 (by decide) ?_
                            refine lv_goto (tgt := 98) hx hb dX12_waysBy_94 (by decide) ?_
                            exact hJ_98 _ hf _ (lv_sub hl [0, 1, 2, 3, 5, 6, 7] rfl)
                    refine loop_69 _ (fun y22 hf ls hl => ?_) _ _ _ hf _ (lv_sub hl [1, 2, 3, 4, 5, 6, 7, 0] rfl)
                    obtain ⟨v23, ev23, hf⟩ := nmv_e hf
                    refine lv_iinc (v := v23) (lv' := [(6, .int v23), (0, .ref (ad 14 0)), (1, .int a1), (2, .int a2), (3, .int a3), (4, .int y22), (5, .int x4)]) hx hb dX12_waysBy_107 hl (k := 6) rfl (by rw [ev23]; rfl) (by decide) rfl (fun ls hl => ?_)
                    refine lv_goto (tgt := 43) hx hb dX12_waysBy_110 (by decide) ?_
                    exact ih_43 _ _ hf _ (lv_sub hl [1, 2, 3, 4, 5, 6, 0] rfl)
                  · replace hf := pos_e c13 hf
                    refine lv_goto (tgt := 107) hx hb dX12_waysBy_63 (by decide) ?_
                    obtain ⟨v24, ev24, hf⟩ := nmv_e hf
                    refine lv_iinc (v := v24) (lv' := [(6, .int v24), (0, .ref (ad 14 0)), (1, .int a1), (2, .int a2), (3, .int a3), (4, .int x9), (5, .int x4)]) hx hb dX12_waysBy_107 hl (k := 6) rfl (by rw [ev24]; rfl) (by decide) rfl (fun ls hl => ?_)
                    refine lv_goto (tgt := 43) hx hb dX12_waysBy_110 (by decide) ?_
                    exact ih_43 _ _ hf _ (lv_sub hl [1, 2, 3, 4, 5, 6, 0] rfl)
            refine loop_43 _ (fun y25 hf ls hl => ?_) _ _ _ hf _ (lv_sub hl [1, 2, 3, 4, 5, 6, 0] rfl)
            obtain ⟨v26, ev26, hf⟩ := nmv_e hf
            refine lv_iinc (v := v26) (lv' := [(5, .int v26), (0, .ref (ad 14 0)), (1, .int a1), (2, .int a2), (3, .int a3), (4, .int y25)]) hx hb dX12_waysBy_113 hl (k := 5) rfl (by rw [ev26]; rfl) (by decide) rfl (fun ls hl => ?_)
            refine lv_goto (tgt := 16) hx hb dX12_waysBy_116 (by decide) ?_
            exact ih_16 _ _ hf _ (lv_sub hl [1, 2, 3, 4, 5, 0] rfl)
          · replace hf := pos_e c8 hf
            refine lv_goto (tgt := 113) hx hb dX12_waysBy_37 (by decide) ?_
            obtain ⟨v27, ev27, hf⟩ := nmv_e hf
            refine lv_iinc (v := v27) (lv' := [(5, .int v27), (0, .ref (ad 14 0)), (1, .int a1), (2, .int a2), (3, .int a3), (4, .int x3)]) hx hb dX12_waysBy_113 hl (k := 5) rfl (by rw [ev27]; rfl) (by decide) rfl (fun ls hl => ?_)
            refine lv_goto (tgt := 16) hx hb dX12_waysBy_116 (by decide) ?_
            exact ih_16 _ _ hf _ (lv_sub hl [1, 2, 3, 4, 5, 0] rfl)
    refine loop_16 _ (fun y28 hf ls hl => ?_) _ _ _ hf _ (lv_sub hl [2, 3, 4, 5, 1, 0] rfl)
    refine lv_iload hx hb dX12_waysBy_119 (lv_at hl 0 rfl) ?_
    exact gret_i E hr hlk dX12_waysBy_121 (som_e hf).symm
  · replace hf := neg_e c2 hf
    refine lv_iconst (v := 0) hx hb dX12_waysBy_8 (by decide) ?_
    exact gret_i E hr hlk dX12_waysBy_9 (som_e hf).symm
noncomputable def fX12_bladesFor_J34 (x2 : Int32) (rec_5 : Int32 → Int32 → Option (Int32)) (z6 : Int32) : Option (Int32) :=
  nmv (x2 + 1) fun v7 =>
  rec_5 z6 v7
noncomputable def fX12_bladesFor_L5B (σ : St) (a1 : Int32) (a2 : Int32) (K_5 : Int32 → Option (Int32)) (rec_5 : Int32 → Int32 → Option (Int32)) (x1 : Int32) (x2 : Int32) : Option (Int32) :=
  ck (vp_in 0 47) <|
  if (gI σ 12 0 (0 : Int32).toNatClampNeg) ≤ x2 then
  K_5 x1
  else
  bd (fX12_waysBy σ x2 a1 a2) fun r5 =>
  if r5 ≤ 0 then
  fX12_bladesFor_J34 x2 rec_5 x1
  else
  nmv (x1 ||| ((1 : Int32) <<< (x2 &&& 31))) fun v9 =>
  fX12_bladesFor_J34 x2 rec_5 v9
noncomputable def fX12_bladesFor_L5 (σ : St) (a1 : Int32) (a2 : Int32) (K_5 : Int32 → Option (Int32)) : Nat → Int32 → Int32 → Option (Int32)
  | 0 => fun _ _ => none
  | n + 1 => fX12_bladesFor_L5B σ a1 a2 K_5 (fX12_bladesFor_L5 σ a1 a2 K_5 n)
noncomputable def fX12_bladesFor (σ : St) (a1 : Int32) (a2 : Int32) : Option (Int32) :=
  fX12_bladesFor_L5 σ a1 a2 (fun y10 => some y10) FU 0 0
def rX12_bladesFor : Room := { frames := 7, cells := 0, slots := 0, locals := 161 }
set_option maxHeartbeats 4000000 in
set_option maxRecDepth 100000 in
theorem cX12_bladesForc {l : Launch} {dC : Nat → ClassId} {dI : Nat → Nat → Nat} {ks : Nat → ClassId} {ad : Nat → Nat → Nat} {σ : St} (a1 : Int32) (a2 : Int32)  {out : Int32} (hf : fX12_bladesFor σ a1 a2 = some out) : MRi l dC dI ks ad σ yX12_bladesFor cX12_bladesFor 5 (some .int) rX12_bladesFor [.ref (ad 14 0), .int a1, .int a2] out := by
  refine met_r (own := RX12) (by decide) rfl (Nat.le_of_ble_eq_true rfl) ?_
  intro p e s m args below meth c ls E hr hlk hP hK hl
  have hx := E.1
  have hb := E.2.1
  have hl : lv_has ls 5 [(0, .ref (ad 14 0)), (1, .int a1), (2, .int a2)] := hl
  unfold fX12_bladesFor at hf
  refine lv_iconst (v := 0) hx hb dX12_bladesFor_0 (by decide) ?_
  refine lv_istore_n (lv' := [(3, .int 0), (0, .ref (ad 14 0)), (1, .int a1), (2, .int a2)]) hx hb dX12_bladesFor_1 rfl hl (by decide) rfl (fun ls hl => ?_)
  refine lv_iconst (v := 0) hx hb dX12_bladesFor_2 (by decide) ?_
  refine lv_istore (lv' := [(4, .int 0), (3, .int 0), (0, .ref (ad 14 0)), (1, .int a1), (2, .int a2)]) hx hb dX12_bladesFor_3 hl (by decide) rfl (fun ls hl => ?_)
  have loop_5 : ∀ (K_5 : Int32 → Option (Int32)) (hK_5 : (∀ (y10 : Int32) (hf : K_5 y10 = some out) (ls : Array Slot), lv_has ls 5 [(3, .int y10)] → W p l e rX12_bladesFor s m args below meth c s.heap [] 0 0 (MQ below (vp_Si (fun r => r = out)) args s 0 0 (fun _ => False)) (F0 m 40 ls []))) (n_5 : Nat) (x1 : Int32) (x2 : Int32) (hf : fX12_bladesFor_L5 σ a1 a2 K_5 n_5 x1 x2 = some out) (ls : Array Slot), lv_has ls 5 [(0, .ref (ad 14 0)), (1, .int a1), (2, .int a2), (3, .int x1), (4, .int x2)] → W p l e rX12_bladesFor s m args below meth c s.heap [] 0 0 (MQ below (vp_Si (fun r => r = out)) args s 0 0 (fun _ => False)) (F0 m 5 ls []) := by
    intro K_5 hK_5 n_5
    induction n_5 with
    | zero => intro x1 x2 hf; cases hf
    | succ n_5 ih_5 =>
      intro x1 x2 hf ls hl
      have hf : fX12_bladesFor_L5B σ a1 a2 K_5 (fX12_bladesFor_L5 σ a1 a2 K_5 n_5) x1 x2 = some out := hf
      unfold fX12_bladesFor_L5B at hf
      refine lv_iload hx hb dX12_bladesFor_5 (lv_at hl 4 rfl) ?_
      refine lv_aload_n hx hb dX12_bladesFor_7 rfl (lv_at hl 0 rfl) ?_
      refine gget E in_X12 hK hP (q_model ks ad σ) rfl (k := 0) (by decide) wd_5_60 rfl (v := .ref (ad 15 0)) rfl dX12_bladesFor_8 ?_
      refine lv_iconst (v := 0) hx hb dX12_bladesFor_11 (by decide) ?_
      obtain ⟨c3, hf⟩ := ck_e hf
      refine giald E hK hP (q_M0 ks ad σ) c3 dX12_bladesFor_12 ?_
      refine lv_icmp_ge (tgt := 40) hx hb dX12_bladesFor_13 (by decide) (fun c4 => ?_) (fun c4 => ?_)
      · replace hf := pos_e c4 hf
        exact hK_5 _ hf _ (lv_sub hl [3] rfl)
      · replace hf := neg_e c4 hf
        refine lv_aload_n hx hb dX12_bladesFor_16 rfl (lv_at hl 0 rfl) ?_
        refine lv_iload hx hb dX12_bladesFor_17 (lv_at hl 4 rfl) ?_
        refine lv_iload_n hx hb dX12_bladesFor_19 rfl (lv_at hl 1 rfl) ?_
        refine lv_iload_n hx hb dX12_bladesFor_20 rfl (lv_at hl 2 rfl) ?_
        obtain ⟨r5, er5, hf⟩ := bd_e hf
        refine gVr_i E hK hP (cX12_waysByc _ _ _ er5) kV_X12_waysBy wd_6_123 rfl rfl (q_model ks ad σ) rfl rfl rfl ⟨Nat.le_of_ble_eq_true rfl, Nat.le_of_ble_eq_true rfl⟩ ⟨Nat.zero_le _, Nat.zero_le _⟩ hl.1 (Nat.le_of_ble_eq_true rfl) rfl dX12_bladesFor_21 ?_
        have hJ_34 : ∀ (z6 : Int32) (hf : fX12_bladesFor_J34 x2 (fX12_bladesFor_L5 σ a1 a2 K_5 n_5) z6 = some out) (ls : Array Slot), lv_has ls 5 [(0, .ref (ad 14 0)), (1, .int a1), (2, .int a2), (3, .int z6), (4, .int x2)] → W p l e rX12_bladesFor s m args below meth c s.heap [] 0 0 (MQ below (vp_Si (fun r => r = out)) args s 0 0 (fun _ => False)) (F0 m 34 ls []) := by
          intro z6 hf ls hl
          unfold fX12_bladesFor_J34 at hf
          obtain ⟨v7, ev7, hf⟩ := nmv_e hf
          refine lv_iinc (v := v7) (lv' := [(4, .int v7), (0, .ref (ad 14 0)), (1, .int a1), (2, .int a2), (3, .int z6)]) hx hb dX12_bladesFor_34 hl (k := 4) rfl (by rw [ev7]; rfl) (by decide) rfl (fun ls hl => ?_)
          refine lv_goto (tgt := 5) hx hb dX12_bladesFor_37 (by decide) ?_
          exact ih_5 _ _ hf _ (lv_sub hl [1, 2, 3, 4, 0] rfl)
        refine lv_if_le (tgt := 34) hx hb dX12_bladesFor_24 (by decide) (fun c8 => ?_) (fun c8 => ?_)
        · replace hf := pos_e c8 hf
          exact hJ_34 _ hf _ (lv_sub hl [0, 1, 2, 3, 4] rfl)
        · replace hf := neg_e c8 hf
          refine lv_iload_n hx hb dX12_bladesFor_27 rfl (lv_at hl 3 rfl) ?_
          refine lv_iconst (v := 1) hx hb dX12_bladesFor_28 (by decide) ?_
          refine lv_iload hx hb dX12_bladesFor_29 (lv_at hl 4 rfl) ?_
          refine lv_ishl hx hb dX12_bladesFor_31 ?_
          refine lv_ior hx hb dX12_bladesFor_32 ?_
          obtain ⟨v9, ev9, hf⟩ := nmv_e hf
          refine lv_nmi ev9 ?_
          refine lv_istore_n (lv' := [(3, .int v9), (0, .ref (ad 14 0)), (1, .int a1), (2, .int a2), (4, .int x2)]) hx hb dX12_bladesFor_33 rfl hl (by decide) rfl (fun ls hl => ?_)
          exact hJ_34 _ hf _ (lv_sub hl [1, 2, 3, 0, 4] rfl)
  refine loop_5 _ (fun y10 hf ls hl => ?_) _ _ _ hf _ (lv_sub hl [2, 3, 4, 1, 0] rfl)
  refine lv_iload_n hx hb dX12_bladesFor_40 rfl (lv_at hl 0 rfl) ?_
  exact gret_i E hr hlk dX12_bladesFor_41 (som_e hf).symm
