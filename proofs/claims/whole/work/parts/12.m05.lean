noncomputable def fX12_isThumbs (σ : St) (a1 : Int32) : Option (Int32) :=
  ck (vp_in 1 47) <|
  bd (fX12_isIn σ a1 0 ((gI σ 12 0 (1 : Int32).toNatClampNeg) - 1)) fun r2 =>
  ck (r2 = 0 ∨ r2 = 1) (some r2)
def rX12_isThumbs : Room := { frames := 1, cells := 0, slots := 0, locals := 22 }
set_option maxHeartbeats 4000000 in
set_option maxRecDepth 100000 in
theorem cX12_isThumbsc {l : Launch} {dC : Nat → ClassId} {dI : Nat → Nat → Nat} {ks : Nat → ClassId} {ad : Nat → Nat → Nat} {σ : St} (a1 : Int32)  {out : Int32} (hf : fX12_isThumbs σ a1 = some out) : MRi l dC dI ks ad σ yX12_isThumbs cX12_isThumbs 2 (some .boolean) rX12_isThumbs [.ref (ad 14 0), .int a1] out := by
  refine met_r (own := RX12) (by decide) rfl (Nat.le_of_ble_eq_true rfl) ?_
  intro p e s m args below meth c ls E hr hlk hP hK hl
  have hx := E.1
  have hb := E.2.1
  have hl : lv_has ls 2 [(0, .ref (ad 14 0)), (1, .int a1)] := hl
  unfold fX12_isThumbs at hf
  refine lv_iload_n hx hb dX12_isThumbs_0 rfl (lv_at hl 1 rfl) ?_
  refine lv_iconst (v := 0) hx hb dX12_isThumbs_1 (by decide) ?_
  refine lv_aload_n hx hb dX12_isThumbs_2 rfl (lv_at hl 0 rfl) ?_
  refine gget E in_X12 hK hP (q_model ks ad σ) rfl (k := 0) (by decide) wd_5_60 rfl (v := .ref (ad 15 0)) rfl dX12_isThumbs_3 ?_
  refine lv_iconst (v := 1) hx hb dX12_isThumbs_6 (by decide) ?_
  obtain ⟨c1, hf⟩ := ck_e hf
  refine giald E hK hP (q_M0 ks ad σ) c1 dX12_isThumbs_7 ?_
  refine lv_iconst (v := 1) hx hb dX12_isThumbs_8 (by decide) ?_
  refine lv_isub hx hb dX12_isThumbs_9 ?_
  obtain ⟨r2, er2, hf⟩ := bd_e hf
  refine gSr_i E hK hP (cX12_isInc _ _ _ er2) kS_X12_isIn wd_5_138 rfl rfl rfl ⟨Nat.le_of_ble_eq_true rfl, Nat.le_of_ble_eq_true rfl⟩ ⟨Nat.zero_le _, Nat.zero_le _⟩ hl.1 (Nat.le_of_ble_eq_true rfl) rfl dX12_isThumbs_10 ?_
  obtain ⟨c3, hf⟩ := ck_e hf
  exact gret_z (nb_z c3) E hr hlk dX12_isThumbs_13 (som_e hf).symm
noncomputable def fX12_isBlow (σ : St) (a1 : Int32) : Option (Int32) :=
  ck (vp_in 2 47) <|
  bd (fX12_isIn σ a1 0 ((gI σ 12 0 (2 : Int32).toNatClampNeg) - 1)) fun r2 =>
  ck (r2 = 0 ∨ r2 = 1) (some r2)
def rX12_isBlow : Room := { frames := 1, cells := 0, slots := 0, locals := 22 }
set_option maxHeartbeats 4000000 in
set_option maxRecDepth 100000 in
theorem cX12_isBlowc {l : Launch} {dC : Nat → ClassId} {dI : Nat → Nat → Nat} {ks : Nat → ClassId} {ad : Nat → Nat → Nat} {σ : St} (a1 : Int32)  {out : Int32} (hf : fX12_isBlow σ a1 = some out) : MRi l dC dI ks ad σ yX12_isBlow cX12_isBlow 2 (some .boolean) rX12_isBlow [.ref (ad 14 0), .int a1] out := by
  refine met_r (own := RX12) (by decide) rfl (Nat.le_of_ble_eq_true rfl) ?_
  intro p e s m args below meth c ls E hr hlk hP hK hl
  have hx := E.1
  have hb := E.2.1
  have hl : lv_has ls 2 [(0, .ref (ad 14 0)), (1, .int a1)] := hl
  unfold fX12_isBlow at hf
  refine lv_iload_n hx hb dX12_isBlow_0 rfl (lv_at hl 1 rfl) ?_
  refine lv_iconst (v := 0) hx hb dX12_isBlow_1 (by decide) ?_
  refine lv_aload_n hx hb dX12_isBlow_2 rfl (lv_at hl 0 rfl) ?_
  refine gget E in_X12 hK hP (q_model ks ad σ) rfl (k := 0) (by decide) wd_5_60 rfl (v := .ref (ad 15 0)) rfl dX12_isBlow_3 ?_
  refine lv_iconst (v := 2) hx hb dX12_isBlow_6 (by decide) ?_
  obtain ⟨c1, hf⟩ := ck_e hf
  refine giald E hK hP (q_M0 ks ad σ) c1 dX12_isBlow_7 ?_
  refine lv_iconst (v := 1) hx hb dX12_isBlow_8 (by decide) ?_
  refine lv_isub hx hb dX12_isBlow_9 ?_
  obtain ⟨r2, er2, hf⟩ := bd_e hf
  refine gSr_i E hK hP (cX12_isInc _ _ _ er2) kS_X12_isIn wd_5_138 rfl rfl rfl ⟨Nat.le_of_ble_eq_true rfl, Nat.le_of_ble_eq_true rfl⟩ ⟨Nat.zero_le _, Nat.zero_le _⟩ hl.1 (Nat.le_of_ble_eq_true rfl) rfl dX12_isBlow_10 ?_
  obtain ⟨c3, hf⟩ := ck_e hf
  exact gret_z (nb_z c3) E hr hlk dX12_isBlow_13 (som_e hf).symm
noncomputable def fX12_areAll (σ : St) (a1 : Int32) (a2 : Int32) (a3 : Int32) : Option (Int32) :=
  bd (fX12_isBlade σ a1) fun r1 =>
  if r1 = 0 then
  some 0
  else
  bd (fX12_isThumbs σ a2) fun r3 =>
  if r3 = 0 then
  some 0
  else
  bd (fX12_isBlow σ a3) fun r5 =>
  if r5 = 0 then
  some 0
  else
  some 1
def rX12_areAll : Room := { frames := 2, cells := 0, slots := 0, locals := 43 }
set_option maxHeartbeats 4000000 in
set_option maxRecDepth 100000 in
theorem cX12_areAllc {l : Launch} {dC : Nat → ClassId} {dI : Nat → Nat → Nat} {ks : Nat → ClassId} {ad : Nat → Nat → Nat} {σ : St} (a1 : Int32) (a2 : Int32) (a3 : Int32)  {out : Int32} (hf : fX12_areAll σ a1 a2 a3 = some out) : MRi l dC dI ks ad σ yX12_areAll cX12_areAll 4 (some .boolean) rX12_areAll [.ref (ad 14 0), .int a1, .int a2, .int a3] out := by
  refine met_r (own := RX12) (by decide) rfl (Nat.le_of_ble_eq_true rfl) ?_
  intro p e s m args below meth c ls E hr hlk hP hK hl
  have hx := E.1
  have hb := E.2.1
  have hl : lv_has ls 4 [(0, .ref (ad 14 0)), (1, .int a1), (2, .int a2), (3, .int a3)] := hl
  unfold fX12_areAll at hf
  refine lv_aload_n hx hb dX12_areAll_0 rfl (lv_at hl 0 rfl) ?_
  refine lv_iload_n hx hb dX12_areAll_1 rfl (lv_at hl 1 rfl) ?_
  obtain ⟨r1, er1, hf⟩ := bd_e hf
  refine gVr_i E hK hP (cX12_isBladec _ er1) kV_X12_isBlade wd_5_188 rfl rfl (q_model ks ad σ) rfl rfl rfl ⟨Nat.le_of_ble_eq_true rfl, Nat.le_of_ble_eq_true rfl⟩ ⟨Nat.zero_le _, Nat.zero_le _⟩ hl.1 (Nat.le_of_ble_eq_true rfl) rfl dX12_areAll_2 ?_
  refine lv_if_eq (tgt := 28) hx hb dX12_areAll_5 (by decide) (fun c2 => ?_) (fun c2 => ?_)
  · replace hf := pos_e c2 hf
    refine lv_iconst (v := 0) hx hb dX12_areAll_28 (by decide) ?_
    exact gret_z rfl E hr hlk dX12_areAll_29 (som_e hf).symm
  · replace hf := neg_e c2 hf
    refine lv_aload_n hx hb dX12_areAll_8 rfl (lv_at hl 0 rfl) ?_
    refine lv_iload_n hx hb dX12_areAll_9 rfl (lv_at hl 2 rfl) ?_
    obtain ⟨r3, er3, hf⟩ := bd_e hf
    refine gVr_i E hK hP (cX12_isThumbsc _ er3) kV_X12_isThumbs wd_5_192 rfl rfl (q_model ks ad σ) rfl rfl rfl ⟨Nat.le_of_ble_eq_true rfl, Nat.le_of_ble_eq_true rfl⟩ ⟨Nat.zero_le _, Nat.zero_le _⟩ hl.1 (Nat.le_of_ble_eq_true rfl) rfl dX12_areAll_10 ?_
    refine lv_if_eq (tgt := 28) hx hb dX12_areAll_13 (by decide) (fun c4 => ?_) (fun c4 => ?_)
    · replace hf := pos_e c4 hf
      refine lv_iconst (v := 0) hx hb dX12_areAll_28 (by decide) ?_
      exact gret_z rfl E hr hlk dX12_areAll_29 (som_e hf).symm
    · replace hf := neg_e c4 hf
      refine lv_aload_n hx hb dX12_areAll_16 rfl (lv_at hl 0 rfl) ?_
      refine lv_iload_n hx hb dX12_areAll_17 rfl (lv_at hl 3 rfl) ?_
      obtain ⟨r5, er5, hf⟩ := bd_e hf
      refine gVr_i E hK hP (cX12_isBlowc _ er5) kV_X12_isBlow wd_5_196 rfl rfl (q_model ks ad σ) rfl rfl rfl ⟨Nat.le_of_ble_eq_true rfl, Nat.le_of_ble_eq_true rfl⟩ ⟨Nat.zero_le _, Nat.zero_le _⟩ hl.1 (Nat.le_of_ble_eq_true rfl) rfl dX12_areAll_18 ?_
      refine lv_if_eq (tgt := 28) hx hb dX12_areAll_21 (by decide) (fun c6 => ?_) (fun c6 => ?_)
      · replace hf := pos_e c6 hf
        refine lv_iconst (v := 0) hx hb dX12_areAll_28 (by decide) ?_
        exact gret_z rfl E hr hlk dX12_areAll_29 (som_e hf).symm
      · replace hf := neg_e c6 hf
        refine lv_iconst (v := 1) hx hb dX12_areAll_24 (by decide) ?_
        refine lv_goto (tgt := 29) hx hb dX12_areAll_25 (by decide) ?_
        exact gret_z rfl E hr hlk dX12_areAll_29 (som_e hf).symm
noncomputable def fX12_isForce (σ : St) (a1 : Int32) : Option (Int32) :=
  bd (fX12_isIn σ a1 0 60) fun r1 =>
  ck (r1 = 0 ∨ r1 = 1) (some r1)
def rX12_isForce : Room := { frames := 1, cells := 0, slots := 0, locals := 22 }
set_option maxHeartbeats 4000000 in
set_option maxRecDepth 100000 in
theorem cX12_isForcec {l : Launch} {dC : Nat → ClassId} {dI : Nat → Nat → Nat} {ks : Nat → ClassId} {ad : Nat → Nat → Nat} {σ : St} (a1 : Int32)  {out : Int32} (hf : fX12_isForce σ a1 = some out) : MRi l dC dI ks ad σ yX12_isForce cX12_isForce 1 (some .boolean) rX12_isForce [.int a1] out := by
  refine met_r (own := RX12) (by decide) rfl (Nat.le_of_ble_eq_true rfl) ?_
  intro p e s m args below meth c ls E hr hlk hP hK hl
  have hx := E.1
  have hb := E.2.1
  have hl : lv_has ls 1 [(0, .int a1)] := hl
  unfold fX12_isForce at hf
  refine lv_iload_n hx hb dX12_isForce_0 rfl (lv_at hl 0 rfl) ?_
  refine lv_iconst (v := 0) hx hb dX12_isForce_1 (by decide) ?_
  refine lv_bipush (v := 60) hx hb dX12_isForce_2 (by decide) ?_
  obtain ⟨r1, er1, hf⟩ := bd_e hf
  refine gSr_i E hK hP (cX12_isInc _ _ _ er1) kS_X12_isIn wd_5_138 rfl rfl rfl ⟨Nat.le_of_ble_eq_true rfl, Nat.le_of_ble_eq_true rfl⟩ ⟨Nat.zero_le _, Nat.zero_le _⟩ hl.1 (Nat.le_of_ble_eq_true rfl) rfl dX12_isForce_4 ?_
  obtain ⟨c2, hf⟩ := ck_e hf
  exact gret_z (nb_z c2) E hr hlk dX12_isForce_7 (som_e hf).symm
noncomputable def fX12_isSplit (σ : St) (a1 : Int32) : Option (Int32) :=
  bd (fX12_bladeOf σ a1 3) fun r1 =>
  bd (fX12_bladeOf σ a1 1) fun r2 =>
  bd (fX12_bladeOf σ a1 2) fun r3 =>
  if r1 ≤ (r2 + r3) then
  some 0
  else
  some 1
def rX12_isSplit : Room := { frames := 2, cells := 0, slots := 0, locals := 43 }
set_option maxHeartbeats 4000000 in
set_option maxRecDepth 100000 in
theorem cX12_isSplitc {l : Launch} {dC : Nat → ClassId} {dI : Nat → Nat → Nat} {ks : Nat → ClassId} {ad : Nat → Nat → Nat} {σ : St} (a1 : Int32)  {out : Int32} (hf : fX12_isSplit σ a1 = some out) : MRi l dC dI ks ad σ yX12_isSplit cX12_isSplit 2 (some .boolean) rX12_isSplit [.ref (ad 14 0), .int a1] out := by
  refine met_r (own := RX12) (by decide) rfl (Nat.le_of_ble_eq_true rfl) ?_
  intro p e s m args below meth c ls E hr hlk hP hK hl
  have hx := E.1
  have hb := E.2.1
  have hl : lv_has ls 2 [(0, .ref (ad 14 0)), (1, .int a1)] := hl
  unfold fX12_isSplit at hf
  refine lv_aload_n hx hb dX12_isSplit_0 rfl (lv_at hl 0 rfl) ?_
  refine lv_iload_n hx hb dX12_isSplit_1 rfl (lv_at hl 1 rfl) ?_
  refine lv_iconst (v := 3) hx hb dX12_isSplit_2 (by decide) ?_
  obtain ⟨r1, er1, hf⟩ := bd_e hf
  refine gVr_i E hK hP (cX12_bladeOfc _ _ er1) kV_X12_bladeOf wd_5_204 rfl rfl (q_model ks ad σ) rfl rfl rfl ⟨Nat.le_of_ble_eq_true rfl, Nat.le_of_ble_eq_true rfl⟩ ⟨Nat.zero_le _, Nat.zero_le _⟩ hl.1 (Nat.le_of_ble_eq_true rfl) rfl dX12_isSplit_3 ?_
  refine lv_aload_n hx hb dX12_isSplit_6 rfl (lv_at hl 0 rfl) ?_
  refine lv_iload_n hx hb dX12_isSplit_7 rfl (lv_at hl 1 rfl) ?_
  refine lv_iconst (v := 1) hx hb dX12_isSplit_8 (by decide) ?_
  obtain ⟨r2, er2, hf⟩ := bd_e hf
  refine gVr_i E hK hP (cX12_bladeOfc _ _ er2) kV_X12_bladeOf wd_5_204 rfl rfl (q_model ks ad σ) rfl rfl rfl ⟨Nat.le_of_ble_eq_true rfl, Nat.le_of_ble_eq_true rfl⟩ ⟨Nat.zero_le _, Nat.zero_le _⟩ hl.1 (Nat.le_of_ble_eq_true rfl) rfl dX12_isSplit_9 ?_
  refine lv_aload_n hx hb dX12_isSplit_12 rfl (lv_at hl 0 rfl) ?_
  refine lv_iload_n hx hb dX12_isSplit_13 rfl (lv_at hl 1 rfl) ?_
  refine lv_iconst (v := 2) hx hb dX12_isSplit_14 (by decide) ?_
  obtain ⟨r3, er3, hf⟩ := bd_e hf
  refine gVr_i E hK hP (cX12_bladeOfc _ _ er3) kV_X12_bladeOf wd_5_204 rfl rfl (q_model ks ad σ) rfl rfl rfl ⟨Nat.le_of_ble_eq_true rfl, Nat.le_of_ble_eq_true rfl⟩ ⟨Nat.zero_le _, Nat.zero_le _⟩ hl.1 (Nat.le_of_ble_eq_true rfl) rfl dX12_isSplit_15 ?_
  refine lv_iadd hx hb dX12_isSplit_18 ?_
  refine lv_icmp_le (tgt := 26) hx hb dX12_isSplit_19 (by decide) (fun c4 => ?_) (fun c4 => ?_)
  · replace hf := pos_e c4 hf
    refine lv_iconst (v := 0) hx hb dX12_isSplit_26 (by decide) ?_
    exact gret_z rfl E hr hlk dX12_isSplit_27 (som_e hf).symm
  · replace hf := neg_e c4 hf
    refine lv_iconst (v := 1) hx hb dX12_isSplit_22 (by decide) ?_
    refine lv_goto (tgt := 27) hx hb dX12_isSplit_23 (by decide) ?_
    exact gret_z rfl E hr hlk dX12_isSplit_27 (som_e hf).symm
noncomputable def fX12_isSounding (σ : St) (a1 : Int32) : Option (Int32) :=
  if a1 = 2 then
  some 1
  else
  if a1 = 3 then
  some 1
  else
  if a1 = 5 then
  some 1
  else
  if a1 = 6 then
  some 1
  else
  some 0
def rX12_isSounding : Room := { frames := 0, cells := 0, slots := 0, locals := 0 }
set_option maxHeartbeats 4000000 in
set_option maxRecDepth 100000 in
theorem cX12_isSoundingc {l : Launch} {dC : Nat → ClassId} {dI : Nat → Nat → Nat} {ks : Nat → ClassId} {ad : Nat → Nat → Nat} {σ : St} (a1 : Int32)  {out : Int32} (hf : fX12_isSounding σ a1 = some out) : MRi l dC dI ks ad σ yX12_isSounding cX12_isSounding 1 (some .boolean) rX12_isSounding [.int a1] out := by
  refine met_r (own := RX12) (by decide) rfl (Nat.le_of_ble_eq_true rfl) ?_
  intro p e s m args below meth c ls E hr hlk hP hK hl
  have hx := E.1
  have hb := E.2.1
  have hl : lv_has ls 1 [(0, .int a1)] := hl
  unfold fX12_isSounding at hf
  refine lv_iload_n hx hb dX12_isSounding_0 rfl (lv_at hl 0 rfl) ?_
  refine lv_iconst (v := 2) hx hb dX12_isSounding_1 (by decide) ?_
  refine lv_icmp_eq (tgt := 21) hx hb dX12_isSounding_2 (by decide) (fun c1 => ?_) (fun c1 => ?_)
  · replace hf := pos_e c1 hf
    refine lv_iconst (v := 1) hx hb dX12_isSounding_21 (by decide) ?_
    refine lv_goto (tgt := 26) hx hb dX12_isSounding_22 (by decide) ?_
    exact gret_z rfl E hr hlk dX12_isSounding_26 (som_e hf).symm
  · replace hf := neg_e c1 hf
    refine lv_iload_n hx hb dX12_isSounding_5 rfl (lv_at hl 0 rfl) ?_
    refine lv_iconst (v := 3) hx hb dX12_isSounding_6 (by decide) ?_
    refine lv_icmp_eq (tgt := 21) hx hb dX12_isSounding_7 (by decide) (fun c2 => ?_) (fun c2 => ?_)
    · replace hf := pos_e c2 hf
      refine lv_iconst (v := 1) hx hb dX12_isSounding_21 (by decide) ?_
      refine lv_goto (tgt := 26) hx hb dX12_isSounding_22 (by decide) ?_
      exact gret_z rfl E hr hlk dX12_isSounding_26 (som_e hf).symm
    · replace hf := neg_e c2 hf
      refine lv_iload_n hx hb dX12_isSounding_10 rfl (lv_at hl 0 rfl) ?_
      refine lv_iconst (v := 5) hx hb dX12_isSounding_11 (by decide) ?_
      refine lv_icmp_eq (tgt := 21) hx hb dX12_isSounding_12 (by decide) (fun c3 => ?_) (fun c3 => ?_)
      · replace hf := pos_e c3 hf
        refine lv_iconst (v := 1) hx hb dX12_isSounding_21 (by decide) ?_
        refine lv_goto (tgt := 26) hx hb dX12_isSounding_22 (by decide) ?_
        exact gret_z rfl E hr hlk dX12_isSounding_26 (som_e hf).symm
      · replace hf := neg_e c3 hf
        refine lv_iload_n hx hb dX12_isSounding_15 rfl (lv_at hl 0 rfl) ?_
        refine lv_bipush (v := 6) hx hb dX12_isSounding_16 (by decide) ?_
        refine lv_icmp_ne (tgt := 25) hx hb dX12_isSounding_18 (by decide) (fun c4 => ?_) (fun c4 => ?_)
        · replace hf := neg_e c4 hf
          refine lv_iconst (v := 0) hx hb dX12_isSounding_25 (by decide) ?_
          exact gret_z rfl E hr hlk dX12_isSounding_26 (som_e hf).symm
        · replace hf := pos_e c4 hf
          refine lv_iconst (v := 1) hx hb dX12_isSounding_21 (by decide) ?_
          refine lv_goto (tgt := 26) hx hb dX12_isSounding_22 (by decide) ?_
          exact gret_z rfl E hr hlk dX12_isSounding_26 (som_e hf).symm
noncomputable def fX12_slitOf (σ : St) (a1 : Int32) : Option (Int32) :=
  bd (fX12_atThumbs σ a1 0) fun r1 =>
  ck (vp_in r1 47) <|
  nmv (gI σ 12 0 r1.toNatClampNeg) fun v3 =>
  if (gI σ 11 0 4) = 2 then
  if v3 ≤ 0 then
  some v3
  else
  some (v3 - 1)
  else
  some v3
def rX12_slitOf : Room := { frames := 1, cells := 0, slots := 0, locals := 21 }
set_option maxHeartbeats 4000000 in
set_option maxRecDepth 100000 in
theorem cX12_slitOfc {l : Launch} {dC : Nat → ClassId} {dI : Nat → Nat → Nat} {ks : Nat → ClassId} {ad : Nat → Nat → Nat} {σ : St} (a1 : Int32)  {out : Int32} (hf : fX12_slitOf σ a1 = some out) : MRi l dC dI ks ad σ yX12_slitOf cX12_slitOf 3 (some .int) rX12_slitOf [.ref (ad 14 0), .int a1] out := by
  refine met_r (own := RX12) (by decide) rfl (Nat.le_of_ble_eq_true rfl) ?_
  intro p e s m args below meth c ls E hr hlk hP hK hl
  have hx := E.1
  have hb := E.2.1
  have hl : lv_has ls 3 [(0, .ref (ad 14 0)), (1, .int a1)] := hl
  unfold fX12_slitOf at hf
  refine lv_aload_n hx hb dX12_slitOf_0 rfl (lv_at hl 0 rfl) ?_
  refine gget E in_X12 hK hP (q_model ks ad σ) rfl (k := 0) (by decide) wd_5_60 rfl (v := .ref (ad 15 0)) rfl dX12_slitOf_1 ?_
  refine lv_iload_n hx hb dX12_slitOf_4 rfl (lv_at hl 1 rfl) ?_
  refine lv_iconst (v := 0) hx hb dX12_slitOf_5 (by decide) ?_
  obtain ⟨r1, er1, hf⟩ := bd_e hf
  refine gSr_i E hK hP (cX12_atThumbsc _ _ er1) kS_X12_atThumbs wd_5_174 rfl rfl rfl ⟨Nat.le_of_ble_eq_true rfl, Nat.le_of_ble_eq_true rfl⟩ ⟨Nat.zero_le _, Nat.zero_le _⟩ hl.1 (Nat.le_of_ble_eq_true rfl) rfl dX12_slitOf_6 ?_
  obtain ⟨c2, hf⟩ := ck_e hf
  refine giald E hK hP (q_M0 ks ad σ) c2 dX12_slitOf_9 ?_
  obtain ⟨v3, ev3, hf⟩ := nmv_e hf
  refine lv_nmi ev3 ?_
  refine lv_istore_n (lv' := [(2, .int v3), (0, .ref (ad 14 0)), (1, .int a1)]) hx hb dX12_slitOf_10 rfl hl (by decide) rfl (fun ls hl => ?_)
  refine lv_aload_n hx hb dX12_slitOf_11 rfl (lv_at hl 1 rfl) ?_
  refine gget E in_X12 hK hP (q_model ks ad σ) rfl (k := 4) (by decide) wd_5_64 rfl (v := .int (gI σ 11 0 4)) rfl dX12_slitOf_12 ?_
  refine lv_iconst (v := 2) hx hb dX12_slitOf_15 (by decide) ?_
  refine lv_icmp_ne (tgt := 29) hx hb dX12_slitOf_16 (by decide) (fun c4 => ?_) (fun c4 => ?_)
  · replace hf := neg_e c4 hf
    refine lv_iload_n hx hb dX12_slitOf_29 rfl (lv_at hl 0 rfl) ?_
    exact gret_i E hr hlk dX12_slitOf_30 (som_e hf).symm
  · replace hf := pos_e c4 hf
    refine lv_iload_n hx hb dX12_slitOf_19 rfl (lv_at hl 0 rfl) ?_
    refine lv_if_le (tgt := 29) hx hb dX12_slitOf_20 (by decide) (fun c5 => ?_) (fun c5 => ?_)
    · replace hf := pos_e c5 hf
      refine lv_iload_n hx hb dX12_slitOf_29 rfl (lv_at hl 0 rfl) ?_
      exact gret_i E hr hlk dX12_slitOf_30 (som_e hf).symm
    · replace hf := neg_e c5 hf
      refine lv_iload_n hx hb dX12_slitOf_23 rfl (lv_at hl 0 rfl) ?_
      refine lv_iconst (v := 1) hx hb dX12_slitOf_24 (by decide) ?_
      refine lv_isub hx hb dX12_slitOf_25 ?_
      refine lv_goto (tgt := 30) hx hb dX12_slitOf_26 (by decide) ?_
      exact gret_i E hr hlk dX12_slitOf_30 (som_e hf).symm
noncomputable def fX12_gripOf_J23 (σ : St) (r1 : Int32) (z3 : Int32) : Option (Int32) :=
  nmv ((gI σ 12 0 r1.toNatClampNeg) + z3) fun v4 =>
  if v4 ≤ 60 then
  some v4
  else
  some 60
noncomputable def fX12_gripOf (σ : St) (a1 : Int32) : Option (Int32) :=
  bd (fX12_atThumbs σ a1 1) fun r1 =>
  ck (vp_in r1 47) <|
  if (gI σ 11 0 4) = 1 then
  fX12_gripOf_J23 σ r1 5
  else
  fX12_gripOf_J23 σ r1 0
def rX12_gripOf : Room := { frames := 1, cells := 0, slots := 0, locals := 21 }
set_option maxHeartbeats 4000000 in
set_option maxRecDepth 100000 in
theorem cX12_gripOfc {l : Launch} {dC : Nat → ClassId} {dI : Nat → Nat → Nat} {ks : Nat → ClassId} {ad : Nat → Nat → Nat} {σ : St} (a1 : Int32)  {out : Int32} (hf : fX12_gripOf σ a1 = some out) : MRi l dC dI ks ad σ yX12_gripOf cX12_gripOf 3 (some .int) rX12_gripOf [.ref (ad 14 0), .int a1] out := by
  refine met_r (own := RX12) (by decide) rfl (Nat.le_of_ble_eq_true rfl) ?_
  intro p e s m args below meth c ls E hr hlk hP hK hl
  have hx := E.1
  have hb := E.2.1
  have hl : lv_has ls 3 [(0, .ref (ad 14 0)), (1, .int a1)] := hl
  unfold fX12_gripOf at hf
  refine lv_aload_n hx hb dX12_gripOf_0 rfl (lv_at hl 0 rfl) ?_
  refine gget E in_X12 hK hP (q_model ks ad σ) rfl (k := 0) (by decide) wd_5_60 rfl (v := .ref (ad 15 0)) rfl dX12_gripOf_1 ?_
  refine lv_iload_n hx hb dX12_gripOf_4 rfl (lv_at hl 1 rfl) ?_
  refine lv_iconst (v := 1) hx hb dX12_gripOf_5 (by decide) ?_
  obtain ⟨r1, er1, hf⟩ := bd_e hf
  refine gSr_i E hK hP (cX12_atThumbsc _ _ er1) kS_X12_atThumbs wd_5_174 rfl rfl rfl ⟨Nat.le_of_ble_eq_true rfl, Nat.le_of_ble_eq_true rfl⟩ ⟨Nat.zero_le _, Nat.zero_le _⟩ hl.1 (Nat.le_of_ble_eq_true rfl) rfl dX12_gripOf_6 ?_
  obtain ⟨c2, hf⟩ := ck_e hf
  refine giald E hK hP (q_M0 ks ad σ) c2 dX12_gripOf_9 ?_
  refine lv_aload_n hx hb dX12_gripOf_10 rfl (lv_at hl 0 rfl) ?_
  refine gget E in_X12 hK hP (q_model ks ad σ) rfl (k := 4) (by decide) wd_5_64 rfl (v := .int (gI σ 11 0 4)) rfl dX12_gripOf_11 ?_
  refine lv_iconst (v := 1) hx hb dX12_gripOf_14 (by decide) ?_
  have hJ_23 : ∀ (z3 : Int32) (hf : fX12_gripOf_J23 σ r1 z3 = some out) (ls : Array Slot), lv_has ls 3 [] → W p l e rX12_gripOf s m args below meth c s.heap [] 0 0 (MQ below (vp_Si (fun r => r = out)) args s 0 0 (fun _ => False)) (F0 m 23 ls [.int z3, .int (gI σ 12 0 r1.toNatClampNeg)]) := by
    intro z3 hf ls hl
    unfold fX12_gripOf_J23 at hf
    refine lv_iadd hx hb dX12_gripOf_23 ?_
    obtain ⟨v4, ev4, hf⟩ := nmv_e hf
    refine lv_nmi ev4 ?_
    refine lv_istore_n (lv' := [(2, .int v4)]) hx hb dX12_gripOf_24 rfl hl (by decide) rfl (fun ls hl => ?_)
    refine lv_iload_n hx hb dX12_gripOf_25 rfl (lv_at hl 0 rfl) ?_
    refine lv_bipush (v := 60) hx hb dX12_gripOf_26 (by decide) ?_
    refine lv_icmp_le (tgt := 36) hx hb dX12_gripOf_28 (by decide) (fun c5 => ?_) (fun c5 => ?_)
    · replace hf := pos_e c5 hf
      refine lv_iload_n hx hb dX12_gripOf_36 rfl (lv_at hl 0 rfl) ?_
      exact gret_i E hr hlk dX12_gripOf_37 (som_e hf).symm
    · replace hf := neg_e c5 hf
      refine lv_bipush (v := 60) hx hb dX12_gripOf_31 (by decide) ?_
      refine lv_goto (tgt := 37) hx hb dX12_gripOf_33 (by decide) ?_
      exact gret_i E hr hlk dX12_gripOf_37 (som_e hf).symm
  refine lv_icmp_ne (tgt := 22) hx hb dX12_gripOf_15 (by decide) (fun c6 => ?_) (fun c6 => ?_)
  · replace hf := neg_e c6 hf
    refine lv_iconst (v := 0) hx hb dX12_gripOf_22 (by decide) ?_
    exact hJ_23 _ hf _ (lv_sub hl [] rfl)
  · replace hf := pos_e c6 hf
    refine lv_iconst (v := 5) hx hb dX12_gripOf_18 (by decide) ?_
    refine lv_goto (tgt := 23) hx hb dX12_gripOf_19 (by decide) ?_
    exact hJ_23 _ hf _ (lv_sub hl [] rfl)
noncomputable def fX12_lowPlain_J42 (σ : St) (a3 : Int32) (z7 : Int32) : Option (Int32) :=
  bd (fX12_kind σ a3) fun r8 =>
  if r8 = 3 then
  some (z7 + 10)
  else
  bd (fX12_kind σ a3) fun r10 =>
  if r10 = 6 then
  some (z7 + 1)
  else
  some z7
noncomputable def fX12_lowPlain (σ : St) (a1 : Int32) (a2 : Int32) (a3 : Int32) : Option (Int32) :=
  bd (fX12_bladeOf σ a1 0) fun r1 =>
  bd (fX12_slitOf σ a2) fun r2 =>
  nmv (r1 + r2) fun v3 =>
  bd (fX12_kind σ a3) fun r4 =>
  bd (fX12_isSounding σ r4) fun r5 =>
  if r5 = 0 then
  some v3
  else
  if 2 ≤ v3 then
  fX12_lowPlain_J42 σ a3 (v3 - 2)
  else
  fX12_lowPlain_J42 σ a3 0
def rX12_lowPlain : Room := { frames := 2, cells := 0, slots := 0, locals := 43 }
set_option maxHeartbeats 4000000 in
set_option maxRecDepth 100000 in
theorem cX12_lowPlainc {l : Launch} {dC : Nat → ClassId} {dI : Nat → Nat → Nat} {ks : Nat → ClassId} {ad : Nat → Nat → Nat} {σ : St} (a1 : Int32) (a2 : Int32) (a3 : Int32)  {out : Int32} (hf : fX12_lowPlain σ a1 a2 a3 = some out) : MRi l dC dI ks ad σ yX12_lowPlain cX12_lowPlain 5 (some .int) rX12_lowPlain [.ref (ad 14 0), .int a1, .int a2, .int a3] out := by
  refine met_r (own := RX12) (by decide) rfl (Nat.le_of_ble_eq_true rfl) ?_
  intro p e s m args below meth c ls E hr hlk hP hK hl
  have hx := E.1
  have hb := E.2.1
  have hl : lv_has ls 5 [(0, .ref (ad 14 0)), (1, .int a1), (2, .int a2), (3, .int a3)] := hl
  unfold fX12_lowPlain at hf
  refine lv_aload_n hx hb dX12_lowPlain_0 rfl (lv_at hl 0 rfl) ?_
  refine lv_iload_n hx hb dX12_lowPlain_1 rfl (lv_at hl 1 rfl) ?_
  refine lv_iconst (v := 0) hx hb dX12_lowPlain_2 (by decide) ?_
  obtain ⟨r1, er1, hf⟩ := bd_e hf
  refine gVr_i E hK hP (cX12_bladeOfc _ _ er1) kV_X12_bladeOf wd_5_204 rfl rfl (q_model ks ad σ) rfl rfl rfl ⟨Nat.le_of_ble_eq_true rfl, Nat.le_of_ble_eq_true rfl⟩ ⟨Nat.zero_le _, Nat.zero_le _⟩ hl.1 (Nat.le_of_ble_eq_true rfl) rfl dX12_lowPlain_3 ?_
  refine lv_aload_n hx hb dX12_lowPlain_6 rfl (lv_at hl 0 rfl) ?_
  refine lv_iload_n hx hb dX12_lowPlain_7 rfl (lv_at hl 2 rfl) ?_
  obtain ⟨r2, er2, hf⟩ := bd_e hf
  refine gVr_i E hK hP (cX12_slitOfc _ er2) kV_X12_slitOf wd_6_27 rfl rfl (q_model ks ad σ) rfl rfl rfl ⟨Nat.le_of_ble_eq_true rfl, Nat.le_of_ble_eq_true rfl⟩ ⟨Nat.zero_le _, Nat.zero_le _⟩ hl.1 (Nat.le_of_ble_eq_true rfl) rfl dX12_lowPlain_8 ?_
  refine lv_iadd hx hb dX12_lowPlain_11 ?_
  obtain ⟨v3, ev3, hf⟩ := nmv_e hf
  refine lv_nmi ev3 ?_
  refine lv_istore (lv' := [(4, .int v3), (0, .ref (ad 14 0)), (1, .int a1), (2, .int a2), (3, .int a3)]) hx hb dX12_lowPlain_12 hl (by decide) rfl (fun ls hl => ?_)
  refine lv_aload_n hx hb dX12_lowPlain_14 rfl (lv_at hl 1 rfl) ?_
  refine lv_iload_n hx hb dX12_lowPlain_15 rfl (lv_at hl 4 rfl) ?_
  obtain ⟨r4, er4, hf⟩ := bd_e hf
  refine gVr_i E hK hP (cX12_kindc _ er4) kV_X12_kind wd_5_212 rfl rfl (q_model ks ad σ) rfl rfl rfl ⟨Nat.le_of_ble_eq_true rfl, Nat.le_of_ble_eq_true rfl⟩ ⟨Nat.zero_le _, Nat.zero_le _⟩ hl.1 (Nat.le_of_ble_eq_true rfl) rfl dX12_lowPlain_16 ?_
  obtain ⟨r5, er5, hf⟩ := bd_e hf
  refine gSr_i E hK hP (cX12_isSoundingc _ er5) kS_X12_isSounding wd_6_31 rfl rfl rfl ⟨Nat.le_of_ble_eq_true rfl, Nat.le_of_ble_eq_true rfl⟩ ⟨Nat.zero_le _, Nat.zero_le _⟩ hl.1 (Nat.le_of_ble_eq_true rfl) rfl dX12_lowPlain_19 ?_
  refine lv_if_ne (tgt := 28) hx hb dX12_lowPlain_22 (by decide) (fun c6 => ?_) (fun c6 => ?_)
  · replace hf := neg_e c6 hf
    refine lv_iload hx hb dX12_lowPlain_28 (lv_at hl 0 rfl) ?_
    refine lv_iconst (v := 2) hx hb dX12_lowPlain_30 (by decide) ?_
    have hJ_42 : ∀ (z7 : Int32) (hf : fX12_lowPlain_J42 σ a3 z7 = some out) (ls : Array Slot), lv_has ls 5 [(0, .ref (ad 14 0)), (3, .int a3)] → W p l e rX12_lowPlain s m args below meth c s.heap [] 0 0 (MQ below (vp_Si (fun r => r = out)) args s 0 0 (fun _ => False)) (F0 m 42 ls [.int z7]) := by
      intro z7 hf ls hl
      unfold fX12_lowPlain_J42 at hf
      refine lv_istore (lv' := [(4, .int z7), (0, .ref (ad 14 0)), (3, .int a3)]) hx hb dX12_lowPlain_42 hl (by decide) rfl (fun ls hl => ?_)
      refine lv_aload_n hx hb dX12_lowPlain_44 rfl (lv_at hl 1 rfl) ?_
      refine lv_iload_n hx hb dX12_lowPlain_45 rfl (lv_at hl 2 rfl) ?_
      obtain ⟨r8, er8, hf⟩ := bd_e hf
      refine gVr_i E hK hP (cX12_kindc _ er8) kV_X12_kind wd_5_212 rfl rfl (q_model ks ad σ) rfl rfl rfl ⟨Nat.le_of_ble_eq_true rfl, Nat.le_of_ble_eq_true rfl⟩ ⟨Nat.zero_le _, Nat.zero_le _⟩ hl.1 (Nat.le_of_ble_eq_true rfl) rfl dX12_lowPlain_46 ?_
      refine lv_iconst (v := 3) hx hb dX12_lowPlain_49 (by decide) ?_
      refine lv_icmp_ne (tgt := 61) hx hb dX12_lowPlain_50 (by decide) (fun c9 => ?_) (fun c9 => ?_)
      · replace hf := neg_e c9 hf
        refine lv_aload_n hx hb dX12_lowPlain_61 rfl (lv_at hl 1 rfl) ?_
        refine lv_iload_n hx hb dX12_lowPlain_62 rfl (lv_at hl 2 rfl) ?_
        obtain ⟨r10, er10, hf⟩ := bd_e hf
        refine gVr_i E hK hP (cX12_kindc _ er10) kV_X12_kind wd_5_212 rfl rfl (q_model ks ad σ) rfl rfl rfl ⟨Nat.le_of_ble_eq_true rfl, Nat.le_of_ble_eq_true rfl⟩ ⟨Nat.zero_le _, Nat.zero_le _⟩ hl.1 (Nat.le_of_ble_eq_true rfl) rfl dX12_lowPlain_63 ?_
        refine lv_bipush (v := 6) hx hb dX12_lowPlain_66 (by decide) ?_
        refine lv_icmp_ne (tgt := 78) hx hb dX12_lowPlain_68 (by decide) (fun c11 => ?_) (fun c11 => ?_)
        · replace hf := neg_e c11 hf
          refine lv_iload hx hb dX12_lowPlain_78 (lv_at hl 0 rfl) ?_
          exact gret_i E hr hlk dX12_lowPlain_80 (som_e hf).symm
        · replace hf := pos_e c11 hf
          refine lv_iload hx hb dX12_lowPlain_71 (lv_at hl 0 rfl) ?_
          refine lv_iconst (v := 1) hx hb dX12_lowPlain_73 (by decide) ?_
          refine lv_iadd hx hb dX12_lowPlain_74 ?_
          refine lv_goto (tgt := 80) hx hb dX12_lowPlain_75 (by decide) ?_
          exact gret_i E hr hlk dX12_lowPlain_80 (som_e hf).symm
      · replace hf := pos_e c9 hf
        refine lv_iload hx hb dX12_lowPlain_53 (lv_at hl 0 rfl) ?_
        refine lv_bipush (v := 10) hx hb dX12_lowPlain_55 (by decide) ?_
        refine lv_iadd hx hb dX12_lowPlain_57 ?_
        refine lv_goto (tgt := 80) hx hb dX12_lowPlain_58 (by decide) ?_
        exact gret_i E hr hlk dX12_lowPlain_80 (som_e hf).symm
    refine lv_icmp_ge (tgt := 38) hx hb dX12_lowPlain_31 (by decide) (fun c12 => ?_) (fun c12 => ?_)
    · replace hf := pos_e c12 hf
      refine lv_iload hx hb dX12_lowPlain_38 (lv_at hl 0 rfl) ?_
      refine lv_iconst (v := 2) hx hb dX12_lowPlain_40 (by decide) ?_
      refine lv_isub hx hb dX12_lowPlain_41 ?_
      exact hJ_42 _ hf _ (lv_sub hl [1, 4] rfl)
    · replace hf := neg_e c12 hf
      refine lv_iconst (v := 0) hx hb dX12_lowPlain_34 (by decide) ?_
      refine lv_goto (tgt := 42) hx hb dX12_lowPlain_35 (by decide) ?_
      exact hJ_42 _ hf _ (lv_sub hl [1, 4] rfl)
  · replace hf := pos_e c6 hf
    refine lv_iload hx hb dX12_lowPlain_25 (lv_at hl 0 rfl) ?_
    exact gret_i E hr hlk dX12_lowPlain_27 (som_e hf).symm
noncomputable def fX12_low (σ : St) (a1 : Int32) (a2 : Int32) (a3 : Int32) : Option (Int32) :=
  bd (fX12_lowPlain σ a1 a2 a3) fun r1 =>
  if (gI σ 11 0 4) = 0 then
  if 2 ≤ r1 then
  some (r1 - 2)
  else
  some 0
  else
  some r1
def rX12_low : Room := { frames := 3, cells := 0, slots := 0, locals := 67 }
set_option maxHeartbeats 4000000 in
set_option maxRecDepth 100000 in
theorem cX12_lowc {l : Launch} {dC : Nat → ClassId} {dI : Nat → Nat → Nat} {ks : Nat → ClassId} {ad : Nat → Nat → Nat} {σ : St} (a1 : Int32) (a2 : Int32) (a3 : Int32)  {out : Int32} (hf : fX12_low σ a1 a2 a3 = some out) : MRi l dC dI ks ad σ yX12_low cX12_low 5 (some .int) rX12_low [.ref (ad 14 0), .int a1, .int a2, .int a3] out := by
  refine met_r (own := RX12) (by decide) rfl (Nat.le_of_ble_eq_true rfl) ?_
  intro p e s m args below meth c ls E hr hlk hP hK hl
  have hx := E.1
  have hb := E.2.1
  have hl : lv_has ls 5 [(0, .ref (ad 14 0)), (1, .int a1), (2, .int a2), (3, .int a3)] := hl
  unfold fX12_low at hf
  refine lv_aload_n hx hb dX12_low_0 rfl (lv_at hl 0 rfl) ?_
  refine lv_iload_n hx hb dX12_low_1 rfl (lv_at hl 1 rfl) ?_
  refine lv_iload_n hx hb dX12_low_2 rfl (lv_at hl 2 rfl) ?_
  refine lv_iload_n hx hb dX12_low_3 rfl (lv_at hl 3 rfl) ?_
  obtain ⟨r1, er1, hf⟩ := bd_e hf
  refine gVr_i E hK hP (cX12_lowPlainc _ _ _ er1) kV_X12_lowPlain wd_6_23 rfl rfl (q_model ks ad σ) rfl rfl rfl ⟨Nat.le_of_ble_eq_true rfl, Nat.le_of_ble_eq_true rfl⟩ ⟨Nat.zero_le _, Nat.zero_le _⟩ hl.1 (Nat.le_of_ble_eq_true rfl) rfl dX12_low_4 ?_
  refine lv_istore (lv' := [(4, .int r1), (0, .ref (ad 14 0)), (1, .int a1), (2, .int a2), (3, .int a3)]) hx hb dX12_low_7 hl (by decide) rfl (fun ls hl => ?_)
  refine lv_aload_n hx hb dX12_low_9 rfl (lv_at hl 1 rfl) ?_
  refine gget E in_X12 hK hP (q_model ks ad σ) rfl (k := 4) (by decide) wd_5_64 rfl (v := .int (gI σ 11 0 4)) rfl dX12_low_10 ?_
  refine lv_if_eq (tgt := 21) hx hb dX12_low_13 (by decide) (fun c2 => ?_) (fun c2 => ?_)
  · replace hf := pos_e c2 hf
    refine lv_iload hx hb dX12_low_21 (lv_at hl 0 rfl) ?_
    refine lv_iconst (v := 2) hx hb dX12_low_23 (by decide) ?_
    refine lv_icmp_ge (tgt := 31) hx hb dX12_low_24 (by decide) (fun c3 => ?_) (fun c3 => ?_)
    · replace hf := pos_e c3 hf
      refine lv_iload hx hb dX12_low_31 (lv_at hl 0 rfl) ?_
      refine lv_iconst (v := 2) hx hb dX12_low_33 (by decide) ?_
      refine lv_isub hx hb dX12_low_34 ?_
      exact gret_i E hr hlk dX12_low_35 (som_e hf).symm
    · replace hf := neg_e c3 hf
      refine lv_iconst (v := 0) hx hb dX12_low_27 (by decide) ?_
      refine lv_goto (tgt := 35) hx hb dX12_low_28 (by decide) ?_
      exact gret_i E hr hlk dX12_low_35 (som_e hf).symm
  · replace hf := neg_e c2 hf
    refine lv_iload hx hb dX12_low_16 (lv_at hl 0 rfl) ?_
    refine lv_goto (tgt := 35) hx hb dX12_low_18 (by decide) ?_
    exact gret_i E hr hlk dX12_low_35 (som_e hf).symm
noncomputable def fX12_high (σ : St) (a1 : Int32) (a2 : Int32) (a3 : Int32) : Option (Int32) :=
  bd (fX12_bladeOf σ a1 2) fun r1 =>
  nmv (8 + r1) fun v2 =>
  bd (fX12_lowPlain σ a1 a2 a3) fun r3 =>
  bd (fX12_kind σ a3) fun r4 =>
  if r4 = 3 then
  some (r3 + (v2 / 2))
  else
  some (r3 + v2)
def rX12_high : Room := { frames := 3, cells := 0, slots := 0, locals := 67 }
set_option maxHeartbeats 4000000 in
set_option maxRecDepth 100000 in
theorem cX12_highc {l : Launch} {dC : Nat → ClassId} {dI : Nat → Nat → Nat} {ks : Nat → ClassId} {ad : Nat → Nat → Nat} {σ : St} (a1 : Int32) (a2 : Int32) (a3 : Int32)  {out : Int32} (hf : fX12_high σ a1 a2 a3 = some out) : MRi l dC dI ks ad σ yX12_high cX12_high 5 (some .int) rX12_high [.ref (ad 14 0), .int a1, .int a2, .int a3] out := by
  refine met_r (own := RX12) (by decide) rfl (Nat.le_of_ble_eq_true rfl) ?_
  intro p e s m args below meth c ls E hr hlk hP hK hl
  have hx := E.1
  have hb := E.2.1
  have hl : lv_has ls 5 [(0, .ref (ad 14 0)), (1, .int a1), (2, .int a2), (3, .int a3)] := hl
  unfold fX12_high at hf
  refine lv_bipush (v := 8) hx hb dX12_high_0 (by decide) ?_
  refine lv_aload_n hx hb dX12_high_2 rfl (lv_at hl 0 rfl) ?_
  refine lv_iload_n hx hb dX12_high_3 rfl (lv_at hl 1 rfl) ?_
  refine lv_iconst (v := 2) hx hb dX12_high_4 (by decide) ?_
  obtain ⟨r1, er1, hf⟩ := bd_e hf
  refine gVr_i E hK hP (cX12_bladeOfc _ _ er1) kV_X12_bladeOf wd_5_204 rfl rfl (q_model ks ad σ) rfl rfl rfl ⟨Nat.le_of_ble_eq_true rfl, Nat.le_of_ble_eq_true rfl⟩ ⟨Nat.zero_le _, Nat.zero_le _⟩ hl.1 (Nat.le_of_ble_eq_true rfl) rfl dX12_high_5 ?_
  refine lv_iadd hx hb dX12_high_8 ?_
  obtain ⟨v2, ev2, hf⟩ := nmv_e hf
  refine lv_nmi ev2 ?_
  refine lv_istore (lv' := [(4, .int v2), (0, .ref (ad 14 0)), (1, .int a1), (2, .int a2), (3, .int a3)]) hx hb dX12_high_9 hl (by decide) rfl (fun ls hl => ?_)
  refine lv_aload_n hx hb dX12_high_11 rfl (lv_at hl 1 rfl) ?_
  refine lv_iload_n hx hb dX12_high_12 rfl (lv_at hl 2 rfl) ?_
  refine lv_iload_n hx hb dX12_high_13 rfl (lv_at hl 3 rfl) ?_
  refine lv_iload_n hx hb dX12_high_14 rfl (lv_at hl 4 rfl) ?_
  obtain ⟨r3, er3, hf⟩ := bd_e hf
  refine gVr_i E hK hP (cX12_lowPlainc _ _ _ er3) kV_X12_lowPlain wd_6_23 rfl rfl (q_model ks ad σ) rfl rfl rfl ⟨Nat.le_of_ble_eq_true rfl, Nat.le_of_ble_eq_true rfl⟩ ⟨Nat.zero_le _, Nat.zero_le _⟩ hl.1 (Nat.le_of_ble_eq_true rfl) rfl dX12_high_15 ?_
  refine lv_aload_n hx hb dX12_high_18 rfl (lv_at hl 1 rfl) ?_
  refine lv_iload_n hx hb dX12_high_19 rfl (lv_at hl 4 rfl) ?_
  obtain ⟨r4, er4, hf⟩ := bd_e hf
  refine gVr_i E hK hP (cX12_kindc _ er4) kV_X12_kind wd_5_212 rfl rfl (q_model ks ad σ) rfl rfl rfl ⟨Nat.le_of_ble_eq_true rfl, Nat.le_of_ble_eq_true rfl⟩ ⟨Nat.zero_le _, Nat.zero_le _⟩ hl.1 (Nat.le_of_ble_eq_true rfl) rfl dX12_high_20 ?_
  refine lv_iconst (v := 3) hx hb dX12_high_23 (by decide) ?_
  refine lv_icmp_ne (tgt := 34) hx hb dX12_high_24 (by decide) (fun c5 => ?_) (fun c5 => ?_)
  · replace hf := neg_e c5 hf
    refine lv_iload hx hb dX12_high_34 (lv_at hl 0 rfl) ?_
    refine lv_iadd hx hb dX12_high_36 ?_
    exact gret_i E hr hlk dX12_high_37 (som_e hf).symm
  · replace hf := pos_e c5 hf
    refine lv_iload hx hb dX12_high_27 (lv_at hl 0 rfl) ?_
    refine lv_iconst (v := 2) hx hb dX12_high_29 (by decide) ?_
    refine lv_idiv hx hb dX12_high_30 (by decide) ?_
    refine lv_goto (tgt := 36) hx hb dX12_high_31 (by decide) ?_
    refine lv_iadd hx hb dX12_high_36 ?_
    exact gret_i E hr hlk dX12_high_37 (som_e hf).symm
noncomputable def fX12_softest (σ : St) (a1 : Int32) (a2 : Int32) : Option (Int32) :=
  bd (fX12_slitOf σ a1) fun r1 =>
  nmv (6 + (2 * r1)) fun v2 =>
  bd (fX12_kind σ a2) fun r3 =>
  if r3 = 1 then
  some 61
  else
  if r3 = 2 then
  some v2
  else
  if r3 = 3 then
  some (2 * v2)
  else
  if r3 = 4 then
  some v2
  else
  if r3 = 5 then
  some v2
  else
  if r3 = 6 then
  some (v2 / 2)
  else
  if r3 = 7 then
  some 61
  else
  some v2
def rX12_softest : Room := { frames := 2, cells := 0, slots := 0, locals := 43 }
set_option maxHeartbeats 4000000 in
set_option maxRecDepth 100000 in
theorem cX12_softestc {l : Launch} {dC : Nat → ClassId} {dI : Nat → Nat → Nat} {ks : Nat → ClassId} {ad : Nat → Nat → Nat} {σ : St} (a1 : Int32) (a2 : Int32)  {out : Int32} (hf : fX12_softest σ a1 a2 = some out) : MRi l dC dI ks ad σ yX12_softest cX12_softest 4 (some .int) rX12_softest [.ref (ad 14 0), .int a1, .int a2] out := by
  refine met_r (own := RX12) (by decide) rfl (Nat.le_of_ble_eq_true rfl) ?_
  intro p e s m args below meth c ls E hr hlk hP hK hl
  have hx := E.1
  have hb := E.2.1
  have hl : lv_has ls 4 [(0, .ref (ad 14 0)), (1, .int a1), (2, .int a2)] := hl
  unfold fX12_softest at hf
  refine lv_bipush (v := 6) hx hb dX12_softest_0 (by decide) ?_
  refine lv_iconst (v := 2) hx hb dX12_softest_2 (by decide) ?_
  refine lv_aload_n hx hb dX12_softest_3 rfl (lv_at hl 0 rfl) ?_
  refine lv_iload_n hx hb dX12_softest_4 rfl (lv_at hl 1 rfl) ?_
  obtain ⟨r1, er1, hf⟩ := bd_e hf
  refine gVr_i E hK hP (cX12_slitOfc _ er1) kV_X12_slitOf wd_6_27 rfl rfl (q_model ks ad σ) rfl rfl rfl ⟨Nat.le_of_ble_eq_true rfl, Nat.le_of_ble_eq_true rfl⟩ ⟨Nat.zero_le _, Nat.zero_le _⟩ hl.1 (Nat.le_of_ble_eq_true rfl) rfl dX12_softest_5 ?_
  refine lv_imul hx hb dX12_softest_8 ?_
  refine lv_iadd hx hb dX12_softest_9 ?_
  obtain ⟨v2, ev2, hf⟩ := nmv_e hf
  refine lv_nmi ev2 ?_
  refine lv_istore_n (lv' := [(3, .int v2), (0, .ref (ad 14 0)), (1, .int a1), (2, .int a2)]) hx hb dX12_softest_10 rfl hl (by decide) rfl (fun ls hl => ?_)
  refine lv_aload_n hx hb dX12_softest_11 rfl (lv_at hl 1 rfl) ?_
  refine lv_iload_n hx hb dX12_softest_12 rfl (lv_at hl 3 rfl) ?_
  obtain ⟨r3, er3, hf⟩ := bd_e hf
  refine gVr_i E hK hP (cX12_kindc _ er3) kV_X12_kind wd_5_212 rfl rfl (q_model ks ad σ) rfl rfl rfl ⟨Nat.le_of_ble_eq_true rfl, Nat.le_of_ble_eq_true rfl⟩ ⟨Nat.zero_le _, Nat.zero_le _⟩ hl.1 (Nat.le_of_ble_eq_true rfl) rfl dX12_softest_13 ?_
  by_cases c4 : r3 = 1
  · replace hf := pos_e c4 hf
    refine lv_tableIn (tgt := 60) (off := 44) hx hb dX12_softest_16 (by rw [c4]; decide) (by rw [c4]; decide) (by rw [c4]; rfl) (by decide) ?_
    refine lv_bipush (v := 61) hx hb dX12_softest_60 (by decide) ?_
    exact gret_i E hr hlk dX12_softest_62 (som_e hf).symm
  · replace hf := neg_e c4 hf
    by_cases c5 : r3 = 2
    · replace hf := pos_e c5 hf
      refine lv_tableIn (tgt := 71) (off := 55) hx hb dX12_softest_16 (by rw [c5]; decide) (by rw [c5]; decide) (by rw [c5]; rfl) (by decide) ?_
      refine lv_iload_n hx hb dX12_softest_71 rfl (lv_at hl 0 rfl) ?_
      exact gret_i E hr hlk dX12_softest_72 (som_e hf).symm
    · replace hf := neg_e c5 hf
      by_cases c6 : r3 = 3
      · replace hf := pos_e c6 hf
        refine lv_tableIn (tgt := 63) (off := 47) hx hb dX12_softest_16 (by rw [c6]; decide) (by rw [c6]; decide) (by rw [c6]; rfl) (by decide) ?_
        refine lv_iconst (v := 2) hx hb dX12_softest_63 (by decide) ?_
        refine lv_iload_n hx hb dX12_softest_64 rfl (lv_at hl 0 rfl) ?_
        refine lv_imul hx hb dX12_softest_65 ?_
        exact gret_i E hr hlk dX12_softest_66 (som_e hf).symm
      · replace hf := neg_e c6 hf
        by_cases c7 : r3 = 4
        · replace hf := pos_e c7 hf
          refine lv_tableIn (tgt := 71) (off := 55) hx hb dX12_softest_16 (by rw [c7]; decide) (by rw [c7]; decide) (by rw [c7]; rfl) (by decide) ?_
          refine lv_iload_n hx hb dX12_softest_71 rfl (lv_at hl 0 rfl) ?_
          exact gret_i E hr hlk dX12_softest_72 (som_e hf).symm
        · replace hf := neg_e c7 hf
          by_cases c8 : r3 = 5
          · replace hf := pos_e c8 hf
            refine lv_tableIn (tgt := 71) (off := 55) hx hb dX12_softest_16 (by rw [c8]; decide) (by rw [c8]; decide) (by rw [c8]; rfl) (by decide) ?_
            refine lv_iload_n hx hb dX12_softest_71 rfl (lv_at hl 0 rfl) ?_
            exact gret_i E hr hlk dX12_softest_72 (som_e hf).symm
          · replace hf := neg_e c8 hf
            by_cases c9 : r3 = 6
            · replace hf := pos_e c9 hf
              refine lv_tableIn (tgt := 67) (off := 51) hx hb dX12_softest_16 (by rw [c9]; decide) (by rw [c9]; decide) (by rw [c9]; rfl) (by decide) ?_
              refine lv_iload_n hx hb dX12_softest_67 rfl (lv_at hl 0 rfl) ?_
              refine lv_iconst (v := 2) hx hb dX12_softest_68 (by decide) ?_
              refine lv_idiv hx hb dX12_softest_69 (by decide) ?_
              exact gret_i E hr hlk dX12_softest_70 (som_e hf).symm
            · replace hf := neg_e c9 hf
              by_cases c10 : r3 = 7
              · replace hf := pos_e c10 hf
                refine lv_tableIn (tgt := 60) (off := 44) hx hb dX12_softest_16 (by rw [c10]; decide) (by rw [c10]; decide) (by rw [c10]; rfl) (by decide) ?_
                refine lv_bipush (v := 61) hx hb dX12_softest_60 (by decide) ?_
                exact gret_i E hr hlk dX12_softest_62 (som_e hf).symm
              · replace hf := neg_e c10 hf
                refine lv_tableOut (tgt := 71) hx hb dX12_softest_16 (by have q0 := lv_neT c4 (a := 1) rfl; have q1 := lv_neT c5 (a := 2) rfl; have q2 := lv_neT c6 (a := 3) rfl; have q3 := lv_neT c7 (a := 4) rfl; have q4 := lv_neT c8 (a := 5) rfl; have q5 := lv_neT c9 (a := 6) rfl; have q6 := lv_neT c10 (a := 7) rfl; omega) (by decide) ?_
                refine lv_iload_n hx hb dX12_softest_71 rfl (lv_at hl 0 rfl) ?_
                exact gret_i E hr hlk dX12_softest_72 (som_e hf).symm
noncomputable def fX12_hardest (σ : St) (a1 : Int32) (a2 : Int32) : Option (Int32) :=
  bd (fX12_softest σ a1 a2) fun r1 =>
  bd (fX12_kind σ a2) fun r2 =>
  if r2 = 4 then
  bd (fX12_figure σ a2) fun r6 =>
  some (r1 + (20 - r6))
  else
  bd (fX12_kind σ a2) fun r4 =>
  if r4 = 6 then
  some (r1 + 10)
  else
  some (r1 + 20)
def rX12_hardest : Room := { frames := 3, cells := 0, slots := 0, locals := 66 }
set_option maxHeartbeats 4000000 in
set_option maxRecDepth 100000 in
theorem cX12_hardestc {l : Launch} {dC : Nat → ClassId} {dI : Nat → Nat → Nat} {ks : Nat → ClassId} {ad : Nat → Nat → Nat} {σ : St} (a1 : Int32) (a2 : Int32)  {out : Int32} (hf : fX12_hardest σ a1 a2 = some out) : MRi l dC dI ks ad σ yX12_hardest cX12_hardest 3 (some .int) rX12_hardest [.ref (ad 14 0), .int a1, .int a2] out := by
  refine met_r (own := RX12) (by decide) rfl (Nat.le_of_ble_eq_true rfl) ?_
  intro p e s m args below meth c ls E hr hlk hP hK hl
  have hx := E.1
  have hb := E.2.1
  have hl : lv_has ls 3 [(0, .ref (ad 14 0)), (1, .int a1), (2, .int a2)] := hl
  unfold fX12_hardest at hf
  refine lv_aload_n hx hb dX12_hardest_0 rfl (lv_at hl 0 rfl) ?_
  refine lv_iload_n hx hb dX12_hardest_1 rfl (lv_at hl 1 rfl) ?_
  refine lv_iload_n hx hb dX12_hardest_2 rfl (lv_at hl 2 rfl) ?_
  obtain ⟨r1, er1, hf⟩ := bd_e hf
  refine gVr_i E hK hP (cX12_softestc _ _ er1) kV_X12_softest wd_6_38 rfl rfl (q_model ks ad σ) rfl rfl rfl ⟨Nat.le_of_ble_eq_true rfl, Nat.le_of_ble_eq_true rfl⟩ ⟨Nat.zero_le _, Nat.zero_le _⟩ hl.1 (Nat.le_of_ble_eq_true rfl) rfl dX12_hardest_3 ?_
  refine lv_aload_n hx hb dX12_hardest_6 rfl (lv_at hl 0 rfl) ?_
  refine lv_iload_n hx hb dX12_hardest_7 rfl (lv_at hl 2 rfl) ?_
  obtain ⟨r2, er2, hf⟩ := bd_e hf
  refine gVr_i E hK hP (cX12_kindc _ er2) kV_X12_kind wd_5_212 rfl rfl (q_model ks ad σ) rfl rfl rfl ⟨Nat.le_of_ble_eq_true rfl, Nat.le_of_ble_eq_true rfl⟩ ⟨Nat.zero_le _, Nat.zero_le _⟩ hl.1 (Nat.le_of_ble_eq_true rfl) rfl dX12_hardest_8 ?_
  refine lv_iconst (v := 4) hx hb dX12_hardest_11 (by decide) ?_
  refine lv_icmp_ne (tgt := 26) hx hb dX12_hardest_12 (by decide) (fun c3 => ?_) (fun c3 => ?_)
  · replace hf := neg_e c3 hf
    refine lv_aload_n hx hb dX12_hardest_26 rfl (lv_at hl 0 rfl) ?_
    refine lv_iload_n hx hb dX12_hardest_27 rfl (lv_at hl 2 rfl) ?_
    obtain ⟨r4, er4, hf⟩ := bd_e hf
    refine gVr_i E hK hP (cX12_kindc _ er4) kV_X12_kind wd_5_212 rfl rfl (q_model ks ad σ) rfl rfl rfl ⟨Nat.le_of_ble_eq_true rfl, Nat.le_of_ble_eq_true rfl⟩ ⟨Nat.zero_le _, Nat.zero_le _⟩ hl.1 (Nat.le_of_ble_eq_true rfl) rfl dX12_hardest_28 ?_
    refine lv_bipush (v := 6) hx hb dX12_hardest_31 (by decide) ?_
    refine lv_icmp_ne (tgt := 41) hx hb dX12_hardest_33 (by decide) (fun c5 => ?_) (fun c5 => ?_)
    · replace hf := neg_e c5 hf
      refine lv_bipush (v := 20) hx hb dX12_hardest_41 (by decide) ?_
      refine lv_iadd hx hb dX12_hardest_43 ?_
      exact gret_i E hr hlk dX12_hardest_44 (som_e hf).symm
    · replace hf := pos_e c5 hf
      refine lv_bipush (v := 10) hx hb dX12_hardest_36 (by decide) ?_
      refine lv_goto (tgt := 43) hx hb dX12_hardest_38 (by decide) ?_
      refine lv_iadd hx hb dX12_hardest_43 ?_
      exact gret_i E hr hlk dX12_hardest_44 (som_e hf).symm
  · replace hf := pos_e c3 hf
    refine lv_bipush (v := 20) hx hb dX12_hardest_15 (by decide) ?_
    refine lv_aload_n hx hb dX12_hardest_17 rfl (lv_at hl 0 rfl) ?_
    refine lv_iload_n hx hb dX12_hardest_18 rfl (lv_at hl 2 rfl) ?_
    obtain ⟨r6, er6, hf⟩ := bd_e hf
    refine gVr_i E hK hP (cX12_figurec _ er6) kV_X12_figure wd_5_216 rfl rfl (q_model ks ad σ) rfl rfl rfl ⟨Nat.le_of_ble_eq_true rfl, Nat.le_of_ble_eq_true rfl⟩ ⟨Nat.zero_le _, Nat.zero_le _⟩ hl.1 (Nat.le_of_ble_eq_true rfl) rfl dX12_hardest_19 ?_
    refine lv_isub hx hb dX12_hardest_22 ?_
    refine lv_goto (tgt := 43) hx hb dX12_hardest_23 (by decide) ?_
    refine lv_iadd hx hb dX12_hardest_43 ?_
    exact gret_i E hr hlk dX12_hardest_44 (som_e hf).symm
noncomputable def fX12_isTight (σ : St) (a1 : Int32) (a2 : Int32) (a3 : Int32) (a4 : Int32) : Option (Int32) :=
  bd (fX12_low σ a1 a2 a3) fun r1 =>
  bd (fX12_high σ a1 a2 a3) fun r2 =>
  bd (fX12_isIn σ a4 r1 r2) fun r3 =>
  if r3 = 0 then
  some 0
  else
  bd (fX12_gripOf σ a2) fun r5 =>
  if r5 < a4 then
  some 0
  else
  some 1
def rX12_isTight : Room := { frames := 4, cells := 0, slots := 0, locals := 91 }
set_option maxHeartbeats 4000000 in
set_option maxRecDepth 100000 in
theorem cX12_isTightc {l : Launch} {dC : Nat → ClassId} {dI : Nat → Nat → Nat} {ks : Nat → ClassId} {ad : Nat → Nat → Nat} {σ : St} (a1 : Int32) (a2 : Int32) (a3 : Int32) (a4 : Int32)  {out : Int32} (hf : fX12_isTight σ a1 a2 a3 a4 = some out) : MRi l dC dI ks ad σ yX12_isTight cX12_isTight 5 (some .boolean) rX12_isTight [.ref (ad 14 0), .int a1, .int a2, .int a3, .int a4] out := by
  refine met_r (own := RX12) (by decide) rfl (Nat.le_of_ble_eq_true rfl) ?_
  intro p e s m args below meth c ls E hr hlk hP hK hl
  have hx := E.1
  have hb := E.2.1
  have hl : lv_has ls 5 [(0, .ref (ad 14 0)), (1, .int a1), (2, .int a2), (3, .int a3), (4, .int a4)] := hl
  unfold fX12_isTight at hf
  refine lv_iload hx hb dX12_isTight_0 (lv_at hl 4 rfl) ?_
  refine lv_aload_n hx hb dX12_isTight_2 rfl (lv_at hl 0 rfl) ?_
  refine lv_iload_n hx hb dX12_isTight_3 rfl (lv_at hl 1 rfl) ?_
  refine lv_iload_n hx hb dX12_isTight_4 rfl (lv_at hl 2 rfl) ?_
  refine lv_iload_n hx hb dX12_isTight_5 rfl (lv_at hl 3 rfl) ?_
  obtain ⟨r1, er1, hf⟩ := bd_e hf
  refine gVr_i E hK hP (cX12_lowc _ _ _ er1) kV_X12_low wd_6_19 rfl rfl (q_model ks ad σ) rfl rfl rfl ⟨Nat.le_of_ble_eq_true rfl, Nat.le_of_ble_eq_true rfl⟩ ⟨Nat.zero_le _, Nat.zero_le _⟩ hl.1 (Nat.le_of_ble_eq_true rfl) rfl dX12_isTight_6 ?_
  refine lv_aload_n hx hb dX12_isTight_9 rfl (lv_at hl 0 rfl) ?_
  refine lv_iload_n hx hb dX12_isTight_10 rfl (lv_at hl 1 rfl) ?_
  refine lv_iload_n hx hb dX12_isTight_11 rfl (lv_at hl 2 rfl) ?_
  refine lv_iload_n hx hb dX12_isTight_12 rfl (lv_at hl 3 rfl) ?_
  obtain ⟨r2, er2, hf⟩ := bd_e hf
  refine gVr_i E hK hP (cX12_highc _ _ _ er2) kV_X12_high wd_6_34 rfl rfl (q_model ks ad σ) rfl rfl rfl ⟨Nat.le_of_ble_eq_true rfl, Nat.le_of_ble_eq_true rfl⟩ ⟨Nat.zero_le _, Nat.zero_le _⟩ hl.1 (Nat.le_of_ble_eq_true rfl) rfl dX12_isTight_13 ?_
  obtain ⟨r3, er3, hf⟩ := bd_e hf
  refine gSr_i E hK hP (cX12_isInc _ _ _ er3) kS_X12_isIn wd_5_138 rfl rfl rfl ⟨Nat.le_of_ble_eq_true rfl, Nat.le_of_ble_eq_true rfl⟩ ⟨Nat.zero_le _, Nat.zero_le _⟩ hl.1 (Nat.le_of_ble_eq_true rfl) rfl dX12_isTight_16 ?_
  refine lv_if_eq (tgt := 36) hx hb dX12_isTight_19 (by decide) (fun c4 => ?_) (fun c4 => ?_)
  · replace hf := pos_e c4 hf
    refine lv_iconst (v := 0) hx hb dX12_isTight_36 (by decide) ?_
    exact gret_z rfl E hr hlk dX12_isTight_37 (som_e hf).symm
  · replace hf := neg_e c4 hf
    refine lv_iload hx hb dX12_isTight_22 (lv_at hl 4 rfl) ?_
    refine lv_aload_n hx hb dX12_isTight_24 rfl (lv_at hl 0 rfl) ?_
    refine lv_iload_n hx hb dX12_isTight_25 rfl (lv_at hl 2 rfl) ?_
    obtain ⟨r5, er5, hf⟩ := bd_e hf
    refine gVr_i E hK hP (cX12_gripOfc _ er5) kV_X12_gripOf wd_6_62 rfl rfl (q_model ks ad σ) rfl rfl rfl ⟨Nat.le_of_ble_eq_true rfl, Nat.le_of_ble_eq_true rfl⟩ ⟨Nat.zero_le _, Nat.zero_le _⟩ hl.1 (Nat.le_of_ble_eq_true rfl) rfl dX12_isTight_26 ?_
    refine lv_icmp_gt (tgt := 36) hx hb dX12_isTight_29 (by decide) (fun c6 => ?_) (fun c6 => ?_)
    · replace hf := pos_e c6 hf
      refine lv_iconst (v := 0) hx hb dX12_isTight_36 (by decide) ?_
      exact gret_z rfl E hr hlk dX12_isTight_37 (som_e hf).symm
    · replace hf := neg_e c6 hf
      refine lv_iconst (v := 1) hx hb dX12_isTight_32 (by decide) ?_
      refine lv_goto (tgt := 37) hx hb dX12_isTight_33 (by decide) ?_
      exact gret_z rfl E hr hlk dX12_isTight_37 (som_e hf).symm
noncomputable def fX12_isHard (σ : St) (a1 : Int32) (a2 : Int32) (a3 : Int32) : Option (Int32) :=
  bd (fX12_softest σ a1 a2) fun r1 =>
  bd (fX12_hardest σ a1 a2) fun r2 =>
  bd (fX12_isIn σ a3 r1 r2) fun r3 =>
  ck (r3 = 0 ∨ r3 = 1) (some r3)
def rX12_isHard : Room := { frames := 4, cells := 0, slots := 0, locals := 88 }
set_option maxHeartbeats 4000000 in
set_option maxRecDepth 100000 in
theorem cX12_isHardc {l : Launch} {dC : Nat → ClassId} {dI : Nat → Nat → Nat} {ks : Nat → ClassId} {ad : Nat → Nat → Nat} {σ : St} (a1 : Int32) (a2 : Int32) (a3 : Int32)  {out : Int32} (hf : fX12_isHard σ a1 a2 a3 = some out) : MRi l dC dI ks ad σ yX12_isHard cX12_isHard 4 (some .boolean) rX12_isHard [.ref (ad 14 0), .int a1, .int a2, .int a3] out := by
  refine met_r (own := RX12) (by decide) rfl (Nat.le_of_ble_eq_true rfl) ?_
  intro p e s m args below meth c ls E hr hlk hP hK hl
  have hx := E.1
  have hb := E.2.1
  have hl : lv_has ls 4 [(0, .ref (ad 14 0)), (1, .int a1), (2, .int a2), (3, .int a3)] := hl
  unfold fX12_isHard at hf
  refine lv_iload_n hx hb dX12_isHard_0 rfl (lv_at hl 3 rfl) ?_
  refine lv_aload_n hx hb dX12_isHard_1 rfl (lv_at hl 0 rfl) ?_
  refine lv_iload_n hx hb dX12_isHard_2 rfl (lv_at hl 1 rfl) ?_
  refine lv_iload_n hx hb dX12_isHard_3 rfl (lv_at hl 2 rfl) ?_
  obtain ⟨r1, er1, hf⟩ := bd_e hf
  refine gVr_i E hK hP (cX12_softestc _ _ er1) kV_X12_softest wd_6_38 rfl rfl (q_model ks ad σ) rfl rfl rfl ⟨Nat.le_of_ble_eq_true rfl, Nat.le_of_ble_eq_true rfl⟩ ⟨Nat.zero_le _, Nat.zero_le _⟩ hl.1 (Nat.le_of_ble_eq_true rfl) rfl dX12_isHard_4 ?_
  refine lv_aload_n hx hb dX12_isHard_7 rfl (lv_at hl 0 rfl) ?_
  refine lv_iload_n hx hb dX12_isHard_8 rfl (lv_at hl 1 rfl) ?_
  refine lv_iload_n hx hb dX12_isHard_9 rfl (lv_at hl 2 rfl) ?_
  obtain ⟨r2, er2, hf⟩ := bd_e hf
  refine gVr_i E hK hP (cX12_hardestc _ _ er2) kV_X12_hardest wd_6_42 rfl rfl (q_model ks ad σ) rfl rfl rfl ⟨Nat.le_of_ble_eq_true rfl, Nat.le_of_ble_eq_true rfl⟩ ⟨Nat.zero_le _, Nat.zero_le _⟩ hl.1 (Nat.le_of_ble_eq_true rfl) rfl dX12_isHard_10 ?_
  obtain ⟨r3, er3, hf⟩ := bd_e hf
  refine gSr_i E hK hP (cX12_isInc _ _ _ er3) kS_X12_isIn wd_5_138 rfl rfl rfl ⟨Nat.le_of_ble_eq_true rfl, Nat.le_of_ble_eq_true rfl⟩ ⟨Nat.zero_le _, Nat.zero_le _⟩ hl.1 (Nat.le_of_ble_eq_true rfl) rfl dX12_isHard_13 ?_
  obtain ⟨c4, hf⟩ := ck_e hf
  exact gret_z (nb_z c4) E hr hlk dX12_isHard_16 (som_e hf).symm
noncomputable def fX12_isSound (σ : St) (a1 : Int32) (a2 : Int32) (a3 : Int32) (a4 : Int32) (a5 : Int32) : Option (Int32) :=
  bd (fX12_isTight σ a1 a2 a3 a4) fun r1 =>
  if r1 = 0 then
  some 0
  else
  bd (fX12_isHard σ a2 a3 a5) fun r3 =>
  if r3 = 0 then
  some 0
  else
  some 1
def rX12_isSound : Room := { frames := 5, cells := 0, slots := 0, locals := 115 }
set_option maxHeartbeats 4000000 in
set_option maxRecDepth 100000 in
theorem cX12_isSoundc {l : Launch} {dC : Nat → ClassId} {dI : Nat → Nat → Nat} {ks : Nat → ClassId} {ad : Nat → Nat → Nat} {σ : St} (a1 : Int32) (a2 : Int32) (a3 : Int32) (a4 : Int32) (a5 : Int32)  {out : Int32} (hf : fX12_isSound σ a1 a2 a3 a4 a5 = some out) : MRi l dC dI ks ad σ yX12_isSound cX12_isSound 6 (some .boolean) rX12_isSound [.ref (ad 14 0), .int a1, .int a2, .int a3, .int a4, .int a5] out := by
  refine met_r (own := RX12) (by decide) rfl (Nat.le_of_ble_eq_true rfl) ?_
  intro p e s m args below meth c ls E hr hlk hP hK hl
  have hx := E.1
  have hb := E.2.1
  have hl : lv_has ls 6 [(0, .ref (ad 14 0)), (1, .int a1), (2, .int a2), (3, .int a3), (4, .int a4), (5, .int a5)] := hl
  unfold fX12_isSound at hf
  refine lv_aload_n hx hb dX12_isSound_0 rfl (lv_at hl 0 rfl) ?_
  refine lv_iload_n hx hb dX12_isSound_1 rfl (lv_at hl 1 rfl) ?_
  refine lv_iload_n hx hb dX12_isSound_2 rfl (lv_at hl 2 rfl) ?_
  refine lv_iload_n hx hb dX12_isSound_3 rfl (lv_at hl 3 rfl) ?_
  refine lv_iload hx hb dX12_isSound_4 (lv_at hl 4 rfl) ?_
  obtain ⟨r1, er1, hf⟩ := bd_e hf
  refine gVr_i E hK hP (cX12_isTightc _ _ _ _ er1) kV_X12_isTight wd_6_58 rfl rfl (q_model ks ad σ) rfl rfl rfl ⟨Nat.le_of_ble_eq_true rfl, Nat.le_of_ble_eq_true rfl⟩ ⟨Nat.zero_le _, Nat.zero_le _⟩ hl.1 (Nat.le_of_ble_eq_true rfl) rfl dX12_isSound_6 ?_
  refine lv_if_eq (tgt := 27) hx hb dX12_isSound_9 (by decide) (fun c2 => ?_) (fun c2 => ?_)
  · replace hf := pos_e c2 hf
    refine lv_iconst (v := 0) hx hb dX12_isSound_27 (by decide) ?_
    exact gret_z rfl E hr hlk dX12_isSound_28 (som_e hf).symm
  · replace hf := neg_e c2 hf
    refine lv_aload_n hx hb dX12_isSound_12 rfl (lv_at hl 0 rfl) ?_
    refine lv_iload_n hx hb dX12_isSound_13 rfl (lv_at hl 2 rfl) ?_
    refine lv_iload_n hx hb dX12_isSound_14 rfl (lv_at hl 3 rfl) ?_
    refine lv_iload hx hb dX12_isSound_15 (lv_at hl 5 rfl) ?_
    obtain ⟨r3, er3, hf⟩ := bd_e hf
    refine gVr_i E hK hP (cX12_isHardc _ _ _ er3) kV_X12_isHard wd_6_66 rfl rfl (q_model ks ad σ) rfl rfl rfl ⟨Nat.le_of_ble_eq_true rfl, Nat.le_of_ble_eq_true rfl⟩ ⟨Nat.zero_le _, Nat.zero_le _⟩ hl.1 (Nat.le_of_ble_eq_true rfl) rfl dX12_isSound_17 ?_
    refine lv_if_eq (tgt := 27) hx hb dX12_isSound_20 (by decide) (fun c4 => ?_) (fun c4 => ?_)
    · replace hf := pos_e c4 hf
      refine lv_iconst (v := 0) hx hb dX12_isSound_27 (by decide) ?_
      exact gret_z rfl E hr hlk dX12_isSound_28 (som_e hf).symm
    · replace hf := neg_e c4 hf
      refine lv_iconst (v := 1) hx hb dX12_isSound_23 (by decide) ?_
      refine lv_goto (tgt := 28) hx hb dX12_isSound_24 (by decide) ?_
      exact gret_z rfl E hr hlk dX12_isSound_28 (som_e hf).symm
noncomputable def fX12_pitchOf (σ : St) (a1 : Int32) (a2 : Int32) (a3 : Int32) (a4 : Int32) : Option (Int32) :=
  bd (fX12_bladeOf σ a1 0) fun r1 =>
  nmv ((60 - r1) + a3) fun v2 =>
  bd (fX12_kind σ a2) fun r3 =>
  if r3 = 3 then
  some (v2 + 12)
  else
  if r3 = 4 then
  bd (fX12_figure σ a2) fun r8 =>
  some (v2 + r8)
  else
  if r3 = 5 then
  some (v2 - a4)
  else
  if r3 = 6 then
  some (v2 - a4)
  else
  some v2
def rX12_pitchOf : Room := { frames := 2, cells := 0, slots := 0, locals := 43 }
set_option maxHeartbeats 4000000 in
set_option maxRecDepth 100000 in
theorem cX12_pitchOfc {l : Launch} {dC : Nat → ClassId} {dI : Nat → Nat → Nat} {ks : Nat → ClassId} {ad : Nat → Nat → Nat} {σ : St} (a1 : Int32) (a2 : Int32) (a3 : Int32) (a4 : Int32)  {out : Int32} (hf : fX12_pitchOf σ a1 a2 a3 a4 = some out) : MRi l dC dI ks ad σ yX12_pitchOf cX12_pitchOf 6 (some .int) rX12_pitchOf [.ref (ad 14 0), .int a1, .int a2, .int a3, .int a4] out := by
  refine met_r (own := RX12) (by decide) rfl (Nat.le_of_ble_eq_true rfl) ?_
  intro p e s m args below meth c ls E hr hlk hP hK hl
  have hx := E.1
  have hb := E.2.1
  have hl : lv_has ls 6 [(0, .ref (ad 14 0)), (1, .int a1), (2, .int a2), (3, .int a3), (4, .int a4)] := hl
  unfold fX12_pitchOf at hf
  refine lv_bipush (v := 60) hx hb dX12_pitchOf_0 (by decide) ?_
  refine lv_aload_n hx hb dX12_pitchOf_2 rfl (lv_at hl 0 rfl) ?_
  refine lv_iload_n hx hb dX12_pitchOf_3 rfl (lv_at hl 1 rfl) ?_
  refine lv_iconst (v := 0) hx hb dX12_pitchOf_4 (by decide) ?_
  obtain ⟨r1, er1, hf⟩ := bd_e hf
  refine gVr_i E hK hP (cX12_bladeOfc _ _ er1) kV_X12_bladeOf wd_5_204 rfl rfl (q_model ks ad σ) rfl rfl rfl ⟨Nat.le_of_ble_eq_true rfl, Nat.le_of_ble_eq_true rfl⟩ ⟨Nat.zero_le _, Nat.zero_le _⟩ hl.1 (Nat.le_of_ble_eq_true rfl) rfl dX12_pitchOf_5 ?_
  refine lv_isub hx hb dX12_pitchOf_8 ?_
  refine lv_iload_n hx hb dX12_pitchOf_9 rfl (lv_at hl 3 rfl) ?_
  refine lv_iadd hx hb dX12_pitchOf_10 ?_
  obtain ⟨v2, ev2, hf⟩ := nmv_e hf
  refine lv_nmi ev2 ?_
  refine lv_istore (lv' := [(5, .int v2), (0, .ref (ad 14 0)), (1, .int a1), (2, .int a2), (3, .int a3), (4, .int a4)]) hx hb dX12_pitchOf_11 hl (by decide) rfl (fun ls hl => ?_)
  refine lv_aload_n hx hb dX12_pitchOf_13 rfl (lv_at hl 1 rfl) ?_
  refine lv_iload_n hx hb dX12_pitchOf_14 rfl (lv_at hl 3 rfl) ?_
  obtain ⟨r3, er3, hf⟩ := bd_e hf
  refine gVr_i E hK hP (cX12_kindc _ er3) kV_X12_kind wd_5_212 rfl rfl (q_model ks ad σ) rfl rfl rfl ⟨Nat.le_of_ble_eq_true rfl, Nat.le_of_ble_eq_true rfl⟩ ⟨Nat.zero_le _, Nat.zero_le _⟩ hl.1 (Nat.le_of_ble_eq_true rfl) rfl dX12_pitchOf_15 ?_
  by_cases c4 : r3 = 3
  · replace hf := pos_e c4 hf
    refine lv_tableIn (tgt := 48) (off := 30) hx hb dX12_pitchOf_18 (by rw [c4]; decide) (by rw [c4]; decide) (by rw [c4]; rfl) (by decide) ?_
    refine lv_iload hx hb dX12_pitchOf_48 (lv_at hl 0 rfl) ?_
    refine lv_bipush (v := 12) hx hb dX12_pitchOf_50 (by decide) ?_
    refine lv_iadd hx hb dX12_pitchOf_52 ?_
    exact gret_i E hr hlk dX12_pitchOf_53 (som_e hf).symm
  · replace hf := neg_e c4 hf
    by_cases c5 : r3 = 4
    · replace hf := pos_e c5 hf
      refine lv_tableIn (tgt := 60) (off := 42) hx hb dX12_pitchOf_18 (by rw [c5]; decide) (by rw [c5]; decide) (by rw [c5]; rfl) (by decide) ?_
      refine lv_iload hx hb dX12_pitchOf_60 (lv_at hl 0 rfl) ?_
      refine lv_aload_n hx hb dX12_pitchOf_62 rfl (lv_at hl 1 rfl) ?_
      refine lv_iload_n hx hb dX12_pitchOf_63 rfl (lv_at hl 3 rfl) ?_
      obtain ⟨r8, er8, hf⟩ := bd_e hf
      refine gVr_i E hK hP (cX12_figurec _ er8) kV_X12_figure wd_5_216 rfl rfl (q_model ks ad σ) rfl rfl rfl ⟨Nat.le_of_ble_eq_true rfl, Nat.le_of_ble_eq_true rfl⟩ ⟨Nat.zero_le _, Nat.zero_le _⟩ hl.1 (Nat.le_of_ble_eq_true rfl) rfl dX12_pitchOf_64 ?_
      refine lv_iadd hx hb dX12_pitchOf_67 ?_
      exact gret_i E hr hlk dX12_pitchOf_68 (som_e hf).symm
    · replace hf := neg_e c5 hf
      by_cases c6 : r3 = 5
      · replace hf := pos_e c6 hf
        refine lv_tableIn (tgt := 54) (off := 36) hx hb dX12_pitchOf_18 (by rw [c6]; decide) (by rw [c6]; decide) (by rw [c6]; rfl) (by decide) ?_
        refine lv_iload hx hb dX12_pitchOf_54 (lv_at hl 0 rfl) ?_
        refine lv_iload hx hb dX12_pitchOf_56 (lv_at hl 5 rfl) ?_
        refine lv_isub hx hb dX12_pitchOf_58 ?_
        exact gret_i E hr hlk dX12_pitchOf_59 (som_e hf).symm
      · replace hf := neg_e c6 hf
        by_cases c7 : r3 = 6
        · replace hf := pos_e c7 hf
          refine lv_tableIn (tgt := 54) (off := 36) hx hb dX12_pitchOf_18 (by rw [c7]; decide) (by rw [c7]; decide) (by rw [c7]; rfl) (by decide) ?_
          refine lv_iload hx hb dX12_pitchOf_54 (lv_at hl 0 rfl) ?_
          refine lv_iload hx hb dX12_pitchOf_56 (lv_at hl 5 rfl) ?_
          refine lv_isub hx hb dX12_pitchOf_58 ?_
          exact gret_i E hr hlk dX12_pitchOf_59 (som_e hf).symm
        · replace hf := neg_e c7 hf
          refine lv_tableOut (tgt := 69) hx hb dX12_pitchOf_18 (by have q0 := lv_neT c4 (a := 3) rfl; have q1 := lv_neT c5 (a := 4) rfl; have q2 := lv_neT c6 (a := 5) rfl; have q3 := lv_neT c7 (a := 6) rfl; omega) (by decide) ?_
          refine lv_iload hx hb dX12_pitchOf_69 (lv_at hl 0 rfl) ?_
          exact gret_i E hr hlk dX12_pitchOf_71 (som_e hf).symm
noncomputable def fX12_wears (σ : St) (a1 : Int32) (a2 : Int32) : Option (Int32) :=
  nmv (a2 / 10) fun v1 =>
  bd (fX12_kind σ a1) fun r2 =>
  if r2 = 2 then
  some (v1 + 1)
  else
  if r2 = 3 then
  some (2 * (v1 + 1))
  else
  if r2 = 4 then
  bd (fX12_figure σ a1) fun r9 =>
  some (v1 + r9)
  else
  if r2 = 5 then
  some (v1 + 1)
  else
  if r2 = 6 then
  some 0
  else
  if r2 = 7 then
  some (v1 + 1)
  else
  some v1
def rX12_wears : Room := { frames := 2, cells := 0, slots := 0, locals := 42 }
set_option maxHeartbeats 4000000 in
set_option maxRecDepth 100000 in
theorem cX12_wearsc {l : Launch} {dC : Nat → ClassId} {dI : Nat → Nat → Nat} {ks : Nat → ClassId} {ad : Nat → Nat → Nat} {σ : St} (a1 : Int32) (a2 : Int32)  {out : Int32} (hf : fX12_wears σ a1 a2 = some out) : MRi l dC dI ks ad σ yX12_wears cX12_wears 4 (some .int) rX12_wears [.ref (ad 14 0), .int a1, .int a2] out := by
  refine met_r (own := RX12) (by decide) rfl (Nat.le_of_ble_eq_true rfl) ?_
  intro p e s m args below meth c ls E hr hlk hP hK hl
  have hx := E.1
  have hb := E.2.1
  have hl : lv_has ls 4 [(0, .ref (ad 14 0)), (1, .int a1), (2, .int a2)] := hl
  unfold fX12_wears at hf
  refine lv_iload_n hx hb dX12_wears_0 rfl (lv_at hl 2 rfl) ?_
  refine lv_bipush (v := 10) hx hb dX12_wears_1 (by decide) ?_
  refine lv_idiv hx hb dX12_wears_3 (by decide) ?_
  obtain ⟨v1, ev1, hf⟩ := nmv_e hf
  refine lv_nmi ev1 ?_
  refine lv_istore_n (lv' := [(3, .int v1), (0, .ref (ad 14 0)), (1, .int a1), (2, .int a2)]) hx hb dX12_wears_4 rfl hl (by decide) rfl (fun ls hl => ?_)
  refine lv_aload_n hx hb dX12_wears_5 rfl (lv_at hl 1 rfl) ?_
  refine lv_iload_n hx hb dX12_wears_6 rfl (lv_at hl 2 rfl) ?_
  obtain ⟨r2, er2, hf⟩ := bd_e hf
  refine gVr_i E hK hP (cX12_kindc _ er2) kV_X12_kind wd_5_212 rfl rfl (q_model ks ad σ) rfl rfl rfl ⟨Nat.le_of_ble_eq_true rfl, Nat.le_of_ble_eq_true rfl⟩ ⟨Nat.zero_le _, Nat.zero_le _⟩ hl.1 (Nat.le_of_ble_eq_true rfl) rfl dX12_wears_7 ?_
  by_cases c3 : r2 = 2
  · replace hf := pos_e c3 hf
    refine lv_tableIn (tgt := 48) (off := 38) hx hb dX12_wears_10 (by rw [c3]; decide) (by rw [c3]; decide) (by rw [c3]; rfl) (by decide) ?_
    refine lv_iload_n hx hb dX12_wears_48 rfl (lv_at hl 0 rfl) ?_
    refine lv_iconst (v := 1) hx hb dX12_wears_49 (by decide) ?_
    refine lv_iadd hx hb dX12_wears_50 ?_
    exact gret_i E hr hlk dX12_wears_51 (som_e hf).symm
  · replace hf := neg_e c3 hf
    by_cases c4 : r2 = 3
    · replace hf := pos_e c4 hf
      refine lv_tableIn (tgt := 52) (off := 42) hx hb dX12_wears_10 (by rw [c4]; decide) (by rw [c4]; decide) (by rw [c4]; rfl) (by decide) ?_
      refine lv_iconst (v := 2) hx hb dX12_wears_52 (by decide) ?_
      refine lv_iload_n hx hb dX12_wears_53 rfl (lv_at hl 0 rfl) ?_
      refine lv_iconst (v := 1) hx hb dX12_wears_54 (by decide) ?_
      refine lv_iadd hx hb dX12_wears_55 ?_
      refine lv_imul hx hb dX12_wears_56 ?_
      exact gret_i E hr hlk dX12_wears_57 (som_e hf).symm
    · replace hf := neg_e c4 hf
      by_cases c5 : r2 = 4
      · replace hf := pos_e c5 hf
        refine lv_tableIn (tgt := 58) (off := 48) hx hb dX12_wears_10 (by rw [c5]; decide) (by rw [c5]; decide) (by rw [c5]; rfl) (by decide) ?_
        refine lv_iload_n hx hb dX12_wears_58 rfl (lv_at hl 0 rfl) ?_
        refine lv_aload_n hx hb dX12_wears_59 rfl (lv_at hl 1 rfl) ?_
        refine lv_iload_n hx hb dX12_wears_60 rfl (lv_at hl 2 rfl) ?_
        obtain ⟨r9, er9, hf⟩ := bd_e hf
        refine gVr_i E hK hP (cX12_figurec _ er9) kV_X12_figure wd_5_216 rfl rfl (q_model ks ad σ) rfl rfl rfl ⟨Nat.le_of_ble_eq_true rfl, Nat.le_of_ble_eq_true rfl⟩ ⟨Nat.zero_le _, Nat.zero_le _⟩ hl.1 (Nat.le_of_ble_eq_true rfl) rfl dX12_wears_61 ?_
        refine lv_iadd hx hb dX12_wears_64 ?_
        exact gret_i E hr hlk dX12_wears_65 (som_e hf).symm
      · replace hf := neg_e c5 hf
        by_cases c6 : r2 = 5
        · replace hf := pos_e c6 hf
          refine lv_tableIn (tgt := 48) (off := 38) hx hb dX12_wears_10 (by rw [c6]; decide) (by rw [c6]; decide) (by rw [c6]; rfl) (by decide) ?_
          refine lv_iload_n hx hb dX12_wears_48 rfl (lv_at hl 0 rfl) ?_
          refine lv_iconst (v := 1) hx hb dX12_wears_49 (by decide) ?_
          refine lv_iadd hx hb dX12_wears_50 ?_
          exact gret_i E hr hlk dX12_wears_51 (som_e hf).symm
        · replace hf := neg_e c6 hf
          by_cases c7 : r2 = 6
          · replace hf := pos_e c7 hf
            refine lv_tableIn (tgt := 66) (off := 56) hx hb dX12_wears_10 (by rw [c7]; decide) (by rw [c7]; decide) (by rw [c7]; rfl) (by decide) ?_
            refine lv_iconst (v := 0) hx hb dX12_wears_66 (by decide) ?_
            exact gret_i E hr hlk dX12_wears_67 (som_e hf).symm
          · replace hf := neg_e c7 hf
            by_cases c8 : r2 = 7
            · replace hf := pos_e c8 hf
              refine lv_tableIn (tgt := 48) (off := 38) hx hb dX12_wears_10 (by rw [c8]; decide) (by rw [c8]; decide) (by rw [c8]; rfl) (by decide) ?_
              refine lv_iload_n hx hb dX12_wears_48 rfl (lv_at hl 0 rfl) ?_
              refine lv_iconst (v := 1) hx hb dX12_wears_49 (by decide) ?_
              refine lv_iadd hx hb dX12_wears_50 ?_
              exact gret_i E hr hlk dX12_wears_51 (som_e hf).symm
            · replace hf := neg_e c8 hf
              refine lv_tableOut (tgt := 68) hx hb dX12_wears_10 (by have q0 := lv_neT c3 (a := 2) rfl; have q1 := lv_neT c4 (a := 3) rfl; have q2 := lv_neT c5 (a := 4) rfl; have q3 := lv_neT c6 (a := 5) rfl; have q4 := lv_neT c7 (a := 6) rfl; have q5 := lv_neT c8 (a := 7) rfl; omega) (by decide) ?_
              refine lv_iload_n hx hb dX12_wears_68 rfl (lv_at hl 0 rfl) ?_
              exact gret_i E hr hlk dX12_wears_69 (som_e hf).symm
noncomputable def fX12_here (σ : St) : Option (Int32) :=
  if (gI σ 11 0 7) ≤ (gI σ 11 0 5) then
  some (-1)
  else
  ck (vp_in ((gI σ 11 0 6) + (gI σ 11 0 5)) 800) <|
  some ((gI σ 12 20 ((gI σ 11 0 6) + (gI σ 11 0 5)).toNatClampNeg) &&& (255 : Int32))
def rX12_here : Room := { frames := 0, cells := 0, slots := 0, locals := 0 }
set_option maxHeartbeats 4000000 in
set_option maxRecDepth 100000 in
theorem cX12_herec {l : Launch} {dC : Nat → ClassId} {dI : Nat → Nat → Nat} {ks : Nat → ClassId} {ad : Nat → Nat → Nat} {σ : St}   {out : Int32} (hf : fX12_here σ = some out) : MRi l dC dI ks ad σ yX12_here cX12_here 1 (some .int) rX12_here [.ref (ad 14 0)] out := by
  refine met_r (own := RX12) (by decide) rfl (Nat.le_of_ble_eq_true rfl) ?_
  intro p e s m args below meth c ls E hr hlk hP hK hl
  have hx := E.1
  have hb := E.2.1
  have hl : lv_has ls 1 [(0, .ref (ad 14 0))] := hl
  unfold fX12_here at hf
  refine lv_aload_n hx hb dX12_here_0 rfl (lv_at hl 0 rfl) ?_
  refine gget E in_X12 hK hP (q_model ks ad σ) rfl (k := 5) (by decide) wd_5_65 rfl (v := .int (gI σ 11 0 5)) rfl dX12_here_1 ?_
  refine lv_aload_n hx hb dX12_here_4 rfl (lv_at hl 0 rfl) ?_
  refine gget E in_X12 hK hP (q_model ks ad σ) rfl (k := 7) (by decide) wd_5_67 rfl (v := .int (gI σ 11 0 7)) rfl dX12_here_5 ?_
  refine lv_icmp_ge (tgt := 32) hx hb dX12_here_8 (by decide) (fun c1 => ?_) (fun c1 => ?_)
  · replace hf := pos_e c1 hf
    refine lv_iconst (v := -1) hx hb dX12_here_32 (by decide) ?_
    exact gret_i E hr hlk dX12_here_33 (som_e hf).symm
  · replace hf := neg_e c1 hf
    refine lv_aload_n hx hb dX12_here_11 rfl (lv_at hl 0 rfl) ?_
    refine gget E in_X12 hK hP (q_model ks ad σ) rfl (k := 20) (by decide) wd_5_80 rfl (v := .ref (ad 15 20)) rfl dX12_here_12 ?_
    refine lv_aload_n hx hb dX12_here_15 rfl (lv_at hl 0 rfl) ?_
    refine gget E in_X12 hK hP (q_model ks ad σ) rfl (k := 6) (by decide) wd_5_66 rfl (v := .int (gI σ 11 0 6)) rfl dX12_here_16 ?_
    refine lv_aload_n hx hb dX12_here_19 rfl (lv_at hl 0 rfl) ?_
    refine gget E in_X12 hK hP (q_model ks ad σ) rfl (k := 5) (by decide) wd_5_65 rfl (v := .int (gI σ 11 0 5)) rfl dX12_here_20 ?_
    refine lv_iadd hx hb dX12_here_23 ?_
    obtain ⟨c2, hf⟩ := ck_e hf
    refine giald E hK hP (q_M20 ks ad σ) c2 dX12_here_24 ?_
    refine lv_sipush (v := 255) hx hb dX12_here_25 (by decide) ?_
    refine lv_iand hx hb dX12_here_28 ?_
    refine lv_goto (tgt := 33) hx hb dX12_here_29 (by decide) ?_
    exact gret_i E hr hlk dX12_here_33 (som_e hf).symm
noncomputable def fX12_readsNumber_L9B (a1 : Int32) (a2 : Int32) (K_9 : St → Option (Int32 × St)) (rec_9 : Int32 → St → Option (Int32 × St)) (x3 : Int32) (σ4 : St) : Option (Int32 × St) :=
  if a2 ≤ x3 then
  K_9 σ4
  else
  bd (fX12_here σ4) fun r6 =>
  bd (fX12_isIn σ4 r6 48 57) fun r7 =>
  if r7 = 0 then
  some (0, σ4)
  else
  ck (vp_in a1 5) <|
  bd (fX12_here σ4) fun r10 =>
  ck (vp_in a1 5) <|
  nmv (sI σ4 12 8 a1.toNatClampNeg (((10 * (gI σ4 12 8 a1.toNatClampNeg)) + r10) - 48)) fun σ12 =>
  nmv (sI σ12 11 0 5 ((gI σ12 11 0 5) + 1)) fun σ13 =>
  nmv (x3 + 1) fun v14 =>
  rec_9 v14 σ13
noncomputable def fX12_readsNumber_L9 (a1 : Int32) (a2 : Int32) (K_9 : St → Option (Int32 × St)) : Nat → Int32 → St → Option (Int32 × St)
  | 0 => fun _ _ => none
  | n + 1 => fX12_readsNumber_L9B a1 a2 K_9 (fX12_readsNumber_L9 a1 a2 K_9 n)
noncomputable def fX12_readsNumber (σ : St) (a1 : Int32) (a2 : Int32) : Option (Int32 × St) :=
  ck (vp_in a1 5) <|
  nmv (sI σ 12 8 a1.toNatClampNeg 0) fun σ2 =>
  fX12_readsNumber_L9 a1 a2 (fun σ15 => some (1, σ15)) FU 0 σ2
def rX12_readsNumber : Room := { frames := 1, cells := 0, slots := 0, locals := 22 }
set_option maxHeartbeats 4000000 in
set_option maxRecDepth 100000 in
theorem cX12_readsNumberc {l : Launch} {dC : Nat → ClassId} {dI : Nat → Nat → Nat} {ks : Nat → ClassId} {ad : Nat → Nat → Nat} {σ : St} (a1 : Int32) (a2 : Int32)  {out : Int32 × St} (hf : fX12_readsNumber σ a1 a2 = some out) : MWi l dC dI ks ad σ yX12_readsNumber cX12_readsNumber 4 (some .boolean) rX12_readsNumber [.ref (ad 14 0), .int a1, .int a2] out := by
  intro sz
  refine met_w (Qc := fun A => va_Qi (fun r σ' => r = out.1 ∧ σ' = out.2) (gBw dC dI ks ad A) A) (own := RX12) (by decide) rfl (Nat.le_of_ble_eq_true rfl) ?_
  intro A p e s m args below meth c ls E hr hlk hA hP hD hS hK hl
  have hx := E.1
  have hb := E.2.1
  have hl : lv_has ls 4 [(0, .ref (ad 14 0)), (1, .int a1), (2, .int a2)] := hl
  unfold fX12_readsNumber at hf
  refine lv_aload_n hx hb dX12_readsNumber_0 rfl (lv_at hl 0 rfl) ?_
  refine gget E in_X12 hK hP (q_model ks ad σ) rfl (k := 8) (by decide) wd_5_68 rfl (v := .ref (ad 15 8)) rfl dX12_readsNumber_1 ?_
  refine lv_iload_n hx hb dX12_readsNumber_4 rfl (lv_at hl 1 rfl) ?_
  refine lv_iconst (v := 0) hx hb dX12_readsNumber_5 (by decide) ?_
  obtain ⟨c1, hf⟩ := ck_e hf
  obtain ⟨σ2, eσ2, hf⟩ := nmv_e hf
  refine giast E hK hP hD hS (q_M8 ks ad σ) c1 (σ' := σ2) (by rw [eσ2]; exact st_M8 ks ad σ _) dX12_readsNumber_6 (fun H locs hP hD hS => ?_)
  refine lv_iconst (v := 0) hx hb dX12_readsNumber_7 (by decide) ?_
  refine lv_istore_n (lv' := [(3, .int 0), (0, .ref (ad 14 0)), (1, .int a1), (2, .int a2)]) hx hb dX12_readsNumber_8 rfl hl (by decide) rfl (fun ls hl => ?_)
  have loop_9 : ∀ (K_9 : St → Option (Int32 × St)) (hK_9 : (∀ (σ15 : St) (H : Heap) (locs : List Loc) (hP : va_P (dC, dI) vwCl (wG ks ad σ15) H) (hD : va_D A (wG ks ad σ15)) (hS : va_S A s.heap H locs) (hf : K_9 σ15 = some out) (ls : Array Slot), lv_has ls 4 [] → W p l e rX12_readsNumber s m args below meth c H locs 0 0 (MQ below (va_Qi (fun r σ' => r = out.1 ∧ σ' = out.2) (gBw dC dI ks ad A) A) args s 0 0 A) (F0 m 69 ls []))) (n_9 : Nat) (x3 : Int32) (σ4 : St) (H : Heap) (locs : List Loc) (hP : va_P (dC, dI) vwCl (wG ks ad σ4) H) (hD : va_D A (wG ks ad σ4)) (hS : va_S A s.heap H locs) (hf : fX12_readsNumber_L9 a1 a2 K_9 n_9 x3 σ4 = some out) (ls : Array Slot), lv_has ls 4 [(0, .ref (ad 14 0)), (1, .int a1), (2, .int a2), (3, .int x3)] → W p l e rX12_readsNumber s m args below meth c H locs 0 0 (MQ below (va_Qi (fun r σ' => r = out.1 ∧ σ' = out.2) (gBw dC dI ks ad A) A) args s 0 0 A) (F0 m 9 ls []) := by
    intro K_9 hK_9 n_9
    induction n_9 with
    | zero => intro x3 σ4 H locs hP hD hS hf; cases hf
    | succ n_9 ih_9 =>
      intro x3 σ4 H locs hP hD hS hf ls hl
      have hf : fX12_readsNumber_L9B a1 a2 K_9 (fX12_readsNumber_L9 a1 a2 K_9 n_9) x3 σ4 = some out := hf
      unfold fX12_readsNumber_L9B at hf
      refine lv_iload_n hx hb dX12_readsNumber_9 rfl (lv_at hl 3 rfl) ?_
      refine lv_iload_n hx hb dX12_readsNumber_10 rfl (lv_at hl 2 rfl) ?_
      refine lv_icmp_ge (tgt := 69) hx hb dX12_readsNumber_11 (by decide) (fun c5 => ?_) (fun c5 => ?_)
      · replace hf := pos_e c5 hf
        exact hK_9 _ _ _ hP hD hS hf _ (lv_sub hl [] rfl)
      · replace hf := neg_e c5 hf
        refine lv_aload_n hx hb dX12_readsNumber_14 rfl (lv_at hl 0 rfl) ?_
        obtain ⟨r6, er6, hf⟩ := bd_e hf
        refine gVr_i E hK hP (cX12_herec  er6) kV_X12_here wd_5_145 rfl rfl (q_model ks ad σ4) rfl rfl rfl ⟨Nat.le_of_ble_eq_true rfl, Nat.le_of_ble_eq_true rfl⟩ ⟨Nat.zero_le _, Nat.zero_le _⟩ hl.1 (Nat.le_of_ble_eq_true rfl) rfl dX12_readsNumber_15 ?_
        refine lv_bipush (v := 48) hx hb dX12_readsNumber_18 (by decide) ?_
        refine lv_bipush (v := 57) hx hb dX12_readsNumber_20 (by decide) ?_
        obtain ⟨r7, er7, hf⟩ := bd_e hf
        refine gSr_i E hK hP (cX12_isInc _ _ _ er7) kS_X12_isIn wd_5_138 rfl rfl rfl ⟨Nat.le_of_ble_eq_true rfl, Nat.le_of_ble_eq_true rfl⟩ ⟨Nat.zero_le _, Nat.zero_le _⟩ hl.1 (Nat.le_of_ble_eq_true rfl) rfl dX12_readsNumber_22 ?_
        refine lv_if_ne (tgt := 30) hx hb dX12_readsNumber_25 (by decide) (fun c8 => ?_) (fun c8 => ?_)
        · replace hf := neg_e c8 hf
          refine lv_aload_n hx hb dX12_readsNumber_30 rfl (lv_at hl 0 rfl) ?_
          refine gget E in_X12 hK hP (q_model ks ad σ4) rfl (k := 8) (by decide) wd_5_68 rfl (v := .ref (ad 15 8)) rfl dX12_readsNumber_31 ?_
          refine lv_iload_n hx hb dX12_readsNumber_34 rfl (lv_at hl 1 rfl) ?_
          refine lv_bipush (v := 10) hx hb dX12_readsNumber_35 (by decide) ?_
          refine lv_aload_n hx hb dX12_readsNumber_37 rfl (lv_at hl 0 rfl) ?_
          refine gget E in_X12 hK hP (q_model ks ad σ4) rfl (k := 8) (by decide) wd_5_68 rfl (v := .ref (ad 15 8)) rfl dX12_readsNumber_38 ?_
          refine lv_iload_n hx hb dX12_readsNumber_41 rfl (lv_at hl 1 rfl) ?_
          obtain ⟨c9, hf⟩ := ck_e hf
          refine giald E hK hP (q_M8 ks ad σ4) c9 dX12_readsNumber_42 ?_
          refine lv_imul hx hb dX12_readsNumber_43 ?_
          refine lv_aload_n hx hb dX12_readsNumber_44 rfl (lv_at hl 0 rfl) ?_
          obtain ⟨r10, er10, hf⟩ := bd_e hf
          refine gVr_i E hK hP (cX12_herec  er10) kV_X12_here wd_5_145 rfl rfl (q_model ks ad σ4) rfl rfl rfl ⟨Nat.le_of_ble_eq_true rfl, Nat.le_of_ble_eq_true rfl⟩ ⟨Nat.zero_le _, Nat.zero_le _⟩ hl.1 (Nat.le_of_ble_eq_true rfl) rfl dX12_readsNumber_45 ?_
          refine lv_iadd hx hb dX12_readsNumber_48 ?_
          refine lv_bipush (v := 48) hx hb dX12_readsNumber_49 (by decide) ?_
          refine lv_isub hx hb dX12_readsNumber_51 ?_
          obtain ⟨c11, hf⟩ := ck_e hf
          obtain ⟨σ12, eσ12, hf⟩ := nmv_e hf
          refine giast E hK hP hD hS (q_M8 ks ad σ4) c11 (σ' := σ12) (by rw [eσ12]; exact st_M8 ks ad σ4 _) dX12_readsNumber_52 (fun H locs hP hD hS => ?_)
          refine lv_aload_n hx hb dX12_readsNumber_53 rfl (lv_at hl 0 rfl) ?_
          refine lv_dup hx hb dX12_readsNumber_54 rfl ?_
          refine gget E in_X12 hK hP (q_model ks ad σ12) rfl (k := 5) (by decide) wd_5_65 rfl (v := .int (gI σ12 11 0 5)) rfl dX12_readsNumber_55 ?_
          refine lv_iconst (v := 1) hx hb dX12_readsNumber_58 (by decide) ?_
          refine lv_iadd hx hb dX12_readsNumber_59 ?_
          obtain ⟨σ13, eσ13, hf⟩ := nmv_e hf
          refine gput (k := 5) E in_X12 tyX12 tyX12_ok nmX12 hK hP hD hS (q_model ks ad σ12) rfl (by decide) wd_5_65 rfl rfl rfl rfl rfl (Nat.le_of_ble_eq_true rfl) (σ' := σ13) (by rw [eσ13]; exact st_model_5 ks ad σ12 _) dX12_readsNumber_60 (fun H locs hP hD hS => ?_)
          obtain ⟨v14, ev14, hf⟩ := nmv_e hf
          refine lv_iinc (v := v14) (lv' := [(3, .int v14), (0, .ref (ad 14 0)), (1, .int a1), (2, .int a2)]) hx hb dX12_readsNumber_63 hl (k := 3) rfl (by rw [ev14]; rfl) (by decide) rfl (fun ls hl => ?_)
          refine lv_goto (tgt := 9) hx hb dX12_readsNumber_66 (by decide) ?_
          exact ih_9 _ _ _ _ hP hD hS hf _ (lv_sub hl [1, 2, 3, 0] rfl)
        · replace hf := pos_e c8 hf
          refine lv_iconst (v := 0) hx hb dX12_readsNumber_28 (by decide) ?_
          exact gretw_z rfl E hlk hP hD hS hr dX12_readsNumber_29 (som_e hf)
  refine loop_9 _ (fun σ15 H locs hP hD hS hf ls hl => ?_) _ _ _ _ _ hP hD hS hf _ (lv_sub hl [1, 2, 3, 0] rfl)
  refine lv_iconst (v := 1) hx hb dX12_readsNumber_69 (by decide) ?_
  exact gretw_z rfl E hlk hP hD hS hr dX12_readsNumber_70 (som_e hf)
noncomputable def fX12_readsStatement_J216 (z3 : Int32) (σ4 : St) : Option (Int32 × St) :=
  if z3 = 0 then
  some (0, σ4)
  else
  bd (fX12_here σ4) fun r6 =>
  if r6 = 59 then
  nmv (sI σ4 11 0 5 ((gI σ4 11 0 5) + 1)) fun σ8 =>
  some (1, σ8)
  else
  some (0, σ4)
noncomputable def fX12_readsStatement_J92 (z14 : Int32) (σ15 : St) : Option (Int32 × St) :=
  fX12_readsStatement_J216 z14 σ15
noncomputable def fX12_readsStatement_J91 (σ16 : St) : Option (Int32 × St) :=
  fX12_readsStatement_J92 0 σ16
noncomputable def fX12_readsStatement_J146 (z23 : Int32) (σ24 : St) : Option (Int32 × St) :=
  fX12_readsStatement_J216 z23 σ24
noncomputable def fX12_readsStatement_J145 (σ25 : St) : Option (Int32 × St) :=
  fX12_readsStatement_J146 0 σ25
noncomputable def fX12_readsStatement_J119 (z30 : Int32) (σ31 : St) : Option (Int32 × St) :=
  fX12_readsStatement_J216 z30 σ31
noncomputable def fX12_readsStatement_J118 (σ32 : St) : Option (Int32 × St) :=
  fX12_readsStatement_J119 0 σ32
noncomputable def fX12_readsStatement_J200 (z37 : Int32) (σ38 : St) : Option (Int32 × St) :=
  fX12_readsStatement_J216 z37 σ38
noncomputable def fX12_readsStatement_J199 (σ39 : St) : Option (Int32 × St) :=
  fX12_readsStatement_J200 0 σ39
noncomputable def fX12_readsStatement (σ : St) : Option (Int32 × St) :=
  bd (fX12_here σ) fun r1 =>
  nmv (sI σ 11 0 5 ((gI σ 11 0 5) + 1)) fun σ2 =>
  if r1 = 98 then
  bd (fX12_readsNumber σ2 0 2) fun r13 =>
  if r13.1 = 0 then
  fX12_readsStatement_J91 r13.2
  else
  bd (fX12_readsNumber r13.2 1 2) fun r18 =>
  if r18.1 = 0 then
  fX12_readsStatement_J91 r18.2
  else
  bd (fX12_readsNumber r18.2 2 1) fun r20 =>
  if r20.1 = 0 then
  fX12_readsStatement_J91 r20.2
  else
  fX12_readsStatement_J92 1 r20.2
  else
  if r1 = 107 then
  bd (fX12_readsNumber σ2 0 1) fun r22 =>
  if r22.1 = 0 then
  fX12_readsStatement_J145 r22.2
  else
  bd (fX12_readsNumber r22.2 1 1) fun r27 =>
  if r27.1 = 0 then
  fX12_readsStatement_J145 r27.2
  else
  fX12_readsStatement_J146 1 r27.2
  else
  if r1 = 116 then
  bd (fX12_readsNumber σ2 0 1) fun r29 =>
  if r29.1 = 0 then
  fX12_readsStatement_J118 r29.2
  else
  bd (fX12_readsNumber r29.2 1 2) fun r34 =>
  if r34.1 = 0 then
  fX12_readsStatement_J118 r34.2
  else
  fX12_readsStatement_J119 1 r34.2
  else
  if r1 = 121 then
  bd (fX12_readsNumber σ2 0 1) fun r36 =>
  if r36.1 = 0 then
  fX12_readsStatement_J199 r36.2
  else
  bd (fX12_readsNumber r36.2 1 1) fun r41 =>
  if r41.1 = 0 then
  fX12_readsStatement_J199 r41.2
  else
  bd (fX12_readsNumber r41.2 2 1) fun r43 =>
  if r43.1 = 0 then
  fX12_readsStatement_J199 r43.2
  else
  bd (fX12_readsNumber r43.2 3 2) fun r45 =>
  if r45.1 = 0 then
  fX12_readsStatement_J199 r45.2
  else
  bd (fX12_readsNumber r45.2 4 2) fun r47 =>
  if r47.1 = 0 then
  fX12_readsStatement_J199 r47.2
  else
  fX12_readsStatement_J200 1 r47.2
  else
  nmv (sI σ2 11 0 5 ((gI σ2 11 0 5) - 1)) fun σ49 =>
  some (0, σ49)
def rX12_readsStatement : Room := { frames := 2, cells := 0, slots := 0, locals := 45 }
set_option maxHeartbeats 4000000 in
set_option maxRecDepth 100000 in
theorem cX12_readsStatementc {l : Launch} {dC : Nat → ClassId} {dI : Nat → Nat → Nat} {ks : Nat → ClassId} {ad : Nat → Nat → Nat} {σ : St}   {out : Int32 × St} (hf : fX12_readsStatement σ = some out) : MWi l dC dI ks ad σ yX12_readsStatement cX12_readsStatement 3 (some .boolean) rX12_readsStatement [.ref (ad 14 0)] out := by
  intro sz
  refine met_w (Qc := fun A => va_Qi (fun r σ' => r = out.1 ∧ σ' = out.2) (gBw dC dI ks ad A) A) (own := RX12) (by decide) rfl (Nat.le_of_ble_eq_true rfl) ?_
  intro A p e s m args below meth c ls E hr hlk hA hP hD hS hK hl
  have hx := E.1
  have hb := E.2.1
  have hl : lv_has ls 3 [(0, .ref (ad 14 0))] := hl
  unfold fX12_readsStatement at hf
  refine lv_aload_n hx hb dX12_readsStatement_0 rfl (lv_at hl 0 rfl) ?_
  obtain ⟨r1, er1, hf⟩ := bd_e hf
  refine gVr_i E hK hP (cX12_herec  er1) kV_X12_here wd_5_145 rfl rfl (q_model ks ad σ) rfl rfl rfl ⟨Nat.le_of_ble_eq_true rfl, Nat.le_of_ble_eq_true rfl⟩ ⟨Nat.zero_le _, Nat.zero_le _⟩ hl.1 (Nat.le_of_ble_eq_true rfl) rfl dX12_readsStatement_1 ?_
  refine lv_istore_n (lv' := [(1, .int r1), (0, .ref (ad 14 0))]) hx hb dX12_readsStatement_4 rfl hl (by decide) rfl (fun ls hl => ?_)
  refine lv_aload_n hx hb dX12_readsStatement_5 rfl (lv_at hl 1 rfl) ?_
  refine lv_dup hx hb dX12_readsStatement_6 rfl ?_
  refine gget E in_X12 hK hP (q_model ks ad σ) rfl (k := 5) (by decide) wd_5_65 rfl (v := .int (gI σ 11 0 5)) rfl dX12_readsStatement_7 ?_
  refine lv_iconst (v := 1) hx hb dX12_readsStatement_10 (by decide) ?_
  refine lv_iadd hx hb dX12_readsStatement_11 ?_
  obtain ⟨σ2, eσ2, hf⟩ := nmv_e hf
  refine gput (k := 5) E in_X12 tyX12 tyX12_ok nmX12 hK hP hD hS (q_model ks ad σ) rfl (by decide) wd_5_65 rfl rfl rfl rfl rfl (Nat.le_of_ble_eq_true rfl) (σ' := σ2) (by rw [eσ2]; exact st_model_5 ks ad σ _) dX12_readsStatement_12 (fun H locs hP hD hS => ?_)
  refine lv_iload_n hx hb dX12_readsStatement_15 rfl (lv_at hl 0 rfl) ?_
  have hJ_216 : ∀ (z3 : Int32) (σ4 : St) (H : Heap) (locs : List Loc) (hP : va_P (dC, dI) vwCl (wG ks ad σ4) H) (hD : va_D A (wG ks ad σ4)) (hS : va_S A s.heap H locs) (hf : fX12_readsStatement_J216 z3 σ4 = some out) (ls : Array Slot), lv_has ls 3 [(0, .ref (ad 14 0)), (2, .int z3)] → W p l e rX12_readsStatement s m args below meth c H locs 0 0 (MQ below (va_Qi (fun r σ' => r = out.1 ∧ σ' = out.2) (gBw dC dI ks ad A) A) args s 0 0 A) (F0 m 216 ls []) := by
    intro z3 σ4 H locs hP hD hS hf ls hl
    unfold fX12_readsStatement_J216 at hf
    refine lv_iload_n hx hb dX12_readsStatement_216 rfl (lv_at hl 1 rfl) ?_
    refine lv_if_eq (tgt := 229) hx hb dX12_readsStatement_217 (by decide) (fun c5 => ?_) (fun c5 => ?_)
    · replace hf := pos_e c5 hf
      refine lv_iconst (v := 0) hx hb dX12_readsStatement_229 (by decide) ?_
      exact gretw_z rfl E hlk hP hD hS hr dX12_readsStatement_230 (som_e hf)
    · replace hf := neg_e c5 hf
      refine lv_aload_n hx hb dX12_readsStatement_220 rfl (lv_at hl 0 rfl) ?_
      obtain ⟨r6, er6, hf⟩ := bd_e hf
      refine gVr_i E hK hP (cX12_herec  er6) kV_X12_here wd_5_145 rfl rfl (q_model ks ad σ4) rfl rfl rfl ⟨Nat.le_of_ble_eq_true rfl, Nat.le_of_ble_eq_true rfl⟩ ⟨Nat.zero_le _, Nat.zero_le _⟩ hl.1 (Nat.le_of_ble_eq_true rfl) rfl dX12_readsStatement_221 ?_
      refine lv_bipush (v := 59) hx hb dX12_readsStatement_224 (by decide) ?_
      refine lv_icmp_eq (tgt := 231) hx hb dX12_readsStatement_226 (by decide) (fun c7 => ?_) (fun c7 => ?_)
      · replace hf := pos_e c7 hf
        refine lv_aload_n hx hb dX12_readsStatement_231 rfl (lv_at hl 0 rfl) ?_
        refine lv_dup hx hb dX12_readsStatement_232 rfl ?_
        refine gget E in_X12 hK hP (q_model ks ad σ4) rfl (k := 5) (by decide) wd_5_65 rfl (v := .int (gI σ4 11 0 5)) rfl dX12_readsStatement_233 ?_
        refine lv_iconst (v := 1) hx hb dX12_readsStatement_236 (by decide) ?_
        refine lv_iadd hx hb dX12_readsStatement_237 ?_
        obtain ⟨σ8, eσ8, hf⟩ := nmv_e hf
        refine gput (k := 5) E in_X12 tyX12 tyX12_ok nmX12 hK hP hD hS (q_model ks ad σ4) rfl (by decide) wd_5_65 rfl rfl rfl rfl rfl (Nat.le_of_ble_eq_true rfl) (σ' := σ8) (by rw [eσ8]; exact st_model_5 ks ad σ4 _) dX12_readsStatement_238 (fun H locs hP hD hS => ?_)
        refine lv_iconst (v := 1) hx hb dX12_readsStatement_241 (by decide) ?_
        exact gretw_z rfl E hlk hP hD hS hr dX12_readsStatement_242 (som_e hf)
      · replace hf := neg_e c7 hf
        refine lv_iconst (v := 0) hx hb dX12_readsStatement_229 (by decide) ?_
        exact gretw_z rfl E hlk hP hD hS hr dX12_readsStatement_230 (som_e hf)
  by_cases c9 : r1 = 98
  · replace hf := pos_e c9 hf
    refine lv_lookup (tgt := 60) (off := 44) hx hb dX12_readsStatement_16 (by decide) (by show Op.lookupswitch.offset [(98, 44), (107, 107), (116, 80), (121, 134)] 188 _ = _; rw [Op.lookupswitch.offset_cons, if_pos (by rw [c9]; rfl)]) (by decide) ?_
    refine lv_aload_n hx hb dX12_readsStatement_60 rfl (lv_at hl 1 rfl) ?_
    refine lv_iconst (v := 0) hx hb dX12_readsStatement_61 (by decide) ?_
    refine lv_iconst (v := 2) hx hb dX12_readsStatement_62 (by decide) ?_
    obtain ⟨r13, er13, hf⟩ := bd_e hf
    refine gVw_i E hK hP hD hS hA (cX12_readsNumberc _ _ er13) kV_X12_readsNumber wd_5_149 rfl rfl (q_model ks ad σ2) rfl rfl rfl ⟨Nat.le_of_ble_eq_true rfl, Nat.le_of_ble_eq_true rfl⟩ ⟨Nat.zero_le _, Nat.zero_le _⟩ hl.1 (Nat.le_of_ble_eq_true rfl) rfl dX12_readsStatement_63 (fun H locs hP hD hS => ?_)
    have hJ_92 : ∀ (z14 : Int32) (σ15 : St) (H : Heap) (locs : List Loc) (hP : va_P (dC, dI) vwCl (wG ks ad σ15) H) (hD : va_D A (wG ks ad σ15)) (hS : va_S A s.heap H locs) (hf : fX12_readsStatement_J92 z14 σ15 = some out) (ls : Array Slot), lv_has ls 3 [(0, .ref (ad 14 0))] → W p l e rX12_readsStatement s m args below meth c H locs 0 0 (MQ below (va_Qi (fun r σ' => r = out.1 ∧ σ' = out.2) (gBw dC dI ks ad A) A) args s 0 0 A) (F0 m 92 ls [.int z14]) := by
      intro z14 σ15 H locs hP hD hS hf ls hl
      unfold fX12_readsStatement_J92 at hf
      refine lv_istore_n (lv' := [(2, .int z14), (0, .ref (ad 14 0))]) hx hb dX12_readsStatement_92 rfl hl (by decide) rfl (fun ls hl => ?_)
      refine lv_goto (tgt := 216) hx hb dX12_readsStatement_93 (by decide) ?_
      exact hJ_216 _ _ _ _ hP hD hS hf _ (lv_sub hl [1, 0] rfl)
    have hJ_91 : ∀ (σ16 : St) (H : Heap) (locs : List Loc) (hP : va_P (dC, dI) vwCl (wG ks ad σ16) H) (hD : va_D A (wG ks ad σ16)) (hS : va_S A s.heap H locs) (hf : fX12_readsStatement_J91 σ16 = some out) (ls : Array Slot), lv_has ls 3 [(0, .ref (ad 14 0))] → W p l e rX12_readsStatement s m args below meth c H locs 0 0 (MQ below (va_Qi (fun r σ' => r = out.1 ∧ σ' = out.2) (gBw dC dI ks ad A) A) args s 0 0 A) (F0 m 91 ls []) := by
      intro σ16 H locs hP hD hS hf ls hl
      unfold fX12_readsStatement_J91 at hf
      refine lv_iconst (v := 0) hx hb dX12_readsStatement_91 (by decide) ?_
      exact hJ_92 _ _ _ _ hP hD hS hf _ (lv_sub hl [0] rfl)
    refine lv_if_eq (tgt := 91) hx hb dX12_readsStatement_66 (by decide) (fun c17 => ?_) (fun c17 => ?_)
    · replace hf := pos_e c17 hf
      exact hJ_91 _ _ _ hP hD hS hf _ (lv_sub hl [1] rfl)
    · replace hf := neg_e c17 hf
      refine lv_aload_n hx hb dX12_readsStatement_69 rfl (lv_at hl 1 rfl) ?_
      refine lv_iconst (v := 1) hx hb dX12_readsStatement_70 (by decide) ?_
      refine lv_iconst (v := 2) hx hb dX12_readsStatement_71 (by decide) ?_
      obtain ⟨r18, er18, hf⟩ := bd_e hf
      refine gVw_i E hK hP hD hS hA (cX12_readsNumberc _ _ er18) kV_X12_readsNumber wd_5_149 rfl rfl (q_model ks ad r13.2) rfl rfl rfl ⟨Nat.le_of_ble_eq_true rfl, Nat.le_of_ble_eq_true rfl⟩ ⟨Nat.zero_le _, Nat.zero_le _⟩ hl.1 (Nat.le_of_ble_eq_true rfl) rfl dX12_readsStatement_72 (fun H locs hP hD hS => ?_)
      refine lv_if_eq (tgt := 91) hx hb dX12_readsStatement_75 (by decide) (fun c19 => ?_) (fun c19 => ?_)
      · replace hf := pos_e c19 hf
        exact hJ_91 _ _ _ hP hD hS hf _ (lv_sub hl [1] rfl)
      · replace hf := neg_e c19 hf
        refine lv_aload_n hx hb dX12_readsStatement_78 rfl (lv_at hl 1 rfl) ?_
        refine lv_iconst (v := 2) hx hb dX12_readsStatement_79 (by decide) ?_
        refine lv_iconst (v := 1) hx hb dX12_readsStatement_80 (by decide) ?_
        obtain ⟨r20, er20, hf⟩ := bd_e hf
        refine gVw_i E hK hP hD hS hA (cX12_readsNumberc _ _ er20) kV_X12_readsNumber wd_5_149 rfl rfl (q_model ks ad r18.2) rfl rfl rfl ⟨Nat.le_of_ble_eq_true rfl, Nat.le_of_ble_eq_true rfl⟩ ⟨Nat.zero_le _, Nat.zero_le _⟩ hl.1 (Nat.le_of_ble_eq_true rfl) rfl dX12_readsStatement_81 (fun H locs hP hD hS => ?_)
        refine lv_if_eq (tgt := 91) hx hb dX12_readsStatement_84 (by decide) (fun c21 => ?_) (fun c21 => ?_)
        · replace hf := pos_e c21 hf
          exact hJ_91 _ _ _ hP hD hS hf _ (lv_sub hl [1] rfl)
        · replace hf := neg_e c21 hf
          refine lv_iconst (v := 1) hx hb dX12_readsStatement_87 (by decide) ?_
          refine lv_goto (tgt := 92) hx hb dX12_readsStatement_88 (by decide) ?_
          exact hJ_92 _ _ _ _ hP hD hS hf _ (lv_sub hl [1] rfl)
  · replace hf := neg_e c9 hf
    by_cases c10 : r1 = 107
    · replace hf := pos_e c10 hf
      refine lv_lookup (tgt := 123) (off := 107) hx hb dX12_readsStatement_16 (by decide) (by show Op.lookupswitch.offset [(98, 44), (107, 107), (116, 80), (121, 134)] 188 _ = _; rw [lv_osw c9 (a := 98) rfl]; rw [Op.lookupswitch.offset_cons, if_pos (by rw [c10]; rfl)]) (by decide) ?_
      refine lv_aload_n hx hb dX12_readsStatement_123 rfl (lv_at hl 1 rfl) ?_
      refine lv_iconst (v := 0) hx hb dX12_readsStatement_124 (by decide) ?_
      refine lv_iconst (v := 1) hx hb dX12_readsStatement_125 (by decide) ?_
      obtain ⟨r22, er22, hf⟩ := bd_e hf
      refine gVw_i E hK hP hD hS hA (cX12_readsNumberc _ _ er22) kV_X12_readsNumber wd_5_149 rfl rfl (q_model ks ad σ2) rfl rfl rfl ⟨Nat.le_of_ble_eq_true rfl, Nat.le_of_ble_eq_true rfl⟩ ⟨Nat.zero_le _, Nat.zero_le _⟩ hl.1 (Nat.le_of_ble_eq_true rfl) rfl dX12_readsStatement_126 (fun H locs hP hD hS => ?_)
      have hJ_146 : ∀ (z23 : Int32) (σ24 : St) (H : Heap) (locs : List Loc) (hP : va_P (dC, dI) vwCl (wG ks ad σ24) H) (hD : va_D A (wG ks ad σ24)) (hS : va_S A s.heap H locs) (hf : fX12_readsStatement_J146 z23 σ24 = some out) (ls : Array Slot), lv_has ls 3 [(0, .ref (ad 14 0))] → W p l e rX12_readsStatement s m args below meth c H locs 0 0 (MQ below (va_Qi (fun r σ' => r = out.1 ∧ σ' = out.2) (gBw dC dI ks ad A) A) args s 0 0 A) (F0 m 146 ls [.int z23]) := by
        intro z23 σ24 H locs hP hD hS hf ls hl
        unfold fX12_readsStatement_J146 at hf
        refine lv_istore_n (lv' := [(2, .int z23), (0, .ref (ad 14 0))]) hx hb dX12_readsStatement_146 rfl hl (by decide) rfl (fun ls hl => ?_)
        refine lv_goto (tgt := 216) hx hb dX12_readsStatement_147 (by decide) ?_
        exact hJ_216 _ _ _ _ hP hD hS hf _ (lv_sub hl [1, 0] rfl)
      have hJ_145 : ∀ (σ25 : St) (H : Heap) (locs : List Loc) (hP : va_P (dC, dI) vwCl (wG ks ad σ25) H) (hD : va_D A (wG ks ad σ25)) (hS : va_S A s.heap H locs) (hf : fX12_readsStatement_J145 σ25 = some out) (ls : Array Slot), lv_has ls 3 [(0, .ref (ad 14 0))] → W p l e rX12_readsStatement s m args below meth c H locs 0 0 (MQ below (va_Qi (fun r σ' => r = out.1 ∧ σ' = out.2) (gBw dC dI ks ad A) A) args s 0 0 A) (F0 m 145 ls []) := by
        intro σ25 H locs hP hD hS hf ls hl
        unfold fX12_readsStatement_J145 at hf
        refine lv_iconst (v := 0) hx hb dX12_readsStatement_145 (by decide) ?_
        exact hJ_146 _ _ _ _ hP hD hS hf _ (lv_sub hl [0] rfl)
      refine lv_if_eq (tgt := 145) hx hb dX12_readsStatement_129 (by decide) (fun c26 => ?_) (fun c26 => ?_)
      · replace hf := pos_e c26 hf
        exact hJ_145 _ _ _ hP hD hS hf _ (lv_sub hl [1] rfl)
      · replace hf := neg_e c26 hf
        refine lv_aload_n hx hb dX12_readsStatement_132 rfl (lv_at hl 1 rfl) ?_
        refine lv_iconst (v := 1) hx hb dX12_readsStatement_133 (by decide) ?_
        refine lv_iconst (v := 1) hx hb dX12_readsStatement_134 (by decide) ?_
        obtain ⟨r27, er27, hf⟩ := bd_e hf
        refine gVw_i E hK hP hD hS hA (cX12_readsNumberc _ _ er27) kV_X12_readsNumber wd_5_149 rfl rfl (q_model ks ad r22.2) rfl rfl rfl ⟨Nat.le_of_ble_eq_true rfl, Nat.le_of_ble_eq_true rfl⟩ ⟨Nat.zero_le _, Nat.zero_le _⟩ hl.1 (Nat.le_of_ble_eq_true rfl) rfl dX12_readsStatement_135 (fun H locs hP hD hS => ?_)
        refine lv_if_eq (tgt := 145) hx hb dX12_readsStatement_138 (by decide) (fun c28 => ?_) (fun c28 => ?_)
        · replace hf := pos_e c28 hf
          exact hJ_145 _ _ _ hP hD hS hf _ (lv_sub hl [1] rfl)
        · replace hf := neg_e c28 hf
          refine lv_iconst (v := 1) hx hb dX12_readsStatement_141 (by decide) ?_
          refine lv_goto (tgt := 146) hx hb dX12_readsStatement_142 (by decide) ?_
          exact hJ_146 _ _ _ _ hP hD hS hf _ (lv_sub hl [1] rfl)
    · replace hf := neg_e c10 hf
      by_cases c11 : r1 = 116
      · replace hf := pos_e c11 hf
        refine lv_lookup (tgt := 96) (off := 80) hx hb dX12_readsStatement_16 (by decide) (by show Op.lookupswitch.offset [(98, 44), (107, 107), (116, 80), (121, 134)] 188 _ = _; rw [lv_osw c9 (a := 98) rfl, lv_osw c10 (a := 107) rfl]; rw [Op.lookupswitch.offset_cons, if_pos (by rw [c11]; rfl)]) (by decide) ?_
        refine lv_aload_n hx hb dX12_readsStatement_96 rfl (lv_at hl 1 rfl) ?_
        refine lv_iconst (v := 0) hx hb dX12_readsStatement_97 (by decide) ?_
        refine lv_iconst (v := 1) hx hb dX12_readsStatement_98 (by decide) ?_
        obtain ⟨r29, er29, hf⟩ := bd_e hf
        refine gVw_i E hK hP hD hS hA (cX12_readsNumberc _ _ er29) kV_X12_readsNumber wd_5_149 rfl rfl (q_model ks ad σ2) rfl rfl rfl ⟨Nat.le_of_ble_eq_true rfl, Nat.le_of_ble_eq_true rfl⟩ ⟨Nat.zero_le _, Nat.zero_le _⟩ hl.1 (Nat.le_of_ble_eq_true rfl) rfl dX12_readsStatement_99 (fun H locs hP hD hS => ?_)
        have hJ_119 : ∀ (z30 : Int32) (σ31 : St) (H : Heap) (locs : List Loc) (hP : va_P (dC, dI) vwCl (wG ks ad σ31) H) (hD : va_D A (wG ks ad σ31)) (hS : va_S A s.heap H locs) (hf : fX12_readsStatement_J119 z30 σ31 = some out) (ls : Array Slot), lv_has ls 3 [(0, .ref (ad 14 0))] → W p l e rX12_readsStatement s m args below meth c H locs 0 0 (MQ below (va_Qi (fun r σ' => r = out.1 ∧ σ' = out.2) (gBw dC dI ks ad A) A) args s 0 0 A) (F0 m 119 ls [.int z30]) := by
          intro z30 σ31 H locs hP hD hS hf ls hl
          unfold fX12_readsStatement_J119 at hf
          refine lv_istore_n (lv' := [(2, .int z30), (0, .ref (ad 14 0))]) hx hb dX12_readsStatement_119 rfl hl (by decide) rfl (fun ls hl => ?_)
          refine lv_goto (tgt := 216) hx hb dX12_readsStatement_120 (by decide) ?_
          exact hJ_216 _ _ _ _ hP hD hS hf _ (lv_sub hl [1, 0] rfl)
        have hJ_118 : ∀ (σ32 : St) (H : Heap) (locs : List Loc) (hP : va_P (dC, dI) vwCl (wG ks ad σ32) H) (hD : va_D A (wG ks ad σ32)) (hS : va_S A s.heap H locs) (hf : fX12_readsStatement_J118 σ32 = some out) (ls : Array Slot), lv_has ls 3 [(0, .ref (ad 14 0))] → W p l e rX12_readsStatement s m args below meth c H locs 0 0 (MQ below (va_Qi (fun r σ' => r = out.1 ∧ σ' = out.2) (gBw dC dI ks ad A) A) args s 0 0 A) (F0 m 118 ls []) := by
          intro σ32 H locs hP hD hS hf ls hl
          unfold fX12_readsStatement_J118 at hf
          refine lv_iconst (v := 0) hx hb dX12_readsStatement_118 (by decide) ?_
          exact hJ_119 _ _ _ _ hP hD hS hf _ (lv_sub hl [0] rfl)
        refine lv_if_eq (tgt := 118) hx hb dX12_readsStatement_102 (by decide) (fun c33 => ?_) (fun c33 => ?_)
        · replace hf := pos_e c33 hf
          exact hJ_118 _ _ _ hP hD hS hf _ (lv_sub hl [1] rfl)
        · replace hf := neg_e c33 hf
          refine lv_aload_n hx hb dX12_readsStatement_105 rfl (lv_at hl 1 rfl) ?_
          refine lv_iconst (v := 1) hx hb dX12_readsStatement_106 (by decide) ?_
          refine lv_iconst (v := 2) hx hb dX12_readsStatement_107 (by decide) ?_
          obtain ⟨r34, er34, hf⟩ := bd_e hf
          refine gVw_i E hK hP hD hS hA (cX12_readsNumberc _ _ er34) kV_X12_readsNumber wd_5_149 rfl rfl (q_model ks ad r29.2) rfl rfl rfl ⟨Nat.le_of_ble_eq_true rfl, Nat.le_of_ble_eq_true rfl⟩ ⟨Nat.zero_le _, Nat.zero_le _⟩ hl.1 (Nat.le_of_ble_eq_true rfl) rfl dX12_readsStatement_108 (fun H locs hP hD hS => ?_)
          refine lv_if_eq (tgt := 118) hx hb dX12_readsStatement_111 (by decide) (fun c35 => ?_) (fun c35 => ?_)
          · replace hf := pos_e c35 hf
            exact hJ_118 _ _ _ hP hD hS hf _ (lv_sub hl [1] rfl)
          · replace hf := neg_e c35 hf
            refine lv_iconst (v := 1) hx hb dX12_readsStatement_114 (by decide) ?_
            refine lv_goto (tgt := 119) hx hb dX12_readsStatement_115 (by decide) ?_
            exact hJ_119 _ _ _ _ hP hD hS hf _ (lv_sub hl [1] rfl)
      · replace hf := neg_e c11 hf
        by_cases c12 : r1 = 121
        · replace hf := pos_e c12 hf
          refine lv_lookup (tgt := 150) (off := 134) hx hb dX12_readsStatement_16 (by decide) (by show Op.lookupswitch.offset [(98, 44), (107, 107), (116, 80), (121, 134)] 188 _ = _; rw [lv_osw c9 (a := 98) rfl, lv_osw c10 (a := 107) rfl, lv_osw c11 (a := 116) rfl]; rw [Op.lookupswitch.offset_cons, if_pos (by rw [c12]; rfl)]) (by decide) ?_
          refine lv_aload_n hx hb dX12_readsStatement_150 rfl (lv_at hl 1 rfl) ?_
          refine lv_iconst (v := 0) hx hb dX12_readsStatement_151 (by decide) ?_
          refine lv_iconst (v := 1) hx hb dX12_readsStatement_152 (by decide) ?_
          obtain ⟨r36, er36, hf⟩ := bd_e hf
          refine gVw_i E hK hP hD hS hA (cX12_readsNumberc _ _ er36) kV_X12_readsNumber wd_5_149 rfl rfl (q_model ks ad σ2) rfl rfl rfl ⟨Nat.le_of_ble_eq_true rfl, Nat.le_of_ble_eq_true rfl⟩ ⟨Nat.zero_le _, Nat.zero_le _⟩ hl.1 (Nat.le_of_ble_eq_true rfl) rfl dX12_readsStatement_153 (fun H locs hP hD hS => ?_)
          have hJ_200 : ∀ (z37 : Int32) (σ38 : St) (H : Heap) (locs : List Loc) (hP : va_P (dC, dI) vwCl (wG ks ad σ38) H) (hD : va_D A (wG ks ad σ38)) (hS : va_S A s.heap H locs) (hf : fX12_readsStatement_J200 z37 σ38 = some out) (ls : Array Slot), lv_has ls 3 [(0, .ref (ad 14 0))] → W p l e rX12_readsStatement s m args below meth c H locs 0 0 (MQ below (va_Qi (fun r σ' => r = out.1 ∧ σ' = out.2) (gBw dC dI ks ad A) A) args s 0 0 A) (F0 m 200 ls [.int z37]) := by
            intro z37 σ38 H locs hP hD hS hf ls hl
            unfold fX12_readsStatement_J200 at hf
            refine lv_istore_n (lv' := [(2, .int z37), (0, .ref (ad 14 0))]) hx hb dX12_readsStatement_200 rfl hl (by decide) rfl (fun ls hl => ?_)
            refine lv_goto (tgt := 216) hx hb dX12_readsStatement_201 (by decide) ?_
            exact hJ_216 _ _ _ _ hP hD hS hf _ (lv_sub hl [1, 0] rfl)
          have hJ_199 : ∀ (σ39 : St) (H : Heap) (locs : List Loc) (hP : va_P (dC, dI) vwCl (wG ks ad σ39) H) (hD : va_D A (wG ks ad σ39)) (hS : va_S A s.heap H locs) (hf : fX12_readsStatement_J199 σ39 = some out) (ls : Array Slot), lv_has ls 3 [(0, .ref (ad 14 0))] → W p l e rX12_readsStatement s m args below meth c H locs 0 0 (MQ below (va_Qi (fun r σ' => r = out.1 ∧ σ' = out.2) (gBw dC dI ks ad A) A) args s 0 0 A) (F0 m 199 ls []) := by
            intro σ39 H locs hP hD hS hf ls hl
            unfold fX12_readsStatement_J199 at hf
            refine lv_iconst (v := 0) hx hb dX12_readsStatement_199 (by decide) ?_
            exact hJ_200 _ _ _ _ hP hD hS hf _ (lv_sub hl [0] rfl)
          refine lv_if_eq (tgt := 199) hx hb dX12_readsStatement_156 (by decide) (fun c40 => ?_) (fun c40 => ?_)
          · replace hf := pos_e c40 hf
            exact hJ_199 _ _ _ hP hD hS hf _ (lv_sub hl [1] rfl)
          · replace hf := neg_e c40 hf
            refine lv_aload_n hx hb dX12_readsStatement_159 rfl (lv_at hl 1 rfl) ?_
            refine lv_iconst (v := 1) hx hb dX12_readsStatement_160 (by decide) ?_
            refine lv_iconst (v := 1) hx hb dX12_readsStatement_161 (by decide) ?_
            obtain ⟨r41, er41, hf⟩ := bd_e hf
            refine gVw_i E hK hP hD hS hA (cX12_readsNumberc _ _ er41) kV_X12_readsNumber wd_5_149 rfl rfl (q_model ks ad r36.2) rfl rfl rfl ⟨Nat.le_of_ble_eq_true rfl, Nat.le_of_ble_eq_true rfl⟩ ⟨Nat.zero_le _, Nat.zero_le _⟩ hl.1 (Nat.le_of_ble_eq_true rfl) rfl dX12_readsStatement_162 (fun H locs hP hD hS => ?_)
            refine lv_if_eq (tgt := 199) hx hb dX12_readsStatement_165 (by decide) (fun c42 => ?_) (fun c42 => ?_)
            · replace hf := pos_e c42 hf
              exact hJ_199 _ _ _ hP hD hS hf _ (lv_sub hl [1] rfl)
            · replace hf := neg_e c42 hf
              refine lv_aload_n hx hb dX12_readsStatement_168 rfl (lv_at hl 1 rfl) ?_
              refine lv_iconst (v := 2) hx hb dX12_readsStatement_169 (by decide) ?_
              refine lv_iconst (v := 1) hx hb dX12_readsStatement_170 (by decide) ?_
              obtain ⟨r43, er43, hf⟩ := bd_e hf
              refine gVw_i E hK hP hD hS hA (cX12_readsNumberc _ _ er43) kV_X12_readsNumber wd_5_149 rfl rfl (q_model ks ad r41.2) rfl rfl rfl ⟨Nat.le_of_ble_eq_true rfl, Nat.le_of_ble_eq_true rfl⟩ ⟨Nat.zero_le _, Nat.zero_le _⟩ hl.1 (Nat.le_of_ble_eq_true rfl) rfl dX12_readsStatement_171 (fun H locs hP hD hS => ?_)
              refine lv_if_eq (tgt := 199) hx hb dX12_readsStatement_174 (by decide) (fun c44 => ?_) (fun c44 => ?_)
              · replace hf := pos_e c44 hf
                exact hJ_199 _ _ _ hP hD hS hf _ (lv_sub hl [1] rfl)
              · replace hf := neg_e c44 hf
                refine lv_aload_n hx hb dX12_readsStatement_177 rfl (lv_at hl 1 rfl) ?_
                refine lv_iconst (v := 3) hx hb dX12_readsStatement_178 (by decide) ?_
                refine lv_iconst (v := 2) hx hb dX12_readsStatement_179 (by decide) ?_
                obtain ⟨r45, er45, hf⟩ := bd_e hf
                refine gVw_i E hK hP hD hS hA (cX12_readsNumberc _ _ er45) kV_X12_readsNumber wd_5_149 rfl rfl (q_model ks ad r43.2) rfl rfl rfl ⟨Nat.le_of_ble_eq_true rfl, Nat.le_of_ble_eq_true rfl⟩ ⟨Nat.zero_le _, Nat.zero_le _⟩ hl.1 (Nat.le_of_ble_eq_true rfl) rfl dX12_readsStatement_180 (fun H locs hP hD hS => ?_)
                refine lv_if_eq (tgt := 199) hx hb dX12_readsStatement_183 (by decide) (fun c46 => ?_) (fun c46 => ?_)
                · replace hf := pos_e c46 hf
                  exact hJ_199 _ _ _ hP hD hS hf _ (lv_sub hl [1] rfl)
                · replace hf := neg_e c46 hf
                  refine lv_aload_n hx hb dX12_readsStatement_186 rfl (lv_at hl 1 rfl) ?_
                  refine lv_iconst (v := 4) hx hb dX12_readsStatement_187 (by decide) ?_
                  refine lv_iconst (v := 2) hx hb dX12_readsStatement_188 (by decide) ?_
                  obtain ⟨r47, er47, hf⟩ := bd_e hf
                  refine gVw_i E hK hP hD hS hA (cX12_readsNumberc _ _ er47) kV_X12_readsNumber wd_5_149 rfl rfl (q_model ks ad r45.2) rfl rfl rfl ⟨Nat.le_of_ble_eq_true rfl, Nat.le_of_ble_eq_true rfl⟩ ⟨Nat.zero_le _, Nat.zero_le _⟩ hl.1 (Nat.le_of_ble_eq_true rfl) rfl dX12_readsStatement_189 (fun H locs hP hD hS => ?_)
                  refine lv_if_eq (tgt := 199) hx hb dX12_readsStatement_192 (by decide) (fun c48 => ?_) (fun c48 => ?_)
                  · replace hf := pos_e c48 hf
                    exact hJ_199 _ _ _ hP hD hS hf _ (lv_sub hl [1] rfl)
                  · replace hf := neg_e c48 hf
                    refine lv_iconst (v := 1) hx hb dX12_readsStatement_195 (by decide) ?_
                    refine lv_goto (tgt := 200) hx hb dX12_readsStatement_196 (by decide) ?_
                    exact hJ_200 _ _ _ _ hP hD hS hf _ (lv_sub hl [1] rfl)
        · replace hf := neg_e c12 hf
          refine lv_lookup (tgt := 204) (off := 188) hx hb dX12_readsStatement_16 (by decide) (by show Op.lookupswitch.offset [(98, 44), (107, 107), (116, 80), (121, 134)] 188 _ = _; rw [lv_osw c9 (a := 98) rfl, lv_osw c10 (a := 107) rfl, lv_osw c11 (a := 116) rfl, lv_osw c12 (a := 121) rfl]; rfl) (by decide) ?_
          refine lv_aload_n hx hb dX12_readsStatement_204 rfl (lv_at hl 1 rfl) ?_
          refine lv_dup hx hb dX12_readsStatement_205 rfl ?_
          refine gget E in_X12 hK hP (q_model ks ad σ2) rfl (k := 5) (by decide) wd_5_65 rfl (v := .int (gI σ2 11 0 5)) rfl dX12_readsStatement_206 ?_
          refine lv_iconst (v := 1) hx hb dX12_readsStatement_209 (by decide) ?_
          refine lv_isub hx hb dX12_readsStatement_210 ?_
          obtain ⟨σ49, eσ49, hf⟩ := nmv_e hf
          refine gput (k := 5) E in_X12 tyX12 tyX12_ok nmX12 hK hP hD hS (q_model ks ad σ2) rfl (by decide) wd_5_65 rfl rfl rfl rfl rfl (Nat.le_of_ble_eq_true rfl) (σ' := σ49) (by rw [eσ49]; exact st_model_5 ks ad σ2 _) dX12_readsStatement_211 (fun H locs hP hD hS => ?_)
          refine lv_iconst (v := 0) hx hb dX12_readsStatement_214 (by decide) ?_
          exact gretw_z rfl E hlk hP hD hS hr dX12_readsStatement_215 (som_e hf)
noncomputable def fX12_addsBlade (σ : St) (a1 : Int32) (a2 : Int32) (a3 : Int32) : Option (St) :=
  ck (vp_in 0 47) <|
  bd (fX12_atBlade σ (gI σ 12 0 (0 : Int32).toNatClampNeg) 0) fun r2 =>
  ck (vp_in r2 47) <|
  nmv (sI σ 12 0 r2.toNatClampNeg a1) fun σ4 =>
  ck (vp_in 0 47) <|
  bd (fX12_atBlade σ4 (gI σ4 12 0 (0 : Int32).toNatClampNeg) 1) fun r6 =>
  ck (vp_in r6 47) <|
  nmv (sI σ4 12 0 r6.toNatClampNeg a2) fun σ8 =>
  ck (vp_in 0 47) <|
  bd (fX12_atBlade σ8 (gI σ8 12 0 (0 : Int32).toNatClampNeg) 2) fun r10 =>
  ck (vp_in r10 47) <|
  nmv (sI σ8 12 0 r10.toNatClampNeg a3) fun σ12 =>
  ck (vp_in 0 47) <|
  bd (fX12_atBlade σ12 (gI σ12 12 0 (0 : Int32).toNatClampNeg) 3) fun r14 =>
  ck (vp_in r14 47) <|
  nmv (sI σ12 12 0 r14.toNatClampNeg 0) fun σ16 =>
  ck (vp_in 0 47) <|
  ck (vp_in 0 47) <|
  nmv (sI σ16 12 0 (0 : Int32).toNatClampNeg ((gI σ16 12 0 (0 : Int32).toNatClampNeg) + 1)) fun σ19 =>
  some σ19
def rX12_addsBlade : Room := { frames := 1, cells := 0, slots := 0, locals := 21 }
set_option maxHeartbeats 4000000 in
set_option maxRecDepth 100000 in
theorem cX12_addsBladec {l : Launch} {dC : Nat → ClassId} {dI : Nat → Nat → Nat} {ks : Nat → ClassId} {ad : Nat → Nat → Nat} {σ : St} (a1 : Int32) (a2 : Int32) (a3 : Int32)  {out : St} (hf : fX12_addsBlade σ a1 a2 a3 = some out) : MWv l dC dI ks ad σ yX12_addsBlade cX12_addsBlade 4 none rX12_addsBlade [.ref (ad 14 0), .int a1, .int a2, .int a3] out := by
  intro sz
  refine met_w (Qc := fun A => va_Qv (fun σ' => σ' = out) (gBw dC dI ks ad A) A) (own := RX12) (by decide) rfl (Nat.le_of_ble_eq_true rfl) ?_
  intro A p e s m args below meth c ls E hr hlk hA hP hD hS hK hl
  have hx := E.1
  have hb := E.2.1
  have hl : lv_has ls 4 [(0, .ref (ad 14 0)), (1, .int a1), (2, .int a2), (3, .int a3)] := hl
  unfold fX12_addsBlade at hf
  refine lv_aload_n hx hb dX12_addsBlade_0 rfl (lv_at hl 0 rfl) ?_
  refine gget E in_X12 hK hP (q_model ks ad σ) rfl (k := 0) (by decide) wd_5_60 rfl (v := .ref (ad 15 0)) rfl dX12_addsBlade_1 ?_
  refine lv_aload_n hx hb dX12_addsBlade_4 rfl (lv_at hl 0 rfl) ?_
  refine gget E in_X12 hK hP (q_model ks ad σ) rfl (k := 0) (by decide) wd_5_60 rfl (v := .ref (ad 15 0)) rfl dX12_addsBlade_5 ?_
  refine lv_iconst (v := 0) hx hb dX12_addsBlade_8 (by decide) ?_
  obtain ⟨c1, hf⟩ := ck_e hf
  refine giald E hK hP (q_M0 ks ad σ) c1 dX12_addsBlade_9 ?_
  refine lv_iconst (v := 0) hx hb dX12_addsBlade_10 (by decide) ?_
  obtain ⟨r2, er2, hf⟩ := bd_e hf
  refine gSr_i E hK hP (cX12_atBladec _ _ er2) kS_X12_atBlade wd_5_167 rfl rfl rfl ⟨Nat.le_of_ble_eq_true rfl, Nat.le_of_ble_eq_true rfl⟩ ⟨Nat.zero_le _, Nat.zero_le _⟩ hl.1 (Nat.le_of_ble_eq_true rfl) rfl dX12_addsBlade_11 ?_
  refine lv_iload_n hx hb dX12_addsBlade_14 rfl (lv_at hl 1 rfl) ?_
  obtain ⟨c3, hf⟩ := ck_e hf
  obtain ⟨σ4, eσ4, hf⟩ := nmv_e hf
  refine giast E hK hP hD hS (q_M0 ks ad σ) c3 (σ' := σ4) (by rw [eσ4]; exact st_M0 ks ad σ _) dX12_addsBlade_15 (fun H locs hP hD hS => ?_)
  refine lv_aload_n hx hb dX12_addsBlade_16 rfl (lv_at hl 0 rfl) ?_
  refine gget E in_X12 hK hP (q_model ks ad σ4) rfl (k := 0) (by decide) wd_5_60 rfl (v := .ref (ad 15 0)) rfl dX12_addsBlade_17 ?_
  refine lv_aload_n hx hb dX12_addsBlade_20 rfl (lv_at hl 0 rfl) ?_
  refine gget E in_X12 hK hP (q_model ks ad σ4) rfl (k := 0) (by decide) wd_5_60 rfl (v := .ref (ad 15 0)) rfl dX12_addsBlade_21 ?_
  refine lv_iconst (v := 0) hx hb dX12_addsBlade_24 (by decide) ?_
  obtain ⟨c5, hf⟩ := ck_e hf
  refine giald E hK hP (q_M0 ks ad σ4) c5 dX12_addsBlade_25 ?_
  refine lv_iconst (v := 1) hx hb dX12_addsBlade_26 (by decide) ?_
  obtain ⟨r6, er6, hf⟩ := bd_e hf
  refine gSr_i E hK hP (cX12_atBladec _ _ er6) kS_X12_atBlade wd_5_167 rfl rfl rfl ⟨Nat.le_of_ble_eq_true rfl, Nat.le_of_ble_eq_true rfl⟩ ⟨Nat.zero_le _, Nat.zero_le _⟩ hl.1 (Nat.le_of_ble_eq_true rfl) rfl dX12_addsBlade_27 ?_
  refine lv_iload_n hx hb dX12_addsBlade_30 rfl (lv_at hl 2 rfl) ?_
  obtain ⟨c7, hf⟩ := ck_e hf
  obtain ⟨σ8, eσ8, hf⟩ := nmv_e hf
  refine giast E hK hP hD hS (q_M0 ks ad σ4) c7 (σ' := σ8) (by rw [eσ8]; exact st_M0 ks ad σ4 _) dX12_addsBlade_31 (fun H locs hP hD hS => ?_)
  refine lv_aload_n hx hb dX12_addsBlade_32 rfl (lv_at hl 0 rfl) ?_
  refine gget E in_X12 hK hP (q_model ks ad σ8) rfl (k := 0) (by decide) wd_5_60 rfl (v := .ref (ad 15 0)) rfl dX12_addsBlade_33 ?_
  refine lv_aload_n hx hb dX12_addsBlade_36 rfl (lv_at hl 0 rfl) ?_
  refine gget E in_X12 hK hP (q_model ks ad σ8) rfl (k := 0) (by decide) wd_5_60 rfl (v := .ref (ad 15 0)) rfl dX12_addsBlade_37 ?_
  refine lv_iconst (v := 0) hx hb dX12_addsBlade_40 (by decide) ?_
  obtain ⟨c9, hf⟩ := ck_e hf
  refine giald E hK hP (q_M0 ks ad σ8) c9 dX12_addsBlade_41 ?_
  refine lv_iconst (v := 2) hx hb dX12_addsBlade_42 (by decide) ?_
  obtain ⟨r10, er10, hf⟩ := bd_e hf
  refine gSr_i E hK hP (cX12_atBladec _ _ er10) kS_X12_atBlade wd_5_167 rfl rfl rfl ⟨Nat.le_of_ble_eq_true rfl, Nat.le_of_ble_eq_true rfl⟩ ⟨Nat.zero_le _, Nat.zero_le _⟩ hl.1 (Nat.le_of_ble_eq_true rfl) rfl dX12_addsBlade_43 ?_
  refine lv_iload_n hx hb dX12_addsBlade_46 rfl (lv_at hl 3 rfl) ?_
  obtain ⟨c11, hf⟩ := ck_e hf
  obtain ⟨σ12, eσ12, hf⟩ := nmv_e hf
  refine giast E hK hP hD hS (q_M0 ks ad σ8) c11 (σ' := σ12) (by rw [eσ12]; exact st_M0 ks ad σ8 _) dX12_addsBlade_47 (fun H locs hP hD hS => ?_)
  refine lv_aload_n hx hb dX12_addsBlade_48 rfl (lv_at hl 0 rfl) ?_
  refine gget E in_X12 hK hP (q_model ks ad σ12) rfl (k := 0) (by decide) wd_5_60 rfl (v := .ref (ad 15 0)) rfl dX12_addsBlade_49 ?_
  refine lv_aload_n hx hb dX12_addsBlade_52 rfl (lv_at hl 0 rfl) ?_
  refine gget E in_X12 hK hP (q_model ks ad σ12) rfl (k := 0) (by decide) wd_5_60 rfl (v := .ref (ad 15 0)) rfl dX12_addsBlade_53 ?_
  refine lv_iconst (v := 0) hx hb dX12_addsBlade_56 (by decide) ?_
  obtain ⟨c13, hf⟩ := ck_e hf
  refine giald E hK hP (q_M0 ks ad σ12) c13 dX12_addsBlade_57 ?_
  refine lv_iconst (v := 3) hx hb dX12_addsBlade_58 (by decide) ?_
  obtain ⟨r14, er14, hf⟩ := bd_e hf
  refine gSr_i E hK hP (cX12_atBladec _ _ er14) kS_X12_atBlade wd_5_167 rfl rfl rfl ⟨Nat.le_of_ble_eq_true rfl, Nat.le_of_ble_eq_true rfl⟩ ⟨Nat.zero_le _, Nat.zero_le _⟩ hl.1 (Nat.le_of_ble_eq_true rfl) rfl dX12_addsBlade_59 ?_
  refine lv_iconst (v := 0) hx hb dX12_addsBlade_62 (by decide) ?_
  obtain ⟨c15, hf⟩ := ck_e hf
  obtain ⟨σ16, eσ16, hf⟩ := nmv_e hf
  refine giast E hK hP hD hS (q_M0 ks ad σ12) c15 (σ' := σ16) (by rw [eσ16]; exact st_M0 ks ad σ12 _) dX12_addsBlade_63 (fun H locs hP hD hS => ?_)
  refine lv_aload_n hx hb dX12_addsBlade_64 rfl (lv_at hl 0 rfl) ?_
  refine gget E in_X12 hK hP (q_model ks ad σ16) rfl (k := 0) (by decide) wd_5_60 rfl (v := .ref (ad 15 0)) rfl dX12_addsBlade_65 ?_
  refine lv_iconst (v := 0) hx hb dX12_addsBlade_68 (by decide) ?_
  refine lv_dup2_11 hx hb dX12_addsBlade_69 rfl rfl ?_
  obtain ⟨c17, hf⟩ := ck_e hf
  refine giald E hK hP (q_M0 ks ad σ16) c17 dX12_addsBlade_70 ?_
  refine lv_iconst (v := 1) hx hb dX12_addsBlade_71 (by decide) ?_
  refine lv_iadd hx hb dX12_addsBlade_72 ?_
  obtain ⟨c18, hf⟩ := ck_e hf
  obtain ⟨σ19, eσ19, hf⟩ := nmv_e hf
  refine giast E hK hP hD hS (q_M0 ks ad σ16) c18 (σ' := σ19) (by rw [eσ19]; exact st_M0 ks ad σ16 _) dX12_addsBlade_73 (fun H locs hP hD hS => ?_)
  exact gretw_v E hlk hP hD hS hr dX12_addsBlade_74 (som_e hf)
noncomputable def fX12_isBladeLike (σ : St) (a1 : Int32) (a2 : Int32) (a3 : Int32) : Option (Int32) :=
  bd (fX12_isIn σ a1 1 24) fun r1 =>
  if r1 = 0 then
  some 0
  else
  bd (fX12_isIn σ a2 1 24) fun r3 =>
  if r3 = 0 then
  some 0
  else
  bd (fX12_isIn σ a3 0 9) fun r5 =>
  if r5 = 0 then
  some 0
  else
  some 1
def rX12_isBladeLike : Room := { frames := 1, cells := 0, slots := 0, locals := 22 }
set_option maxHeartbeats 4000000 in
set_option maxRecDepth 100000 in
theorem cX12_isBladeLikec {l : Launch} {dC : Nat → ClassId} {dI : Nat → Nat → Nat} {ks : Nat → ClassId} {ad : Nat → Nat → Nat} {σ : St} (a1 : Int32) (a2 : Int32) (a3 : Int32)  {out : Int32} (hf : fX12_isBladeLike σ a1 a2 a3 = some out) : MRi l dC dI ks ad σ yX12_isBladeLike cX12_isBladeLike 3 (some .boolean) rX12_isBladeLike [.int a1, .int a2, .int a3] out := by
  refine met_r (own := RX12) (by decide) rfl (Nat.le_of_ble_eq_true rfl) ?_
  intro p e s m args below meth c ls E hr hlk hP hK hl
  have hx := E.1
  have hb := E.2.1
  have hl : lv_has ls 3 [(0, .int a1), (1, .int a2), (2, .int a3)] := hl
  unfold fX12_isBladeLike at hf
  refine lv_iload_n hx hb dX12_isBladeLike_0 rfl (lv_at hl 0 rfl) ?_
  refine lv_iconst (v := 1) hx hb dX12_isBladeLike_1 (by decide) ?_
  refine lv_bipush (v := 24) hx hb dX12_isBladeLike_2 (by decide) ?_
  obtain ⟨r1, er1, hf⟩ := bd_e hf
  refine gSr_i E hK hP (cX12_isInc _ _ _ er1) kS_X12_isIn wd_5_138 rfl rfl rfl ⟨Nat.le_of_ble_eq_true rfl, Nat.le_of_ble_eq_true rfl⟩ ⟨Nat.zero_le _, Nat.zero_le _⟩ hl.1 (Nat.le_of_ble_eq_true rfl) rfl dX12_isBladeLike_4 ?_
  refine lv_if_eq (tgt := 34) hx hb dX12_isBladeLike_7 (by decide) (fun c2 => ?_) (fun c2 => ?_)
  · replace hf := pos_e c2 hf
    refine lv_iconst (v := 0) hx hb dX12_isBladeLike_34 (by decide) ?_
    exact gret_z rfl E hr hlk dX12_isBladeLike_35 (som_e hf).symm
  · replace hf := neg_e c2 hf
    refine lv_iload_n hx hb dX12_isBladeLike_10 rfl (lv_at hl 1 rfl) ?_
    refine lv_iconst (v := 1) hx hb dX12_isBladeLike_11 (by decide) ?_
    refine lv_bipush (v := 24) hx hb dX12_isBladeLike_12 (by decide) ?_
    obtain ⟨r3, er3, hf⟩ := bd_e hf
    refine gSr_i E hK hP (cX12_isInc _ _ _ er3) kS_X12_isIn wd_5_138 rfl rfl rfl ⟨Nat.le_of_ble_eq_true rfl, Nat.le_of_ble_eq_true rfl⟩ ⟨Nat.zero_le _, Nat.zero_le _⟩ hl.1 (Nat.le_of_ble_eq_true rfl) rfl dX12_isBladeLike_14 ?_
    refine lv_if_eq (tgt := 34) hx hb dX12_isBladeLike_17 (by decide) (fun c4 => ?_) (fun c4 => ?_)
    · replace hf := pos_e c4 hf
      refine lv_iconst (v := 0) hx hb dX12_isBladeLike_34 (by decide) ?_
      exact gret_z rfl E hr hlk dX12_isBladeLike_35 (som_e hf).symm
    · replace hf := neg_e c4 hf
      refine lv_iload_n hx hb dX12_isBladeLike_20 rfl (lv_at hl 2 rfl) ?_
      refine lv_iconst (v := 0) hx hb dX12_isBladeLike_21 (by decide) ?_
      refine lv_bipush (v := 9) hx hb dX12_isBladeLike_22 (by decide) ?_
      obtain ⟨r5, er5, hf⟩ := bd_e hf
      refine gSr_i E hK hP (cX12_isInc _ _ _ er5) kS_X12_isIn wd_5_138 rfl rfl rfl ⟨Nat.le_of_ble_eq_true rfl, Nat.le_of_ble_eq_true rfl⟩ ⟨Nat.zero_le _, Nat.zero_le _⟩ hl.1 (Nat.le_of_ble_eq_true rfl) rfl dX12_isBladeLike_24 ?_
      refine lv_if_eq (tgt := 34) hx hb dX12_isBladeLike_27 (by decide) (fun c6 => ?_) (fun c6 => ?_)
      · replace hf := pos_e c6 hf
        refine lv_iconst (v := 0) hx hb dX12_isBladeLike_34 (by decide) ?_
        exact gret_z rfl E hr hlk dX12_isBladeLike_35 (som_e hf).symm
      · replace hf := neg_e c6 hf
        refine lv_iconst (v := 1) hx hb dX12_isBladeLike_30 (by decide) ?_
        refine lv_goto (tgt := 35) hx hb dX12_isBladeLike_31 (by decide) ?_
        exact gret_z rfl E hr hlk dX12_isBladeLike_35 (som_e hf).symm
noncomputable def fX12_addsThumbs (σ : St) (a1 : Int32) (a2 : Int32) : Option (St) :=
  ck (vp_in 1 47) <|
  bd (fX12_atThumbs σ (gI σ 12 0 (1 : Int32).toNatClampNeg) 0) fun r2 =>
  ck (vp_in r2 47) <|
  nmv (sI σ 12 0 r2.toNatClampNeg a1) fun σ4 =>
  ck (vp_in 1 47) <|
  bd (fX12_atThumbs σ4 (gI σ4 12 0 (1 : Int32).toNatClampNeg) 1) fun r6 =>
  ck (vp_in r6 47) <|
  nmv (sI σ4 12 0 r6.toNatClampNeg a2) fun σ8 =>
  ck (vp_in 1 47) <|
  ck (vp_in 1 47) <|
  nmv (sI σ8 12 0 (1 : Int32).toNatClampNeg ((gI σ8 12 0 (1 : Int32).toNatClampNeg) + 1)) fun σ11 =>
  some σ11
def rX12_addsThumbs : Room := { frames := 1, cells := 0, slots := 0, locals := 21 }
set_option maxHeartbeats 4000000 in
set_option maxRecDepth 100000 in
theorem cX12_addsThumbsc {l : Launch} {dC : Nat → ClassId} {dI : Nat → Nat → Nat} {ks : Nat → ClassId} {ad : Nat → Nat → Nat} {σ : St} (a1 : Int32) (a2 : Int32)  {out : St} (hf : fX12_addsThumbs σ a1 a2 = some out) : MWv l dC dI ks ad σ yX12_addsThumbs cX12_addsThumbs 3 none rX12_addsThumbs [.ref (ad 14 0), .int a1, .int a2] out := by
  intro sz
  refine met_w (Qc := fun A => va_Qv (fun σ' => σ' = out) (gBw dC dI ks ad A) A) (own := RX12) (by decide) rfl (Nat.le_of_ble_eq_true rfl) ?_
  intro A p e s m args below meth c ls E hr hlk hA hP hD hS hK hl
  have hx := E.1
  have hb := E.2.1
  have hl : lv_has ls 3 [(0, .ref (ad 14 0)), (1, .int a1), (2, .int a2)] := hl
  unfold fX12_addsThumbs at hf
  refine lv_aload_n hx hb dX12_addsThumbs_0 rfl (lv_at hl 0 rfl) ?_
  refine gget E in_X12 hK hP (q_model ks ad σ) rfl (k := 0) (by decide) wd_5_60 rfl (v := .ref (ad 15 0)) rfl dX12_addsThumbs_1 ?_
  refine lv_aload_n hx hb dX12_addsThumbs_4 rfl (lv_at hl 0 rfl) ?_
  refine gget E in_X12 hK hP (q_model ks ad σ) rfl (k := 0) (by decide) wd_5_60 rfl (v := .ref (ad 15 0)) rfl dX12_addsThumbs_5 ?_
  refine lv_iconst (v := 1) hx hb dX12_addsThumbs_8 (by decide) ?_
  obtain ⟨c1, hf⟩ := ck_e hf
  refine giald E hK hP (q_M0 ks ad σ) c1 dX12_addsThumbs_9 ?_
  refine lv_iconst (v := 0) hx hb dX12_addsThumbs_10 (by decide) ?_
  obtain ⟨r2, er2, hf⟩ := bd_e hf
  refine gSr_i E hK hP (cX12_atThumbsc _ _ er2) kS_X12_atThumbs wd_5_174 rfl rfl rfl ⟨Nat.le_of_ble_eq_true rfl, Nat.le_of_ble_eq_true rfl⟩ ⟨Nat.zero_le _, Nat.zero_le _⟩ hl.1 (Nat.le_of_ble_eq_true rfl) rfl dX12_addsThumbs_11 ?_
  refine lv_iload_n hx hb dX12_addsThumbs_14 rfl (lv_at hl 1 rfl) ?_
  obtain ⟨c3, hf⟩ := ck_e hf
  obtain ⟨σ4, eσ4, hf⟩ := nmv_e hf
  refine giast E hK hP hD hS (q_M0 ks ad σ) c3 (σ' := σ4) (by rw [eσ4]; exact st_M0 ks ad σ _) dX12_addsThumbs_15 (fun H locs hP hD hS => ?_)
  refine lv_aload_n hx hb dX12_addsThumbs_16 rfl (lv_at hl 0 rfl) ?_
  refine gget E in_X12 hK hP (q_model ks ad σ4) rfl (k := 0) (by decide) wd_5_60 rfl (v := .ref (ad 15 0)) rfl dX12_addsThumbs_17 ?_
  refine lv_aload_n hx hb dX12_addsThumbs_20 rfl (lv_at hl 0 rfl) ?_
  refine gget E in_X12 hK hP (q_model ks ad σ4) rfl (k := 0) (by decide) wd_5_60 rfl (v := .ref (ad 15 0)) rfl dX12_addsThumbs_21 ?_
  refine lv_iconst (v := 1) hx hb dX12_addsThumbs_24 (by decide) ?_
  obtain ⟨c5, hf⟩ := ck_e hf
  refine giald E hK hP (q_M0 ks ad σ4) c5 dX12_addsThumbs_25 ?_
  refine lv_iconst (v := 1) hx hb dX12_addsThumbs_26 (by decide) ?_
  obtain ⟨r6, er6, hf⟩ := bd_e hf
  refine gSr_i E hK hP (cX12_atThumbsc _ _ er6) kS_X12_atThumbs wd_5_174 rfl rfl rfl ⟨Nat.le_of_ble_eq_true rfl, Nat.le_of_ble_eq_true rfl⟩ ⟨Nat.zero_le _, Nat.zero_le _⟩ hl.1 (Nat.le_of_ble_eq_true rfl) rfl dX12_addsThumbs_27 ?_
  refine lv_iload_n hx hb dX12_addsThumbs_30 rfl (lv_at hl 2 rfl) ?_
  obtain ⟨c7, hf⟩ := ck_e hf
  obtain ⟨σ8, eσ8, hf⟩ := nmv_e hf
  refine giast E hK hP hD hS (q_M0 ks ad σ4) c7 (σ' := σ8) (by rw [eσ8]; exact st_M0 ks ad σ4 _) dX12_addsThumbs_31 (fun H locs hP hD hS => ?_)
  refine lv_aload_n hx hb dX12_addsThumbs_32 rfl (lv_at hl 0 rfl) ?_
  refine gget E in_X12 hK hP (q_model ks ad σ8) rfl (k := 0) (by decide) wd_5_60 rfl (v := .ref (ad 15 0)) rfl dX12_addsThumbs_33 ?_
  refine lv_iconst (v := 1) hx hb dX12_addsThumbs_36 (by decide) ?_
  refine lv_dup2_11 hx hb dX12_addsThumbs_37 rfl rfl ?_
  obtain ⟨c9, hf⟩ := ck_e hf
  refine giald E hK hP (q_M0 ks ad σ8) c9 dX12_addsThumbs_38 ?_
  refine lv_iconst (v := 1) hx hb dX12_addsThumbs_39 (by decide) ?_
  refine lv_iadd hx hb dX12_addsThumbs_40 ?_
  obtain ⟨c10, hf⟩ := ck_e hf
  obtain ⟨σ11, eσ11, hf⟩ := nmv_e hf
  refine giast E hK hP hD hS (q_M0 ks ad σ8) c10 (σ' := σ11) (by rw [eσ11]; exact st_M0 ks ad σ8 _) dX12_addsThumbs_41 (fun H locs hP hD hS => ?_)
  exact gretw_v E hlk hP hD hS hr dX12_addsThumbs_42 (som_e hf)
noncomputable def fX12_addsBlow (σ : St) (a1 : Int32) (a2 : Int32) : Option (St) :=
  ck (vp_in 2 47) <|
  bd (fX12_atBlow σ (gI σ 12 0 (2 : Int32).toNatClampNeg) 0) fun r2 =>
  ck (vp_in r2 47) <|
  nmv (sI σ 12 0 r2.toNatClampNeg a1) fun σ4 =>
  ck (vp_in 2 47) <|
  bd (fX12_atBlow σ4 (gI σ4 12 0 (2 : Int32).toNatClampNeg) 1) fun r6 =>
  ck (vp_in r6 47) <|
  nmv (sI σ4 12 0 r6.toNatClampNeg a2) fun σ8 =>
  ck (vp_in 2 47) <|
  ck (vp_in 2 47) <|
  nmv (sI σ8 12 0 (2 : Int32).toNatClampNeg ((gI σ8 12 0 (2 : Int32).toNatClampNeg) + 1)) fun σ11 =>
  some σ11
def rX12_addsBlow : Room := { frames := 1, cells := 0, slots := 0, locals := 21 }
set_option maxHeartbeats 4000000 in
set_option maxRecDepth 100000 in
theorem cX12_addsBlowc {l : Launch} {dC : Nat → ClassId} {dI : Nat → Nat → Nat} {ks : Nat → ClassId} {ad : Nat → Nat → Nat} {σ : St} (a1 : Int32) (a2 : Int32)  {out : St} (hf : fX12_addsBlow σ a1 a2 = some out) : MWv l dC dI ks ad σ yX12_addsBlow cX12_addsBlow 3 none rX12_addsBlow [.ref (ad 14 0), .int a1, .int a2] out := by
  intro sz
  refine met_w (Qc := fun A => va_Qv (fun σ' => σ' = out) (gBw dC dI ks ad A) A) (own := RX12) (by decide) rfl (Nat.le_of_ble_eq_true rfl) ?_
  intro A p e s m args below meth c ls E hr hlk hA hP hD hS hK hl
  have hx := E.1
  have hb := E.2.1
  have hl : lv_has ls 3 [(0, .ref (ad 14 0)), (1, .int a1), (2, .int a2)] := hl
  unfold fX12_addsBlow at hf
  refine lv_aload_n hx hb dX12_addsBlow_0 rfl (lv_at hl 0 rfl) ?_
  refine gget E in_X12 hK hP (q_model ks ad σ) rfl (k := 0) (by decide) wd_5_60 rfl (v := .ref (ad 15 0)) rfl dX12_addsBlow_1 ?_
  refine lv_aload_n hx hb dX12_addsBlow_4 rfl (lv_at hl 0 rfl) ?_
  refine gget E in_X12 hK hP (q_model ks ad σ) rfl (k := 0) (by decide) wd_5_60 rfl (v := .ref (ad 15 0)) rfl dX12_addsBlow_5 ?_
  refine lv_iconst (v := 2) hx hb dX12_addsBlow_8 (by decide) ?_
  obtain ⟨c1, hf⟩ := ck_e hf
  refine giald E hK hP (q_M0 ks ad σ) c1 dX12_addsBlow_9 ?_
  refine lv_iconst (v := 0) hx hb dX12_addsBlow_10 (by decide) ?_
  obtain ⟨r2, er2, hf⟩ := bd_e hf
  refine gSr_i E hK hP (cX12_atBlowc _ _ er2) kS_X12_atBlow wd_5_181 rfl rfl rfl ⟨Nat.le_of_ble_eq_true rfl, Nat.le_of_ble_eq_true rfl⟩ ⟨Nat.zero_le _, Nat.zero_le _⟩ hl.1 (Nat.le_of_ble_eq_true rfl) rfl dX12_addsBlow_11 ?_
  refine lv_iload_n hx hb dX12_addsBlow_14 rfl (lv_at hl 1 rfl) ?_
  obtain ⟨c3, hf⟩ := ck_e hf
  obtain ⟨σ4, eσ4, hf⟩ := nmv_e hf
  refine giast E hK hP hD hS (q_M0 ks ad σ) c3 (σ' := σ4) (by rw [eσ4]; exact st_M0 ks ad σ _) dX12_addsBlow_15 (fun H locs hP hD hS => ?_)
  refine lv_aload_n hx hb dX12_addsBlow_16 rfl (lv_at hl 0 rfl) ?_
  refine gget E in_X12 hK hP (q_model ks ad σ4) rfl (k := 0) (by decide) wd_5_60 rfl (v := .ref (ad 15 0)) rfl dX12_addsBlow_17 ?_
  refine lv_aload_n hx hb dX12_addsBlow_20 rfl (lv_at hl 0 rfl) ?_
  refine gget E in_X12 hK hP (q_model ks ad σ4) rfl (k := 0) (by decide) wd_5_60 rfl (v := .ref (ad 15 0)) rfl dX12_addsBlow_21 ?_
  refine lv_iconst (v := 2) hx hb dX12_addsBlow_24 (by decide) ?_
  obtain ⟨c5, hf⟩ := ck_e hf
  refine giald E hK hP (q_M0 ks ad σ4) c5 dX12_addsBlow_25 ?_
  refine lv_iconst (v := 1) hx hb dX12_addsBlow_26 (by decide) ?_
  obtain ⟨r6, er6, hf⟩ := bd_e hf
  refine gSr_i E hK hP (cX12_atBlowc _ _ er6) kS_X12_atBlow wd_5_181 rfl rfl rfl ⟨Nat.le_of_ble_eq_true rfl, Nat.le_of_ble_eq_true rfl⟩ ⟨Nat.zero_le _, Nat.zero_le _⟩ hl.1 (Nat.le_of_ble_eq_true rfl) rfl dX12_addsBlow_27 ?_
  refine lv_iload_n hx hb dX12_addsBlow_30 rfl (lv_at hl 2 rfl) ?_
  obtain ⟨c7, hf⟩ := ck_e hf
  obtain ⟨σ8, eσ8, hf⟩ := nmv_e hf
  refine giast E hK hP hD hS (q_M0 ks ad σ4) c7 (σ' := σ8) (by rw [eσ8]; exact st_M0 ks ad σ4 _) dX12_addsBlow_31 (fun H locs hP hD hS => ?_)
  refine lv_aload_n hx hb dX12_addsBlow_32 rfl (lv_at hl 0 rfl) ?_
  refine gget E in_X12 hK hP (q_model ks ad σ8) rfl (k := 0) (by decide) wd_5_60 rfl (v := .ref (ad 15 0)) rfl dX12_addsBlow_33 ?_
  refine lv_iconst (v := 2) hx hb dX12_addsBlow_36 (by decide) ?_
  refine lv_dup2_11 hx hb dX12_addsBlow_37 rfl rfl ?_
  obtain ⟨c9, hf⟩ := ck_e hf
  refine giald E hK hP (q_M0 ks ad σ8) c9 dX12_addsBlow_38 ?_
  refine lv_iconst (v := 1) hx hb dX12_addsBlow_39 (by decide) ?_
  refine lv_iadd hx hb dX12_addsBlow_40 ?_
  obtain ⟨c10, hf⟩ := ck_e hf
  obtain ⟨σ11, eσ11, hf⟩ := nmv_e hf
  refine giast E hK hP hD hS (q_M0 ks ad σ8) c10 (σ' := σ11) (by rw [eσ11]; exact st_M0 ks ad σ8 _) dX12_addsBlow_41 (fun H locs hP hD hS => ?_)
  exact gretw_v E hlk hP hD hS hr dX12_addsBlow_42 (som_e hf)
noncomputable def fX12_isDone (σ : St) (a1 : Int32) : Option (Int32 × St) :=
  ck (vp_in 0 5) <|
  nmv (gI σ 12 8 (0 : Int32).toNatClampNeg) fun v2 =>
  ck (vp_in 1 5) <|
  nmv (gI σ 12 8 (1 : Int32).toNatClampNeg) fun v4 =>
  if a1 = 98 then
  ck (vp_in 2 5) <|
  bd (fX12_isBladeLike σ v2 v4 (gI σ 12 8 (2 : Int32).toNatClampNeg)) fun r9 =>
  if r9 = 0 then
  some (0, σ)
  else
  ck (vp_in 0 47) <|
  if (gI σ 12 0 (0 : Int32).toNatClampNeg) = 6 then
  some (0, σ)
  else
  ck (vp_in 2 5) <|
  bd (fX12_addsBlade σ v2 v4 (gI σ 12 8 (2 : Int32).toNatClampNeg)) fun r14 =>
  some (1, r14)
  else
  if a1 = 107 then
  if 8 ≤ v2 then
  some (0, σ)
  else
  ck (vp_in 2 47) <|
  if (gI σ 12 0 (2 : Int32).toNatClampNeg) = 6 then
  some (0, σ)
  else
  bd (fX12_addsBlow σ v2 v4) fun r18 =>
  some (1, r18)
  else
  if a1 = 116 then
  if 60 < v4 then
  some (0, σ)
  else
  ck (vp_in 1 47) <|
  if (gI σ 12 0 (1 : Int32).toNatClampNeg) = 4 then
  some (0, σ)
  else
  bd (fX12_addsThumbs σ v2 v4) fun r22 =>
  some (1, r22)
  else
  ck (vp_in 2 5) <|
  bd (fX12_areAll σ v2 v4 (gI σ 12 8 (2 : Int32).toNatClampNeg)) fun r24 =>
  if r24 = 0 then
  some (0, σ)
  else
  ck (vp_in 3 5) <|
  if 60 < (gI σ 12 8 (3 : Int32).toNatClampNeg) then
  some (0, σ)
  else
  ck (vp_in 4 5) <|
  if 60 < (gI σ 12 8 (4 : Int32).toNatClampNeg) then
  some (0, σ)
  else
  bd (fX12_isSplit σ v2) fun r30 =>
  if r30 = 0 then
  bd (fX12_atBlade σ v2 3) fun r32 =>
  ck (vp_in r32 47) <|
  ck (vp_in 2 5) <|
  ck (vp_in 4 5) <|
  bd (fX12_wears σ (gI σ 12 8 (2 : Int32).toNatClampNeg) (gI σ 12 8 (4 : Int32).toNatClampNeg)) fun r36 =>
  ck (vp_in r32 47) <|
  nmv (sI σ 12 0 r32.toNatClampNeg ((gI σ 12 0 r32.toNatClampNeg) + r36)) fun σ38 =>
  some (1, σ38)
  else
  some (0, σ)
def rX12_isDone : Room := { frames := 3, cells := 0, slots := 0, locals := 66 }
set_option maxHeartbeats 4000000 in
set_option maxRecDepth 100000 in
theorem cX12_isDonec {l : Launch} {dC : Nat → ClassId} {dI : Nat → Nat → Nat} {ks : Nat → ClassId} {ad : Nat → Nat → Nat} {σ : St} (a1 : Int32)  {out : Int32 × St} (hf : fX12_isDone σ a1 = some out) : MWi l dC dI ks ad σ yX12_isDone cX12_isDone 4 (some .boolean) rX12_isDone [.ref (ad 14 0), .int a1] out := by
  intro sz
  refine met_w (Qc := fun A => va_Qi (fun r σ' => r = out.1 ∧ σ' = out.2) (gBw dC dI ks ad A) A) (own := RX12) (by decide) rfl (Nat.le_of_ble_eq_true rfl) ?_
  intro A p e s m args below meth c ls E hr hlk hA hP hD hS hK hl
  have hx := E.1
  have hb := E.2.1
  have hl : lv_has ls 4 [(0, .ref (ad 14 0)), (1, .int a1)] := hl
  unfold fX12_isDone at hf
  refine lv_aload_n hx hb dX12_isDone_0 rfl (lv_at hl 0 rfl) ?_
  refine gget E in_X12 hK hP (q_model ks ad σ) rfl (k := 8) (by decide) wd_5_68 rfl (v := .ref (ad 15 8)) rfl dX12_isDone_1 ?_
  refine lv_iconst (v := 0) hx hb dX12_isDone_4 (by decide) ?_
  obtain ⟨c1, hf⟩ := ck_e hf
  refine giald E hK hP (q_M8 ks ad σ) c1 dX12_isDone_5 ?_
  obtain ⟨v2, ev2, hf⟩ := nmv_e hf
  refine lv_nmi ev2 ?_
  refine lv_istore_n (lv' := [(2, .int v2), (0, .ref (ad 14 0)), (1, .int a1)]) hx hb dX12_isDone_6 rfl hl (by decide) rfl (fun ls hl => ?_)
  refine lv_aload_n hx hb dX12_isDone_7 rfl (lv_at hl 1 rfl) ?_
  refine gget E in_X12 hK hP (q_model ks ad σ) rfl (k := 8) (by decide) wd_5_68 rfl (v := .ref (ad 15 8)) rfl dX12_isDone_8 ?_
  refine lv_iconst (v := 1) hx hb dX12_isDone_11 (by decide) ?_
  obtain ⟨c3, hf⟩ := ck_e hf
  refine giald E hK hP (q_M8 ks ad σ) c3 dX12_isDone_12 ?_
  obtain ⟨v4, ev4, hf⟩ := nmv_e hf
  refine lv_nmi ev4 ?_
  refine lv_istore_n (lv' := [(3, .int v4), (2, .int v2), (0, .ref (ad 14 0)), (1, .int a1)]) hx hb dX12_isDone_13 rfl hl (by decide) rfl (fun ls hl => ?_)
  refine lv_iload_n hx hb dX12_isDone_14 rfl (lv_at hl 3 rfl) ?_
  by_cases c5 : a1 = 98
  · replace hf := pos_e c5 hf
    refine lv_lookup (tgt := 48) (off := 33) hx hb dX12_isDone_15 (by decide) (by show Op.lookupswitch.offset [(98, 33), (107, 100), (116, 74)] 127 _ = _; rw [Op.lookupswitch.offset_cons, if_pos (by rw [c5]; rfl)]) (by decide) ?_
    refine lv_iload_n hx hb dX12_isDone_48 rfl (lv_at hl 1 rfl) ?_
    refine lv_iload_n hx hb dX12_isDone_49 rfl (lv_at hl 0 rfl) ?_
    refine lv_aload_n hx hb dX12_isDone_50 rfl (lv_at hl 2 rfl) ?_
    refine gget E in_X12 hK hP (q_model ks ad σ) rfl (k := 8) (by decide) wd_5_68 rfl (v := .ref (ad 15 8)) rfl dX12_isDone_51 ?_
    refine lv_iconst (v := 2) hx hb dX12_isDone_54 (by decide) ?_
    obtain ⟨c8, hf⟩ := ck_e hf
    refine giald E hK hP (q_M8 ks ad σ) c8 dX12_isDone_55 ?_
    obtain ⟨r9, er9, hf⟩ := bd_e hf
    refine gSr_i E hK hP (cX12_isBladeLikec _ _ _ er9) kS_X12_isBladeLike wd_5_160 rfl rfl rfl ⟨Nat.le_of_ble_eq_true rfl, Nat.le_of_ble_eq_true rfl⟩ ⟨Nat.zero_le _, Nat.zero_le _⟩ hl.1 (Nat.le_of_ble_eq_true rfl) rfl dX12_isDone_56 ?_
    refine lv_if_eq (tgt := 73) hx hb dX12_isDone_59 (by decide) (fun c10 => ?_) (fun c10 => ?_)
    · replace hf := pos_e c10 hf
      refine lv_iconst (v := 0) hx hb dX12_isDone_73 (by decide) ?_
      exact gretw_z rfl E hlk hP hD hS hr dX12_isDone_74 (som_e hf)
    · replace hf := neg_e c10 hf
      refine lv_aload_n hx hb dX12_isDone_62 rfl (lv_at hl 2 rfl) ?_
      refine gget E in_X12 hK hP (q_model ks ad σ) rfl (k := 0) (by decide) wd_5_60 rfl (v := .ref (ad 15 0)) rfl dX12_isDone_63 ?_
      refine lv_iconst (v := 0) hx hb dX12_isDone_66 (by decide) ?_
      obtain ⟨c11, hf⟩ := ck_e hf
      refine giald E hK hP (q_M0 ks ad σ) c11 dX12_isDone_67 ?_
      refine lv_bipush (v := 6) hx hb dX12_isDone_68 (by decide) ?_
      refine lv_icmp_ne (tgt := 75) hx hb dX12_isDone_70 (by decide) (fun c12 => ?_) (fun c12 => ?_)
      · replace hf := neg_e c12 hf
        refine lv_aload_n hx hb dX12_isDone_75 rfl (lv_at hl 2 rfl) ?_
        refine lv_iload_n hx hb dX12_isDone_76 rfl (lv_at hl 1 rfl) ?_
        refine lv_iload_n hx hb dX12_isDone_77 rfl (lv_at hl 0 rfl) ?_
        refine lv_aload_n hx hb dX12_isDone_78 rfl (lv_at hl 2 rfl) ?_
        refine gget E in_X12 hK hP (q_model ks ad σ) rfl (k := 8) (by decide) wd_5_68 rfl (v := .ref (ad 15 8)) rfl dX12_isDone_79 ?_
        refine lv_iconst (v := 2) hx hb dX12_isDone_82 (by decide) ?_
        obtain ⟨c13, hf⟩ := ck_e hf
        refine giald E hK hP (q_M8 ks ad σ) c13 dX12_isDone_83 ?_
        obtain ⟨r14, er14, hf⟩ := bd_e hf
        refine gVw_v E hK hP hD hS hA (cX12_addsBladec _ _ _ er14) kV_X12_addsBlade wd_5_163 rfl rfl (q_model ks ad σ) rfl rfl rfl ⟨Nat.le_of_ble_eq_true rfl, Nat.le_of_ble_eq_true rfl⟩ ⟨Nat.zero_le _, Nat.zero_le _⟩ hl.1 (Nat.le_of_ble_eq_true rfl) rfl dX12_isDone_84 (fun H locs hP hD hS => ?_)
        refine lv_iconst (v := 1) hx hb dX12_isDone_87 (by decide) ?_
        exact gretw_z rfl E hlk hP hD hS hr dX12_isDone_88 (som_e hf)
      · replace hf := pos_e c12 hf
        refine lv_iconst (v := 0) hx hb dX12_isDone_73 (by decide) ?_
        exact gretw_z rfl E hlk hP hD hS hr dX12_isDone_74 (som_e hf)
  · replace hf := neg_e c5 hf
    by_cases c6 : a1 = 107
    · replace hf := pos_e c6 hf
      refine lv_lookup (tgt := 115) (off := 100) hx hb dX12_isDone_15 (by decide) (by show Op.lookupswitch.offset [(98, 33), (107, 100), (116, 74)] 127 _ = _; rw [lv_osw c5 (a := 98) rfl]; rw [Op.lookupswitch.offset_cons, if_pos (by rw [c6]; rfl)]) (by decide) ?_
      refine lv_iload_n hx hb dX12_isDone_115 rfl (lv_at hl 1 rfl) ?_
      refine lv_bipush (v := 8) hx hb dX12_isDone_116 (by decide) ?_
      refine lv_icmp_ge (tgt := 132) hx hb dX12_isDone_118 (by decide) (fun c15 => ?_) (fun c15 => ?_)
      · replace hf := pos_e c15 hf
        refine lv_iconst (v := 0) hx hb dX12_isDone_132 (by decide) ?_
        exact gretw_z rfl E hlk hP hD hS hr dX12_isDone_133 (som_e hf)
      · replace hf := neg_e c15 hf
        refine lv_aload_n hx hb dX12_isDone_121 rfl (lv_at hl 2 rfl) ?_
        refine gget E in_X12 hK hP (q_model ks ad σ) rfl (k := 0) (by decide) wd_5_60 rfl (v := .ref (ad 15 0)) rfl dX12_isDone_122 ?_
        refine lv_iconst (v := 2) hx hb dX12_isDone_125 (by decide) ?_
        obtain ⟨c16, hf⟩ := ck_e hf
        refine giald E hK hP (q_M0 ks ad σ) c16 dX12_isDone_126 ?_
        refine lv_bipush (v := 6) hx hb dX12_isDone_127 (by decide) ?_
        refine lv_icmp_ne (tgt := 134) hx hb dX12_isDone_129 (by decide) (fun c17 => ?_) (fun c17 => ?_)
        · replace hf := neg_e c17 hf
          refine lv_aload_n hx hb dX12_isDone_134 rfl (lv_at hl 2 rfl) ?_
          refine lv_iload_n hx hb dX12_isDone_135 rfl (lv_at hl 1 rfl) ?_
          refine lv_iload_n hx hb dX12_isDone_136 rfl (lv_at hl 0 rfl) ?_
          obtain ⟨r18, er18, hf⟩ := bd_e hf
          refine gVw_v E hK hP hD hS hA (cX12_addsBlowc _ _ er18) kV_X12_addsBlow wd_5_177 rfl rfl (q_model ks ad σ) rfl rfl rfl ⟨Nat.le_of_ble_eq_true rfl, Nat.le_of_ble_eq_true rfl⟩ ⟨Nat.zero_le _, Nat.zero_le _⟩ hl.1 (Nat.le_of_ble_eq_true rfl) rfl dX12_isDone_137 (fun H locs hP hD hS => ?_)
          refine lv_iconst (v := 1) hx hb dX12_isDone_140 (by decide) ?_
          exact gretw_z rfl E hlk hP hD hS hr dX12_isDone_141 (som_e hf)
        · replace hf := pos_e c17 hf
          refine lv_iconst (v := 0) hx hb dX12_isDone_132 (by decide) ?_
          exact gretw_z rfl E hlk hP hD hS hr dX12_isDone_133 (som_e hf)
    · replace hf := neg_e c6 hf
      by_cases c7 : a1 = 116
      · replace hf := pos_e c7 hf
        refine lv_lookup (tgt := 89) (off := 74) hx hb dX12_isDone_15 (by decide) (by show Op.lookupswitch.offset [(98, 33), (107, 100), (116, 74)] 127 _ = _; rw [lv_osw c5 (a := 98) rfl, lv_osw c6 (a := 107) rfl]; rw [Op.lookupswitch.offset_cons, if_pos (by rw [c7]; rfl)]) (by decide) ?_
        refine lv_iload_n hx hb dX12_isDone_89 rfl (lv_at hl 0 rfl) ?_
        refine lv_bipush (v := 60) hx hb dX12_isDone_90 (by decide) ?_
        refine lv_icmp_gt (tgt := 105) hx hb dX12_isDone_92 (by decide) (fun c19 => ?_) (fun c19 => ?_)
        · replace hf := pos_e c19 hf
          refine lv_iconst (v := 0) hx hb dX12_isDone_105 (by decide) ?_
          exact gretw_z rfl E hlk hP hD hS hr dX12_isDone_106 (som_e hf)
        · replace hf := neg_e c19 hf
          refine lv_aload_n hx hb dX12_isDone_95 rfl (lv_at hl 2 rfl) ?_
          refine gget E in_X12 hK hP (q_model ks ad σ) rfl (k := 0) (by decide) wd_5_60 rfl (v := .ref (ad 15 0)) rfl dX12_isDone_96 ?_
          refine lv_iconst (v := 1) hx hb dX12_isDone_99 (by decide) ?_
          obtain ⟨c20, hf⟩ := ck_e hf
          refine giald E hK hP (q_M0 ks ad σ) c20 dX12_isDone_100 ?_
          refine lv_iconst (v := 4) hx hb dX12_isDone_101 (by decide) ?_
          refine lv_icmp_ne (tgt := 107) hx hb dX12_isDone_102 (by decide) (fun c21 => ?_) (fun c21 => ?_)
          · replace hf := neg_e c21 hf
            refine lv_aload_n hx hb dX12_isDone_107 rfl (lv_at hl 2 rfl) ?_
            refine lv_iload_n hx hb dX12_isDone_108 rfl (lv_at hl 1 rfl) ?_
            refine lv_iload_n hx hb dX12_isDone_109 rfl (lv_at hl 0 rfl) ?_
            obtain ⟨r22, er22, hf⟩ := bd_e hf
            refine gVw_v E hK hP hD hS hA (cX12_addsThumbsc _ _ er22) kV_X12_addsThumbs wd_5_170 rfl rfl (q_model ks ad σ) rfl rfl rfl ⟨Nat.le_of_ble_eq_true rfl, Nat.le_of_ble_eq_true rfl⟩ ⟨Nat.zero_le _, Nat.zero_le _⟩ hl.1 (Nat.le_of_ble_eq_true rfl) rfl dX12_isDone_110 (fun H locs hP hD hS => ?_)
            refine lv_iconst (v := 1) hx hb dX12_isDone_113 (by decide) ?_
            exact gretw_z rfl E hlk hP hD hS hr dX12_isDone_114 (som_e hf)
          · replace hf := pos_e c21 hf
            refine lv_iconst (v := 0) hx hb dX12_isDone_105 (by decide) ?_
            exact gretw_z rfl E hlk hP hD hS hr dX12_isDone_106 (som_e hf)
      · replace hf := neg_e c7 hf
        refine lv_lookup (tgt := 142) (off := 127) hx hb dX12_isDone_15 (by decide) (by show Op.lookupswitch.offset [(98, 33), (107, 100), (116, 74)] 127 _ = _; rw [lv_osw c5 (a := 98) rfl, lv_osw c6 (a := 107) rfl, lv_osw c7 (a := 116) rfl]; rfl) (by decide) ?_
        refine lv_aload_n hx hb dX12_isDone_142 rfl (lv_at hl 2 rfl) ?_
        refine lv_iload_n hx hb dX12_isDone_143 rfl (lv_at hl 1 rfl) ?_
        refine lv_iload_n hx hb dX12_isDone_144 rfl (lv_at hl 0 rfl) ?_
        refine lv_aload_n hx hb dX12_isDone_145 rfl (lv_at hl 2 rfl) ?_
        refine gget E in_X12 hK hP (q_model ks ad σ) rfl (k := 8) (by decide) wd_5_68 rfl (v := .ref (ad 15 8)) rfl dX12_isDone_146 ?_
        refine lv_iconst (v := 2) hx hb dX12_isDone_149 (by decide) ?_
        obtain ⟨c23, hf⟩ := ck_e hf
        refine giald E hK hP (q_M8 ks ad σ) c23 dX12_isDone_150 ?_
        obtain ⟨r24, er24, hf⟩ := bd_e hf
        refine gVr_i E hK hP (cX12_areAllc _ _ _ er24) kV_X12_areAll wd_5_184 rfl rfl (q_model ks ad σ) rfl rfl rfl ⟨Nat.le_of_ble_eq_true rfl, Nat.le_of_ble_eq_true rfl⟩ ⟨Nat.zero_le _, Nat.zero_le _⟩ hl.1 (Nat.le_of_ble_eq_true rfl) rfl dX12_isDone_151 ?_
        refine lv_if_eq (tgt := 187) hx hb dX12_isDone_154 (by decide) (fun c25 => ?_) (fun c25 => ?_)
        · replace hf := pos_e c25 hf
          refine lv_iconst (v := 0) hx hb dX12_isDone_187 (by decide) ?_
          exact gretw_z rfl E hlk hP hD hS hr dX12_isDone_188 (som_e hf)
        · replace hf := neg_e c25 hf
          refine lv_aload_n hx hb dX12_isDone_157 rfl (lv_at hl 2 rfl) ?_
          refine gget E in_X12 hK hP (q_model ks ad σ) rfl (k := 8) (by decide) wd_5_68 rfl (v := .ref (ad 15 8)) rfl dX12_isDone_158 ?_
          refine lv_iconst (v := 3) hx hb dX12_isDone_161 (by decide) ?_
          obtain ⟨c26, hf⟩ := ck_e hf
          refine giald E hK hP (q_M8 ks ad σ) c26 dX12_isDone_162 ?_
          refine lv_bipush (v := 60) hx hb dX12_isDone_163 (by decide) ?_
          refine lv_icmp_gt (tgt := 187) hx hb dX12_isDone_165 (by decide) (fun c27 => ?_) (fun c27 => ?_)
          · replace hf := pos_e c27 hf
            refine lv_iconst (v := 0) hx hb dX12_isDone_187 (by decide) ?_
            exact gretw_z rfl E hlk hP hD hS hr dX12_isDone_188 (som_e hf)
          · replace hf := neg_e c27 hf
            refine lv_aload_n hx hb dX12_isDone_168 rfl (lv_at hl 2 rfl) ?_
            refine gget E in_X12 hK hP (q_model ks ad σ) rfl (k := 8) (by decide) wd_5_68 rfl (v := .ref (ad 15 8)) rfl dX12_isDone_169 ?_
            refine lv_iconst (v := 4) hx hb dX12_isDone_172 (by decide) ?_
            obtain ⟨c28, hf⟩ := ck_e hf
            refine giald E hK hP (q_M8 ks ad σ) c28 dX12_isDone_173 ?_
            refine lv_bipush (v := 60) hx hb dX12_isDone_174 (by decide) ?_
            refine lv_icmp_gt (tgt := 187) hx hb dX12_isDone_176 (by decide) (fun c29 => ?_) (fun c29 => ?_)
            · replace hf := pos_e c29 hf
              refine lv_iconst (v := 0) hx hb dX12_isDone_187 (by decide) ?_
              exact gretw_z rfl E hlk hP hD hS hr dX12_isDone_188 (som_e hf)
            · replace hf := neg_e c29 hf
              refine lv_aload_n hx hb dX12_isDone_179 rfl (lv_at hl 2 rfl) ?_
              refine lv_iload_n hx hb dX12_isDone_180 rfl (lv_at hl 1 rfl) ?_
              obtain ⟨r30, er30, hf⟩ := bd_e hf
              refine gVr_i E hK hP (cX12_isSplitc _ er30) kV_X12_isSplit wd_5_200 rfl rfl (q_model ks ad σ) rfl rfl rfl ⟨Nat.le_of_ble_eq_true rfl, Nat.le_of_ble_eq_true rfl⟩ ⟨Nat.zero_le _, Nat.zero_le _⟩ hl.1 (Nat.le_of_ble_eq_true rfl) rfl dX12_isDone_181 ?_
              refine lv_if_eq (tgt := 189) hx hb dX12_isDone_184 (by decide) (fun c31 => ?_) (fun c31 => ?_)
              · replace hf := pos_e c31 hf
                refine lv_aload_n hx hb dX12_isDone_189 rfl (lv_at hl 2 rfl) ?_
                refine gget E in_X12 hK hP (q_model ks ad σ) rfl (k := 0) (by decide) wd_5_60 rfl (v := .ref (ad 15 0)) rfl dX12_isDone_190 ?_
                refine lv_iload_n hx hb dX12_isDone_193 rfl (lv_at hl 1 rfl) ?_
                refine lv_iconst (v := 3) hx hb dX12_isDone_194 (by decide) ?_
                obtain ⟨r32, er32, hf⟩ := bd_e hf
                refine gSr_i E hK hP (cX12_atBladec _ _ er32) kS_X12_atBlade wd_5_167 rfl rfl rfl ⟨Nat.le_of_ble_eq_true rfl, Nat.le_of_ble_eq_true rfl⟩ ⟨Nat.zero_le _, Nat.zero_le _⟩ hl.1 (Nat.le_of_ble_eq_true rfl) rfl dX12_isDone_195 ?_
                refine lv_dup2_11 hx hb dX12_isDone_198 rfl rfl ?_
                obtain ⟨c33, hf⟩ := ck_e hf
                refine giald E hK hP (q_M0 ks ad σ) c33 dX12_isDone_199 ?_
                refine lv_aload_n hx hb dX12_isDone_200 rfl (lv_at hl 2 rfl) ?_
                refine lv_aload_n hx hb dX12_isDone_201 rfl (lv_at hl 2 rfl) ?_
                refine gget E in_X12 hK hP (q_model ks ad σ) rfl (k := 8) (by decide) wd_5_68 rfl (v := .ref (ad 15 8)) rfl dX12_isDone_202 ?_
                refine lv_iconst (v := 2) hx hb dX12_isDone_205 (by decide) ?_
                obtain ⟨c34, hf⟩ := ck_e hf
                refine giald E hK hP (q_M8 ks ad σ) c34 dX12_isDone_206 ?_
                refine lv_aload_n hx hb dX12_isDone_207 rfl (lv_at hl 2 rfl) ?_
                refine gget E in_X12 hK hP (q_model ks ad σ) rfl (k := 8) (by decide) wd_5_68 rfl (v := .ref (ad 15 8)) rfl dX12_isDone_208 ?_
                refine lv_iconst (v := 4) hx hb dX12_isDone_211 (by decide) ?_
                obtain ⟨c35, hf⟩ := ck_e hf
                refine giald E hK hP (q_M8 ks ad σ) c35 dX12_isDone_212 ?_
                obtain ⟨r36, er36, hf⟩ := bd_e hf
                refine gVr_i E hK hP (cX12_wearsc _ _ er36) kV_X12_wears wd_5_208 rfl rfl (q_model ks ad σ) rfl rfl rfl ⟨Nat.le_of_ble_eq_true rfl, Nat.le_of_ble_eq_true rfl⟩ ⟨Nat.zero_le _, Nat.zero_le _⟩ hl.1 (Nat.le_of_ble_eq_true rfl) rfl dX12_isDone_213 ?_
                refine lv_iadd hx hb dX12_isDone_216 ?_
                obtain ⟨c37, hf⟩ := ck_e hf
                obtain ⟨σ38, eσ38, hf⟩ := nmv_e hf
                refine giast E hK hP hD hS (q_M0 ks ad σ) c37 (σ' := σ38) (by rw [eσ38]; exact st_M0 ks ad σ _) dX12_isDone_217 (fun H locs hP hD hS => ?_)
                refine lv_iconst (v := 1) hx hb dX12_isDone_218 (by decide) ?_
                exact gretw_z rfl E hlk hP hD hS hr dX12_isDone_219 (som_e hf)
              · replace hf := neg_e c31 hf
                refine lv_iconst (v := 0) hx hb dX12_isDone_187 (by decide) ?_
                exact gretw_z rfl E hlk hP hD hS hr dX12_isDone_188 (som_e hf)
noncomputable def fX12_isShelf (σ : St) (a1 : Int32) : Option (Int32) :=
  bd (fX12_isIn σ a1 0 7) fun r1 =>
  ck (r1 = 0 ∨ r1 = 1) (some r1)
def rX12_isShelf : Room := { frames := 1, cells := 0, slots := 0, locals := 22 }
set_option maxHeartbeats 4000000 in
set_option maxRecDepth 100000 in
theorem cX12_isShelfc {l : Launch} {dC : Nat → ClassId} {dI : Nat → Nat → Nat} {ks : Nat → ClassId} {ad : Nat → Nat → Nat} {σ : St} (a1 : Int32)  {out : Int32} (hf : fX12_isShelf σ a1 = some out) : MRi l dC dI ks ad σ yX12_isShelf cX12_isShelf 1 (some .boolean) rX12_isShelf [.int a1] out := by
  refine met_r (own := RX12) (by decide) rfl (Nat.le_of_ble_eq_true rfl) ?_
  intro p e s m args below meth c ls E hr hlk hP hK hl
  have hx := E.1
  have hb := E.2.1
  have hl : lv_has ls 1 [(0, .int a1)] := hl
  unfold fX12_isShelf at hf
  refine lv_iload_n hx hb dX12_isShelf_0 rfl (lv_at hl 0 rfl) ?_
  refine lv_iconst (v := 0) hx hb dX12_isShelf_1 (by decide) ?_
  refine lv_bipush (v := 7) hx hb dX12_isShelf_2 (by decide) ?_
  obtain ⟨r1, er1, hf⟩ := bd_e hf
  refine gSr_i E hK hP (cX12_isInc _ _ _ er1) kS_X12_isIn wd_5_138 rfl rfl rfl ⟨Nat.le_of_ble_eq_true rfl, Nat.le_of_ble_eq_true rfl⟩ ⟨Nat.zero_le _, Nat.zero_le _⟩ hl.1 (Nat.le_of_ble_eq_true rfl) rfl dX12_isShelf_4 ?_
  obtain ⟨c2, hf⟩ := ck_e hf
  exact gret_z (nb_z c2) E hr hlk dX12_isShelf_7 (som_e hf).symm
noncomputable def fX12_wrongRow (σ : St) (a1 : Int32) (a2 : Int32) : Option (Int32) :=
  bd (fX12_isShelf σ a1) fun r1 =>
  if r1 = 0 then
  some (-1)
  else
  ck (vp_in a1 8) <|
  if (gI σ 12 15 a1.toNatClampNeg) = 0 then
  some (-11)
  else
  ck (vp_in a1 8) <|
  if (gI σ 12 15 a1.toNatClampNeg) = 2 then
  if a2 < 0 then
  some 0
  else
  ck (vp_in a1 8) <|
  if (gI σ 12 18 a1.toNatClampNeg) = a2 then
  some 0
  else
  some (-12)
  else
  some (-12)
def rX12_wrongRow : Room := { frames := 2, cells := 0, slots := 0, locals := 42 }
set_option maxHeartbeats 4000000 in
set_option maxRecDepth 100000 in
theorem cX12_wrongRowc {l : Launch} {dC : Nat → ClassId} {dI : Nat → Nat → Nat} {ks : Nat → ClassId} {ad : Nat → Nat → Nat} {σ : St} (a1 : Int32) (a2 : Int32)  {out : Int32} (hf : fX12_wrongRow σ a1 a2 = some out) : MRi l dC dI ks ad σ yX12_wrongRow cX12_wrongRow 3 (some .int) rX12_wrongRow [.ref (ad 14 0), .int a1, .int a2] out := by
  refine met_r (own := RX12) (by decide) rfl (Nat.le_of_ble_eq_true rfl) ?_
  intro p e s m args below meth c ls E hr hlk hP hK hl
  have hx := E.1
  have hb := E.2.1
  have hl : lv_has ls 3 [(0, .ref (ad 14 0)), (1, .int a1), (2, .int a2)] := hl
  unfold fX12_wrongRow at hf
  refine lv_iload_n hx hb dX12_wrongRow_0 rfl (lv_at hl 1 rfl) ?_
  obtain ⟨r1, er1, hf⟩ := bd_e hf
  refine gSr_i E hK hP (cX12_isShelfc _ er1) kS_X12_isShelf wd_5_135 rfl rfl rfl ⟨Nat.le_of_ble_eq_true rfl, Nat.le_of_ble_eq_true rfl⟩ ⟨Nat.zero_le _, Nat.zero_le _⟩ hl.1 (Nat.le_of_ble_eq_true rfl) rfl dX12_wrongRow_1 ?_
  refine lv_if_ne (tgt := 11) hx hb dX12_wrongRow_4 (by decide) (fun c2 => ?_) (fun c2 => ?_)
  · replace hf := neg_e c2 hf
    refine lv_aload_n hx hb dX12_wrongRow_11 rfl (lv_at hl 0 rfl) ?_
    refine gget E in_X12 hK hP (q_model ks ad σ) rfl (k := 15) (by decide) wd_5_75 rfl (v := .ref (ad 15 15)) rfl dX12_wrongRow_12 ?_
    refine lv_iload_n hx hb dX12_wrongRow_15 rfl (lv_at hl 1 rfl) ?_
    obtain ⟨c3, hf⟩ := ck_e hf
    refine giald E hK hP (q_M15 ks ad σ) c3 dX12_wrongRow_16 ?_
    refine lv_if_ne (tgt := 25) hx hb dX12_wrongRow_17 (by decide) (fun c4 => ?_) (fun c4 => ?_)
    · replace hf := neg_e c4 hf
      refine lv_aload_n hx hb dX12_wrongRow_25 rfl (lv_at hl 0 rfl) ?_
      refine gget E in_X12 hK hP (q_model ks ad σ) rfl (k := 15) (by decide) wd_5_75 rfl (v := .ref (ad 15 15)) rfl dX12_wrongRow_26 ?_
      refine lv_iload_n hx hb dX12_wrongRow_29 rfl (lv_at hl 1 rfl) ?_
      obtain ⟨c5, hf⟩ := ck_e hf
      refine giald E hK hP (q_M15 ks ad σ) c5 dX12_wrongRow_30 ?_
      refine lv_iconst (v := 2) hx hb dX12_wrongRow_31 (by decide) ?_
      refine lv_icmp_ne (tgt := 49) hx hb dX12_wrongRow_32 (by decide) (fun c6 => ?_) (fun c6 => ?_)
      · replace hf := neg_e c6 hf
        refine lv_bipush (v := -12) hx hb dX12_wrongRow_49 (by decide) ?_
        refine lv_goto (tgt := 55) hx hb dX12_wrongRow_51 (by decide) ?_
        exact gret_i E hr hlk dX12_wrongRow_55 (som_e hf).symm
      · replace hf := pos_e c6 hf
        refine lv_iload_n hx hb dX12_wrongRow_35 rfl (lv_at hl 2 rfl) ?_
        refine lv_if_lt (tgt := 54) hx hb dX12_wrongRow_36 (by decide) (fun c7 => ?_) (fun c7 => ?_)
        · replace hf := pos_e c7 hf
          refine lv_iconst (v := 0) hx hb dX12_wrongRow_54 (by decide) ?_
          exact gret_i E hr hlk dX12_wrongRow_55 (som_e hf).symm
        · replace hf := neg_e c7 hf
          refine lv_aload_n hx hb dX12_wrongRow_39 rfl (lv_at hl 0 rfl) ?_
          refine gget E in_X12 hK hP (q_model ks ad σ) rfl (k := 18) (by decide) wd_5_78 rfl (v := .ref (ad 15 18)) rfl dX12_wrongRow_40 ?_
          refine lv_iload_n hx hb dX12_wrongRow_43 rfl (lv_at hl 1 rfl) ?_
          obtain ⟨c8, hf⟩ := ck_e hf
          refine giald E hK hP (q_M18 ks ad σ) c8 dX12_wrongRow_44 ?_
          refine lv_iload_n hx hb dX12_wrongRow_45 rfl (lv_at hl 2 rfl) ?_
          refine lv_icmp_eq (tgt := 54) hx hb dX12_wrongRow_46 (by decide) (fun c9 => ?_) (fun c9 => ?_)
          · replace hf := pos_e c9 hf
            refine lv_iconst (v := 0) hx hb dX12_wrongRow_54 (by decide) ?_
            exact gret_i E hr hlk dX12_wrongRow_55 (som_e hf).symm
          · replace hf := neg_e c9 hf
            refine lv_bipush (v := -12) hx hb dX12_wrongRow_49 (by decide) ?_
            refine lv_goto (tgt := 55) hx hb dX12_wrongRow_51 (by decide) ?_
            exact gret_i E hr hlk dX12_wrongRow_55 (som_e hf).symm
    · replace hf := pos_e c4 hf
      refine lv_bipush (v := -11) hx hb dX12_wrongRow_20 (by decide) ?_
      refine lv_goto (tgt := 55) hx hb dX12_wrongRow_22 (by decide) ?_
      exact gret_i E hr hlk dX12_wrongRow_55 (som_e hf).symm
  · replace hf := pos_e c2 hf
    refine lv_iconst (v := -1) hx hb dX12_wrongRow_7 (by decide) ?_
    refine lv_goto (tgt := 55) hx hb dX12_wrongRow_8 (by decide) ?_
    exact gret_i E hr hlk dX12_wrongRow_55 (som_e hf).symm
noncomputable def fX12_hedge_J58 (x7 : Int32) (K_41 : Int32 → Int32 → St → Option (Int32 × St)) (rec_41 : Int32 → Int32 → St → Option (Int32 × St)) (z11 : Int32) (σ12 : St) : Option (Int32 × St) :=
  nmv (x7 + 1) fun v13 =>
  if z11 = 0 then
  if (gI σ12 11 0 5) < (gI σ12 11 0 7) then
  rec_41 v13 z11 σ12
  else
  K_41 v13 z11 σ12
  else
  K_41 v13 z11 σ12
noncomputable def fX12_hedge_L41B (K_41 : Int32 → Int32 → St → Option (Int32 × St)) (rec_41 : Int32 → Int32 → St → Option (Int32 × St)) (x7 : Int32) (x8 : Int32) (σ9 : St) : Option (Int32 × St) :=
  bd (fX12_readsStatement σ9) fun r10 =>
  if r10.1 = 0 then
  nmv ((-1000) - (gI r10.2 11 0 5)) fun v17 =>
  fX12_hedge_J58 x7 K_41 rec_41 v17 r10.2
  else
  fX12_hedge_J58 x7 K_41 rec_41 x8 r10.2
noncomputable def fX12_hedge_L41 (K_41 : Int32 → Int32 → St → Option (Int32 × St)) : Nat → Int32 → Int32 → St → Option (Int32 × St)
  | 0 => fun _ _ _ => none
  | n + 1 => fX12_hedge_L41B K_41 (fX12_hedge_L41 K_41 n)
noncomputable def fX12_hedge_L93B (K_93 : Int32 → St → Option (Int32 × St)) (rec_93 : Int32 → St → Option (Int32 × St)) (x23 : Int32) (σ24 : St) : Option (Int32 × St) :=
  if x23 = 0 then
  if (gI σ24 11 0 7) ≤ (gI σ24 11 0 5) then
  K_93 x23 σ24
  else
  nmv (gI σ24 11 0 5) fun v27 =>
  bd (fX12_here σ24) fun r28 =>
  bd (fX12_readsStatement σ24) fun r29 =>
  bd (fX12_isDone r29.2 r28) fun r30 =>
  if r30.1 = 0 then
  nmv ((-2000) - v27) fun v32 =>
  bd (fX12_copies r30.2 2 0) fun r33 =>
  rec_93 v32 r33
  else
  rec_93 x23 r30.2
  else
  K_93 x23 σ24
noncomputable def fX12_hedge_L93 (K_93 : Int32 → St → Option (Int32 × St)) : Nat → Int32 → St → Option (Int32 × St)
  | 0 => fun _ _ => none
  | n + 1 => fX12_hedge_L93B K_93 (fX12_hedge_L93 K_93 n)
noncomputable def fX12_hedge (σ : St) (a1 : Int32) : Option (Int32 × St) :=
  bd (fX12_wrongRow σ a1 0) fun r1 =>
  if r1 = 0 then
  nmv (sI σ 11 0 6 (100 * a1)) fun σ3 =>
  ck (vp_in a1 8) <|
  nmv (sI σ3 11 0 7 (gI σ3 12 19 a1.toNatClampNeg)) fun σ5 =>
  nmv (sI σ5 11 0 5 0) fun σ6 =>
  fX12_hedge_L41 (fun y18 y19 σ20 => bd (fX12_copies σ20 0 2) fun r21 =>
  nmv (sI r21 11 0 5 0) fun σ22 =>
  fX12_hedge_L93 (fun y34 σ35 => if y34 = 0 then
  some (y18, σ35)
  else
  some (y34, σ35)) FU y19 σ22) FU 0 0 σ6
  else
  some (r1, σ)
def rX12_hedge : Room := { frames := 4, cells := 0, slots := 0, locals := 89 }
set_option maxHeartbeats 4000000 in
set_option maxRecDepth 100000 in
theorem cX12_hedgec {l : Launch} {dC : Nat → ClassId} {dI : Nat → Nat → Nat} {ks : Nat → ClassId} {ad : Nat → Nat → Nat} {σ : St} (a1 : Int32)  {out : Int32 × St} (hf : fX12_hedge σ a1 = some out) : MWi l dC dI ks ad σ yX12_hedge cX12_hedge 8 (some .int) rX12_hedge [.ref (ad 14 0), .int a1] out := by
  intro sz
  refine met_w (Qc := fun A => va_Qi (fun r σ' => r = out.1 ∧ σ' = out.2) (gBw dC dI ks ad A) A) (own := RX12) (by decide) rfl (Nat.le_of_ble_eq_true rfl) ?_
  intro A p e s m args below meth c ls E hr hlk hA hP hD hS hK hl
  have hx := E.1
  have hb := E.2.1
  have hl : lv_has ls 8 [(0, .ref (ad 14 0)), (1, .int a1)] := hl
  unfold fX12_hedge at hf
  refine lv_aload_n hx hb dX12_hedge_0 rfl (lv_at hl 0 rfl) ?_
  refine lv_iload_n hx hb dX12_hedge_1 rfl (lv_at hl 1 rfl) ?_
  refine lv_iconst (v := 0) hx hb dX12_hedge_2 (by decide) ?_
  obtain ⟨r1, er1, hf⟩ := bd_e hf
  refine gVr_i E hK hP (cX12_wrongRowc _ _ er1) kV_X12_wrongRow wd_5_131 rfl rfl (q_model ks ad σ) rfl rfl rfl ⟨Nat.le_of_ble_eq_true rfl, Nat.le_of_ble_eq_true rfl⟩ ⟨Nat.zero_le _, Nat.zero_le _⟩ hl.1 (Nat.le_of_ble_eq_true rfl) rfl dX12_hedge_3 ?_
  refine lv_istore_n (lv' := [(2, .int r1), (0, .ref (ad 14 0)), (1, .int a1)]) hx hb dX12_hedge_6 rfl hl (by decide) rfl (fun ls hl => ?_)
  refine lv_iload_n hx hb dX12_hedge_7 rfl (lv_at hl 0 rfl) ?_
  refine lv_if_eq (tgt := 13) hx hb dX12_hedge_8 (by decide) (fun c2 => ?_) (fun c2 => ?_)
  · replace hf := pos_e c2 hf
    refine lv_aload_n hx hb dX12_hedge_13 rfl (lv_at hl 1 rfl) ?_
    refine lv_bipush (v := 100) hx hb dX12_hedge_14 (by decide) ?_
    refine lv_iload_n hx hb dX12_hedge_16 rfl (lv_at hl 2 rfl) ?_
    refine lv_imul hx hb dX12_hedge_17 ?_
    obtain ⟨σ3, eσ3, hf⟩ := nmv_e hf
    refine gput (k := 6) E in_X12 tyX12 tyX12_ok nmX12 hK hP hD hS (q_model ks ad σ) rfl (by decide) wd_5_66 rfl rfl rfl rfl rfl (Nat.le_of_ble_eq_true rfl) (σ' := σ3) (by rw [eσ3]; exact st_model_6 ks ad σ _) dX12_hedge_18 (fun H locs hP hD hS => ?_)
    refine lv_aload_n hx hb dX12_hedge_21 rfl (lv_at hl 1 rfl) ?_
    refine lv_aload_n hx hb dX12_hedge_22 rfl (lv_at hl 1 rfl) ?_
    refine gget E in_X12 hK hP (q_model ks ad σ3) rfl (k := 19) (by decide) wd_5_79 rfl (v := .ref (ad 15 19)) rfl dX12_hedge_23 ?_
    refine lv_iload_n hx hb dX12_hedge_26 rfl (lv_at hl 2 rfl) ?_
    obtain ⟨c4, hf⟩ := ck_e hf
    refine giald E hK hP (q_M19 ks ad σ3) c4 dX12_hedge_27 ?_
    obtain ⟨σ5, eσ5, hf⟩ := nmv_e hf
    refine gput (k := 7) E in_X12 tyX12 tyX12_ok nmX12 hK hP hD hS (q_model ks ad σ3) rfl (by decide) wd_5_67 rfl rfl rfl rfl rfl (Nat.le_of_ble_eq_true rfl) (σ' := σ5) (by rw [eσ5]; exact st_model_7 ks ad σ3 _) dX12_hedge_28 (fun H locs hP hD hS => ?_)
    refine lv_aload_n hx hb dX12_hedge_31 rfl (lv_at hl 1 rfl) ?_
    refine lv_iconst (v := 0) hx hb dX12_hedge_32 (by decide) ?_
    obtain ⟨σ6, eσ6, hf⟩ := nmv_e hf
    refine gput (k := 5) E in_X12 tyX12 tyX12_ok nmX12 hK hP hD hS (q_model ks ad σ5) rfl (by decide) wd_5_65 rfl rfl rfl rfl rfl (Nat.le_of_ble_eq_true rfl) (σ' := σ6) (by rw [eσ6]; exact st_model_5 ks ad σ5 _) dX12_hedge_33 (fun H locs hP hD hS => ?_)
    refine lv_iconst (v := 0) hx hb dX12_hedge_36 (by decide) ?_
    refine lv_istore_n (lv' := [(3, .int 0), (2, .int r1), (0, .ref (ad 14 0)), (1, .int a1)]) hx hb dX12_hedge_37 rfl hl (by decide) rfl (fun ls hl => ?_)
    refine lv_iconst (v := 0) hx hb dX12_hedge_38 (by decide) ?_
    refine lv_istore (lv' := [(4, .int 0), (3, .int 0), (2, .int r1), (0, .ref (ad 14 0)), (1, .int a1)]) hx hb dX12_hedge_39 hl (by decide) rfl (fun ls hl => ?_)
    have loop_41 : ∀ (K_41 : Int32 → Int32 → St → Option (Int32 × St)) (hK_41 : (∀ (y18 : Int32) (y19 : Int32) (σ20 : St) (H : Heap) (locs : List Loc) (hP : va_P (dC, dI) vwCl (wG ks ad σ20) H) (hD : va_D A (wG ks ad σ20)) (hS : va_S A s.heap H locs) (hf : K_41 y18 y19 σ20 = some out) (ls : Array Slot), lv_has ls 8 [(0, .ref (ad 14 0)), (3, .int y18), (4, .int y19)] → W p l e rX12_hedge s m args below meth c H locs 0 0 (MQ below (va_Qi (fun r σ' => r = out.1 ∧ σ' = out.2) (gBw dC dI ks ad A) A) args s 0 0 A) (F0 m 77 ls []))) (n_41 : Nat) (x7 : Int32) (x8 : Int32) (σ9 : St) (H : Heap) (locs : List Loc) (hP : va_P (dC, dI) vwCl (wG ks ad σ9) H) (hD : va_D A (wG ks ad σ9)) (hS : va_S A s.heap H locs) (hf : fX12_hedge_L41 K_41 n_41 x7 x8 σ9 = some out) (ls : Array Slot), lv_has ls 8 [(0, .ref (ad 14 0)), (3, .int x7), (4, .int x8)] → W p l e rX12_hedge s m args below meth c H locs 0 0 (MQ below (va_Qi (fun r σ' => r = out.1 ∧ σ' = out.2) (gBw dC dI ks ad A) A) args s 0 0 A) (F0 m 41 ls []) := by
      intro K_41 hK_41 n_41
      induction n_41 with
      | zero => intro x7 x8 σ9 H locs hP hD hS hf; cases hf
      | succ n_41 ih_41 =>
        intro x7 x8 σ9 H locs hP hD hS hf ls hl
        have hf : fX12_hedge_L41B K_41 (fX12_hedge_L41 K_41 n_41) x7 x8 σ9 = some out := hf
        unfold fX12_hedge_L41B at hf
        refine lv_aload_n hx hb dX12_hedge_41 rfl (lv_at hl 0 rfl) ?_
        obtain ⟨r10, er10, hf⟩ := bd_e hf
        refine gVw_i E hK hP hD hS hA (cX12_readsStatementc  er10) kV_X12_readsStatement wd_5_141 rfl rfl (q_model ks ad σ9) rfl rfl rfl ⟨Nat.le_of_ble_eq_true rfl, Nat.le_of_ble_eq_true rfl⟩ ⟨Nat.zero_le _, Nat.zero_le _⟩ hl.1 (Nat.le_of_ble_eq_true rfl) rfl dX12_hedge_42 (fun H locs hP hD hS => ?_)
        have hJ_58 : ∀ (z11 : Int32) (σ12 : St) (H : Heap) (locs : List Loc) (hP : va_P (dC, dI) vwCl (wG ks ad σ12) H) (hD : va_D A (wG ks ad σ12)) (hS : va_S A s.heap H locs) (hf : fX12_hedge_J58 x7 K_41 (fX12_hedge_L41 K_41 n_41) z11 σ12 = some out) (ls : Array Slot), lv_has ls 8 [(0, .ref (ad 14 0)), (3, .int x7), (4, .int z11)] → W p l e rX12_hedge s m args below meth c H locs 0 0 (MQ below (va_Qi (fun r σ' => r = out.1 ∧ σ' = out.2) (gBw dC dI ks ad A) A) args s 0 0 A) (F0 m 58 ls []) := by
          intro z11 σ12 H locs hP hD hS hf ls hl
          unfold fX12_hedge_J58 at hf
          obtain ⟨v13, ev13, hf⟩ := nmv_e hf
          refine lv_iinc (v := v13) (lv' := [(3, .int v13), (0, .ref (ad 14 0)), (4, .int z11)]) hx hb dX12_hedge_58 hl (k := 1) rfl (by rw [ev13]; rfl) (by decide) rfl (fun ls hl => ?_)
          refine lv_iload hx hb dX12_hedge_61 (lv_at hl 2 rfl) ?_
          refine lv_if_ne (tgt := 77) hx hb dX12_hedge_63 (by decide) (fun c14 => ?_) (fun c14 => ?_)
          · replace hf := neg_e c14 hf
            exact hK_41 _ _ _ _ _ hP hD hS hf _ (lv_sub hl [1, 0, 2] rfl)
          · replace hf := pos_e c14 hf
            refine lv_aload_n hx hb dX12_hedge_66 rfl (lv_at hl 1 rfl) ?_
            refine gget E in_X12 hK hP (q_model ks ad σ12) rfl (k := 5) (by decide) wd_5_65 rfl (v := .int (gI σ12 11 0 5)) rfl dX12_hedge_67 ?_
            refine lv_aload_n hx hb dX12_hedge_70 rfl (lv_at hl 1 rfl) ?_
            refine gget E in_X12 hK hP (q_model ks ad σ12) rfl (k := 7) (by decide) wd_5_67 rfl (v := .int (gI σ12 11 0 7)) rfl dX12_hedge_71 ?_
            refine lv_icmp_lt (tgt := 41) hx hb dX12_hedge_74 (by decide) (fun c15 => ?_) (fun c15 => ?_)
            · replace hf := pos_e c15 hf
              exact ih_41 _ _ _ _ _ hP hD hS hf _ (lv_sub hl [1, 0, 2] rfl)
            · replace hf := neg_e c15 hf
              exact hK_41 _ _ _ _ _ hP hD hS hf _ (lv_sub hl [1, 0, 2] rfl)
        refine lv_if_ne (tgt := 58) hx hb dX12_hedge_45 (by decide) (fun c16 => ?_) (fun c16 => ?_)
        · replace hf := neg_e c16 hf
          exact hJ_58 _ _ _ _ hP hD hS hf _ (lv_sub hl [0, 1, 2] rfl)
        · replace hf := pos_e c16 hf
          refine lv_sipush (v := -1000) hx hb dX12_hedge_48 (by decide) ?_
          refine lv_aload_n hx hb dX12_hedge_51 rfl (lv_at hl 0 rfl) ?_
          refine gget E in_X12 hK hP (q_model ks ad r10.2) rfl (k := 5) (by decide) wd_5_65 rfl (v := .int (gI r10.2 11 0 5)) rfl dX12_hedge_52 ?_
          refine lv_isub hx hb dX12_hedge_55 ?_
          obtain ⟨v17, ev17, hf⟩ := nmv_e hf
          refine lv_nmi ev17 ?_
          refine lv_istore (lv' := [(4, .int v17), (0, .ref (ad 14 0)), (3, .int x7)]) hx hb dX12_hedge_56 hl (by decide) rfl (fun ls hl => ?_)
          exact hJ_58 _ _ _ _ hP hD hS hf _ (lv_sub hl [1, 2, 0] rfl)
    refine loop_41 _ (fun y18 y19 σ20 H locs hP hD hS hf ls hl => ?_) _ _ _ _ _ _ hP hD hS hf _ (lv_sub hl [3, 1, 0] rfl)
    refine lv_aload_n hx hb dX12_hedge_77 rfl (lv_at hl 0 rfl) ?_
    refine gget E in_X12 hK hP (q_model ks ad σ20) rfl (k := 0) (by decide) wd_5_60 rfl (v := .ref (ad 15 0)) rfl dX12_hedge_78 ?_
    refine lv_aload_n hx hb dX12_hedge_81 rfl (lv_at hl 0 rfl) ?_
    refine gget E in_X12 hK hP (q_model ks ad σ20) rfl (k := 2) (by decide) wd_5_62 rfl (v := .ref (ad 15 2)) rfl dX12_hedge_82 ?_
    obtain ⟨r21, er21, hf⟩ := bd_e hf
    refine gSw_v E hK hP hD hS hA (cX12_copiesc (by decide : (0 : Nat) < 3) (by decide : (2 : Nat) < 3) er21) kS_X12_copies wd_5_153 rfl rfl rfl ⟨Nat.le_of_ble_eq_true rfl, Nat.le_of_ble_eq_true rfl⟩ ⟨Nat.zero_le _, Nat.zero_le _⟩ hl.1 (Nat.le_of_ble_eq_true rfl) rfl dX12_hedge_85 (fun H locs hP hD hS => ?_)
    refine lv_aload_n hx hb dX12_hedge_88 rfl (lv_at hl 0 rfl) ?_
    refine lv_iconst (v := 0) hx hb dX12_hedge_89 (by decide) ?_
    obtain ⟨σ22, eσ22, hf⟩ := nmv_e hf
    refine gput (k := 5) E in_X12 tyX12 tyX12_ok nmX12 hK hP hD hS (q_model ks ad r21) rfl (by decide) wd_5_65 rfl rfl rfl rfl rfl (Nat.le_of_ble_eq_true rfl) (σ' := σ22) (by rw [eσ22]; exact st_model_5 ks ad r21 _) dX12_hedge_90 (fun H locs hP hD hS => ?_)
    have loop_93 : ∀ (K_93 : Int32 → St → Option (Int32 × St)) (hK_93 : (∀ (y34 : Int32) (σ35 : St) (H : Heap) (locs : List Loc) (hP : va_P (dC, dI) vwCl (wG ks ad σ35) H) (hD : va_D A (wG ks ad σ35)) (hS : va_S A s.heap H locs) (hf : K_93 y34 σ35 = some out) (ls : Array Slot), lv_has ls 8 [(3, .int y18), (4, .int y34)] → W p l e rX12_hedge s m args below meth c H locs 0 0 (MQ below (va_Qi (fun r σ' => r = out.1 ∧ σ' = out.2) (gBw dC dI ks ad A) A) args s 0 0 A) (F0 m 161 ls []))) (n_93 : Nat) (x23 : Int32) (σ24 : St) (H : Heap) (locs : List Loc) (hP : va_P (dC, dI) vwCl (wG ks ad σ24) H) (hD : va_D A (wG ks ad σ24)) (hS : va_S A s.heap H locs) (hf : fX12_hedge_L93 K_93 n_93 x23 σ24 = some out) (ls : Array Slot), lv_has ls 8 [(0, .ref (ad 14 0)), (3, .int y18), (4, .int x23)] → W p l e rX12_hedge s m args below meth c H locs 0 0 (MQ below (va_Qi (fun r σ' => r = out.1 ∧ σ' = out.2) (gBw dC dI ks ad A) A) args s 0 0 A) (F0 m 93 ls []) := by
      intro K_93 hK_93 n_93
      induction n_93 with
      | zero => intro x23 σ24 H locs hP hD hS hf; cases hf
      | succ n_93 ih_93 =>
        intro x23 σ24 H locs hP hD hS hf ls hl
        have hf : fX12_hedge_L93B K_93 (fX12_hedge_L93 K_93 n_93) x23 σ24 = some out := hf
        unfold fX12_hedge_L93B at hf
        refine lv_iload hx hb dX12_hedge_93 (lv_at hl 2 rfl) ?_
        refine lv_if_ne (tgt := 161) hx hb dX12_hedge_95 (by decide) (fun c25 => ?_) (fun c25 => ?_)
        · replace hf := neg_e c25 hf
          exact hK_93 _ _ _ _ hP hD hS hf _ (lv_sub hl [1, 2] rfl)
        · replace hf := pos_e c25 hf
          refine lv_aload_n hx hb dX12_hedge_98 rfl (lv_at hl 0 rfl) ?_
          refine gget E in_X12 hK hP (q_model ks ad σ24) rfl (k := 5) (by decide) wd_5_65 rfl (v := .int (gI σ24 11 0 5)) rfl dX12_hedge_99 ?_
          refine lv_aload_n hx hb dX12_hedge_102 rfl (lv_at hl 0 rfl) ?_
          refine gget E in_X12 hK hP (q_model ks ad σ24) rfl (k := 7) (by decide) wd_5_67 rfl (v := .int (gI σ24 11 0 7)) rfl dX12_hedge_103 ?_
          refine lv_icmp_ge (tgt := 161) hx hb dX12_hedge_106 (by decide) (fun c26 => ?_) (fun c26 => ?_)
          · replace hf := pos_e c26 hf
            exact hK_93 _ _ _ _ hP hD hS hf _ (lv_sub hl [1, 2] rfl)
          · replace hf := neg_e c26 hf
            refine lv_aload_n hx hb dX12_hedge_109 rfl (lv_at hl 0 rfl) ?_
            refine gget E in_X12 hK hP (q_model ks ad σ24) rfl (k := 5) (by decide) wd_5_65 rfl (v := .int (gI σ24 11 0 5)) rfl dX12_hedge_110 ?_
            obtain ⟨v27, ev27, hf⟩ := nmv_e hf
            refine lv_nmi ev27 ?_
            refine lv_istore (lv' := [(5, .int v27), (0, .ref (ad 14 0)), (3, .int y18), (4, .int x23)]) hx hb dX12_hedge_113 hl (by decide) rfl (fun ls hl => ?_)
            refine lv_aload_n hx hb dX12_hedge_115 rfl (lv_at hl 1 rfl) ?_
            obtain ⟨r28, er28, hf⟩ := bd_e hf
            refine gVr_i E hK hP (cX12_herec  er28) kV_X12_here wd_5_145 rfl rfl (q_model ks ad σ24) rfl rfl rfl ⟨Nat.le_of_ble_eq_true rfl, Nat.le_of_ble_eq_true rfl⟩ ⟨Nat.zero_le _, Nat.zero_le _⟩ hl.1 (Nat.le_of_ble_eq_true rfl) rfl dX12_hedge_116 ?_
            refine lv_istore (lv' := [(6, .int r28), (5, .int v27), (0, .ref (ad 14 0)), (3, .int y18), (4, .int x23)]) hx hb dX12_hedge_119 hl (by decide) rfl (fun ls hl => ?_)
            refine lv_aload_n hx hb dX12_hedge_121 rfl (lv_at hl 2 rfl) ?_
            obtain ⟨r29, er29, hf⟩ := bd_e hf
            refine gVw_i E hK hP hD hS hA (cX12_readsStatementc  er29) kV_X12_readsStatement wd_5_141 rfl rfl (q_model ks ad σ24) rfl rfl rfl ⟨Nat.le_of_ble_eq_true rfl, Nat.le_of_ble_eq_true rfl⟩ ⟨Nat.zero_le _, Nat.zero_le _⟩ hl.1 (Nat.le_of_ble_eq_true rfl) rfl dX12_hedge_122 (fun H locs hP hD hS => ?_)
            refine lv_istore (lv' := [(7, .int r29.1), (6, .int r28), (5, .int v27), (0, .ref (ad 14 0)), (3, .int y18), (4, .int x23)]) hx hb dX12_hedge_125 hl (by decide) rfl (fun ls hl => ?_)
            refine lv_aload_n hx hb dX12_hedge_127 rfl (lv_at hl 3 rfl) ?_
            refine lv_iload hx hb dX12_hedge_128 (lv_at hl 1 rfl) ?_
            obtain ⟨r30, er30, hf⟩ := bd_e hf
            refine gVw_i E hK hP hD hS hA (cX12_isDonec _ er30) kV_X12_isDone wd_5_156 rfl rfl (q_model ks ad r29.2) rfl rfl rfl ⟨Nat.le_of_ble_eq_true rfl, Nat.le_of_ble_eq_true rfl⟩ ⟨Nat.zero_le _, Nat.zero_le _⟩ hl.1 (Nat.le_of_ble_eq_true rfl) rfl dX12_hedge_130 (fun H locs hP hD hS => ?_)
            refine lv_if_eq (tgt := 139) hx hb dX12_hedge_133 (by decide) (fun c31 => ?_) (fun c31 => ?_)
            · replace hf := pos_e c31 hf
              refine lv_sipush (v := -2000) hx hb dX12_hedge_139 (by decide) ?_
              refine lv_iload hx hb dX12_hedge_142 (lv_at hl 2 rfl) ?_
              refine lv_isub hx hb dX12_hedge_144 ?_
              obtain ⟨v32, ev32, hf⟩ := nmv_e hf
              refine lv_nmi ev32 ?_
              refine lv_istore (lv' := [(4, .int v32), (7, .int r29.1), (6, .int r28), (5, .int v27), (0, .ref (ad 14 0)), (3, .int y18)]) hx hb dX12_hedge_145 hl (by decide) rfl (fun ls hl => ?_)
              refine lv_aload_n hx hb dX12_hedge_147 rfl (lv_at hl 4 rfl) ?_
              refine gget E in_X12 hK hP (q_model ks ad r30.2) rfl (k := 2) (by decide) wd_5_62 rfl (v := .ref (ad 15 2)) rfl dX12_hedge_148 ?_
              refine lv_aload_n hx hb dX12_hedge_151 rfl (lv_at hl 4 rfl) ?_
              refine gget E in_X12 hK hP (q_model ks ad r30.2) rfl (k := 0) (by decide) wd_5_60 rfl (v := .ref (ad 15 0)) rfl dX12_hedge_152 ?_
              obtain ⟨r33, er33, hf⟩ := bd_e hf
              refine gSw_v E hK hP hD hS hA (cX12_copiesc (by decide : (2 : Nat) < 3) (by decide : (0 : Nat) < 3) er33) kS_X12_copies wd_5_153 rfl rfl rfl ⟨Nat.le_of_ble_eq_true rfl, Nat.le_of_ble_eq_true rfl⟩ ⟨Nat.zero_le _, Nat.zero_le _⟩ hl.1 (Nat.le_of_ble_eq_true rfl) rfl dX12_hedge_155 (fun H locs hP hD hS => ?_)
              refine lv_goto (tgt := 93) hx hb dX12_hedge_158 (by decide) ?_
              exact ih_93 _ _ _ _ hP hD hS hf _ (lv_sub hl [4, 5, 0] rfl)
            · replace hf := neg_e c31 hf
              refine lv_goto (tgt := 93) hx hb dX12_hedge_136 (by decide) ?_
              exact ih_93 _ _ _ _ hP hD hS hf _ (lv_sub hl [3, 4, 5] rfl)
    refine loop_93 _ (fun y34 σ35 H locs hP hD hS hf ls hl => ?_) _ _ _ _ _ hP hD hS hf _ (lv_sub hl [0, 1, 2] rfl)
    refine lv_iload hx hb dX12_hedge_161 (lv_at hl 1 rfl) ?_
    refine lv_if_ne (tgt := 170) hx hb dX12_hedge_163 (by decide) (fun c36 => ?_) (fun c36 => ?_)
    · replace hf := neg_e c36 hf
      refine lv_iload hx hb dX12_hedge_170 (lv_at hl 1 rfl) ?_
      exact gretw_i E hlk hP hD hS hr dX12_hedge_172 (som_e hf)
    · replace hf := pos_e c36 hf
      refine lv_iload_n hx hb dX12_hedge_166 rfl (lv_at hl 0 rfl) ?_
      refine lv_goto (tgt := 172) hx hb dX12_hedge_167 (by decide) ?_
      exact gretw_i E hlk hP hD hS hr dX12_hedge_172 (som_e hf)
  · replace hf := neg_e c2 hf
    refine lv_iload_n hx hb dX12_hedge_11 rfl (lv_at hl 0 rfl) ?_
    exact gretw_i E hlk hP hD hS hr dX12_hedge_12 (som_e hf)
