noncomputable def fX12_costBy (σ : St) (a1 : Int32) (a2 : Int32) : Option (Int32) :=
  if a1 = 1 then
  some 2
  else
  if a1 = 2 then
  some (3 + a2)
  else
  if a1 = 3 then
  some (2 * (3 + a2))
  else
  if a1 = 4 then
  some 7
  else
  if a1 = 5 then
  some (5 + a2)
  else
  if a1 = 6 then
  some ((5 + a2) / 2)
  else
  if a1 = 7 then
  some (2 + a2)
  else
  some 3
def rX12_costBy : Room := { frames := 0, cells := 0, slots := 0, locals := 0 }
set_option maxHeartbeats 4000000 in
set_option maxRecDepth 100000 in
theorem cX12_costByc {l : Launch} {dC : Nat → ClassId} {dI : Nat → Nat → Nat} {ks : Nat → ClassId} {ad : Nat → Nat → Nat} {σ : St} (a1 : Int32) (a2 : Int32)  {out : Int32} (hf : fX12_costBy σ a1 a2 = some out) : MRi l dC dI ks ad σ yX12_costBy cX12_costBy 2 (some .int) rX12_costBy [.int a1, .int a2] out := by
  refine met_r (own := RX12) (by decide) rfl (Nat.le_of_ble_eq_true rfl) ?_
  intro p e s m args below meth c ls E hr hlk hP hK hl
  have hx := E.1
  have hb := E.2.1
  have hl : lv_has ls 2 [(0, .int a1), (1, .int a2)] := hl
  unfold fX12_costBy at hf
  refine lv_iload_n hx hb dX12_costBy_0 rfl (lv_at hl 0 rfl) ?_
  by_cases c1 : a1 = 1
  · replace hf := pos_e c1 hf
    refine lv_tableIn (tgt := 44) (off := 43) hx hb dX12_costBy_1 (by rw [c1]; decide) (by rw [c1]; decide) (by rw [c1]; rfl) (by decide) ?_
    refine lv_iconst (v := 2) hx hb dX12_costBy_44 (by decide) ?_
    exact gret_i E hr hlk dX12_costBy_45 (som_e hf).symm
  · replace hf := neg_e c1 hf
    by_cases c2 : a1 = 2
    · replace hf := pos_e c2 hf
      refine lv_tableIn (tgt := 46) (off := 45) hx hb dX12_costBy_1 (by rw [c2]; decide) (by rw [c2]; decide) (by rw [c2]; rfl) (by decide) ?_
      refine lv_iconst (v := 3) hx hb dX12_costBy_46 (by decide) ?_
      refine lv_iload_n hx hb dX12_costBy_47 rfl (lv_at hl 1 rfl) ?_
      refine lv_iadd hx hb dX12_costBy_48 ?_
      exact gret_i E hr hlk dX12_costBy_49 (som_e hf).symm
    · replace hf := neg_e c2 hf
      by_cases c3 : a1 = 3
      · replace hf := pos_e c3 hf
        refine lv_tableIn (tgt := 50) (off := 49) hx hb dX12_costBy_1 (by rw [c3]; decide) (by rw [c3]; decide) (by rw [c3]; rfl) (by decide) ?_
        refine lv_iconst (v := 2) hx hb dX12_costBy_50 (by decide) ?_
        refine lv_iconst (v := 3) hx hb dX12_costBy_51 (by decide) ?_
        refine lv_iload_n hx hb dX12_costBy_52 rfl (lv_at hl 1 rfl) ?_
        refine lv_iadd hx hb dX12_costBy_53 ?_
        refine lv_imul hx hb dX12_costBy_54 ?_
        exact gret_i E hr hlk dX12_costBy_55 (som_e hf).symm
      · replace hf := neg_e c3 hf
        by_cases c4 : a1 = 4
        · replace hf := pos_e c4 hf
          refine lv_tableIn (tgt := 56) (off := 55) hx hb dX12_costBy_1 (by rw [c4]; decide) (by rw [c4]; decide) (by rw [c4]; rfl) (by decide) ?_
          refine lv_bipush (v := 7) hx hb dX12_costBy_56 (by decide) ?_
          exact gret_i E hr hlk dX12_costBy_58 (som_e hf).symm
        · replace hf := neg_e c4 hf
          by_cases c5 : a1 = 5
          · replace hf := pos_e c5 hf
            refine lv_tableIn (tgt := 59) (off := 58) hx hb dX12_costBy_1 (by rw [c5]; decide) (by rw [c5]; decide) (by rw [c5]; rfl) (by decide) ?_
            refine lv_iconst (v := 5) hx hb dX12_costBy_59 (by decide) ?_
            refine lv_iload_n hx hb dX12_costBy_60 rfl (lv_at hl 1 rfl) ?_
            refine lv_iadd hx hb dX12_costBy_61 ?_
            exact gret_i E hr hlk dX12_costBy_62 (som_e hf).symm
          · replace hf := neg_e c5 hf
            by_cases c6 : a1 = 6
            · replace hf := pos_e c6 hf
              refine lv_tableIn (tgt := 63) (off := 62) hx hb dX12_costBy_1 (by rw [c6]; decide) (by rw [c6]; decide) (by rw [c6]; rfl) (by decide) ?_
              refine lv_iconst (v := 5) hx hb dX12_costBy_63 (by decide) ?_
              refine lv_iload_n hx hb dX12_costBy_64 rfl (lv_at hl 1 rfl) ?_
              refine lv_iadd hx hb dX12_costBy_65 ?_
              refine lv_iconst (v := 2) hx hb dX12_costBy_66 (by decide) ?_
              refine lv_idiv hx hb dX12_costBy_67 (by decide) ?_
              exact gret_i E hr hlk dX12_costBy_68 (som_e hf).symm
            · replace hf := neg_e c6 hf
              by_cases c7 : a1 = 7
              · replace hf := pos_e c7 hf
                refine lv_tableIn (tgt := 69) (off := 68) hx hb dX12_costBy_1 (by rw [c7]; decide) (by rw [c7]; decide) (by rw [c7]; rfl) (by decide) ?_
                refine lv_iconst (v := 2) hx hb dX12_costBy_69 (by decide) ?_
                refine lv_iload_n hx hb dX12_costBy_70 rfl (lv_at hl 1 rfl) ?_
                refine lv_iadd hx hb dX12_costBy_71 ?_
                exact gret_i E hr hlk dX12_costBy_72 (som_e hf).symm
              · replace hf := neg_e c7 hf
                refine lv_tableOut (tgt := 73) hx hb dX12_costBy_1 (by have q0 := lv_neT c1 (a := 1) rfl; have q1 := lv_neT c2 (a := 2) rfl; have q2 := lv_neT c3 (a := 3) rfl; have q3 := lv_neT c4 (a := 4) rfl; have q4 := lv_neT c5 (a := 5) rfl; have q5 := lv_neT c6 (a := 6) rfl; have q6 := lv_neT c7 (a := 7) rfl; omega) (by decide) ?_
                refine lv_iconst (v := 3) hx hb dX12_costBy_73 (by decide) ?_
                exact gret_i E hr hlk dX12_costBy_74 (som_e hf).symm
noncomputable def fX12_cost (σ : St) (a1 : Int32) : Option (Int32) :=
  bd (fX12_wrongKept σ a1) fun r1 =>
  if r1 = 0 then
  ck (vp_in a1 8) <|
  ck (vp_in a1 8) <|
  bd (fX12_costBy σ (gI σ 12 16 a1.toNatClampNeg) (gI σ 12 17 a1.toNatClampNeg)) fun r5 =>
  some r5
  else
  some r1
def rX12_cost : Room := { frames := 3, cells := 0, slots := 0, locals := 63 }
set_option maxHeartbeats 4000000 in
set_option maxRecDepth 100000 in
theorem cX12_costc {l : Launch} {dC : Nat → ClassId} {dI : Nat → Nat → Nat} {ks : Nat → ClassId} {ad : Nat → Nat → Nat} {σ : St} (a1 : Int32)  {out : Int32} (hf : fX12_cost σ a1 = some out) : MRi l dC dI ks ad σ yX12_cost cX12_cost 3 (some .int) rX12_cost [.ref (ad 14 0), .int a1] out := by
  refine met_r (own := RX12) (by decide) rfl (Nat.le_of_ble_eq_true rfl) ?_
  intro p e s m args below meth c ls E hr hlk hP hK hl
  have hx := E.1
  have hb := E.2.1
  have hl : lv_has ls 3 [(0, .ref (ad 14 0)), (1, .int a1)] := hl
  unfold fX12_cost at hf
  refine lv_aload_n hx hb dX12_cost_0 rfl (lv_at hl 0 rfl) ?_
  refine lv_iload_n hx hb dX12_cost_1 rfl (lv_at hl 1 rfl) ?_
  obtain ⟨r1, er1, hf⟩ := bd_e hf
  refine gVr_i E hK hP (cX12_wrongKeptc _ er1) kV_X12_wrongKept wd_6_0 rfl rfl (q_model ks ad σ) rfl rfl rfl ⟨Nat.le_of_ble_eq_true rfl, Nat.le_of_ble_eq_true rfl⟩ ⟨Nat.zero_le _, Nat.zero_le _⟩ hl.1 (Nat.le_of_ble_eq_true rfl) rfl dX12_cost_2 ?_
  refine lv_istore_n (lv' := [(2, .int r1), (0, .ref (ad 14 0)), (1, .int a1)]) hx hb dX12_cost_5 rfl hl (by decide) rfl (fun ls hl => ?_)
  refine lv_iload_n hx hb dX12_cost_6 rfl (lv_at hl 0 rfl) ?_
  refine lv_if_eq (tgt := 14) hx hb dX12_cost_7 (by decide) (fun c2 => ?_) (fun c2 => ?_)
  · replace hf := pos_e c2 hf
    refine lv_aload_n hx hb dX12_cost_14 rfl (lv_at hl 1 rfl) ?_
    refine gget E in_X12 hK hP (q_model ks ad σ) rfl (k := 16) (by decide) wd_5_76 rfl (v := .ref (ad 15 16)) rfl dX12_cost_15 ?_
    refine lv_iload_n hx hb dX12_cost_18 rfl (lv_at hl 2 rfl) ?_
    obtain ⟨c3, hf⟩ := ck_e hf
    refine giald E hK hP (q_M16 ks ad σ) c3 dX12_cost_19 ?_
    refine lv_aload_n hx hb dX12_cost_20 rfl (lv_at hl 1 rfl) ?_
    refine gget E in_X12 hK hP (q_model ks ad σ) rfl (k := 17) (by decide) wd_5_77 rfl (v := .ref (ad 15 17)) rfl dX12_cost_21 ?_
    refine lv_iload_n hx hb dX12_cost_24 rfl (lv_at hl 2 rfl) ?_
    obtain ⟨c4, hf⟩ := ck_e hf
    refine giald E hK hP (q_M17 ks ad σ) c4 dX12_cost_25 ?_
    obtain ⟨r5, er5, hf⟩ := bd_e hf
    refine gSr_i E hK hP (cX12_costByc _ _ er5) kS_X12_costBy wd_7_49 rfl rfl rfl ⟨Nat.le_of_ble_eq_true rfl, Nat.le_of_ble_eq_true rfl⟩ ⟨Nat.zero_le _, Nat.zero_le _⟩ hl.1 (Nat.le_of_ble_eq_true rfl) rfl dX12_cost_26 ?_
    exact gret_i E hr hlk dX12_cost_29 (som_e hf).symm
  · replace hf := neg_e c2 hf
    refine lv_iload_n hx hb dX12_cost_10 rfl (lv_at hl 0 rfl) ?_
    refine lv_goto (tgt := 29) hx hb dX12_cost_11 (by decide) ?_
    exact gret_i E hr hlk dX12_cost_29 (som_e hf).symm
noncomputable def fX12_toss (σ : St) (a1 : Int32) : Option (Int32) :=
  bd (fX12_wrongKept σ a1) fun r1 =>
  if r1 = 0 then
  ck (vp_in a1 8) <|
  nmv (gI σ 12 16 a1.toNatClampNeg) fun v4 =>
  ck (vp_in a1 8) <|
  nmv (gI σ 12 17 a1.toNatClampNeg) fun v6 =>
  if v4 = 1 then
  some (-15)
  else
  if v4 = 7 then
  some (-15)
  else
  if v6 = 0 then
  some (-15)
  else
  if v4 = 3 then
  bd (fX12_costBy σ v4 v6) fun r13 =>
  some (200 + r13)
  else
  bd (fX12_isSounding σ v4) fun r11 =>
  if r11 = 0 then
  some v6
  else
  some (100 + v6)
  else
  some r1
def rX12_toss : Room := { frames := 3, cells := 0, slots := 0, locals := 63 }
set_option maxHeartbeats 4000000 in
set_option maxRecDepth 100000 in
theorem cX12_tossc {l : Launch} {dC : Nat → ClassId} {dI : Nat → Nat → Nat} {ks : Nat → ClassId} {ad : Nat → Nat → Nat} {σ : St} (a1 : Int32)  {out : Int32} (hf : fX12_toss σ a1 = some out) : MRi l dC dI ks ad σ yX12_toss cX12_toss 5 (some .int) rX12_toss [.ref (ad 14 0), .int a1] out := by
  refine met_r (own := RX12) (by decide) rfl (Nat.le_of_ble_eq_true rfl) ?_
  intro p e s m args below meth c ls E hr hlk hP hK hl
  have hx := E.1
  have hb := E.2.1
  have hl : lv_has ls 5 [(0, .ref (ad 14 0)), (1, .int a1)] := hl
  unfold fX12_toss at hf
  refine lv_aload_n hx hb dX12_toss_0 rfl (lv_at hl 0 rfl) ?_
  refine lv_iload_n hx hb dX12_toss_1 rfl (lv_at hl 1 rfl) ?_
  obtain ⟨r1, er1, hf⟩ := bd_e hf
  refine gVr_i E hK hP (cX12_wrongKeptc _ er1) kV_X12_wrongKept wd_6_0 rfl rfl (q_model ks ad σ) rfl rfl rfl ⟨Nat.le_of_ble_eq_true rfl, Nat.le_of_ble_eq_true rfl⟩ ⟨Nat.zero_le _, Nat.zero_le _⟩ hl.1 (Nat.le_of_ble_eq_true rfl) rfl dX12_toss_2 ?_
  refine lv_istore_n (lv' := [(2, .int r1), (0, .ref (ad 14 0)), (1, .int a1)]) hx hb dX12_toss_5 rfl hl (by decide) rfl (fun ls hl => ?_)
  refine lv_iload_n hx hb dX12_toss_6 rfl (lv_at hl 0 rfl) ?_
  refine lv_if_eq (tgt := 12) hx hb dX12_toss_7 (by decide) (fun c2 => ?_) (fun c2 => ?_)
  · replace hf := pos_e c2 hf
    refine lv_aload_n hx hb dX12_toss_12 rfl (lv_at hl 1 rfl) ?_
    refine gget E in_X12 hK hP (q_model ks ad σ) rfl (k := 16) (by decide) wd_5_76 rfl (v := .ref (ad 15 16)) rfl dX12_toss_13 ?_
    refine lv_iload_n hx hb dX12_toss_16 rfl (lv_at hl 2 rfl) ?_
    obtain ⟨c3, hf⟩ := ck_e hf
    refine giald E hK hP (q_M16 ks ad σ) c3 dX12_toss_17 ?_
    obtain ⟨v4, ev4, hf⟩ := nmv_e hf
    refine lv_nmi ev4 ?_
    refine lv_istore_n (lv' := [(3, .int v4), (2, .int r1), (0, .ref (ad 14 0)), (1, .int a1)]) hx hb dX12_toss_18 rfl hl (by decide) rfl (fun ls hl => ?_)
    refine lv_aload_n hx hb dX12_toss_19 rfl (lv_at hl 2 rfl) ?_
    refine gget E in_X12 hK hP (q_model ks ad σ) rfl (k := 17) (by decide) wd_5_77 rfl (v := .ref (ad 15 17)) rfl dX12_toss_20 ?_
    refine lv_iload_n hx hb dX12_toss_23 rfl (lv_at hl 3 rfl) ?_
    obtain ⟨c5, hf⟩ := ck_e hf
    refine giald E hK hP (q_M17 ks ad σ) c5 dX12_toss_24 ?_
    obtain ⟨v6, ev6, hf⟩ := nmv_e hf
    refine lv_nmi ev6 ?_
    refine lv_istore (lv' := [(4, .int v6), (3, .int v4), (2, .int r1), (0, .ref (ad 14 0)), (1, .int a1)]) hx hb dX12_toss_25 hl (by decide) rfl (fun ls hl => ?_)
    refine lv_iload_n hx hb dX12_toss_27 rfl (lv_at hl 1 rfl) ?_
    refine lv_iconst (v := 1) hx hb dX12_toss_28 (by decide) ?_
    refine lv_icmp_eq (tgt := 43) hx hb dX12_toss_29 (by decide) (fun c7 => ?_) (fun c7 => ?_)
    · replace hf := pos_e c7 hf
      refine lv_bipush (v := -15) hx hb dX12_toss_43 (by decide) ?_
      exact gret_i E hr hlk dX12_toss_45 (som_e hf).symm
    · replace hf := neg_e c7 hf
      refine lv_iload_n hx hb dX12_toss_32 rfl (lv_at hl 1 rfl) ?_
      refine lv_bipush (v := 7) hx hb dX12_toss_33 (by decide) ?_
      refine lv_icmp_eq (tgt := 43) hx hb dX12_toss_35 (by decide) (fun c8 => ?_) (fun c8 => ?_)
      · replace hf := pos_e c8 hf
        refine lv_bipush (v := -15) hx hb dX12_toss_43 (by decide) ?_
        exact gret_i E hr hlk dX12_toss_45 (som_e hf).symm
      · replace hf := neg_e c8 hf
        refine lv_iload hx hb dX12_toss_38 (lv_at hl 0 rfl) ?_
        refine lv_if_ne (tgt := 46) hx hb dX12_toss_40 (by decide) (fun c9 => ?_) (fun c9 => ?_)
        · replace hf := neg_e c9 hf
          refine lv_iload_n hx hb dX12_toss_46 rfl (lv_at hl 1 rfl) ?_
          refine lv_iconst (v := 3) hx hb dX12_toss_47 (by decide) ?_
          refine lv_icmp_ne (tgt := 64) hx hb dX12_toss_48 (by decide) (fun c10 => ?_) (fun c10 => ?_)
          · replace hf := neg_e c10 hf
            refine lv_iload_n hx hb dX12_toss_64 rfl (lv_at hl 1 rfl) ?_
            obtain ⟨r11, er11, hf⟩ := bd_e hf
            refine gSr_i E hK hP (cX12_isSoundingc _ er11) kS_X12_isSounding wd_6_31 rfl rfl rfl ⟨Nat.le_of_ble_eq_true rfl, Nat.le_of_ble_eq_true rfl⟩ ⟨Nat.zero_le _, Nat.zero_le _⟩ hl.1 (Nat.le_of_ble_eq_true rfl) rfl dX12_toss_65 ?_
            refine lv_if_eq (tgt := 79) hx hb dX12_toss_68 (by decide) (fun c12 => ?_) (fun c12 => ?_)
            · replace hf := pos_e c12 hf
              refine lv_iload hx hb dX12_toss_79 (lv_at hl 0 rfl) ?_
              exact gret_i E hr hlk dX12_toss_81 (som_e hf).symm
            · replace hf := neg_e c12 hf
              refine lv_bipush (v := 100) hx hb dX12_toss_71 (by decide) ?_
              refine lv_iload hx hb dX12_toss_73 (lv_at hl 0 rfl) ?_
              refine lv_iadd hx hb dX12_toss_75 ?_
              refine lv_goto (tgt := 81) hx hb dX12_toss_76 (by decide) ?_
              exact gret_i E hr hlk dX12_toss_81 (som_e hf).symm
          · replace hf := pos_e c10 hf
            refine lv_sipush (v := 200) hx hb dX12_toss_51 (by decide) ?_
            refine lv_iload_n hx hb dX12_toss_54 rfl (lv_at hl 1 rfl) ?_
            refine lv_iload hx hb dX12_toss_55 (lv_at hl 0 rfl) ?_
            obtain ⟨r13, er13, hf⟩ := bd_e hf
            refine gSr_i E hK hP (cX12_costByc _ _ er13) kS_X12_costBy wd_7_49 rfl rfl rfl ⟨Nat.le_of_ble_eq_true rfl, Nat.le_of_ble_eq_true rfl⟩ ⟨Nat.zero_le _, Nat.zero_le _⟩ hl.1 (Nat.le_of_ble_eq_true rfl) rfl dX12_toss_57 ?_
            refine lv_iadd hx hb dX12_toss_60 ?_
            refine lv_goto (tgt := 81) hx hb dX12_toss_61 (by decide) ?_
            exact gret_i E hr hlk dX12_toss_81 (som_e hf).symm
        · replace hf := pos_e c9 hf
          refine lv_bipush (v := -15) hx hb dX12_toss_43 (by decide) ?_
          exact gret_i E hr hlk dX12_toss_45 (som_e hf).symm
  · replace hf := neg_e c2 hf
    refine lv_iload_n hx hb dX12_toss_10 rfl (lv_at hl 0 rfl) ?_
    exact gret_i E hr hlk dX12_toss_11 (som_e hf).symm
