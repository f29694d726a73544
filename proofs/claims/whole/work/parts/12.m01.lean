noncomputable def fX3_hasBlade (σ : St) (h : Nat) (a1 : Int32) : Option (Int32) :=
  if a1 < 0 then
  some 0
  else
  if (gI σ 0 h 0) ≤ a1 then
  some 0
  else
  some 1
def rX3_hasBlade : Room := { frames := 0, cells := 0, slots := 0, locals := 0 }
set_option maxHeartbeats 4000000 in
set_option maxRecDepth 100000 in
theorem cX3_hasBladec {l : Launch} {dC : Nat → ClassId} {dI : Nat → Nat → Nat} {ks : Nat → ClassId} {ad : Nat → Nat → Nat} {σ : St} {h : Nat} (hh : h < 3) (a1 : Int32)  {out : Int32} (hf : fX3_hasBlade σ h a1 = some out) : MRi l dC dI ks ad σ yX3_hasBlade cX3_hasBlade 2 (some .boolean) rX3_hasBlade [.ref (ad 1 h), .int a1] out := by
  refine met_r (own := RX3) (by decide) rfl (Nat.le_of_ble_eq_true rfl) ?_
  intro p e s m args below meth c ls E hr hlk hP hK hl
  have hx := E.1
  have hb := E.2.1
  have hl : lv_has ls 2 [(0, .ref (ad 1 h)), (1, .int a1)] := hl
  unfold fX3_hasBlade at hf
  refine lv_iload_n hx hb dX3_hasBlade_0 rfl (lv_at hl 1 rfl) ?_
  refine lv_if_lt (tgt := 16) hx hb dX3_hasBlade_1 (by decide) (fun c1 => ?_) (fun c1 => ?_)
  · replace hf := pos_e c1 hf
    refine lv_iconst (v := 0) hx hb dX3_hasBlade_16 (by decide) ?_
    exact gret_z rfl E hr hlk dX3_hasBlade_17 (som_e hf).symm
  · replace hf := neg_e c1 hf
    refine lv_iload_n hx hb dX3_hasBlade_4 rfl (lv_at hl 1 rfl) ?_
    refine lv_aload_n hx hb dX3_hasBlade_5 rfl (lv_at hl 0 rfl) ?_
    refine gget E in_X3 hK hP (qh_0 ks ad σ hh) rfl (k := 0) (by decide) wd_1_72 rfl (v := .int (gI σ 0 h 0)) rfl dX3_hasBlade_6 ?_
    refine lv_icmp_ge (tgt := 16) hx hb dX3_hasBlade_9 (by decide) (fun c2 => ?_) (fun c2 => ?_)
    · replace hf := pos_e c2 hf
      refine lv_iconst (v := 0) hx hb dX3_hasBlade_16 (by decide) ?_
      exact gret_z rfl E hr hlk dX3_hasBlade_17 (som_e hf).symm
    · replace hf := neg_e c2 hf
      refine lv_iconst (v := 1) hx hb dX3_hasBlade_12 (by decide) ?_
      refine lv_goto (tgt := 17) hx hb dX3_hasBlade_13 (by decide) ?_
      exact gret_z rfl E hr hlk dX3_hasBlade_17 (som_e hf).symm
noncomputable def fX3_isSplit (σ : St) (h : Nat) (a1 : Int32) : Option (Int32) :=
  ck (vp_in a1 6) <|
  ck (vp_in a1 6) <|
  ck (vp_in a1 6) <|
  if (gI σ 4 h a1.toNatClampNeg) ≤ ((gI σ 2 h a1.toNatClampNeg) + (gI σ 3 h a1.toNatClampNeg)) then
  some 0
  else
  some 1
def rX3_isSplit : Room := { frames := 0, cells := 0, slots := 0, locals := 0 }
set_option maxHeartbeats 4000000 in
set_option maxRecDepth 100000 in
theorem cX3_isSplitc {l : Launch} {dC : Nat → ClassId} {dI : Nat → Nat → Nat} {ks : Nat → ClassId} {ad : Nat → Nat → Nat} {σ : St} {h : Nat} (hh : h < 3) (a1 : Int32)  {out : Int32} (hf : fX3_isSplit σ h a1 = some out) : MRi l dC dI ks ad σ yX3_isSplit cX3_isSplit 2 (some .boolean) rX3_isSplit [.ref (ad 1 h), .int a1] out := by
  refine met_r (own := RX3) (by decide) rfl (Nat.le_of_ble_eq_true rfl) ?_
  intro p e s m args below meth c ls E hr hlk hP hK hl
  have hx := E.1
  have hb := E.2.1
  have hl : lv_has ls 2 [(0, .ref (ad 1 h)), (1, .int a1)] := hl
  unfold fX3_isSplit at hf
  refine lv_aload_n hx hb dX3_isSplit_0 rfl (lv_at hl 0 rfl) ?_
  refine gget E in_X3 hK hP (qh_0 ks ad σ hh) rfl (k := 4) (by decide) wd_1_80 rfl (v := .ref (ad 5 h)) rfl dX3_isSplit_1 ?_
  refine lv_iload_n hx hb dX3_isSplit_4 rfl (lv_at hl 1 rfl) ?_
  obtain ⟨c1, hf⟩ := ck_e hf
  refine giald E hK hP (qh_4 ks ad σ hh) c1 dX3_isSplit_5 ?_
  refine lv_aload_n hx hb dX3_isSplit_6 rfl (lv_at hl 0 rfl) ?_
  refine gget E in_X3 hK hP (qh_0 ks ad σ hh) rfl (k := 2) (by decide) wd_1_76 rfl (v := .ref (ad 3 h)) rfl dX3_isSplit_7 ?_
  refine lv_iload_n hx hb dX3_isSplit_10 rfl (lv_at hl 1 rfl) ?_
  obtain ⟨c2, hf⟩ := ck_e hf
  refine giald E hK hP (qh_2 ks ad σ hh) c2 dX3_isSplit_11 ?_
  refine lv_aload_n hx hb dX3_isSplit_12 rfl (lv_at hl 0 rfl) ?_
  refine gget E in_X3 hK hP (qh_0 ks ad σ hh) rfl (k := 3) (by decide) wd_1_78 rfl (v := .ref (ad 4 h)) rfl dX3_isSplit_13 ?_
  refine lv_iload_n hx hb dX3_isSplit_16 rfl (lv_at hl 1 rfl) ?_
  obtain ⟨c3, hf⟩ := ck_e hf
  refine giald E hK hP (qh_3 ks ad σ hh) c3 dX3_isSplit_17 ?_
  refine lv_iadd hx hb dX3_isSplit_18 ?_
  refine lv_icmp_le (tgt := 26) hx hb dX3_isSplit_19 (by decide) (fun c4 => ?_) (fun c4 => ?_)
  · replace hf := pos_e c4 hf
    refine lv_iconst (v := 0) hx hb dX3_isSplit_26 (by decide) ?_
    exact gret_z rfl E hr hlk dX3_isSplit_27 (som_e hf).symm
  · replace hf := neg_e c4 hf
    refine lv_iconst (v := 1) hx hb dX3_isSplit_22 (by decide) ?_
    refine lv_goto (tgt := 27) hx hb dX3_isSplit_23 (by decide) ?_
    exact gret_z rfl E hr hlk dX3_isSplit_27 (som_e hf).symm
noncomputable def fX11_blade (σ : St) (a1 : Int32) (a2 : Int32) : Option (Int32) :=
  bd (fX3_hasBlade σ 0 a1) fun r1 =>
  if r1 = 0 then
  some (-1)
  else
  if a2 = 0 then
  ck (vp_in a1 6) <|
  some (gI σ 1 0 a1.toNatClampNeg)
  else
  if a2 = 1 then
  ck (vp_in a1 6) <|
  some (gI σ 2 0 a1.toNatClampNeg)
  else
  if a2 = 2 then
  ck (vp_in a1 6) <|
  some (gI σ 3 0 a1.toNatClampNeg)
  else
  if a2 = 3 then
  ck (vp_in a1 6) <|
  some (gI σ 4 0 a1.toNatClampNeg)
  else
  if a2 = 4 then
  bd (fX3_isSplit σ 0 a1) fun r12 =>
  if r12 = 0 then
  some 0
  else
  some 1
  else
  some (-1)
def rX11_blade : Room := { frames := 1, cells := 0, slots := 0, locals := 21 }
set_option maxHeartbeats 4000000 in
set_option maxRecDepth 100000 in
theorem cX11_bladec {l : Launch} {dC : Nat → ClassId} {dI : Nat → Nat → Nat} {ks : Nat → ClassId} {ad : Nat → Nat → Nat} {σ : St} (a1 : Int32) (a2 : Int32)  {out : Int32} (hf : fX11_blade σ a1 a2 = some out) : MRi l dC dI ks ad σ yX11_blade cX11_blade 3 (some .int) rX11_blade [.ref (ad 0 0), .int a1, .int a2] out := by
  refine met_r (own := RX11) (by decide) rfl (Nat.le_of_ble_eq_true rfl) ?_
  intro p e s m args below meth c ls E hr hlk hP hK hl
  have hx := E.1
  have hb := E.2.1
  have hl : lv_has ls 3 [(0, .ref (ad 0 0)), (1, .int a1), (2, .int a2)] := hl
  unfold fX11_blade at hf
  refine lv_aload_n hx hb dX11_blade_0 rfl (lv_at hl 0 rfl) ?_
  refine gget E in_X11 hK hP (q_main ks ad σ) rfl (k := 0) (by decide) wd_1_145 rfl (v := .ref (ad 1 0)) rfl dX11_blade_1 ?_
  refine lv_iload_n hx hb dX11_blade_4 rfl (lv_at hl 1 rfl) ?_
  obtain ⟨r1, er1, hf⟩ := bd_e hf
  refine gVr_i E hK hP (cX3_hasBladec (by decide : (0 : Nat) < 3) _ er1) kV_X3_hasBlade wd_2_144 rfl rfl (qh_0 ks ad σ (by decide : (0 : Nat) < 3)) rfl rfl rfl ⟨Nat.le_of_ble_eq_true rfl, Nat.le_of_ble_eq_true rfl⟩ ⟨Nat.zero_le _, Nat.zero_le _⟩ hl.1 (Nat.le_of_ble_eq_true rfl) rfl dX11_blade_5 ?_
  refine lv_if_ne (tgt := 13) hx hb dX11_blade_8 (by decide) (fun c2 => ?_) (fun c2 => ?_)
  · replace hf := neg_e c2 hf
    refine lv_iload_n hx hb dX11_blade_13 rfl (lv_at hl 2 rfl) ?_
    by_cases c3 : a2 = 0
    · replace hf := pos_e c3 hf
      refine lv_tableIn (tgt := 48) (off := 34) hx hb dX11_blade_14 (by rw [c3]; decide) (by rw [c3]; decide) (by rw [c3]; rfl) (by decide) ?_
      refine lv_aload_n hx hb dX11_blade_48 rfl (lv_at hl 0 rfl) ?_
      refine gget E in_X11 hK hP (q_main ks ad σ) rfl (k := 0) (by decide) wd_1_145 rfl (v := .ref (ad 1 0)) rfl dX11_blade_49 ?_
      refine gget E in_X3 hK hP (qh_0 ks ad σ (by decide : (0 : Nat) < 3)) rfl (k := 1) (by decide) wd_1_75 rfl (v := .ref (ad 2 0)) rfl dX11_blade_52 ?_
      refine lv_iload_n hx hb dX11_blade_55 rfl (lv_at hl 1 rfl) ?_
      obtain ⟨c8, hf⟩ := ck_e hf
      refine giald E hK hP (qh_1 ks ad σ (by decide : (0 : Nat) < 3)) c8 dX11_blade_56 ?_
      exact gret_i E hr hlk dX11_blade_57 (som_e hf).symm
    · replace hf := neg_e c3 hf
      by_cases c4 : a2 = 1
      · replace hf := pos_e c4 hf
        refine lv_tableIn (tgt := 58) (off := 44) hx hb dX11_blade_14 (by rw [c4]; decide) (by rw [c4]; decide) (by rw [c4]; rfl) (by decide) ?_
        refine lv_aload_n hx hb dX11_blade_58 rfl (lv_at hl 0 rfl) ?_
        refine gget E in_X11 hK hP (q_main ks ad σ) rfl (k := 0) (by decide) wd_1_145 rfl (v := .ref (ad 1 0)) rfl dX11_blade_59 ?_
        refine gget E in_X3 hK hP (qh_0 ks ad σ (by decide : (0 : Nat) < 3)) rfl (k := 2) (by decide) wd_1_77 rfl (v := .ref (ad 3 0)) rfl dX11_blade_62 ?_
        refine lv_iload_n hx hb dX11_blade_65 rfl (lv_at hl 1 rfl) ?_
        obtain ⟨c9, hf⟩ := ck_e hf
        refine giald E hK hP (qh_2 ks ad σ (by decide : (0 : Nat) < 3)) c9 dX11_blade_66 ?_
        exact gret_i E hr hlk dX11_blade_67 (som_e hf).symm
      · replace hf := neg_e c4 hf
        by_cases c5 : a2 = 2
        · replace hf := pos_e c5 hf
          refine lv_tableIn (tgt := 68) (off := 54) hx hb dX11_blade_14 (by rw [c5]; decide) (by rw [c5]; decide) (by rw [c5]; rfl) (by decide) ?_
          refine lv_aload_n hx hb dX11_blade_68 rfl (lv_at hl 0 rfl) ?_
          refine gget E in_X11 hK hP (q_main ks ad σ) rfl (k := 0) (by decide) wd_1_145 rfl (v := .ref (ad 1 0)) rfl dX11_blade_69 ?_
          refine gget E in_X3 hK hP (qh_0 ks ad σ (by decide : (0 : Nat) < 3)) rfl (k := 3) (by decide) wd_1_79 rfl (v := .ref (ad 4 0)) rfl dX11_blade_72 ?_
          refine lv_iload_n hx hb dX11_blade_75 rfl (lv_at hl 1 rfl) ?_
          obtain ⟨c10, hf⟩ := ck_e hf
          refine giald E hK hP (qh_3 ks ad σ (by decide : (0 : Nat) < 3)) c10 dX11_blade_76 ?_
          exact gret_i E hr hlk dX11_blade_77 (som_e hf).symm
        · replace hf := neg_e c5 hf
          by_cases c6 : a2 = 3
          · replace hf := pos_e c6 hf
            refine lv_tableIn (tgt := 78) (off := 64) hx hb dX11_blade_14 (by rw [c6]; decide) (by rw [c6]; decide) (by rw [c6]; rfl) (by decide) ?_
            refine lv_aload_n hx hb dX11_blade_78 rfl (lv_at hl 0 rfl) ?_
            refine gget E in_X11 hK hP (q_main ks ad σ) rfl (k := 0) (by decide) wd_1_145 rfl (v := .ref (ad 1 0)) rfl dX11_blade_79 ?_
            refine gget E in_X3 hK hP (qh_0 ks ad σ (by decide : (0 : Nat) < 3)) rfl (k := 4) (by decide) wd_1_81 rfl (v := .ref (ad 5 0)) rfl dX11_blade_82 ?_
            refine lv_iload_n hx hb dX11_blade_85 rfl (lv_at hl 1 rfl) ?_
            obtain ⟨c11, hf⟩ := ck_e hf
            refine giald E hK hP (qh_4 ks ad σ (by decide : (0 : Nat) < 3)) c11 dX11_blade_86 ?_
            exact gret_i E hr hlk dX11_blade_87 (som_e hf).symm
          · replace hf := neg_e c6 hf
            by_cases c7 : a2 = 4
            · replace hf := pos_e c7 hf
              refine lv_tableIn (tgt := 88) (off := 74) hx hb dX11_blade_14 (by rw [c7]; decide) (by rw [c7]; decide) (by rw [c7]; rfl) (by decide) ?_
              refine lv_aload_n hx hb dX11_blade_88 rfl (lv_at hl 0 rfl) ?_
              refine gget E in_X11 hK hP (q_main ks ad σ) rfl (k := 0) (by decide) wd_1_145 rfl (v := .ref (ad 1 0)) rfl dX11_blade_89 ?_
              refine lv_iload_n hx hb dX11_blade_92 rfl (lv_at hl 1 rfl) ?_
              obtain ⟨r12, er12, hf⟩ := bd_e hf
              refine gVr_i E hK hP (cX3_isSplitc (by decide : (0 : Nat) < 3) _ er12) kV_X3_isSplit wd_2_102 rfl rfl (qh_0 ks ad σ (by decide : (0 : Nat) < 3)) rfl rfl rfl ⟨Nat.le_of_ble_eq_true rfl, Nat.le_of_ble_eq_true rfl⟩ ⟨Nat.zero_le _, Nat.zero_le _⟩ hl.1 (Nat.le_of_ble_eq_true rfl) rfl dX11_blade_93 ?_
              refine lv_if_eq (tgt := 103) hx hb dX11_blade_96 (by decide) (fun c13 => ?_) (fun c13 => ?_)
              · replace hf := pos_e c13 hf
                refine lv_iconst (v := 0) hx hb dX11_blade_103 (by decide) ?_
                exact gret_i E hr hlk dX11_blade_104 (som_e hf).symm
              · replace hf := neg_e c13 hf
                refine lv_iconst (v := 1) hx hb dX11_blade_99 (by decide) ?_
                refine lv_goto (tgt := 104) hx hb dX11_blade_100 (by decide) ?_
                exact gret_i E hr hlk dX11_blade_104 (som_e hf).symm
            · replace hf := neg_e c7 hf
              refine lv_tableOut (tgt := 105) hx hb dX11_blade_14 (by have q0 := lv_neT c3 (a := 0) rfl; have q1 := lv_neT c4 (a := 1) rfl; have q2 := lv_neT c5 (a := 2) rfl; have q3 := lv_neT c6 (a := 3) rfl; have q4 := lv_neT c7 (a := 4) rfl; omega) (by decide) ?_
              refine lv_iconst (v := -1) hx hb dX11_blade_105 (by decide) ?_
              exact gret_i E hr hlk dX11_blade_106 (som_e hf).symm
  · replace hf := pos_e c2 hf
    refine lv_iconst (v := -1) hx hb dX11_blade_11 (by decide) ?_
    exact gret_i E hr hlk dX11_blade_12 (som_e hf).symm
noncomputable def fX3_hasThumbs (σ : St) (h : Nat) (a1 : Int32) : Option (Int32) :=
  if a1 < 0 then
  some 0
  else
  if (gI σ 0 h 5) ≤ a1 then
  some 0
  else
  some 1
def rX3_hasThumbs : Room := { frames := 0, cells := 0, slots := 0, locals := 0 }
set_option maxHeartbeats 4000000 in
set_option maxRecDepth 100000 in
theorem cX3_hasThumbsc {l : Launch} {dC : Nat → ClassId} {dI : Nat → Nat → Nat} {ks : Nat → ClassId} {ad : Nat → Nat → Nat} {σ : St} {h : Nat} (hh : h < 3) (a1 : Int32)  {out : Int32} (hf : fX3_hasThumbs σ h a1 = some out) : MRi l dC dI ks ad σ yX3_hasThumbs cX3_hasThumbs 2 (some .boolean) rX3_hasThumbs [.ref (ad 1 h), .int a1] out := by
  refine met_r (own := RX3) (by decide) rfl (Nat.le_of_ble_eq_true rfl) ?_
  intro p e s m args below meth c ls E hr hlk hP hK hl
  have hx := E.1
  have hb := E.2.1
  have hl : lv_has ls 2 [(0, .ref (ad 1 h)), (1, .int a1)] := hl
  unfold fX3_hasThumbs at hf
  refine lv_iload_n hx hb dX3_hasThumbs_0 rfl (lv_at hl 1 rfl) ?_
  refine lv_if_lt (tgt := 16) hx hb dX3_hasThumbs_1 (by decide) (fun c1 => ?_) (fun c1 => ?_)
  · replace hf := pos_e c1 hf
    refine lv_iconst (v := 0) hx hb dX3_hasThumbs_16 (by decide) ?_
    exact gret_z rfl E hr hlk dX3_hasThumbs_17 (som_e hf).symm
  · replace hf := neg_e c1 hf
    refine lv_iload_n hx hb dX3_hasThumbs_4 rfl (lv_at hl 1 rfl) ?_
    refine lv_aload_n hx hb dX3_hasThumbs_5 rfl (lv_at hl 0 rfl) ?_
    refine gget E in_X3 hK hP (qh_0 ks ad σ hh) rfl (k := 5) (by decide) wd_1_82 rfl (v := .int (gI σ 0 h 5)) rfl dX3_hasThumbs_6 ?_
    refine lv_icmp_ge (tgt := 16) hx hb dX3_hasThumbs_9 (by decide) (fun c2 => ?_) (fun c2 => ?_)
    · replace hf := pos_e c2 hf
      refine lv_iconst (v := 0) hx hb dX3_hasThumbs_16 (by decide) ?_
      exact gret_z rfl E hr hlk dX3_hasThumbs_17 (som_e hf).symm
    · replace hf := neg_e c2 hf
      refine lv_iconst (v := 1) hx hb dX3_hasThumbs_12 (by decide) ?_
      refine lv_goto (tgt := 17) hx hb dX3_hasThumbs_13 (by decide) ?_
      exact gret_z rfl E hr hlk dX3_hasThumbs_17 (som_e hf).symm
noncomputable def fX11_isOut (σ : St) (a1 : Int32) (a2 : Int32) (a3 : Int32) : Option (Int32) :=
  if a1 < a2 then
  some 1
  else
  if a1 ≤ a3 then
  some 0
  else
  some 1
def rX11_isOut : Room := { frames := 0, cells := 0, slots := 0, locals := 0 }
set_option maxHeartbeats 4000000 in
set_option maxRecDepth 100000 in
theorem cX11_isOutc {l : Launch} {dC : Nat → ClassId} {dI : Nat → Nat → Nat} {ks : Nat → ClassId} {ad : Nat → Nat → Nat} {σ : St} (a1 : Int32) (a2 : Int32) (a3 : Int32)  {out : Int32} (hf : fX11_isOut σ a1 a2 a3 = some out) : MRi l dC dI ks ad σ yX11_isOut cX11_isOut 3 (some .boolean) rX11_isOut [.int a1, .int a2, .int a3] out := by
  refine met_r (own := RX11) (by decide) rfl (Nat.le_of_ble_eq_true rfl) ?_
  intro p e s m args below meth c ls E hr hlk hP hK hl
  have hx := E.1
  have hb := E.2.1
  have hl : lv_has ls 3 [(0, .int a1), (1, .int a2), (2, .int a3)] := hl
  unfold fX11_isOut at hf
  refine lv_iload_n hx hb dX11_isOut_0 rfl (lv_at hl 0 rfl) ?_
  refine lv_iload_n hx hb dX11_isOut_1 rfl (lv_at hl 1 rfl) ?_
  refine lv_icmp_lt (tgt := 10) hx hb dX11_isOut_2 (by decide) (fun c1 => ?_) (fun c1 => ?_)
  · replace hf := pos_e c1 hf
    refine lv_iconst (v := 1) hx hb dX11_isOut_10 (by decide) ?_
    refine lv_goto (tgt := 15) hx hb dX11_isOut_11 (by decide) ?_
    exact gret_z rfl E hr hlk dX11_isOut_15 (som_e hf).symm
  · replace hf := neg_e c1 hf
    refine lv_iload_n hx hb dX11_isOut_5 rfl (lv_at hl 0 rfl) ?_
    refine lv_iload_n hx hb dX11_isOut_6 rfl (lv_at hl 2 rfl) ?_
    refine lv_icmp_le (tgt := 14) hx hb dX11_isOut_7 (by decide) (fun c2 => ?_) (fun c2 => ?_)
    · replace hf := pos_e c2 hf
      refine lv_iconst (v := 0) hx hb dX11_isOut_14 (by decide) ?_
      exact gret_z rfl E hr hlk dX11_isOut_15 (som_e hf).symm
    · replace hf := neg_e c2 hf
      refine lv_iconst (v := 1) hx hb dX11_isOut_10 (by decide) ?_
      refine lv_goto (tgt := 15) hx hb dX11_isOut_11 (by decide) ?_
      exact gret_z rfl E hr hlk dX11_isOut_15 (som_e hf).symm
noncomputable def fX11_thumbs (σ : St) (a1 : Int32) (a2 : Int32) : Option (Int32) :=
  bd (fX3_hasThumbs σ 0 a1) fun r1 =>
  if r1 = 0 then
  some (-1)
  else
  bd (fX11_isOut σ a2 0 1) fun r3 =>
  if r3 = 0 then
  if a2 = 0 then
  ck (vp_in a1 4) <|
  some (gI σ 5 0 a1.toNatClampNeg)
  else
  ck (vp_in a1 4) <|
  some (gI σ 6 0 a1.toNatClampNeg)
  else
  some (-1)
def rX11_thumbs : Room := { frames := 1, cells := 0, slots := 0, locals := 22 }
set_option maxHeartbeats 4000000 in
set_option maxRecDepth 100000 in
theorem cX11_thumbsc {l : Launch} {dC : Nat → ClassId} {dI : Nat → Nat → Nat} {ks : Nat → ClassId} {ad : Nat → Nat → Nat} {σ : St} (a1 : Int32) (a2 : Int32)  {out : Int32} (hf : fX11_thumbs σ a1 a2 = some out) : MRi l dC dI ks ad σ yX11_thumbs cX11_thumbs 3 (some .int) rX11_thumbs [.ref (ad 0 0), .int a1, .int a2] out := by
  refine met_r (own := RX11) (by decide) rfl (Nat.le_of_ble_eq_true rfl) ?_
  intro p e s m args below meth c ls E hr hlk hP hK hl
  have hx := E.1
  have hb := E.2.1
  have hl : lv_has ls 3 [(0, .ref (ad 0 0)), (1, .int a1), (2, .int a2)] := hl
  unfold fX11_thumbs at hf
  refine lv_aload_n hx hb dX11_thumbs_0 rfl (lv_at hl 0 rfl) ?_
  refine gget E in_X11 hK hP (q_main ks ad σ) rfl (k := 0) (by decide) wd_1_145 rfl (v := .ref (ad 1 0)) rfl dX11_thumbs_1 ?_
  refine lv_iload_n hx hb dX11_thumbs_4 rfl (lv_at hl 1 rfl) ?_
  obtain ⟨r1, er1, hf⟩ := bd_e hf
  refine gVr_i E hK hP (cX3_hasThumbsc (by decide : (0 : Nat) < 3) _ er1) kV_X3_hasThumbs wd_2_149 rfl rfl (qh_0 ks ad σ (by decide : (0 : Nat) < 3)) rfl rfl rfl ⟨Nat.le_of_ble_eq_true rfl, Nat.le_of_ble_eq_true rfl⟩ ⟨Nat.zero_le _, Nat.zero_le _⟩ hl.1 (Nat.le_of_ble_eq_true rfl) rfl dX11_thumbs_5 ?_
  refine lv_if_eq (tgt := 20) hx hb dX11_thumbs_8 (by decide) (fun c2 => ?_) (fun c2 => ?_)
  · replace hf := pos_e c2 hf
    refine lv_iconst (v := -1) hx hb dX11_thumbs_20 (by decide) ?_
    exact gret_i E hr hlk dX11_thumbs_21 (som_e hf).symm
  · replace hf := neg_e c2 hf
    refine lv_iload_n hx hb dX11_thumbs_11 rfl (lv_at hl 2 rfl) ?_
    refine lv_iconst (v := 0) hx hb dX11_thumbs_12 (by decide) ?_
    refine lv_iconst (v := 1) hx hb dX11_thumbs_13 (by decide) ?_
    obtain ⟨r3, er3, hf⟩ := bd_e hf
    refine gSr_i E hK hP (cX11_isOutc _ _ _ er3) kS_X11_isOut wd_1_178 rfl rfl rfl ⟨Nat.le_of_ble_eq_true rfl, Nat.le_of_ble_eq_true rfl⟩ ⟨Nat.zero_le _, Nat.zero_le _⟩ hl.1 (Nat.le_of_ble_eq_true rfl) rfl dX11_thumbs_14 ?_
    refine lv_if_eq (tgt := 22) hx hb dX11_thumbs_17 (by decide) (fun c4 => ?_) (fun c4 => ?_)
    · replace hf := pos_e c4 hf
      refine lv_iload_n hx hb dX11_thumbs_22 rfl (lv_at hl 2 rfl) ?_
      refine lv_if_ne (tgt := 38) hx hb dX11_thumbs_23 (by decide) (fun c5 => ?_) (fun c5 => ?_)
      · replace hf := neg_e c5 hf
        refine lv_aload_n hx hb dX11_thumbs_38 rfl (lv_at hl 0 rfl) ?_
        refine gget E in_X11 hK hP (q_main ks ad σ) rfl (k := 0) (by decide) wd_1_145 rfl (v := .ref (ad 1 0)) rfl dX11_thumbs_39 ?_
        refine gget E in_X3 hK hP (qh_0 ks ad σ (by decide : (0 : Nat) < 3)) rfl (k := 7) (by decide) wd_1_87 rfl (v := .ref (ad 7 0)) rfl dX11_thumbs_42 ?_
        refine lv_iload_n hx hb dX11_thumbs_45 rfl (lv_at hl 1 rfl) ?_
        obtain ⟨c6, hf⟩ := ck_e hf
        refine giald E hK hP (qh_6 ks ad σ (by decide : (0 : Nat) < 3)) c6 dX11_thumbs_46 ?_
        exact gret_i E hr hlk dX11_thumbs_47 (som_e hf).symm
      · replace hf := pos_e c5 hf
        refine lv_aload_n hx hb dX11_thumbs_26 rfl (lv_at hl 0 rfl) ?_
        refine gget E in_X11 hK hP (q_main ks ad σ) rfl (k := 0) (by decide) wd_1_145 rfl (v := .ref (ad 1 0)) rfl dX11_thumbs_27 ?_
        refine gget E in_X3 hK hP (qh_0 ks ad σ (by decide : (0 : Nat) < 3)) rfl (k := 6) (by decide) wd_1_85 rfl (v := .ref (ad 6 0)) rfl dX11_thumbs_30 ?_
        refine lv_iload_n hx hb dX11_thumbs_33 rfl (lv_at hl 1 rfl) ?_
        obtain ⟨c7, hf⟩ := ck_e hf
        refine giald E hK hP (qh_5 ks ad σ (by decide : (0 : Nat) < 3)) c7 dX11_thumbs_34 ?_
        refine lv_goto (tgt := 47) hx hb dX11_thumbs_35 (by decide) ?_
        exact gret_i E hr hlk dX11_thumbs_47 (som_e hf).symm
    · replace hf := neg_e c4 hf
      refine lv_iconst (v := -1) hx hb dX11_thumbs_20 (by decide) ?_
      exact gret_i E hr hlk dX11_thumbs_21 (som_e hf).symm
noncomputable def fX3_hasBlow (σ : St) (h : Nat) (a1 : Int32) : Option (Int32) :=
  if a1 < 0 then
  some 0
  else
  if (gI σ 0 h 8) ≤ a1 then
  some 0
  else
  some 1
def rX3_hasBlow : Room := { frames := 0, cells := 0, slots := 0, locals := 0 }
set_option maxHeartbeats 4000000 in
set_option maxRecDepth 100000 in
theorem cX3_hasBlowc {l : Launch} {dC : Nat → ClassId} {dI : Nat → Nat → Nat} {ks : Nat → ClassId} {ad : Nat → Nat → Nat} {σ : St} {h : Nat} (hh : h < 3) (a1 : Int32)  {out : Int32} (hf : fX3_hasBlow σ h a1 = some out) : MRi l dC dI ks ad σ yX3_hasBlow cX3_hasBlow 2 (some .boolean) rX3_hasBlow [.ref (ad 1 h), .int a1] out := by
  refine met_r (own := RX3) (by decide) rfl (Nat.le_of_ble_eq_true rfl) ?_
  intro p e s m args below meth c ls E hr hlk hP hK hl
  have hx := E.1
  have hb := E.2.1
  have hl : lv_has ls 2 [(0, .ref (ad 1 h)), (1, .int a1)] := hl
  unfold fX3_hasBlow at hf
  refine lv_iload_n hx hb dX3_hasBlow_0 rfl (lv_at hl 1 rfl) ?_
  refine lv_if_lt (tgt := 16) hx hb dX3_hasBlow_1 (by decide) (fun c1 => ?_) (fun c1 => ?_)
  · replace hf := pos_e c1 hf
    refine lv_iconst (v := 0) hx hb dX3_hasBlow_16 (by decide) ?_
    exact gret_z rfl E hr hlk dX3_hasBlow_17 (som_e hf).symm
  · replace hf := neg_e c1 hf
    refine lv_iload_n hx hb dX3_hasBlow_4 rfl (lv_at hl 1 rfl) ?_
    refine lv_aload_n hx hb dX3_hasBlow_5 rfl (lv_at hl 0 rfl) ?_
    refine gget E in_X3 hK hP (qh_0 ks ad σ hh) rfl (k := 8) (by decide) wd_1_88 rfl (v := .int (gI σ 0 h 8)) rfl dX3_hasBlow_6 ?_
    refine lv_icmp_ge (tgt := 16) hx hb dX3_hasBlow_9 (by decide) (fun c2 => ?_) (fun c2 => ?_)
    · replace hf := pos_e c2 hf
      refine lv_iconst (v := 0) hx hb dX3_hasBlow_16 (by decide) ?_
      exact gret_z rfl E hr hlk dX3_hasBlow_17 (som_e hf).symm
    · replace hf := neg_e c2 hf
      refine lv_iconst (v := 1) hx hb dX3_hasBlow_12 (by decide) ?_
      refine lv_goto (tgt := 17) hx hb dX3_hasBlow_13 (by decide) ?_
      exact gret_z rfl E hr hlk dX3_hasBlow_17 (som_e hf).symm
noncomputable def fX0_wearBy (σ : St) (j : Nat) (a1 : Int32) : Option (Int32) :=
  some (a1 / 10)
def rX0_wearBy : Room := { frames := 0, cells := 0, slots := 0, locals := 0 }
set_option maxHeartbeats 4000000 in
set_option maxRecDepth 100000 in
theorem cX0_wearByc {l : Launch} {dC : Nat → ClassId} {dI : Nat → Nat → Nat} {ks : Nat → ClassId} {ad : Nat → Nat → Nat} {σ : St} {j : Nat} (hj : j < gS σ 2 0 ∧ okc (gS σ 1 j)) (a1 : Int32)  {out : Int32} (hf : fX0_wearBy σ j a1 = some out) : MRi l dC dI ks ad σ yX0_wearBy cX0_wearBy 2 (some .int) rX0_wearBy [.ref (ad 16 j), .int a1] out := by
  refine met_r (own := RX0) (by decide) rfl (Nat.le_of_ble_eq_true rfl) ?_
  intro p e s m args below meth c ls E hr hlk hP hK hl
  have hx := E.1
  have hb := E.2.1
  have hl : lv_has ls 2 [(0, .ref (ad 16 j)), (1, .int a1)] := hl
  unfold fX0_wearBy at hf
  refine lv_iload_n hx hb dX0_wearBy_0 rfl (lv_at hl 1 rfl) ?_
  refine lv_bipush (v := 10) hx hb dX0_wearBy_1 (by decide) ?_
  refine lv_idiv hx hb dX0_wearBy_3 (by decide) ?_
  exact gret_i E hr hlk dX0_wearBy_4 (som_e hf).symm
noncomputable def fX8_wearBy (σ : St) (j : Nat) (a1 : Int32) : Option (Int32) :=
  bd (fX0_wearBy σ j a1) fun r1 =>
  some (r1 + 1)
def rX8_wearBy : Room := { frames := 1, cells := 0, slots := 0, locals := 21 }
set_option maxHeartbeats 4000000 in
set_option maxRecDepth 100000 in
theorem cX8_wearByc {l : Launch} {dC : Nat → ClassId} {dI : Nat → Nat → Nat} {ks : Nat → ClassId} {ad : Nat → Nat → Nat} {σ : St} {j : Nat} (hj : j < gS σ 2 0 ∧ okc (gS σ 1 j)) (a1 : Int32)  {out : Int32} (hf : fX8_wearBy σ j a1 = some out) : MRi l dC dI ks ad σ yX8_wearBy cX8_wearBy 2 (some .int) rX8_wearBy [.ref (ad 16 j), .int a1] out := by
  refine met_r (own := RX8) (by decide) rfl (Nat.le_of_ble_eq_true rfl) ?_
  intro p e s m args below meth c ls E hr hlk hP hK hl
  have hx := E.1
  have hb := E.2.1
  have hl : lv_has ls 2 [(0, .ref (ad 16 j)), (1, .int a1)] := hl
  unfold fX8_wearBy at hf
  refine lv_aload_n hx hb dX8_wearBy_0 rfl (lv_at hl 0 rfl) ?_
  refine lv_iload_n hx hb dX8_wearBy_1 rfl (lv_at hl 1 rfl) ?_
  obtain ⟨r1, er1, hf⟩ := bd_e hf
  refine gPb E hK hP hj (cX0_wearByc hj _ er1) kP_X0_wearBy wd_2_113 wd_2_109 wd_2_32 rfl rfl rfl ⟨Nat.le_of_ble_eq_true rfl, Nat.le_of_ble_eq_true rfl⟩ ⟨Nat.zero_le _, Nat.zero_le _⟩ hl.1 (Nat.le_of_ble_eq_true rfl) rfl dX8_wearBy_2 ?_
  refine lv_iconst (v := 1) hx hb dX8_wearBy_5 (by decide) ?_
  refine lv_iadd hx hb dX8_wearBy_6 ?_
  exact gret_i E hr hlk dX8_wearBy_7 (som_e hf).symm
noncomputable def fX5_wearBy (σ : St) (j : Nat) (a1 : Int32) : Option (Int32) :=
  bd (fX8_wearBy σ j a1) fun r1 =>
  some (2 * r1)
def rX5_wearBy : Room := { frames := 2, cells := 0, slots := 0, locals := 42 }
set_option maxHeartbeats 4000000 in
set_option maxRecDepth 100000 in
theorem cX5_wearByc {l : Launch} {dC : Nat → ClassId} {dI : Nat → Nat → Nat} {ks : Nat → ClassId} {ad : Nat → Nat → Nat} {σ : St} {j : Nat} (hj : j < gS σ 2 0 ∧ okc (gS σ 1 j)) (a1 : Int32)  {out : Int32} (hf : fX5_wearBy σ j a1 = some out) : MRi l dC dI ks ad σ yX5_wearBy cX5_wearBy 2 (some .int) rX5_wearBy [.ref (ad 16 j), .int a1] out := by
  refine met_r (own := RX5) (by decide) rfl (Nat.le_of_ble_eq_true rfl) ?_
  intro p e s m args below meth c ls E hr hlk hP hK hl
  have hx := E.1
  have hb := E.2.1
  have hl : lv_has ls 2 [(0, .ref (ad 16 j)), (1, .int a1)] := hl
  unfold fX5_wearBy at hf
  refine lv_iconst (v := 2) hx hb dX5_wearBy_0 (by decide) ?_
  refine lv_aload_n hx hb dX5_wearBy_1 rfl (lv_at hl 0 rfl) ?_
  refine lv_iload_n hx hb dX5_wearBy_2 rfl (lv_at hl 1 rfl) ?_
  obtain ⟨r1, er1, hf⟩ := bd_e hf
  refine gPb E hK hP hj (cX8_wearByc hj _ er1) kP_X8_wearBy wd_2_118 wd_7_56 wd_2_41 rfl rfl rfl ⟨Nat.le_of_ble_eq_true rfl, Nat.le_of_ble_eq_true rfl⟩ ⟨Nat.zero_le _, Nat.zero_le _⟩ hl.1 (Nat.le_of_ble_eq_true rfl) rfl dX5_wearBy_3 ?_
  refine lv_imul hx hb dX5_wearBy_6 ?_
  exact gret_i E hr hlk dX5_wearBy_7 (som_e hf).symm
noncomputable def fX6_wearBy (σ : St) (j : Nat) (a1 : Int32) : Option (Int32) :=
  bd (fX0_wearBy σ j a1) fun r1 =>
  some (r1 + 1)
def rX6_wearBy : Room := { frames := 1, cells := 0, slots := 0, locals := 21 }
set_option maxHeartbeats 4000000 in
set_option maxRecDepth 100000 in
theorem cX6_wearByc {l : Launch} {dC : Nat → ClassId} {dI : Nat → Nat → Nat} {ks : Nat → ClassId} {ad : Nat → Nat → Nat} {σ : St} {j : Nat} (hj : j < gS σ 2 0 ∧ okc (gS σ 1 j)) (a1 : Int32)  {out : Int32} (hf : fX6_wearBy σ j a1 = some out) : MRi l dC dI ks ad σ yX6_wearBy cX6_wearBy 2 (some .int) rX6_wearBy [.ref (ad 16 j), .int a1] out := by
  refine met_r (own := RX6) (by decide) rfl (Nat.le_of_ble_eq_true rfl) ?_
  intro p e s m args below meth c ls E hr hlk hP hK hl
  have hx := E.1
  have hb := E.2.1
  have hl : lv_has ls 2 [(0, .ref (ad 16 j)), (1, .int a1)] := hl
  unfold fX6_wearBy at hf
  refine lv_aload_n hx hb dX6_wearBy_0 rfl (lv_at hl 0 rfl) ?_
  refine lv_iload_n hx hb dX6_wearBy_1 rfl (lv_at hl 1 rfl) ?_
  obtain ⟨r1, er1, hf⟩ := bd_e hf
  refine gPd (owner := RX0) E hK hP hj (cX0_wearByc hj _ er1) kP_X0_wearBy (x := ⟨"BladeBetweenThumbs$Empty", "wearBy", "(I)I"⟩) rfl wd_2_122 wd_2_123 wd_2_77 (Or.inl wd_2_23) rfl rfl rfl ⟨Nat.le_of_ble_eq_true rfl, Nat.le_of_ble_eq_true rfl⟩ ⟨Nat.zero_le _, Nat.zero_le _⟩ hl.1 (Nat.le_of_ble_eq_true rfl) rfl dX6_wearBy_2 ?_
  refine lv_iconst (v := 1) hx hb dX6_wearBy_5 (by decide) ?_
  refine lv_iadd hx hb dX6_wearBy_6 ?_
  exact gret_i E hr hlk dX6_wearBy_7 (som_e hf).symm
noncomputable def fX7_wearBy (σ : St) (j : Nat) (a1 : Int32) : Option (Int32) :=
  some 0
def rX7_wearBy : Room := { frames := 0, cells := 0, slots := 0, locals := 0 }
set_option maxHeartbeats 4000000 in
set_option maxRecDepth 100000 in
theorem cX7_wearByc {l : Launch} {dC : Nat → ClassId} {dI : Nat → Nat → Nat} {ks : Nat → ClassId} {ad : Nat → Nat → Nat} {σ : St} {j : Nat} (hj : j < gS σ 2 0 ∧ okc (gS σ 1 j)) (a1 : Int32)  {out : Int32} (hf : fX7_wearBy σ j a1 = some out) : MRi l dC dI ks ad σ yX7_wearBy cX7_wearBy 2 (some .int) rX7_wearBy [.ref (ad 16 j), .int a1] out := by
  refine met_r (own := RX7) (by decide) rfl (Nat.le_of_ble_eq_true rfl) ?_
  intro p e s m args below meth c ls E hr hlk hP hK hl
  have hx := E.1
  have hb := E.2.1
  have hl : lv_has ls 2 [(0, .ref (ad 16 j)), (1, .int a1)] := hl
  unfold fX7_wearBy at hf
  refine lv_iconst (v := 0) hx hb dX7_wearBy_0 (by decide) ?_
  exact gret_i E hr hlk dX7_wearBy_1 (som_e hf).symm
noncomputable def fX10_wearBy (σ : St) (j : Nat) (a1 : Int32) : Option (Int32) :=
  bd (fX0_wearBy σ j a1) fun r1 =>
  some (r1 + (gI σ 14 0 j))
def rX10_wearBy : Room := { frames := 1, cells := 0, slots := 0, locals := 21 }
set_option maxHeartbeats 4000000 in
set_option maxRecDepth 100000 in
theorem cX10_wearByc {l : Launch} {dC : Nat → ClassId} {dI : Nat → Nat → Nat} {ks : Nat → ClassId} {ad : Nat → Nat → Nat} {σ : St} {j : Nat} (hj : j < gS σ 2 0 ∧ okc (gS σ 1 j)) (a1 : Int32)  {out : Int32} (hf : fX10_wearBy σ j a1 = some out) : MRi l dC dI ks ad σ yX10_wearBy cX10_wearBy 2 (some .int) rX10_wearBy [.ref (ad 16 j), .int a1] out := by
  refine met_r (own := RX10) (by decide) rfl (Nat.le_of_ble_eq_true rfl) ?_
  intro p e s m args below meth c ls E hr hlk hP hK hl
  have hx := E.1
  have hb := E.2.1
  have hl : lv_has ls 2 [(0, .ref (ad 16 j)), (1, .int a1)] := hl
  unfold fX10_wearBy at hf
  refine lv_aload_n hx hb dX10_wearBy_0 rfl (lv_at hl 0 rfl) ?_
  refine lv_iload_n hx hb dX10_wearBy_1 rfl (lv_at hl 1 rfl) ?_
  obtain ⟨r1, er1, hf⟩ := bd_e hf
  refine gPb E hK hP hj (cX0_wearByc hj _ er1) kP_X0_wearBy wd_2_132 wd_2_109 wd_2_50 rfl rfl rfl ⟨Nat.le_of_ble_eq_true rfl, Nat.le_of_ble_eq_true rfl⟩ ⟨Nat.zero_le _, Nat.zero_le _⟩ hl.1 (Nat.le_of_ble_eq_true rfl) rfl dX10_wearBy_2 ?_
  refine lv_aload_n hx hb dX10_wearBy_5 rfl (lv_at hl 0 rfl) ?_
  refine gfig E hK hP hj wd_2_1 (Or.inr wd_2_2) dX10_wearBy_6 ?_
  refine lv_iadd hx hb dX10_wearBy_9 ?_
  exact gret_i E hr hlk dX10_wearBy_10 (som_e hf).symm
noncomputable def fvwearBy (σ : St) (j : Nat) (a1 : Int32) : Option Int32 := if gS σ 1 j = 0 then fX0_wearBy σ j a1 else if gS σ 1 j = 1 then fX8_wearBy σ j a1 else if gS σ 1 j = 2 then fX0_wearBy σ j a1 else if gS σ 1 j = 5 then fX5_wearBy σ j a1 else if gS σ 1 j = 6 then fX6_wearBy σ j a1 else if gS σ 1 j = 7 then fX7_wearBy σ j a1 else if gS σ 1 j = 8 then fX8_wearBy σ j a1 else if gS σ 1 j = 10 then fX10_wearBy σ j a1 else none
set_option maxHeartbeats 4000000 in
theorem vwearBy {p : Program} {l : Launch} {e : Env} {R : Room} {s : State} {m : MethodId} {args : Array Value} {below : List Frame} {meth : Method} {c : Code} {H : Heap} {locs : List Loc} {cells slots : Nat} {Q : State → Prop} {cc : ByteArray} {pc nL index j : Nat} {ls : Array Slot} {rest st : List Value} {own : String} {dC : Nat → ClassId} {dI : Nat → Nat → Nat} {ks : Nat → ClassId} {ad : Nat → Nat → Nat} {σ : St} {a1 : Int32} {out : Int32} (E : CallFix p m c cc nL s args tT own) (hK : gK dC dI ks s) (hP : va_P (dC, dI) vwCl (wG ks ad σ) H) (hj : j < gS σ 2 0 ∧ okc (gS σ 1 j)) (hf : fvwearBy σ j a1 = some out) (h1 : Cond.methodLink own index yX0_wearBy ∈ tT) (hR : 3 ≤ R.frames ∧ 63 ≤ R.locals) (hz : cells ≤ R.cells ∧ slots ≤ R.slots) (hls : ls.size = nL) (hW : (rest.map fun v => v.category).sum ≤ 8) (hst : st = .int a1 :: .ref (ad 16 j) :: rest) (hdg : decode cc pc = .ok (.invokevirtual index, 3)) (kk : W p l e R s m args below meth c H locs cells slots Q (F0 m (pc + 3) ls (.int out :: rest))) : W p l e R s m args below meth c H locs cells slots Q (F0 m pc ls st) := by
  have he := q_blow ks ad σ hj.1
  rcases hj.2 with h | h | h | h | h | h | h | h <;> rw [h] at he
  · exact gVr_i E hK hP (cX0_wearByc hj _ (by simpa [fvwearBy, h] using hf)) kV_X0_wearBy h1 rfl rfl he (ci := 0) rfl rfl rfl ⟨Nat.le_trans (Nat.le_of_ble_eq_true rfl) hR.1, Nat.le_trans (Nat.le_of_ble_eq_true rfl) hR.2⟩ hz hls hW hst hdg kk
  · exact gOr_i E hK hP (cX8_wearByc hj _ (by simpa [fvwearBy, h] using hf)) kU_wearBy_1 h1 rfl rfl he (ci := 1) rfl rfl rfl ⟨Nat.le_trans (Nat.le_of_ble_eq_true rfl) hR.1, Nat.le_trans (Nat.le_of_ble_eq_true rfl) hR.2⟩ hz hls hW hst hdg kk
  · exact gUr_i E hK hP (cX0_wearByc hj _ (by simpa [fvwearBy, h] using hf)) kU_wearBy_2 h1 rfl rfl he (ci := 2) rfl rfl rfl ⟨Nat.le_trans (Nat.le_of_ble_eq_true rfl) hR.1, Nat.le_trans (Nat.le_of_ble_eq_true rfl) hR.2⟩ hz hls hW hst hdg kk
  · exact gOr_i E hK hP (cX5_wearByc hj _ (by simpa [fvwearBy, h] using hf)) kU_wearBy_5 h1 rfl rfl he (ci := 5) rfl rfl rfl ⟨Nat.le_trans (Nat.le_of_ble_eq_true rfl) hR.1, Nat.le_trans (Nat.le_of_ble_eq_true rfl) hR.2⟩ hz hls hW hst hdg kk
  · exact gOr_i E hK hP (cX6_wearByc hj _ (by simpa [fvwearBy, h] using hf)) kU_wearBy_6 h1 rfl rfl he (ci := 6) rfl rfl rfl ⟨Nat.le_trans (Nat.le_of_ble_eq_true rfl) hR.1, Nat.le_trans (Nat.le_of_ble_eq_true rfl) hR.2⟩ hz hls hW hst hdg kk
  · exact gOr_i E hK hP (cX7_wearByc hj _ (by simpa [fvwearBy, h] using hf)) kU_wearBy_7 h1 rfl rfl he (ci := 7) rfl rfl rfl ⟨Nat.le_trans (Nat.le_of_ble_eq_true rfl) hR.1, Nat.le_trans (Nat.le_of_ble_eq_true rfl) hR.2⟩ hz hls hW hst hdg kk
  · exact gOr_i E hK hP (cX8_wearByc hj _ (by simpa [fvwearBy, h] using hf)) kU_wearBy_8 h1 rfl rfl he (ci := 8) rfl rfl rfl ⟨Nat.le_trans (Nat.le_of_ble_eq_true rfl) hR.1, Nat.le_trans (Nat.le_of_ble_eq_true rfl) hR.2⟩ hz hls hW hst hdg kk
  · exact gOr_i E hK hP (cX10_wearByc hj _ (by simpa [fvwearBy, h] using hf)) kU_wearBy_10 h1 rfl rfl he (ci := 10) rfl rfl rfl ⟨Nat.le_trans (Nat.le_of_ble_eq_true rfl) hR.1, Nat.le_trans (Nat.le_of_ble_eq_true rfl) hR.2⟩ hz hls hW hst hdg kk
noncomputable def fX11_blow (σ : St) (a1 : Int32) (a2 : Int32) : Option (Int32) :=
  bd (fX3_hasBlow σ 0 a1) fun r1 =>
  if r1 = 0 then
  some (-1)
  else
  if a2 = 0 then
  ck (vp_in a1 6) <|
  bd (gR σ 0 0 a1.toNatClampNeg) fun j7 =>
  ck (j7 < gS σ 2 0 ∧ okc (gS σ 1 j7)) <|
  some (gI σ 13 0 j7)
  else
  if a2 = 1 then
  ck (vp_in a1 6) <|
  bd (gR σ 0 0 a1.toNatClampNeg) fun j9 =>
  ck (j9 < gS σ 2 0 ∧ okc (gS σ 1 j9)) <|
  some (gI σ 14 0 j9)
  else
  if a2 = 2 then
  ck (vp_in a1 6) <|
  bd (gR σ 0 0 a1.toNatClampNeg) fun j11 =>
  ck (j11 < gS σ 2 0 ∧ okc (gS σ 1 j11)) <|
  bd (fvwearBy σ j11 30) fun r12 =>
  some r12
  else
  some (-1)
def rX11_blow : Room := { frames := 3, cells := 0, slots := 0, locals := 63 }
set_option maxHeartbeats 4000000 in
set_option maxRecDepth 100000 in
theorem cX11_blowc {l : Launch} {dC : Nat → ClassId} {dI : Nat → Nat → Nat} {ks : Nat → ClassId} {ad : Nat → Nat → Nat} {σ : St} (a1 : Int32) (a2 : Int32)  {out : Int32} (hf : fX11_blow σ a1 a2 = some out) : MRi l dC dI ks ad σ yX11_blow cX11_blow 3 (some .int) rX11_blow [.ref (ad 0 0), .int a1, .int a2] out := by
  refine met_r (own := RX11) (by decide) rfl (Nat.le_of_ble_eq_true rfl) ?_
  intro p e s m args below meth c ls E hr hlk hP hK hl
  have hx := E.1
  have hb := E.2.1
  have hl : lv_has ls 3 [(0, .ref (ad 0 0)), (1, .int a1), (2, .int a2)] := hl
  unfold fX11_blow at hf
  refine lv_aload_n hx hb dX11_blow_0 rfl (lv_at hl 0 rfl) ?_
  refine gget E in_X11 hK hP (q_main ks ad σ) rfl (k := 0) (by decide) wd_1_145 rfl (v := .ref (ad 1 0)) rfl dX11_blow_1 ?_
  refine lv_iload_n hx hb dX11_blow_4 rfl (lv_at hl 1 rfl) ?_
  obtain ⟨r1, er1, hf⟩ := bd_e hf
  refine gVr_i E hK hP (cX3_hasBlowc (by decide : (0 : Nat) < 3) _ er1) kV_X3_hasBlow wd_2_154 rfl rfl (qh_0 ks ad σ (by decide : (0 : Nat) < 3)) rfl rfl rfl ⟨Nat.le_of_ble_eq_true rfl, Nat.le_of_ble_eq_true rfl⟩ ⟨Nat.zero_le _, Nat.zero_le _⟩ hl.1 (Nat.le_of_ble_eq_true rfl) rfl dX11_blow_5 ?_
  refine lv_if_ne (tgt := 13) hx hb dX11_blow_8 (by decide) (fun c2 => ?_) (fun c2 => ?_)
  · replace hf := neg_e c2 hf
    refine lv_iload_n hx hb dX11_blow_13 rfl (lv_at hl 2 rfl) ?_
    by_cases c3 : a2 = 0
    · replace hf := pos_e c3 hf
      refine lv_tableIn (tgt := 40) (off := 26) hx hb dX11_blow_14 (by rw [c3]; decide) (by rw [c3]; decide) (by rw [c3]; rfl) (by decide) ?_
      refine lv_aload_n hx hb dX11_blow_40 rfl (lv_at hl 0 rfl) ?_
      refine gget E in_X11 hK hP (q_main ks ad σ) rfl (k := 0) (by decide) wd_1_145 rfl (v := .ref (ad 1 0)) rfl dX11_blow_41 ?_
      refine gget E in_X3 hK hP (qh_0 ks ad σ (by decide : (0 : Nat) < 3)) rfl (k := 9) (by decide) wd_1_91 rfl (v := .ref (ad 8 0)) rfl dX11_blow_44 ?_
      refine lv_iload_n hx hb dX11_blow_47 rfl (lv_at hl 1 rfl) ?_
      obtain ⟨c6, hf⟩ := ck_e hf
      refine gaaldB (by decide : (0 : Nat) < 3) E hK hP c6 dX11_blow_48 ?_
      obtain ⟨j7, ej7, hf⟩ := bd_e hf
      obtain ⟨hj7, hf⟩ := ck_e hf
      refine lv_nmo ej7 ?_
      refine gkind E hK hP hj7 wd_1_239 dX11_blow_49 ?_
      exact gret_i E hr hlk dX11_blow_52 (som_e hf).symm
    · replace hf := neg_e c3 hf
      by_cases c4 : a2 = 1
      · replace hf := pos_e c4 hf
        refine lv_tableIn (tgt := 53) (off := 39) hx hb dX11_blow_14 (by rw [c4]; decide) (by rw [c4]; decide) (by rw [c4]; rfl) (by decide) ?_
        refine lv_aload_n hx hb dX11_blow_53 rfl (lv_at hl 0 rfl) ?_
        refine gget E in_X11 hK hP (q_main ks ad σ) rfl (k := 0) (by decide) wd_1_145 rfl (v := .ref (ad 1 0)) rfl dX11_blow_54 ?_
        refine gget E in_X3 hK hP (qh_0 ks ad σ (by decide : (0 : Nat) < 3)) rfl (k := 9) (by decide) wd_1_91 rfl (v := .ref (ad 8 0)) rfl dX11_blow_57 ?_
        refine lv_iload_n hx hb dX11_blow_60 rfl (lv_at hl 1 rfl) ?_
        obtain ⟨c8, hf⟩ := ck_e hf
        refine gaaldB (by decide : (0 : Nat) < 3) E hK hP c8 dX11_blow_61 ?_
        obtain ⟨j9, ej9, hf⟩ := bd_e hf
        obtain ⟨hj9, hf⟩ := ck_e hf
        refine lv_nmo ej9 ?_
        refine gfig E hK hP hj9 wd_2_7 (Or.inl rfl) dX11_blow_62 ?_
        exact gret_i E hr hlk dX11_blow_65 (som_e hf).symm
      · replace hf := neg_e c4 hf
        by_cases c5 : a2 = 2
        · replace hf := pos_e c5 hf
          refine lv_tableIn (tgt := 66) (off := 52) hx hb dX11_blow_14 (by rw [c5]; decide) (by rw [c5]; decide) (by rw [c5]; rfl) (by decide) ?_
          refine lv_aload_n hx hb dX11_blow_66 rfl (lv_at hl 0 rfl) ?_
          refine gget E in_X11 hK hP (q_main ks ad σ) rfl (k := 0) (by decide) wd_1_145 rfl (v := .ref (ad 1 0)) rfl dX11_blow_67 ?_
          refine gget E in_X3 hK hP (qh_0 ks ad σ (by decide : (0 : Nat) < 3)) rfl (k := 9) (by decide) wd_1_91 rfl (v := .ref (ad 8 0)) rfl dX11_blow_70 ?_
          refine lv_iload_n hx hb dX11_blow_73 rfl (lv_at hl 1 rfl) ?_
          obtain ⟨c10, hf⟩ := ck_e hf
          refine gaaldB (by decide : (0 : Nat) < 3) E hK hP c10 dX11_blow_74 ?_
          obtain ⟨j11, ej11, hf⟩ := bd_e hf
          obtain ⟨hj11, hf⟩ := ck_e hf
          refine lv_nmo ej11 ?_
          refine lv_bipush (v := 30) hx hb dX11_blow_75 (by decide) ?_
          obtain ⟨r12, er12, hf⟩ := bd_e hf
          refine vwearBy E hK hP hj11 er12 wd_2_106 ⟨Nat.le_of_ble_eq_true rfl, Nat.le_of_ble_eq_true rfl⟩ ⟨Nat.zero_le _, Nat.zero_le _⟩ hl.1 (Nat.le_of_ble_eq_true rfl) rfl dX11_blow_77 ?_
          exact gret_i E hr hlk dX11_blow_80 (som_e hf).symm
        · replace hf := neg_e c5 hf
          refine lv_tableOut (tgt := 81) hx hb dX11_blow_14 (by have q0 := lv_neT c3 (a := 0) rfl; have q1 := lv_neT c4 (a := 1) rfl; have q2 := lv_neT c5 (a := 2) rfl; omega) (by decide) ?_
          refine lv_iconst (v := -1) hx hb dX11_blow_81 (by decide) ?_
          exact gret_i E hr hlk dX11_blow_82 (som_e hf).symm
  · replace hf := pos_e c2 hf
    refine lv_iconst (v := -1) hx hb dX11_blow_11 (by decide) ?_
    exact gret_i E hr hlk dX11_blow_12 (som_e hf).symm
noncomputable def fX3_addBlade (σ : St) (h : Nat) (a1 : Int32) (a2 : Int32) (a3 : Int32) : Option (Int32 × St) :=
  bd (fX11_isOut σ a1 1 24) fun r1 =>
  if r1 = 0 then
  bd (fX11_isOut σ a2 1 24) fun r3 =>
  if r3 = 0 then
  bd (fX11_isOut σ a3 0 9) fun r5 =>
  if r5 = 0 then
  if (gI σ 0 h 0) < 6 then
  ck (vp_in (gI σ 0 h 0) 6) <|
  nmv (sI σ 1 h (gI σ 0 h 0).toNatClampNeg a1) fun σ9 =>
  ck (vp_in (gI σ9 0 h 0) 6) <|
  nmv (sI σ9 2 h (gI σ9 0 h 0).toNatClampNeg a2) fun σ11 =>
  ck (vp_in (gI σ11 0 h 0) 6) <|
  nmv (sI σ11 3 h (gI σ11 0 h 0).toNatClampNeg a3) fun σ13 =>
  ck (vp_in (gI σ13 0 h 0) 6) <|
  nmv (sI σ13 4 h (gI σ13 0 h 0).toNatClampNeg 0) fun σ15 =>
  nmv (sI σ15 0 h 0 ((gI σ15 0 h 0) + 1)) fun σ16 =>
  some (gI σ15 0 h 0, σ16)
  else
  some ((-2), σ)
  else
  some ((-1), σ)
  else
  some ((-1), σ)
  else
  some ((-1), σ)
def rX3_addBlade : Room := { frames := 1, cells := 0, slots := 0, locals := 22 }
set_option maxHeartbeats 4000000 in
set_option maxRecDepth 100000 in
theorem cX3_addBladec {l : Launch} {dC : Nat → ClassId} {dI : Nat → Nat → Nat} {ks : Nat → ClassId} {ad : Nat → Nat → Nat} {σ : St} {h : Nat} (hh : h < 3) (a1 : Int32) (a2 : Int32) (a3 : Int32)  {out : Int32 × St} (hf : fX3_addBlade σ h a1 a2 a3 = some out) : MWi l dC dI ks ad σ yX3_addBlade cX3_addBlade 4 (some .int) rX3_addBlade [.ref (ad 1 h), .int a1, .int a2, .int a3] out := by
  intro sz
  refine met_w (Qc := fun A => va_Qi (fun r σ' => r = out.1 ∧ σ' = out.2) (gBw dC dI ks ad A) A) (own := RX3) (by decide) rfl (Nat.le_of_ble_eq_true rfl) ?_
  intro A p e s m args below meth c ls E hr hlk hA hP hD hS hK hl
  have hx := E.1
  have hb := E.2.1
  have hl : lv_has ls 4 [(0, .ref (ad 1 h)), (1, .int a1), (2, .int a2), (3, .int a3)] := hl
  unfold fX3_addBlade at hf
  refine lv_iload_n hx hb dX3_addBlade_0 rfl (lv_at hl 1 rfl) ?_
  refine lv_iconst (v := 1) hx hb dX3_addBlade_1 (by decide) ?_
  refine lv_bipush (v := 24) hx hb dX3_addBlade_2 (by decide) ?_
  obtain ⟨r1, er1, hf⟩ := bd_e hf
  refine gNr_i E hK hP (cX11_isOutc _ _ _ er1) kS_X11_isOut hK.2.1 rfl rfl rfl ⟨Nat.le_of_ble_eq_true rfl, Nat.le_of_ble_eq_true rfl⟩ ⟨Nat.zero_le _, Nat.zero_le _⟩ hl.1 (Nat.le_of_ble_eq_true rfl) rfl dX3_addBlade_4 ?_
  refine lv_if_ne (tgt := 30) hx hb dX3_addBlade_7 (by decide) (fun c2 => ?_) (fun c2 => ?_)
  · replace hf := neg_e c2 hf
    refine lv_iconst (v := -1) hx hb dX3_addBlade_30 (by decide) ?_
    exact gretw_i E hlk hP hD hS hr dX3_addBlade_31 (som_e hf)
  · replace hf := pos_e c2 hf
    refine lv_iload_n hx hb dX3_addBlade_10 rfl (lv_at hl 2 rfl) ?_
    refine lv_iconst (v := 1) hx hb dX3_addBlade_11 (by decide) ?_
    refine lv_bipush (v := 24) hx hb dX3_addBlade_12 (by decide) ?_
    obtain ⟨r3, er3, hf⟩ := bd_e hf
    refine gNr_i E hK hP (cX11_isOutc _ _ _ er3) kS_X11_isOut hK.2.1 rfl rfl rfl ⟨Nat.le_of_ble_eq_true rfl, Nat.le_of_ble_eq_true rfl⟩ ⟨Nat.zero_le _, Nat.zero_le _⟩ hl.1 (Nat.le_of_ble_eq_true rfl) rfl dX3_addBlade_14 ?_
    refine lv_if_ne (tgt := 30) hx hb dX3_addBlade_17 (by decide) (fun c4 => ?_) (fun c4 => ?_)
    · replace hf := neg_e c4 hf
      refine lv_iconst (v := -1) hx hb dX3_addBlade_30 (by decide) ?_
      exact gretw_i E hlk hP hD hS hr dX3_addBlade_31 (som_e hf)
    · replace hf := pos_e c4 hf
      refine lv_iload_n hx hb dX3_addBlade_20 rfl (lv_at hl 3 rfl) ?_
      refine lv_iconst (v := 0) hx hb dX3_addBlade_21 (by decide) ?_
      refine lv_bipush (v := 9) hx hb dX3_addBlade_22 (by decide) ?_
      obtain ⟨r5, er5, hf⟩ := bd_e hf
      refine gNr_i E hK hP (cX11_isOutc _ _ _ er5) kS_X11_isOut hK.2.1 rfl rfl rfl ⟨Nat.le_of_ble_eq_true rfl, Nat.le_of_ble_eq_true rfl⟩ ⟨Nat.zero_le _, Nat.zero_le _⟩ hl.1 (Nat.le_of_ble_eq_true rfl) rfl dX3_addBlade_24 ?_
      refine lv_if_eq (tgt := 32) hx hb dX3_addBlade_27 (by decide) (fun c6 => ?_) (fun c6 => ?_)
      · replace hf := pos_e c6 hf
        refine lv_aload_n hx hb dX3_addBlade_32 rfl (lv_at hl 0 rfl) ?_
        refine gget E in_X3 hK hP (qh_0 ks ad σ hh) rfl (k := 0) (by decide) wd_1_72 rfl (v := .int (gI σ 0 h 0)) rfl dX3_addBlade_33 ?_
        refine lv_bipush (v := 6) hx hb dX3_addBlade_36 (by decide) ?_
        refine lv_icmp_lt (tgt := 44) hx hb dX3_addBlade_38 (by decide) (fun c7 => ?_) (fun c7 => ?_)
        · replace hf := pos_e c7 hf
          refine lv_aload_n hx hb dX3_addBlade_44 rfl (lv_at hl 0 rfl) ?_
          refine gget E in_X3 hK hP (qh_0 ks ad σ hh) rfl (k := 1) (by decide) wd_1_74 rfl (v := .ref (ad 2 h)) rfl dX3_addBlade_45 ?_
          refine lv_aload_n hx hb dX3_addBlade_48 rfl (lv_at hl 0 rfl) ?_
          refine gget E in_X3 hK hP (qh_0 ks ad σ hh) rfl (k := 0) (by decide) wd_1_72 rfl (v := .int (gI σ 0 h 0)) rfl dX3_addBlade_49 ?_
          refine lv_iload_n hx hb dX3_addBlade_52 rfl (lv_at hl 1 rfl) ?_
          obtain ⟨c8, hf⟩ := ck_e hf
          obtain ⟨σ9, eσ9, hf⟩ := nmv_e hf
          refine giast E hK hP hD hS (qh_1 ks ad σ hh) c8 (σ' := σ9) (by rw [eσ9]; exact st_ha_1 ks ad σ hh _) dX3_addBlade_53 (fun H locs hP hD hS => ?_)
          refine lv_aload_n hx hb dX3_addBlade_54 rfl (lv_at hl 0 rfl) ?_
          refine gget E in_X3 hK hP (qh_0 ks ad σ9 hh) rfl (k := 2) (by decide) wd_1_76 rfl (v := .ref (ad 3 h)) rfl dX3_addBlade_55 ?_
          refine lv_aload_n hx hb dX3_addBlade_58 rfl (lv_at hl 0 rfl) ?_
          refine gget E in_X3 hK hP (qh_0 ks ad σ9 hh) rfl (k := 0) (by decide) wd_1_72 rfl (v := .int (gI σ9 0 h 0)) rfl dX3_addBlade_59 ?_
          refine lv_iload_n hx hb dX3_addBlade_62 rfl (lv_at hl 2 rfl) ?_
          obtain ⟨c10, hf⟩ := ck_e hf
          obtain ⟨σ11, eσ11, hf⟩ := nmv_e hf
          refine giast E hK hP hD hS (qh_2 ks ad σ9 hh) c10 (σ' := σ11) (by rw [eσ11]; exact st_ha_2 ks ad σ9 hh _) dX3_addBlade_63 (fun H locs hP hD hS => ?_)
          refine lv_aload_n hx hb dX3_addBlade_64 rfl (lv_at hl 0 rfl) ?_
          refine gget E in_X3 hK hP (qh_0 ks ad σ11 hh) rfl (k := 3) (by decide) wd_1_78 rfl (v := .ref (ad 4 h)) rfl dX3_addBlade_65 ?_
          refine lv_aload_n hx hb dX3_addBlade_68 rfl (lv_at hl 0 rfl) ?_
          refine gget E in_X3 hK hP (qh_0 ks ad σ11 hh) rfl (k := 0) (by decide) wd_1_72 rfl (v := .int (gI σ11 0 h 0)) rfl dX3_addBlade_69 ?_
          refine lv_iload_n hx hb dX3_addBlade_72 rfl (lv_at hl 3 rfl) ?_
          obtain ⟨c12, hf⟩ := ck_e hf
          obtain ⟨σ13, eσ13, hf⟩ := nmv_e hf
          refine giast E hK hP hD hS (qh_3 ks ad σ11 hh) c12 (σ' := σ13) (by rw [eσ13]; exact st_ha_3 ks ad σ11 hh _) dX3_addBlade_73 (fun H locs hP hD hS => ?_)
          refine lv_aload_n hx hb dX3_addBlade_74 rfl (lv_at hl 0 rfl) ?_
          refine gget E in_X3 hK hP (qh_0 ks ad σ13 hh) rfl (k := 4) (by decide) wd_1_80 rfl (v := .ref (ad 5 h)) rfl dX3_addBlade_75 ?_
          refine lv_aload_n hx hb dX3_addBlade_78 rfl (lv_at hl 0 rfl) ?_
          refine gget E in_X3 hK hP (qh_0 ks ad σ13 hh) rfl (k := 0) (by decide) wd_1_72 rfl (v := .int (gI σ13 0 h 0)) rfl dX3_addBlade_79 ?_
          refine lv_iconst (v := 0) hx hb dX3_addBlade_82 (by decide) ?_
          obtain ⟨c14, hf⟩ := ck_e hf
          obtain ⟨σ15, eσ15, hf⟩ := nmv_e hf
          refine giast E hK hP hD hS (qh_4 ks ad σ13 hh) c14 (σ' := σ15) (by rw [eσ15]; exact st_ha_4 ks ad σ13 hh _) dX3_addBlade_83 (fun H locs hP hD hS => ?_)
          refine lv_aload_n hx hb dX3_addBlade_84 rfl (lv_at hl 0 rfl) ?_
          refine lv_dup hx hb dX3_addBlade_85 rfl ?_
          refine gget E in_X3 hK hP (qh_0 ks ad σ15 hh) rfl (k := 0) (by decide) wd_1_72 rfl (v := .int (gI σ15 0 h 0)) rfl dX3_addBlade_86 ?_
          refine lv_dup_x1 hx hb dX3_addBlade_89 rfl rfl ?_
          refine lv_iconst (v := 1) hx hb dX3_addBlade_90 (by decide) ?_
          refine lv_iadd hx hb dX3_addBlade_91 ?_
          obtain ⟨σ16, eσ16, hf⟩ := nmv_e hf
          refine gput (k := 0) E in_X3 tyX3 tyX3_ok nmX3 hK hP hD hS (qh_0 ks ad σ15 hh) rfl (by decide) wd_1_72 rfl rfl rfl rfl rfl (Nat.le_of_ble_eq_true rfl) (σ' := σ16) (by rw [eσ16]; exact st_h_0 ks ad σ15 hh _) dX3_addBlade_92 (fun H locs hP hD hS => ?_)
          exact gretw_i E hlk hP hD hS hr dX3_addBlade_95 (som_e hf)
        · replace hf := neg_e c7 hf
          refine lv_bipush (v := -2) hx hb dX3_addBlade_41 (by decide) ?_
          exact gretw_i E hlk hP hD hS hr dX3_addBlade_43 (som_e hf)
      · replace hf := neg_e c6 hf
        refine lv_iconst (v := -1) hx hb dX3_addBlade_30 (by decide) ?_
        exact gretw_i E hlk hP hD hS hr dX3_addBlade_31 (som_e hf)
noncomputable def fX11_grows (σ : St) (a1 : Int32) (a2 : Int32) (a3 : Int32) : Option (Int32 × St) :=
  bd (fX3_addBlade σ 0 a1 a2 a3) fun r1 =>
  some (r1.1, r1.2)
def rX11_grows : Room := { frames := 2, cells := 0, slots := 0, locals := 45 }
set_option maxHeartbeats 4000000 in
set_option maxRecDepth 100000 in
theorem cX11_growsc {l : Launch} {dC : Nat → ClassId} {dI : Nat → Nat → Nat} {ks : Nat → ClassId} {ad : Nat → Nat → Nat} {σ : St} (a1 : Int32) (a2 : Int32) (a3 : Int32)  {out : Int32 × St} (hf : fX11_grows σ a1 a2 a3 = some out) : MWi l dC dI ks ad σ yX11_grows cX11_grows 4 (some .int) rX11_grows [.ref (ad 0 0), .int a1, .int a2, .int a3] out := by
  intro sz
  refine met_w (Qc := fun A => va_Qi (fun r σ' => r = out.1 ∧ σ' = out.2) (gBw dC dI ks ad A) A) (own := RX11) (by decide) rfl (Nat.le_of_ble_eq_true rfl) ?_
  intro A p e s m args below meth c ls E hr hlk hA hP hD hS hK hl
  have hx := E.1
  have hb := E.2.1
  have hl : lv_has ls 4 [(0, .ref (ad 0 0)), (1, .int a1), (2, .int a2), (3, .int a3)] := hl
  unfold fX11_grows at hf
  refine lv_aload_n hx hb dX11_grows_0 rfl (lv_at hl 0 rfl) ?_
  refine gget E in_X11 hK hP (q_main ks ad σ) rfl (k := 0) (by decide) wd_1_145 rfl (v := .ref (ad 1 0)) rfl dX11_grows_1 ?_
  refine lv_iload_n hx hb dX11_grows_4 rfl (lv_at hl 1 rfl) ?_
  refine lv_iload_n hx hb dX11_grows_5 rfl (lv_at hl 2 rfl) ?_
  refine lv_iload_n hx hb dX11_grows_6 rfl (lv_at hl 3 rfl) ?_
  obtain ⟨r1, er1, hf⟩ := bd_e hf
  refine gVw_i E hK hP hD hS hA (cX3_addBladec (by decide : (0 : Nat) < 3) _ _ _ er1) kV_X3_addBlade wd_1_220 rfl rfl (qh_0 ks ad σ (by decide : (0 : Nat) < 3)) rfl rfl rfl ⟨Nat.le_of_ble_eq_true rfl, Nat.le_of_ble_eq_true rfl⟩ ⟨Nat.zero_le _, Nat.zero_le _⟩ hl.1 (Nat.le_of_ble_eq_true rfl) rfl dX11_grows_7 (fun H locs hP hD hS => ?_)
  exact gretw_i E hlk hP hD hS hr dX11_grows_10 (som_e hf)
noncomputable def fX4_isEmpty (σ : St) (d : Nat) : Option (Int32) :=
  obr (gR σ 1 d 0) (if (gI σ 8 d 1) = 0 then
  some 1
  else
  some 0) (fun j1 =>
  some 0)
def rX4_isEmpty : Room := { frames := 0, cells := 0, slots := 0, locals := 0 }
set_option maxHeartbeats 4000000 in
set_option maxRecDepth 100000 in
theorem cX4_isEmptyc {l : Launch} {dC : Nat → ClassId} {dI : Nat → Nat → Nat} {ks : Nat → ClassId} {ad : Nat → Nat → Nat} {σ : St} {d : Nat} (hd : d < 8)  {out : Int32} (hf : fX4_isEmpty σ d = some out) : MRi l dC dI ks ad σ yX4_isEmpty cX4_isEmpty 1 (some .boolean) rX4_isEmpty [.ref (ad 10 d)] out := by
  refine met_r (own := RX4) (by decide) rfl (Nat.le_of_ble_eq_true rfl) ?_
  intro p e s m args below meth c ls E hr hlk hP hK hl
  have hx := E.1
  have hb := E.2.1
  have hl : lv_has ls 1 [(0, .ref (ad 10 d))] := hl
  unfold fX4_isEmpty at hf
  refine lv_aload_n hx hb dX4_isEmpty_0 rfl (lv_at hl 0 rfl) ?_
  refine gget E in_X4 hK hP (qs_0 ks ad σ hd) rfl (k := 0) (by decide) wd_1_123 rfl (v := va_rf ((gR σ 1 d 0).map (ad 16))) rfl dX4_isEmpty_1 ?_
  rcases obr_e hf with ⟨ej1, hf⟩ | ⟨j1, ej1, hf⟩
  · refine lv_nmn ej1 (lv_ifnonnullN hx hb dX4_isEmpty_4 ?_)
    refine lv_aload_n hx hb dX4_isEmpty_7 rfl (lv_at hl 0 rfl) ?_
    refine gget E in_X4 hK hP (qs_0 ks ad σ hd) rfl (k := 1) (by decide) wd_1_125 rfl (v := .int (gI σ 8 d 1)) rfl dX4_isEmpty_8 ?_
    refine lv_if_ne (tgt := 18) hx hb dX4_isEmpty_11 (by decide) (fun c2 => ?_) (fun c2 => ?_)
    · replace hf := neg_e c2 hf
      refine lv_iconst (v := 0) hx hb dX4_isEmpty_18 (by decide) ?_
      exact gret_z rfl E hr hlk dX4_isEmpty_19 (som_e hf).symm
    · replace hf := pos_e c2 hf
      refine lv_iconst (v := 1) hx hb dX4_isEmpty_14 (by decide) ?_
      refine lv_goto (tgt := 19) hx hb dX4_isEmpty_15 (by decide) ?_
      exact gret_z rfl E hr hlk dX4_isEmpty_19 (som_e hf).symm
  · refine lv_nmo ej1 (lv_ifnonnull (tgt := 18) hx hb dX4_isEmpty_4 (by decide) ?_)
    refine lv_iconst (v := 0) hx hb dX4_isEmpty_18 (by decide) ?_
    exact gret_z rfl E hr hlk dX4_isEmpty_19 (som_e hf).symm
noncomputable def fX11_blowRefusal (σ : St) (a1 : Int32) : Option (Int32) :=
  bd (fX11_isOut σ a1 0 7) fun r1 =>
  if r1 = 0 then
  ck (vp_in a1 8) <|
  bd (fX4_isEmpty σ a1.toNatClampNeg) fun r4 =>
  if r4 = 0 then
  ck (vp_in a1 8) <|
  obr (gR σ 1 a1.toNatClampNeg 0) (some (-12)) (fun j7 =>
  some 0)
  else
  some (-11)
  else
  some (-1)
def rX11_blowRefusal : Room := { frames := 1, cells := 0, slots := 0, locals := 22 }
set_option maxHeartbeats 4000000 in
set_option maxRecDepth 100000 in
theorem cX11_blowRefusalc {l : Launch} {dC : Nat → ClassId} {dI : Nat → Nat → Nat} {ks : Nat → ClassId} {ad : Nat → Nat → Nat} {σ : St} (a1 : Int32)  {out : Int32} (hf : fX11_blowRefusal σ a1 = some out) : MRi l dC dI ks ad σ yX11_blowRefusal cX11_blowRefusal 2 (some .int) rX11_blowRefusal [.ref (ad 0 0), .int a1] out := by
  refine met_r (own := RX11) (by decide) rfl (Nat.le_of_ble_eq_true rfl) ?_
  intro p e s m args below meth c ls E hr hlk hP hK hl
  have hx := E.1
  have hb := E.2.1
  have hl : lv_has ls 2 [(0, .ref (ad 0 0)), (1, .int a1)] := hl
  unfold fX11_blowRefusal at hf
  refine lv_iload_n hx hb dX11_blowRefusal_0 rfl (lv_at hl 1 rfl) ?_
  refine lv_iconst (v := 0) hx hb dX11_blowRefusal_1 (by decide) ?_
  refine lv_bipush (v := 7) hx hb dX11_blowRefusal_2 (by decide) ?_
  obtain ⟨r1, er1, hf⟩ := bd_e hf
  refine gSr_i E hK hP (cX11_isOutc _ _ _ er1) kS_X11_isOut wd_1_178 rfl rfl rfl ⟨Nat.le_of_ble_eq_true rfl, Nat.le_of_ble_eq_true rfl⟩ ⟨Nat.zero_le _, Nat.zero_le _⟩ hl.1 (Nat.le_of_ble_eq_true rfl) rfl dX11_blowRefusal_4 ?_
  refine lv_if_eq (tgt := 12) hx hb dX11_blowRefusal_7 (by decide) (fun c2 => ?_) (fun c2 => ?_)
  · replace hf := pos_e c2 hf
    refine lv_aload_n hx hb dX11_blowRefusal_12 rfl (lv_at hl 0 rfl) ?_
    refine gget E in_X11 hK hP (q_main ks ad σ) rfl (k := 4) (by decide) wd_1_149 rfl (v := .ref (ad 12 0)) rfl dX11_blowRefusal_13 ?_
    refine lv_iload_n hx hb dX11_blowRefusal_16 rfl (lv_at hl 1 rfl) ?_
    obtain ⟨c3, hf⟩ := ck_e hf
    refine gaaldS E hK hP c3 dX11_blowRefusal_17 ?_
    obtain ⟨r4, er4, hf⟩ := bd_e hf
    refine gVr_i E hK hP (cX4_isEmptyc (vp_lt c3) er4) kV_X4_isEmpty wd_1_181 rfl rfl (qs_0 ks ad σ (vp_lt c3)) rfl rfl rfl ⟨Nat.le_of_ble_eq_true rfl, Nat.le_of_ble_eq_true rfl⟩ ⟨Nat.zero_le _, Nat.zero_le _⟩ hl.1 (Nat.le_of_ble_eq_true rfl) rfl dX11_blowRefusal_18 ?_
    refine lv_if_eq (tgt := 27) hx hb dX11_blowRefusal_21 (by decide) (fun c5 => ?_) (fun c5 => ?_)
    · replace hf := pos_e c5 hf
      refine lv_aload_n hx hb dX11_blowRefusal_27 rfl (lv_at hl 0 rfl) ?_
      refine gget E in_X11 hK hP (q_main ks ad σ) rfl (k := 4) (by decide) wd_1_149 rfl (v := .ref (ad 12 0)) rfl dX11_blowRefusal_28 ?_
      refine lv_iload_n hx hb dX11_blowRefusal_31 rfl (lv_at hl 1 rfl) ?_
      obtain ⟨c6, hf⟩ := ck_e hf
      refine gaaldS E hK hP c6 dX11_blowRefusal_32 ?_
      refine gget E in_X4 hK hP (qs_0 ks ad σ (vp_lt c6)) rfl (k := 0) (by decide) wd_1_124 rfl (v := va_rf ((gR σ 1 a1.toNatClampNeg 0).map (ad 16))) rfl dX11_blowRefusal_33 ?_
      rcases obr_e hf with ⟨ej7, hf⟩ | ⟨j7, ej7, hf⟩
      · refine lv_nmn ej7 (lv_ifnullN (tgt := 43) hx hb dX11_blowRefusal_36 (by decide) ?_)
        refine lv_bipush (v := -12) hx hb dX11_blowRefusal_43 (by decide) ?_
        exact gret_i E hr hlk dX11_blowRefusal_45 (som_e hf).symm
      · refine lv_nmo ej7 (lv_ifnull hx hb dX11_blowRefusal_36 ?_)
        refine lv_iconst (v := 0) hx hb dX11_blowRefusal_39 (by decide) ?_
        refine lv_goto (tgt := 45) hx hb dX11_blowRefusal_40 (by decide) ?_
        exact gret_i E hr hlk dX11_blowRefusal_45 (som_e hf).symm
    · replace hf := neg_e c5 hf
      refine lv_bipush (v := -11) hx hb dX11_blowRefusal_24 (by decide) ?_
      exact gret_i E hr hlk dX11_blowRefusal_26 (som_e hf).symm
  · replace hf := neg_e c2 hf
    refine lv_iconst (v := -1) hx hb dX11_blowRefusal_10 (by decide) ?_
    exact gret_i E hr hlk dX11_blowRefusal_11 (som_e hf).symm
noncomputable def fX3_addBlow (σ : St) (h : Nat) (a1 : Option Nat) : Option (Int32 × St) :=
  obr a1 (some ((-1), σ)) (fun j1 =>
  if (gI σ 0 h 8) < 6 then
  ck (vp_in (gI σ 0 h 8) 6) <|
  ck (∀ j, a1 = some j → j < gS σ 2 0 ∧ okc (gS σ 1 j)) <|
  nmv (sR σ 0 h (gI σ 0 h 8).toNatClampNeg a1) fun σ4 =>
  nmv (sI σ4 0 h 8 ((gI σ4 0 h 8) + 1)) fun σ6 =>
  some (gI σ4 0 h 8, σ6)
  else
  some ((-2), σ))
def rX3_addBlow : Room := { frames := 0, cells := 0, slots := 0, locals := 0 }
set_option maxHeartbeats 4000000 in
set_option maxRecDepth 100000 in
theorem cX3_addBlowc {l : Launch} {dC : Nat → ClassId} {dI : Nat → Nat → Nat} {ks : Nat → ClassId} {ad : Nat → Nat → Nat} {σ : St} {h : Nat} (hh : h < 3) (a1 : Option Nat)  {out : Int32 × St} (hf : fX3_addBlow σ h a1 = some out) : MWi l dC dI ks ad σ yX3_addBlow cX3_addBlow 2 (some .int) rX3_addBlow [.ref (ad 1 h), va_rf (a1.map (ad 16))] out := by
  intro sz
  refine met_w (Qc := fun A => va_Qi (fun r σ' => r = out.1 ∧ σ' = out.2) (gBw dC dI ks ad A) A) (own := RX3) (by decide) rfl (by cases a1 <;> exact Nat.le_of_ble_eq_true rfl) ?_
  intro A p e s m args below meth c ls E hr hlk hA hP hD hS hK hl
  have hx := E.1
  have hb := E.2.1
  have hl : lv_has ls 2 [(0, .ref (ad 1 h)), (1, va_rf (a1.map (ad 16)))] := hl
  unfold fX3_addBlow at hf
  refine lv_aload_nO hx hb dX3_addBlow_0 rfl (lv_at hl 1 rfl) ?_
  rcases obr_e hf with ⟨ej1, hf⟩ | ⟨j1, ej1, hf⟩
  · refine lv_nmn ej1 (lv_ifnonnullN hx hb dX3_addBlow_1 ?_)
    refine lv_iconst (v := -1) hx hb dX3_addBlow_4 (by decide) ?_
    exact gretw_i E hlk hP hD hS hr dX3_addBlow_5 (som_e hf)
  · refine lv_nmo ej1 (lv_ifnonnull (tgt := 6) hx hb dX3_addBlow_1 (by decide) ?_)
    refine lv_aload_n hx hb dX3_addBlow_6 rfl (lv_at hl 0 rfl) ?_
    refine gget E in_X3 hK hP (qh_0 ks ad σ hh) rfl (k := 8) (by decide) wd_1_88 rfl (v := .int (gI σ 0 h 8)) rfl dX3_addBlow_7 ?_
    refine lv_bipush (v := 6) hx hb dX3_addBlow_10 (by decide) ?_
    refine lv_icmp_lt (tgt := 18) hx hb dX3_addBlow_12 (by decide) (fun c2 => ?_) (fun c2 => ?_)
    · replace hf := pos_e c2 hf
      refine lv_aload_n hx hb dX3_addBlow_18 rfl (lv_at hl 0 rfl) ?_
      refine gget E in_X3 hK hP (qh_0 ks ad σ hh) rfl (k := 9) (by decide) wd_1_90 rfl (v := .ref (ad 8 h)) rfl dX3_addBlow_19 ?_
      refine lv_aload_n hx hb dX3_addBlow_22 rfl (lv_at hl 0 rfl) ?_
      refine gget E in_X3 hK hP (qh_0 ks ad σ hh) rfl (k := 8) (by decide) wd_1_88 rfl (v := .int (gI σ 0 h 8)) rfl dX3_addBlow_23 ?_
      refine lv_aload_nO hx hb dX3_addBlow_26 rfl (lv_at hl 1 rfl) ?_
      obtain ⟨c3, hf⟩ := ck_e hf
      obtain ⟨c5, hf⟩ := ck_e hf
      obtain ⟨σ4, eσ4, hf⟩ := nmv_e hf
      refine gaast (o := a1) hh E hK hP hD hS c3 c5 eσ4 dX3_addBlow_27 (fun H locs hP hD hS => ?_)
      refine lv_aload_n hx hb dX3_addBlow_28 rfl (lv_at hl 0 rfl) ?_
      refine lv_dup hx hb dX3_addBlow_29 rfl ?_
      refine gget E in_X3 hK hP (qh_0 ks ad σ4 hh) rfl (k := 8) (by decide) wd_1_88 rfl (v := .int (gI σ4 0 h 8)) rfl dX3_addBlow_30 ?_
      refine lv_dup_x1 hx hb dX3_addBlow_33 rfl rfl ?_
      refine lv_iconst (v := 1) hx hb dX3_addBlow_34 (by decide) ?_
      refine lv_iadd hx hb dX3_addBlow_35 ?_
      obtain ⟨σ6, eσ6, hf⟩ := nmv_e hf
      refine gput (k := 8) E in_X3 tyX3 tyX3_ok nmX3 hK hP hD hS (qh_0 ks ad σ4 hh) rfl (by decide) wd_1_88 rfl rfl rfl rfl rfl (Nat.le_of_ble_eq_true rfl) (σ' := σ6) (by rw [eσ6]; exact st_h_8 ks ad σ4 hh _) dX3_addBlow_36 (fun H locs hP hD hS => ?_)
      exact gretw_i E hlk hP hD hS hr dX3_addBlow_39 (som_e hf)
    · replace hf := neg_e c2 hf
      refine lv_bipush (v := -2) hx hb dX3_addBlow_15 (by decide) ?_
      exact gretw_i E hlk hP hD hS hr dX3_addBlow_17 (som_e hf)
noncomputable def fX11_learns (σ : St) (a1 : Int32) : Option (Int32 × St) :=
  bd (fX11_blowRefusal σ a1) fun r1 =>
  if 0 ≤ r1 then
  ck (vp_in a1 8) <|
  bd (fX3_addBlow σ 0 (gR σ 1 a1.toNatClampNeg 0)) fun r4 =>
  some (r4.1, r4.2)
  else
  some (r1, σ)
def rX11_learns : Room := { frames := 2, cells := 0, slots := 0, locals := 43 }
set_option maxHeartbeats 4000000 in
set_option maxRecDepth 100000 in
theorem cX11_learnsc {l : Launch} {dC : Nat → ClassId} {dI : Nat → Nat → Nat} {ks : Nat → ClassId} {ad : Nat → Nat → Nat} {σ : St} (a1 : Int32)  {out : Int32 × St} (hf : fX11_learns σ a1 = some out) : MWi l dC dI ks ad σ yX11_learns cX11_learns 3 (some .int) rX11_learns [.ref (ad 0 0), .int a1] out := by
  intro sz
  refine met_w (Qc := fun A => va_Qi (fun r σ' => r = out.1 ∧ σ' = out.2) (gBw dC dI ks ad A) A) (own := RX11) (by decide) rfl (Nat.le_of_ble_eq_true rfl) ?_
  intro A p e s m args below meth c ls E hr hlk hA hP hD hS hK hl
  have hx := E.1
  have hb := E.2.1
  have hl : lv_has ls 3 [(0, .ref (ad 0 0)), (1, .int a1)] := hl
  unfold fX11_learns at hf
  refine lv_aload_n hx hb dX11_learns_0 rfl (lv_at hl 0 rfl) ?_
  refine lv_iload_n hx hb dX11_learns_1 rfl (lv_at hl 1 rfl) ?_
  obtain ⟨r1, er1, hf⟩ := bd_e hf
  refine gVr_i E hK hP (cX11_blowRefusalc _ er1) kV_X11_blowRefusal wd_2_163 rfl rfl (q_main ks ad σ) rfl rfl rfl ⟨Nat.le_of_ble_eq_true rfl, Nat.le_of_ble_eq_true rfl⟩ ⟨Nat.zero_le _, Nat.zero_le _⟩ hl.1 (Nat.le_of_ble_eq_true rfl) rfl dX11_learns_2 ?_
  refine lv_istore_n (lv' := [(2, .int r1), (0, .ref (ad 0 0)), (1, .int a1)]) hx hb dX11_learns_5 rfl hl (by decide) rfl (fun ls hl => ?_)
  refine lv_iload_n hx hb dX11_learns_6 rfl (lv_at hl 0 rfl) ?_
  refine lv_if_ge (tgt := 14) hx hb dX11_learns_7 (by decide) (fun c2 => ?_) (fun c2 => ?_)
  · replace hf := pos_e c2 hf
    refine lv_aload_n hx hb dX11_learns_14 rfl (lv_at hl 1 rfl) ?_
    refine gget E in_X11 hK hP (q_main ks ad σ) rfl (k := 0) (by decide) wd_1_145 rfl (v := .ref (ad 1 0)) rfl dX11_learns_15 ?_
    refine lv_aload_n hx hb dX11_learns_18 rfl (lv_at hl 1 rfl) ?_
    refine gget E in_X11 hK hP (q_main ks ad σ) rfl (k := 4) (by decide) wd_1_149 rfl (v := .ref (ad 12 0)) rfl dX11_learns_19 ?_
    refine lv_iload_n hx hb dX11_learns_22 rfl (lv_at hl 2 rfl) ?_
    obtain ⟨c3, hf⟩ := ck_e hf
    refine gaaldS E hK hP c3 dX11_learns_23 ?_
    refine gget E in_X4 hK hP (qs_0 ks ad σ (vp_lt c3)) rfl (k := 0) (by decide) wd_1_124 rfl (v := va_rf ((gR σ 1 a1.toNatClampNeg 0).map (ad 16))) rfl dX11_learns_24 ?_
    obtain ⟨r4, er4, hf⟩ := bd_e hf
    refine gVw_i E hK hP hD hS hA (cX3_addBlowc (by decide : (0 : Nat) < 3) _ er4) kV_X3_addBlow wd_2_78 rfl rfl (qh_0 ks ad σ (by decide : (0 : Nat) < 3)) rfl rfl rfl ⟨Nat.le_of_ble_eq_true rfl, Nat.le_of_ble_eq_true rfl⟩ ⟨Nat.zero_le _, Nat.zero_le _⟩ hl.1 (Nat.le_of_ble_eq_true rfl) rfl dX11_learns_27 (fun H locs hP hD hS => ?_)
    exact gretw_i E hlk hP hD hS hr dX11_learns_30 (som_e hf)
  · replace hf := neg_e c2 hf
    refine lv_iload_n hx hb dX11_learns_10 rfl (lv_at hl 0 rfl) ?_
    refine lv_goto (tgt := 30) hx hb dX11_learns_11 (by decide) ?_
    exact gretw_i E hlk hP hD hS hr dX11_learns_30 (som_e hf)
noncomputable def fX3_addThumbs (σ : St) (h : Nat) (a1 : Int32) (a2 : Int32) : Option (Int32 × St) :=
  bd (fX11_isOut σ a1 0 9) fun r1 =>
  if r1 = 0 then
  bd (fX11_isOut σ a2 0 60) fun r3 =>
  if r3 = 0 then
  if (gI σ 0 h 5) < 4 then
  ck (vp_in (gI σ 0 h 5) 4) <|
  nmv (sI σ 5 h (gI σ 0 h 5).toNatClampNeg a1) fun σ7 =>
  ck (vp_in (gI σ7 0 h 5) 4) <|
  nmv (sI σ7 6 h (gI σ7 0 h 5).toNatClampNeg a2) fun σ9 =>
  nmv (sI σ9 0 h 5 ((gI σ9 0 h 5) + 1)) fun σ10 =>
  some (gI σ9 0 h 5, σ10)
  else
  some ((-2), σ)
  else
  some ((-1), σ)
  else
  some ((-1), σ)
def rX3_addThumbs : Room := { frames := 1, cells := 0, slots := 0, locals := 22 }
set_option maxHeartbeats 4000000 in
set_option maxRecDepth 100000 in
theorem cX3_addThumbsc {l : Launch} {dC : Nat → ClassId} {dI : Nat → Nat → Nat} {ks : Nat → ClassId} {ad : Nat → Nat → Nat} {σ : St} {h : Nat} (hh : h < 3) (a1 : Int32) (a2 : Int32)  {out : Int32 × St} (hf : fX3_addThumbs σ h a1 a2 = some out) : MWi l dC dI ks ad σ yX3_addThumbs cX3_addThumbs 3 (some .int) rX3_addThumbs [.ref (ad 1 h), .int a1, .int a2] out := by
  intro sz
  refine met_w (Qc := fun A => va_Qi (fun r σ' => r = out.1 ∧ σ' = out.2) (gBw dC dI ks ad A) A) (own := RX3) (by decide) rfl (Nat.le_of_ble_eq_true rfl) ?_
  intro A p e s m args below meth c ls E hr hlk hA hP hD hS hK hl
  have hx := E.1
  have hb := E.2.1
  have hl : lv_has ls 3 [(0, .ref (ad 1 h)), (1, .int a1), (2, .int a2)] := hl
  unfold fX3_addThumbs at hf
  refine lv_iload_n hx hb dX3_addThumbs_0 rfl (lv_at hl 1 rfl) ?_
  refine lv_iconst (v := 0) hx hb dX3_addThumbs_1 (by decide) ?_
  refine lv_bipush (v := 9) hx hb dX3_addThumbs_2 (by decide) ?_
  obtain ⟨r1, er1, hf⟩ := bd_e hf
  refine gNr_i E hK hP (cX11_isOutc _ _ _ er1) kS_X11_isOut hK.2.1 rfl rfl rfl ⟨Nat.le_of_ble_eq_true rfl, Nat.le_of_ble_eq_true rfl⟩ ⟨Nat.zero_le _, Nat.zero_le _⟩ hl.1 (Nat.le_of_ble_eq_true rfl) rfl dX3_addThumbs_4 ?_
  refine lv_if_ne (tgt := 20) hx hb dX3_addThumbs_7 (by decide) (fun c2 => ?_) (fun c2 => ?_)
  · replace hf := neg_e c2 hf
    refine lv_iconst (v := -1) hx hb dX3_addThumbs_20 (by decide) ?_
    exact gretw_i E hlk hP hD hS hr dX3_addThumbs_21 (som_e hf)
  · replace hf := pos_e c2 hf
    refine lv_iload_n hx hb dX3_addThumbs_10 rfl (lv_at hl 2 rfl) ?_
    refine lv_iconst (v := 0) hx hb dX3_addThumbs_11 (by decide) ?_
    refine lv_bipush (v := 60) hx hb dX3_addThumbs_12 (by decide) ?_
    obtain ⟨r3, er3, hf⟩ := bd_e hf
    refine gNr_i E hK hP (cX11_isOutc _ _ _ er3) kS_X11_isOut hK.2.1 rfl rfl rfl ⟨Nat.le_of_ble_eq_true rfl, Nat.le_of_ble_eq_true rfl⟩ ⟨Nat.zero_le _, Nat.zero_le _⟩ hl.1 (Nat.le_of_ble_eq_true rfl) rfl dX3_addThumbs_14 ?_
    refine lv_if_eq (tgt := 22) hx hb dX3_addThumbs_17 (by decide) (fun c4 => ?_) (fun c4 => ?_)
    · replace hf := pos_e c4 hf
      refine lv_aload_n hx hb dX3_addThumbs_22 rfl (lv_at hl 0 rfl) ?_
      refine gget E in_X3 hK hP (qh_0 ks ad σ hh) rfl (k := 5) (by decide) wd_1_82 rfl (v := .int (gI σ 0 h 5)) rfl dX3_addThumbs_23 ?_
      refine lv_iconst (v := 4) hx hb dX3_addThumbs_26 (by decide) ?_
      refine lv_icmp_lt (tgt := 33) hx hb dX3_addThumbs_27 (by decide) (fun c5 => ?_) (fun c5 => ?_)
      · replace hf := pos_e c5 hf
        refine lv_aload_n hx hb dX3_addThumbs_33 rfl (lv_at hl 0 rfl) ?_
        refine gget E in_X3 hK hP (qh_0 ks ad σ hh) rfl (k := 6) (by decide) wd_1_84 rfl (v := .ref (ad 6 h)) rfl dX3_addThumbs_34 ?_
        refine lv_aload_n hx hb dX3_addThumbs_37 rfl (lv_at hl 0 rfl) ?_
        refine gget E in_X3 hK hP (qh_0 ks ad σ hh) rfl (k := 5) (by decide) wd_1_82 rfl (v := .int (gI σ 0 h 5)) rfl dX3_addThumbs_38 ?_
        refine lv_iload_n hx hb dX3_addThumbs_41 rfl (lv_at hl 1 rfl) ?_
        obtain ⟨c6, hf⟩ := ck_e hf
        obtain ⟨σ7, eσ7, hf⟩ := nmv_e hf
        refine giast E hK hP hD hS (qh_5 ks ad σ hh) c6 (σ' := σ7) (by rw [eσ7]; exact st_ha_5 ks ad σ hh _) dX3_addThumbs_42 (fun H locs hP hD hS => ?_)
        refine lv_aload_n hx hb dX3_addThumbs_43 rfl (lv_at hl 0 rfl) ?_
        refine gget E in_X3 hK hP (qh_0 ks ad σ7 hh) rfl (k := 7) (by decide) wd_1_86 rfl (v := .ref (ad 7 h)) rfl dX3_addThumbs_44 ?_
        refine lv_aload_n hx hb dX3_addThumbs_47 rfl (lv_at hl 0 rfl) ?_
        refine gget E in_X3 hK hP (qh_0 ks ad σ7 hh) rfl (k := 5) (by decide) wd_1_82 rfl (v := .int (gI σ7 0 h 5)) rfl dX3_addThumbs_48 ?_
        refine lv_iload_n hx hb dX3_addThumbs_51 rfl (lv_at hl 2 rfl) ?_
        obtain ⟨c8, hf⟩ := ck_e hf
        obtain ⟨σ9, eσ9, hf⟩ := nmv_e hf
        refine giast E hK hP hD hS (qh_6 ks ad σ7 hh) c8 (σ' := σ9) (by rw [eσ9]; exact st_ha_6 ks ad σ7 hh _) dX3_addThumbs_52 (fun H locs hP hD hS => ?_)
        refine lv_aload_n hx hb dX3_addThumbs_53 rfl (lv_at hl 0 rfl) ?_
        refine lv_dup hx hb dX3_addThumbs_54 rfl ?_
        refine gget E in_X3 hK hP (qh_0 ks ad σ9 hh) rfl (k := 5) (by decide) wd_1_82 rfl (v := .int (gI σ9 0 h 5)) rfl dX3_addThumbs_55 ?_
        refine lv_dup_x1 hx hb dX3_addThumbs_58 rfl rfl ?_
        refine lv_iconst (v := 1) hx hb dX3_addThumbs_59 (by decide) ?_
        refine lv_iadd hx hb dX3_addThumbs_60 ?_
        obtain ⟨σ10, eσ10, hf⟩ := nmv_e hf
        refine gput (k := 5) E in_X3 tyX3 tyX3_ok nmX3 hK hP hD hS (qh_0 ks ad σ9 hh) rfl (by decide) wd_1_82 rfl rfl rfl rfl rfl (Nat.le_of_ble_eq_true rfl) (σ' := σ10) (by rw [eσ10]; exact st_h_5 ks ad σ9 hh _) dX3_addThumbs_61 (fun H locs hP hD hS => ?_)
        exact gretw_i E hlk hP hD hS hr dX3_addThumbs_64 (som_e hf)
      · replace hf := neg_e c5 hf
        refine lv_bipush (v := -2) hx hb dX3_addThumbs_30 (by decide) ?_
        exact gretw_i E hlk hP hD hS hr dX3_addThumbs_32 (som_e hf)
    · replace hf := neg_e c4 hf
      refine lv_iconst (v := -1) hx hb dX3_addThumbs_20 (by decide) ?_
      exact gretw_i E hlk hP hD hS hr dX3_addThumbs_21 (som_e hf)
noncomputable def fX11_comes (σ : St) (a1 : Int32) (a2 : Int32) : Option (Int32 × St) :=
  bd (fX3_addThumbs σ 0 a1 a2) fun r1 =>
  some (r1.1, r1.2)
def rX11_comes : Room := { frames := 2, cells := 0, slots := 0, locals := 44 }
set_option maxHeartbeats 4000000 in
set_option maxRecDepth 100000 in
theorem cX11_comesc {l : Launch} {dC : Nat → ClassId} {dI : Nat → Nat → Nat} {ks : Nat → ClassId} {ad : Nat → Nat → Nat} {σ : St} (a1 : Int32) (a2 : Int32)  {out : Int32 × St} (hf : fX11_comes σ a1 a2 = some out) : MWi l dC dI ks ad σ yX11_comes cX11_comes 3 (some .int) rX11_comes [.ref (ad 0 0), .int a1, .int a2] out := by
  intro sz
  refine met_w (Qc := fun A => va_Qi (fun r σ' => r = out.1 ∧ σ' = out.2) (gBw dC dI ks ad A) A) (own := RX11) (by decide) rfl (Nat.le_of_ble_eq_true rfl) ?_
  intro A p e s m args below meth c ls E hr hlk hA hP hD hS hK hl
  have hx := E.1
  have hb := E.2.1
  have hl : lv_has ls 3 [(0, .ref (ad 0 0)), (1, .int a1), (2, .int a2)] := hl
  unfold fX11_comes at hf
  refine lv_aload_n hx hb dX11_comes_0 rfl (lv_at hl 0 rfl) ?_
  refine gget E in_X11 hK hP (q_main ks ad σ) rfl (k := 0) (by decide) wd_1_145 rfl (v := .ref (ad 1 0)) rfl dX11_comes_1 ?_
  refine lv_iload_n hx hb dX11_comes_4 rfl (lv_at hl 1 rfl) ?_
  refine lv_iload_n hx hb dX11_comes_5 rfl (lv_at hl 2 rfl) ?_
  obtain ⟨r1, er1, hf⟩ := bd_e hf
  refine gVw_i E hK hP hD hS hA (cX3_addThumbsc (by decide : (0 : Nat) < 3) _ _ er1) kV_X3_addThumbs wd_1_225 rfl rfl (qh_0 ks ad σ (by decide : (0 : Nat) < 3)) rfl rfl rfl ⟨Nat.le_of_ble_eq_true rfl, Nat.le_of_ble_eq_true rfl⟩ ⟨Nat.zero_le _, Nat.zero_le _⟩ hl.1 (Nat.le_of_ble_eq_true rfl) rfl dX11_comes_6 (fun H locs hP hD hS => ?_)
  exact gretw_i E hlk hP hD hS hr dX11_comes_9 (som_e hf)
noncomputable def fX11_wets (σ : St) (a1 : Int32) (a2 : Int32) : Option (Int32 × St) :=
  bd (fX3_hasBlade σ 0 a1) fun r1 =>
  if r1 = 0 then
  some ((-1), σ)
  else
  bd (fX11_isOut σ a2 0 9) fun r3 =>
  if r3 = 0 then
  ck (vp_in a1 6) <|
  nmv (gI σ 3 0 a1.toNatClampNeg) fun v6 =>
  ck (vp_in a1 6) <|
  nmv (sI σ 3 0 a1.toNatClampNeg a2) fun σ8 =>
  some (v6, σ8)
  else
  some ((-1), σ)
def rX11_wets : Room := { frames := 1, cells := 0, slots := 0, locals := 22 }
set_option maxHeartbeats 4000000 in
set_option maxRecDepth 100000 in
theorem cX11_wetsc {l : Launch} {dC : Nat → ClassId} {dI : Nat → Nat → Nat} {ks : Nat → ClassId} {ad : Nat → Nat → Nat} {σ : St} (a1 : Int32) (a2 : Int32)  {out : Int32 × St} (hf : fX11_wets σ a1 a2 = some out) : MWi l dC dI ks ad σ yX11_wets cX11_wets 4 (some .int) rX11_wets [.ref (ad 0 0), .int a1, .int a2] out := by
  intro sz
  refine met_w (Qc := fun A => va_Qi (fun r σ' => r = out.1 ∧ σ' = out.2) (gBw dC dI ks ad A) A) (own := RX11) (by decide) rfl (Nat.le_of_ble_eq_true rfl) ?_
  intro A p e s m args below meth c ls E hr hlk hA hP hD hS hK hl
  have hx := E.1
  have hb := E.2.1
  have hl : lv_has ls 4 [(0, .ref (ad 0 0)), (1, .int a1), (2, .int a2)] := hl
  unfold fX11_wets at hf
  refine lv_aload_n hx hb dX11_wets_0 rfl (lv_at hl 0 rfl) ?_
  refine gget E in_X11 hK hP (q_main ks ad σ) rfl (k := 0) (by decide) wd_1_145 rfl (v := .ref (ad 1 0)) rfl dX11_wets_1 ?_
  refine lv_iload_n hx hb dX11_wets_4 rfl (lv_at hl 1 rfl) ?_
  obtain ⟨r1, er1, hf⟩ := bd_e hf
  refine gVr_i E hK hP (cX3_hasBladec (by decide : (0 : Nat) < 3) _ er1) kV_X3_hasBlade wd_2_144 rfl rfl (qh_0 ks ad σ (by decide : (0 : Nat) < 3)) rfl rfl rfl ⟨Nat.le_of_ble_eq_true rfl, Nat.le_of_ble_eq_true rfl⟩ ⟨Nat.zero_le _, Nat.zero_le _⟩ hl.1 (Nat.le_of_ble_eq_true rfl) rfl dX11_wets_5 ?_
  refine lv_if_eq (tgt := 21) hx hb dX11_wets_8 (by decide) (fun c2 => ?_) (fun c2 => ?_)
  · replace hf := pos_e c2 hf
    refine lv_iconst (v := -1) hx hb dX11_wets_21 (by decide) ?_
    exact gretw_i E hlk hP hD hS hr dX11_wets_22 (som_e hf)
  · replace hf := neg_e c2 hf
    refine lv_iload_n hx hb dX11_wets_11 rfl (lv_at hl 2 rfl) ?_
    refine lv_iconst (v := 0) hx hb dX11_wets_12 (by decide) ?_
    refine lv_bipush (v := 9) hx hb dX11_wets_13 (by decide) ?_
    obtain ⟨r3, er3, hf⟩ := bd_e hf
    refine gSr_i E hK hP (cX11_isOutc _ _ _ er3) kS_X11_isOut wd_1_178 rfl rfl rfl ⟨Nat.le_of_ble_eq_true rfl, Nat.le_of_ble_eq_true rfl⟩ ⟨Nat.zero_le _, Nat.zero_le _⟩ hl.1 (Nat.le_of_ble_eq_true rfl) rfl dX11_wets_15 ?_
    refine lv_if_eq (tgt := 23) hx hb dX11_wets_18 (by decide) (fun c4 => ?_) (fun c4 => ?_)
    · replace hf := pos_e c4 hf
      refine lv_aload_n hx hb dX11_wets_23 rfl (lv_at hl 0 rfl) ?_
      refine gget E in_X11 hK hP (q_main ks ad σ) rfl (k := 0) (by decide) wd_1_145 rfl (v := .ref (ad 1 0)) rfl dX11_wets_24 ?_
      refine gget E in_X3 hK hP (qh_0 ks ad σ (by decide : (0 : Nat) < 3)) rfl (k := 3) (by decide) wd_1_79 rfl (v := .ref (ad 4 0)) rfl dX11_wets_27 ?_
      refine lv_iload_n hx hb dX11_wets_30 rfl (lv_at hl 1 rfl) ?_
      obtain ⟨c5, hf⟩ := ck_e hf
      refine giald E hK hP (qh_3 ks ad σ (by decide : (0 : Nat) < 3)) c5 dX11_wets_31 ?_
      obtain ⟨v6, ev6, hf⟩ := nmv_e hf
      refine lv_nmi ev6 ?_
      refine lv_istore_n (lv' := [(3, .int v6), (0, .ref (ad 0 0)), (1, .int a1), (2, .int a2)]) hx hb dX11_wets_32 rfl hl (by decide) rfl (fun ls hl => ?_)
      refine lv_aload_n hx hb dX11_wets_33 rfl (lv_at hl 1 rfl) ?_
      refine gget E in_X11 hK hP (q_main ks ad σ) rfl (k := 0) (by decide) wd_1_145 rfl (v := .ref (ad 1 0)) rfl dX11_wets_34 ?_
      refine gget E in_X3 hK hP (qh_0 ks ad σ (by decide : (0 : Nat) < 3)) rfl (k := 3) (by decide) wd_1_79 rfl (v := .ref (ad 4 0)) rfl dX11_wets_37 ?_
      refine lv_iload_n hx hb dX11_wets_40 rfl (lv_at hl 2 rfl) ?_
      refine lv_iload_n hx hb dX11_wets_41 rfl (lv_at hl 3 rfl) ?_
      obtain ⟨c7, hf⟩ := ck_e hf
      obtain ⟨σ8, eσ8, hf⟩ := nmv_e hf
      refine giast E hK hP hD hS (qh_3 ks ad σ (by decide : (0 : Nat) < 3)) c7 (σ' := σ8) (by rw [eσ8]; exact st_ha_3 ks ad σ (by decide : (0 : Nat) < 3) _) dX11_wets_42 (fun H locs hP hD hS => ?_)
      refine lv_iload_n hx hb dX11_wets_43 rfl (lv_at hl 0 rfl) ?_
      exact gretw_i E hlk hP hD hS hr dX11_wets_44 (som_e hf)
    · replace hf := neg_e c4 hf
      refine lv_iconst (v := -1) hx hb dX11_wets_21 (by decide) ?_
      exact gretw_i E hlk hP hD hS hr dX11_wets_22 (som_e hf)
noncomputable def fX3_hasAll (σ : St) (h : Nat) (a1 : Int32) (a2 : Int32) (a3 : Int32) : Option (Int32) :=
  bd (fX3_hasBlade σ h a1) fun r1 =>
  if r1 = 0 then
  some 0
  else
  bd (fX3_hasThumbs σ h a2) fun r3 =>
  if r3 = 0 then
  some 0
  else
  bd (fX3_hasBlow σ h a3) fun r5 =>
  if r5 = 0 then
  some 0
  else
  some 1
def rX3_hasAll : Room := { frames := 1, cells := 0, slots := 0, locals := 21 }
set_option maxHeartbeats 4000000 in
set_option maxRecDepth 100000 in
theorem cX3_hasAllc {l : Launch} {dC : Nat → ClassId} {dI : Nat → Nat → Nat} {ks : Nat → ClassId} {ad : Nat → Nat → Nat} {σ : St} {h : Nat} (hh : h < 3) (a1 : Int32) (a2 : Int32) (a3 : Int32)  {out : Int32} (hf : fX3_hasAll σ h a1 a2 a3 = some out) : MRi l dC dI ks ad σ yX3_hasAll cX3_hasAll 4 (some .boolean) rX3_hasAll [.ref (ad 1 h), .int a1, .int a2, .int a3] out := by
  refine met_r (own := RX3) (by decide) rfl (Nat.le_of_ble_eq_true rfl) ?_
  intro p e s m args below meth c ls E hr hlk hP hK hl
  have hx := E.1
  have hb := E.2.1
  have hl : lv_has ls 4 [(0, .ref (ad 1 h)), (1, .int a1), (2, .int a2), (3, .int a3)] := hl
  unfold fX3_hasAll at hf
  refine lv_aload_n hx hb dX3_hasAll_0 rfl (lv_at hl 0 rfl) ?_
  refine lv_iload_n hx hb dX3_hasAll_1 rfl (lv_at hl 1 rfl) ?_
  obtain ⟨r1, er1, hf⟩ := bd_e hf
  refine gVr_i E hK hP (cX3_hasBladec hh _ er1) kV_X3_hasBlade wd_2_90 rfl rfl (qh_0 ks ad σ hh) rfl rfl rfl ⟨Nat.le_of_ble_eq_true rfl, Nat.le_of_ble_eq_true rfl⟩ ⟨Nat.zero_le _, Nat.zero_le _⟩ hl.1 (Nat.le_of_ble_eq_true rfl) rfl dX3_hasAll_2 ?_
  refine lv_if_eq (tgt := 28) hx hb dX3_hasAll_5 (by decide) (fun c2 => ?_) (fun c2 => ?_)
  · replace hf := pos_e c2 hf
    refine lv_iconst (v := 0) hx hb dX3_hasAll_28 (by decide) ?_
    exact gret_z rfl E hr hlk dX3_hasAll_29 (som_e hf).symm
  · replace hf := neg_e c2 hf
    refine lv_aload_n hx hb dX3_hasAll_8 rfl (lv_at hl 0 rfl) ?_
    refine lv_iload_n hx hb dX3_hasAll_9 rfl (lv_at hl 2 rfl) ?_
    obtain ⟨r3, er3, hf⟩ := bd_e hf
    refine gVr_i E hK hP (cX3_hasThumbsc hh _ er3) kV_X3_hasThumbs wd_2_94 rfl rfl (qh_0 ks ad σ hh) rfl rfl rfl ⟨Nat.le_of_ble_eq_true rfl, Nat.le_of_ble_eq_true rfl⟩ ⟨Nat.zero_le _, Nat.zero_le _⟩ hl.1 (Nat.le_of_ble_eq_true rfl) rfl dX3_hasAll_10 ?_
    refine lv_if_eq (tgt := 28) hx hb dX3_hasAll_13 (by decide) (fun c4 => ?_) (fun c4 => ?_)
    · replace hf := pos_e c4 hf
      refine lv_iconst (v := 0) hx hb dX3_hasAll_28 (by decide) ?_
      exact gret_z rfl E hr hlk dX3_hasAll_29 (som_e hf).symm
    · replace hf := neg_e c4 hf
      refine lv_aload_n hx hb dX3_hasAll_16 rfl (lv_at hl 0 rfl) ?_
      refine lv_iload_n hx hb dX3_hasAll_17 rfl (lv_at hl 3 rfl) ?_
      obtain ⟨r5, er5, hf⟩ := bd_e hf
      refine gVr_i E hK hP (cX3_hasBlowc hh _ er5) kV_X3_hasBlow wd_2_98 rfl rfl (qh_0 ks ad σ hh) rfl rfl rfl ⟨Nat.le_of_ble_eq_true rfl, Nat.le_of_ble_eq_true rfl⟩ ⟨Nat.zero_le _, Nat.zero_le _⟩ hl.1 (Nat.le_of_ble_eq_true rfl) rfl dX3_hasAll_18 ?_
      refine lv_if_eq (tgt := 28) hx hb dX3_hasAll_21 (by decide) (fun c6 => ?_) (fun c6 => ?_)
      · replace hf := pos_e c6 hf
        refine lv_iconst (v := 0) hx hb dX3_hasAll_28 (by decide) ?_
        exact gret_z rfl E hr hlk dX3_hasAll_29 (som_e hf).symm
      · replace hf := neg_e c6 hf
        refine lv_iconst (v := 1) hx hb dX3_hasAll_24 (by decide) ?_
        refine lv_goto (tgt := 29) hx hb dX3_hasAll_25 (by decide) ?_
        exact gret_z rfl E hr hlk dX3_hasAll_29 (som_e hf).symm
noncomputable def fX0_low (σ : St) (j : Nat) (a1 : Int32) (a2 : Int32) : Option (Int32) :=
  some (a1 + a2)
def rX0_low : Room := { frames := 0, cells := 0, slots := 0, locals := 0 }
set_option maxHeartbeats 4000000 in
set_option maxRecDepth 100000 in
theorem cX0_lowc {l : Launch} {dC : Nat → ClassId} {dI : Nat → Nat → Nat} {ks : Nat → ClassId} {ad : Nat → Nat → Nat} {σ : St} {j : Nat} (hj : j < gS σ 2 0 ∧ okc (gS σ 1 j)) (a1 : Int32) (a2 : Int32)  {out : Int32} (hf : fX0_low σ j a1 a2 = some out) : MRi l dC dI ks ad σ yX0_low cX0_low 3 (some .int) rX0_low [.ref (ad 16 j), .int a1, .int a2] out := by
  refine met_r (own := RX0) (by decide) rfl (Nat.le_of_ble_eq_true rfl) ?_
  intro p e s m args below meth c ls E hr hlk hP hK hl
  have hx := E.1
  have hb := E.2.1
  have hl : lv_has ls 3 [(0, .ref (ad 16 j)), (1, .int a1), (2, .int a2)] := hl
  unfold fX0_low at hf
  refine lv_iload_n hx hb dX0_low_0 rfl (lv_at hl 1 rfl) ?_
  refine lv_iload_n hx hb dX0_low_1 rfl (lv_at hl 2 rfl) ?_
  refine lv_iadd hx hb dX0_low_2 ?_
  exact gret_i E hr hlk dX0_low_3 (som_e hf).symm
noncomputable def fX8_low (σ : St) (j : Nat) (a1 : Int32) (a2 : Int32) : Option (Int32) :=
  bd (fX0_low σ j a1 a2) fun r1 =>
  nmv (if 0 < (r1 - 2) then r1 - 2 else 0) fun v2 =>
  some v2
def rX8_low : Room := { frames := 1, cells := 0, slots := 0, locals := 27 }
set_option maxHeartbeats 4000000 in
set_option maxRecDepth 100000 in
theorem cX8_lowc {l : Launch} {dC : Nat → ClassId} {dI : Nat → Nat → Nat} {ks : Nat → ClassId} {ad : Nat → Nat → Nat} {σ : St} {j : Nat} (hj : j < gS σ 2 0 ∧ okc (gS σ 1 j)) (a1 : Int32) (a2 : Int32)  {out : Int32} (hf : fX8_low σ j a1 a2 = some out) : MRi l dC dI ks ad σ yX8_low cX8_low 3 (some .int) rX8_low [.ref (ad 16 j), .int a1, .int a2] out := by
  refine met_r (own := RX8) (by decide) rfl (Nat.le_of_ble_eq_true rfl) ?_
  intro p e s m args below meth c ls E hr hlk hP hK hl
  have hx := E.1
  have hb := E.2.1
  have hl : lv_has ls 3 [(0, .ref (ad 16 j)), (1, .int a1), (2, .int a2)] := hl
  unfold fX8_low at hf
  refine lv_iconst (v := 0) hx hb dX8_low_0 (by decide) ?_
  refine lv_aload_n hx hb dX8_low_1 rfl (lv_at hl 0 rfl) ?_
  refine lv_iload_n hx hb dX8_low_2 rfl (lv_at hl 1 rfl) ?_
  refine lv_iload_n hx hb dX8_low_3 rfl (lv_at hl 2 rfl) ?_
  obtain ⟨r1, er1, hf⟩ := bd_e hf
  refine gPb E hK hP hj (cX0_lowc hj _ _ er1) kP_X0_low wd_2_190 wd_2_186 wd_2_32 rfl rfl rfl ⟨Nat.le_of_ble_eq_true rfl, Nat.le_of_ble_eq_true rfl⟩ ⟨Nat.zero_le _, Nat.zero_le _⟩ hl.1 (Nat.le_of_ble_eq_true rfl) rfl dX8_low_4 ?_
  refine lv_iconst (v := 2) hx hb dX8_low_7 (by decide) ?_
  refine lv_isub hx hb dX8_low_8 ?_
  refine gmax E hl.1 wd_2_191 wd_2_138 wd_1_15 wd_2_139 (Nat.le_of_ble_eq_true rfl) (Nat.le_of_ble_eq_true rfl) ⟨Nat.zero_le _, Nat.zero_le _⟩ dX8_low_9 ?_
  obtain ⟨v2, ev2, hf⟩ := nmv_e hf
  refine lv_nmi ev2 ?_
  exact gret_i E hr hlk dX8_low_12 (som_e hf).symm
noncomputable def fX5_low (σ : St) (j : Nat) (a1 : Int32) (a2 : Int32) : Option (Int32) :=
  bd (fX8_low σ j a1 a2) fun r1 =>
  some (r1 + 10)
def rX5_low : Room := { frames := 2, cells := 0, slots := 0, locals := 49 }
set_option maxHeartbeats 4000000 in
set_option maxRecDepth 100000 in
theorem cX5_lowc {l : Launch} {dC : Nat → ClassId} {dI : Nat → Nat → Nat} {ks : Nat → ClassId} {ad : Nat → Nat → Nat} {σ : St} {j : Nat} (hj : j < gS σ 2 0 ∧ okc (gS σ 1 j)) (a1 : Int32) (a2 : Int32)  {out : Int32} (hf : fX5_low σ j a1 a2 = some out) : MRi l dC dI ks ad σ yX5_low cX5_low 3 (some .int) rX5_low [.ref (ad 16 j), .int a1, .int a2] out := by
  refine met_r (own := RX5) (by decide) rfl (Nat.le_of_ble_eq_true rfl) ?_
  intro p e s m args below meth c ls E hr hlk hP hK hl
  have hx := E.1
  have hb := E.2.1
  have hl : lv_has ls 3 [(0, .ref (ad 16 j)), (1, .int a1), (2, .int a2)] := hl
  unfold fX5_low at hf
  refine lv_aload_n hx hb dX5_low_0 rfl (lv_at hl 0 rfl) ?_
  refine lv_iload_n hx hb dX5_low_1 rfl (lv_at hl 1 rfl) ?_
  refine lv_iload_n hx hb dX5_low_2 rfl (lv_at hl 2 rfl) ?_
  obtain ⟨r1, er1, hf⟩ := bd_e hf
  refine gPb E hK hP hj (cX8_lowc hj _ _ er1) kP_X8_low wd_2_196 wd_7_57 wd_2_41 rfl rfl rfl ⟨Nat.le_of_ble_eq_true rfl, Nat.le_of_ble_eq_true rfl⟩ ⟨Nat.zero_le _, Nat.zero_le _⟩ hl.1 (Nat.le_of_ble_eq_true rfl) rfl dX5_low_3 ?_
  refine lv_bipush (v := 10) hx hb dX5_low_6 (by decide) ?_
  refine lv_iadd hx hb dX5_low_8 ?_
  exact gret_i E hr hlk dX5_low_9 (som_e hf).symm
noncomputable def fX7_low (σ : St) (j : Nat) (a1 : Int32) (a2 : Int32) : Option (Int32) :=
  bd (fX8_low σ j a1 a2) fun r1 =>
  some (r1 + 1)
def rX7_low : Room := { frames := 2, cells := 0, slots := 0, locals := 49 }
set_option maxHeartbeats 4000000 in
set_option maxRecDepth 100000 in
theorem cX7_lowc {l : Launch} {dC : Nat → ClassId} {dI : Nat → Nat → Nat} {ks : Nat → ClassId} {ad : Nat → Nat → Nat} {σ : St} {j : Nat} (hj : j < gS σ 2 0 ∧ okc (gS σ 1 j)) (a1 : Int32) (a2 : Int32)  {out : Int32} (hf : fX7_low σ j a1 a2 = some out) : MRi l dC dI ks ad σ yX7_low cX7_low 3 (some .int) rX7_low [.ref (ad 16 j), .int a1, .int a2] out := by
  refine met_r (own := RX7) (by decide) rfl (Nat.le_of_ble_eq_true rfl) ?_
  intro p e s m args below meth c ls E hr hlk hP hK hl
  have hx := E.1
  have hb := E.2.1
  have hl : lv_has ls 3 [(0, .ref (ad 16 j)), (1, .int a1), (2, .int a2)] := hl
  unfold fX7_low at hf
  refine lv_aload_n hx hb dX7_low_0 rfl (lv_at hl 0 rfl) ?_
  refine lv_iload_n hx hb dX7_low_1 rfl (lv_at hl 1 rfl) ?_
  refine lv_iload_n hx hb dX7_low_2 rfl (lv_at hl 2 rfl) ?_
  obtain ⟨r1, er1, hf⟩ := bd_e hf
  refine gPd (owner := RX8) E hK hP hj (cX8_lowc hj _ _ er1) kP_X8_low (x := ⟨"BladeBetweenThumbs$Cupped", "low", "(II)I"⟩) rfl wd_2_201 wd_2_202 wd_2_68 (Or.inl wd_2_59) rfl rfl rfl ⟨Nat.le_of_ble_eq_true rfl, Nat.le_of_ble_eq_true rfl⟩ ⟨Nat.zero_le _, Nat.zero_le _⟩ hl.1 (Nat.le_of_ble_eq_true rfl) rfl dX7_low_3 ?_
  refine lv_iconst (v := 1) hx hb dX7_low_6 (by decide) ?_
  refine lv_iadd hx hb dX7_low_7 ?_
  exact gret_i E hr hlk dX7_low_8 (som_e hf).symm
noncomputable def fvlow (σ : St) (j : Nat) (a1 : Int32) (a2 : Int32) : Option Int32 := if gS σ 1 j = 0 then fX0_low σ j a1 a2 else if gS σ 1 j = 1 then fX8_low σ j a1 a2 else if gS σ 1 j = 2 then fX0_low σ j a1 a2 else if gS σ 1 j = 5 then fX5_low σ j a1 a2 else if gS σ 1 j = 6 then fX0_low σ j a1 a2 else if gS σ 1 j = 7 then fX7_low σ j a1 a2 else if gS σ 1 j = 8 then fX8_low σ j a1 a2 else if gS σ 1 j = 10 then fX0_low σ j a1 a2 else none
set_option maxHeartbeats 4000000 in
theorem vlow {p : Program} {l : Launch} {e : Env} {R : Room} {s : State} {m : MethodId} {args : Array Value} {below : List Frame} {meth : Method} {c : Code} {H : Heap} {locs : List Loc} {cells slots : Nat} {Q : State → Prop} {cc : ByteArray} {pc nL index j : Nat} {ls : Array Slot} {rest st : List Value} {own : String} {dC : Nat → ClassId} {dI : Nat → Nat → Nat} {ks : Nat → ClassId} {ad : Nat → Nat → Nat} {σ : St} {a1 : Int32} {a2 : Int32} {out : Int32} (E : CallFix p m c cc nL s args tT own) (hK : gK dC dI ks s) (hP : va_P (dC, dI) vwCl (wG ks ad σ) H) (hj : j < gS σ 2 0 ∧ okc (gS σ 1 j)) (hf : fvlow σ j a1 a2 = some out) (h1 : Cond.methodLink own index yX0_low ∈ tT) (hR : 3 ≤ R.frames ∧ 71 ≤ R.locals) (hz : cells ≤ R.cells ∧ slots ≤ R.slots) (hls : ls.size = nL) (hW : (rest.map fun v => v.category).sum ≤ 8) (hst : st = .int a2 :: .int a1 :: .ref (ad 16 j) :: rest) (hdg : decode cc pc = .ok (.invokevirtual index, 3)) (kk : W p l e R s m args below meth c H locs cells slots Q (F0 m (pc + 3) ls (.int out :: rest))) : W p l e R s m args below meth c H locs cells slots Q (F0 m pc ls st) := by
  have he := q_blow ks ad σ hj.1
  rcases hj.2 with h | h | h | h | h | h | h | h <;> rw [h] at he
  · exact gVr_i E hK hP (cX0_lowc hj _ _ (by simpa [fvlow, h] using hf)) kV_X0_low h1 rfl rfl he (ci := 0) rfl rfl rfl ⟨Nat.le_trans (Nat.le_of_ble_eq_true rfl) hR.1, Nat.le_trans (Nat.le_of_ble_eq_true rfl) hR.2⟩ hz hls hW hst hdg kk
  · exact gOr_i E hK hP (cX8_lowc hj _ _ (by simpa [fvlow, h] using hf)) kU_low_1 h1 rfl rfl he (ci := 1) rfl rfl rfl ⟨Nat.le_trans (Nat.le_of_ble_eq_true rfl) hR.1, Nat.le_trans (Nat.le_of_ble_eq_true rfl) hR.2⟩ hz hls hW hst hdg kk
  · exact gUr_i E hK hP (cX0_lowc hj _ _ (by simpa [fvlow, h] using hf)) kU_low_2 h1 rfl rfl he (ci := 2) rfl rfl rfl ⟨Nat.le_trans (Nat.le_of_ble_eq_true rfl) hR.1, Nat.le_trans (Nat.le_of_ble_eq_true rfl) hR.2⟩ hz hls hW hst hdg kk
  · exact gOr_i E hK hP (cX5_lowc hj _ _ (by simpa [fvlow, h] using hf)) kU_low_5 h1 rfl rfl he (ci := 5) rfl rfl rfl ⟨Nat.le_trans (Nat.le_of_ble_eq_true rfl) hR.1, Nat.le_trans (Nat.le_of_ble_eq_true rfl) hR.2⟩ hz hls hW hst hdg kk
  · exact gUr_i E hK hP (cX0_lowc hj _ _ (by simpa [fvlow, h] using hf)) kU_low_6 h1 rfl rfl he (ci := 6) rfl rfl rfl ⟨Nat.le_trans (Nat.le_of_ble_eq_true rfl) hR.1, Nat.le_trans (Nat.le_of_ble_eq_true rfl) hR.2⟩ hz hls hW hst hdg kk
  · exact gOr_i E hK hP (cX7_lowc hj _ _ (by simpa [fvlow, h] using hf)) kU_low_7 h1 rfl rfl he (ci := 7) rfl rfl rfl ⟨Nat.le_trans (Nat.le_of_ble_eq_true rfl) hR.1, Nat.le_trans (Nat.le_of_ble_eq_true rfl) hR.2⟩ hz hls hW hst hdg kk
  · exact gOr_i E hK hP (cX8_lowc hj _ _ (by simpa [fvlow, h] using hf)) kU_low_8 h1 rfl rfl he (ci := 8) rfl rfl rfl ⟨Nat.le_trans (Nat.le_of_ble_eq_true rfl) hR.1, Nat.le_trans (Nat.le_of_ble_eq_true rfl) hR.2⟩ hz hls hW hst hdg kk
  · exact gUr_i E hK hP (cX0_lowc hj _ _ (by simpa [fvlow, h] using hf)) kU_low_10 h1 rfl rfl he (ci := 10) rfl rfl rfl ⟨Nat.le_trans (Nat.le_of_ble_eq_true rfl) hR.1, Nat.le_trans (Nat.le_of_ble_eq_true rfl) hR.2⟩ hz hls hW hst hdg kk
noncomputable def fX0_high (σ : St) (j : Nat) (a1 : Int32) (a2 : Int32) : Option (Int32) :=
  some ((a1 + 8) + a2)
def rX0_high : Room := { frames := 0, cells := 0, slots := 0, locals := 0 }
set_option maxHeartbeats 4000000 in
set_option maxRecDepth 100000 in
theorem cX0_highc {l : Launch} {dC : Nat → ClassId} {dI : Nat → Nat → Nat} {ks : Nat → ClassId} {ad : Nat → Nat → Nat} {σ : St} {j : Nat} (hj : j < gS σ 2 0 ∧ okc (gS σ 1 j)) (a1 : Int32) (a2 : Int32)  {out : Int32} (hf : fX0_high σ j a1 a2 = some out) : MRi l dC dI ks ad σ yX0_high cX0_high 3 (some .int) rX0_high [.ref (ad 16 j), .int a1, .int a2] out := by
  refine met_r (own := RX0) (by decide) rfl (Nat.le_of_ble_eq_true rfl) ?_
  intro p e s m args below meth c ls E hr hlk hP hK hl
  have hx := E.1
  have hb := E.2.1
  have hl : lv_has ls 3 [(0, .ref (ad 16 j)), (1, .int a1), (2, .int a2)] := hl
  unfold fX0_high at hf
  refine lv_iload_n hx hb dX0_high_0 rfl (lv_at hl 1 rfl) ?_
  refine lv_bipush (v := 8) hx hb dX0_high_1 (by decide) ?_
  refine lv_iadd hx hb dX0_high_3 ?_
  refine lv_iload_n hx hb dX0_high_4 rfl (lv_at hl 2 rfl) ?_
  refine lv_iadd hx hb dX0_high_5 ?_
  exact gret_i E hr hlk dX0_high_6 (som_e hf).symm
noncomputable def fX5_high (σ : St) (j : Nat) (a1 : Int32) (a2 : Int32) : Option (Int32) :=
  bd (fX0_high σ j a1 a2) fun r1 =>
  some (a1 + ((r1 - a1) / 2))
def rX5_high : Room := { frames := 1, cells := 0, slots := 0, locals := 22 }
set_option maxHeartbeats 4000000 in
set_option maxRecDepth 100000 in
theorem cX5_highc {l : Launch} {dC : Nat → ClassId} {dI : Nat → Nat → Nat} {ks : Nat → ClassId} {ad : Nat → Nat → Nat} {σ : St} {j : Nat} (hj : j < gS σ 2 0 ∧ okc (gS σ 1 j)) (a1 : Int32) (a2 : Int32)  {out : Int32} (hf : fX5_high σ j a1 a2 = some out) : MRi l dC dI ks ad σ yX5_high cX5_high 3 (some .int) rX5_high [.ref (ad 16 j), .int a1, .int a2] out := by
  refine met_r (own := RX5) (by decide) rfl (Nat.le_of_ble_eq_true rfl) ?_
  intro p e s m args below meth c ls E hr hlk hP hK hl
  have hx := E.1
  have hb := E.2.1
  have hl : lv_has ls 3 [(0, .ref (ad 16 j)), (1, .int a1), (2, .int a2)] := hl
  unfold fX5_high at hf
  refine lv_iload_n hx hb dX5_high_0 rfl (lv_at hl 1 rfl) ?_
  refine lv_aload_n hx hb dX5_high_1 rfl (lv_at hl 0 rfl) ?_
  refine lv_iload_n hx hb dX5_high_2 rfl (lv_at hl 1 rfl) ?_
  refine lv_iload_n hx hb dX5_high_3 rfl (lv_at hl 2 rfl) ?_
  obtain ⟨r1, er1, hf⟩ := bd_e hf
  refine gPd (owner := RX0) E hK hP hj (cX0_highc hj _ _ er1) kP_X0_high (x := ⟨"BladeBetweenThumbs$Sounding", "high", "(II)I"⟩) rfl wd_2_216 wd_2_217 wd_2_41 (Or.inl wd_2_32) rfl rfl rfl ⟨Nat.le_of_ble_eq_true rfl, Nat.le_of_ble_eq_true rfl⟩ ⟨Nat.zero_le _, Nat.zero_le _⟩ hl.1 (Nat.le_of_ble_eq_true rfl) rfl dX5_high_4 ?_
  refine lv_iload_n hx hb dX5_high_7 rfl (lv_at hl 1 rfl) ?_
  refine lv_isub hx hb dX5_high_8 ?_
  refine lv_iconst (v := 2) hx hb dX5_high_9 (by decide) ?_
  refine lv_idiv hx hb dX5_high_10 (by decide) ?_
  refine lv_iadd hx hb dX5_high_11 ?_
  exact gret_i E hr hlk dX5_high_12 (som_e hf).symm
noncomputable def fvhigh (σ : St) (j : Nat) (a1 : Int32) (a2 : Int32) : Option Int32 := if gS σ 1 j = 0 then fX0_high σ j a1 a2 else if gS σ 1 j = 1 then fX0_high σ j a1 a2 else if gS σ 1 j = 2 then fX0_high σ j a1 a2 else if gS σ 1 j = 5 then fX5_high σ j a1 a2 else if gS σ 1 j = 6 then fX0_high σ j a1 a2 else if gS σ 1 j = 7 then fX0_high σ j a1 a2 else if gS σ 1 j = 8 then fX0_high σ j a1 a2 else if gS σ 1 j = 10 then fX0_high σ j a1 a2 else none
set_option maxHeartbeats 4000000 in
theorem vhigh {p : Program} {l : Launch} {e : Env} {R : Room} {s : State} {m : MethodId} {args : Array Value} {below : List Frame} {meth : Method} {c : Code} {H : Heap} {locs : List Loc} {cells slots : Nat} {Q : State → Prop} {cc : ByteArray} {pc nL index j : Nat} {ls : Array Slot} {rest st : List Value} {own : String} {dC : Nat → ClassId} {dI : Nat → Nat → Nat} {ks : Nat → ClassId} {ad : Nat → Nat → Nat} {σ : St} {a1 : Int32} {a2 : Int32} {out : Int32} (E : CallFix p m c cc nL s args tT own) (hK : gK dC dI ks s) (hP : va_P (dC, dI) vwCl (wG ks ad σ) H) (hj : j < gS σ 2 0 ∧ okc (gS σ 1 j)) (hf : fvhigh σ j a1 a2 = some out) (h1 : Cond.methodLink own index yX0_high ∈ tT) (hR : 2 ≤ R.frames ∧ 44 ≤ R.locals) (hz : cells ≤ R.cells ∧ slots ≤ R.slots) (hls : ls.size = nL) (hW : (rest.map fun v => v.category).sum ≤ 8) (hst : st = .int a2 :: .int a1 :: .ref (ad 16 j) :: rest) (hdg : decode cc pc = .ok (.invokevirtual index, 3)) (kk : W p l e R s m args below meth c H locs cells slots Q (F0 m (pc + 3) ls (.int out :: rest))) : W p l e R s m args below meth c H locs cells slots Q (F0 m pc ls st) := by
  have he := q_blow ks ad σ hj.1
  rcases hj.2 with h | h | h | h | h | h | h | h <;> rw [h] at he
  · exact gVr_i E hK hP (cX0_highc hj _ _ (by simpa [fvhigh, h] using hf)) kV_X0_high h1 rfl rfl he (ci := 0) rfl rfl rfl ⟨Nat.le_trans (Nat.le_of_ble_eq_true rfl) hR.1, Nat.le_trans (Nat.le_of_ble_eq_true rfl) hR.2⟩ hz hls hW hst hdg kk
  · exact gUr_i E hK hP (cX0_highc hj _ _ (by simpa [fvhigh, h] using hf)) kU_high_1 h1 rfl rfl he (ci := 1) rfl rfl rfl ⟨Nat.le_trans (Nat.le_of_ble_eq_true rfl) hR.1, Nat.le_trans (Nat.le_of_ble_eq_true rfl) hR.2⟩ hz hls hW hst hdg kk
  · exact gUr_i E hK hP (cX0_highc hj _ _ (by simpa [fvhigh, h] using hf)) kU_high_2 h1 rfl rfl he (ci := 2) rfl rfl rfl ⟨Nat.le_trans (Nat.le_of_ble_eq_true rfl) hR.1, Nat.le_trans (Nat.le_of_ble_eq_true rfl) hR.2⟩ hz hls hW hst hdg kk
  · exact gOr_i E hK hP (cX5_highc hj _ _ (by simpa [fvhigh, h] using hf)) kU_high_5 h1 rfl rfl he (ci := 5) rfl rfl rfl ⟨Nat.le_trans (Nat.le_of_ble_eq_true rfl) hR.1, Nat.le_trans (Nat.le_of_ble_eq_true rfl) hR.2⟩ hz hls hW hst hdg kk
  · exact gUr_i E hK hP (cX0_highc hj _ _ (by simpa [fvhigh, h] using hf)) kU_high_6 h1 rfl rfl he (ci := 6) rfl rfl rfl ⟨Nat.le_trans (Nat.le_of_ble_eq_true rfl) hR.1, Nat.le_trans (Nat.le_of_ble_eq_true rfl) hR.2⟩ hz hls hW hst hdg kk
  · exact gUr_i E hK hP (cX0_highc hj _ _ (by simpa [fvhigh, h] using hf)) kU_high_7 h1 rfl rfl he (ci := 7) rfl rfl rfl ⟨Nat.le_trans (Nat.le_of_ble_eq_true rfl) hR.1, Nat.le_trans (Nat.le_of_ble_eq_true rfl) hR.2⟩ hz hls hW hst hdg kk
  · exact gUr_i E hK hP (cX0_highc hj _ _ (by simpa [fvhigh, h] using hf)) kU_high_8 h1 rfl rfl he (ci := 8) rfl rfl rfl ⟨Nat.le_trans (Nat.le_of_ble_eq_true rfl) hR.1, Nat.le_trans (Nat.le_of_ble_eq_true rfl) hR.2⟩ hz hls hW hst hdg kk
  · exact gUr_i E hK hP (cX0_highc hj _ _ (by simpa [fvhigh, h] using hf)) kU_high_10 h1 rfl rfl he (ci := 10) rfl rfl rfl ⟨Nat.le_trans (Nat.le_of_ble_eq_true rfl) hR.1, Nat.le_trans (Nat.le_of_ble_eq_true rfl) hR.2⟩ hz hls hW hst hdg kk
noncomputable def fX0_softest (σ : St) (j : Nat) (a1 : Int32) : Option (Int32) :=
  some (6 + (2 * a1))
def rX0_softest : Room := { frames := 0, cells := 0, slots := 0, locals := 0 }
set_option maxHeartbeats 4000000 in
set_option maxRecDepth 100000 in
theorem cX0_softestc {l : Launch} {dC : Nat → ClassId} {dI : Nat → Nat → Nat} {ks : Nat → ClassId} {ad : Nat → Nat → Nat} {σ : St} {j : Nat} (hj : j < gS σ 2 0 ∧ okc (gS σ 1 j)) (a1 : Int32)  {out : Int32} (hf : fX0_softest σ j a1 = some out) : MRi l dC dI ks ad σ yX0_softest cX0_softest 2 (some .int) rX0_softest [.ref (ad 16 j), .int a1] out := by
  refine met_r (own := RX0) (by decide) rfl (Nat.le_of_ble_eq_true rfl) ?_
  intro p e s m args below meth c ls E hr hlk hP hK hl
  have hx := E.1
  have hb := E.2.1
  have hl : lv_has ls 2 [(0, .ref (ad 16 j)), (1, .int a1)] := hl
  unfold fX0_softest at hf
  refine lv_bipush (v := 6) hx hb dX0_softest_0 (by decide) ?_
  refine lv_iconst (v := 2) hx hb dX0_softest_2 (by decide) ?_
  refine lv_iload_n hx hb dX0_softest_3 rfl (lv_at hl 1 rfl) ?_
  refine lv_imul hx hb dX0_softest_4 ?_
  refine lv_iadd hx hb dX0_softest_5 ?_
  exact gret_i E hr hlk dX0_softest_6 (som_e hf).symm
noncomputable def fX2_softest (σ : St) (j : Nat) (a1 : Int32) : Option (Int32) :=
  some 61
def rX2_softest : Room := { frames := 0, cells := 0, slots := 0, locals := 0 }
set_option maxHeartbeats 4000000 in
set_option maxRecDepth 100000 in
theorem cX2_softestc {l : Launch} {dC : Nat → ClassId} {dI : Nat → Nat → Nat} {ks : Nat → ClassId} {ad : Nat → Nat → Nat} {σ : St} {j : Nat} (hj : j < gS σ 2 0 ∧ okc (gS σ 1 j)) (a1 : Int32)  {out : Int32} (hf : fX2_softest σ j a1 = some out) : MRi l dC dI ks ad σ yX2_softest cX2_softest 2 (some .int) rX2_softest [.ref (ad 16 j), .int a1] out := by
  refine met_r (own := RX2) (by decide) rfl (Nat.le_of_ble_eq_true rfl) ?_
  intro p e s m args below meth c ls E hr hlk hP hK hl
  have hx := E.1
  have hb := E.2.1
  have hl : lv_has ls 2 [(0, .ref (ad 16 j)), (1, .int a1)] := hl
  unfold fX2_softest at hf
  refine lv_bipush (v := 61) hx hb dX2_softest_0 (by decide) ?_
  exact gret_i E hr hlk dX2_softest_2 (som_e hf).symm
noncomputable def fX5_softest (σ : St) (j : Nat) (a1 : Int32) : Option (Int32) :=
  bd (fX0_softest σ j a1) fun r1 =>
  some (2 * r1)
def rX5_softest : Room := { frames := 1, cells := 0, slots := 0, locals := 21 }
set_option maxHeartbeats 4000000 in
set_option maxRecDepth 100000 in
theorem cX5_softestc {l : Launch} {dC : Nat → ClassId} {dI : Nat → Nat → Nat} {ks : Nat → ClassId} {ad : Nat → Nat → Nat} {σ : St} {j : Nat} (hj : j < gS σ 2 0 ∧ okc (gS σ 1 j)) (a1 : Int32)  {out : Int32} (hf : fX5_softest σ j a1 = some out) : MRi l dC dI ks ad σ yX5_softest cX5_softest 2 (some .int) rX5_softest [.ref (ad 16 j), .int a1] out := by
  refine met_r (own := RX5) (by decide) rfl (Nat.le_of_ble_eq_true rfl) ?_
  intro p e s m args below meth c ls E hr hlk hP hK hl
  have hx := E.1
  have hb := E.2.1
  have hl : lv_has ls 2 [(0, .ref (ad 16 j)), (1, .int a1)] := hl
  unfold fX5_softest at hf
  refine lv_iconst (v := 2) hx hb dX5_softest_0 (by decide) ?_
  refine lv_aload_n hx hb dX5_softest_1 rfl (lv_at hl 0 rfl) ?_
  refine lv_iload_n hx hb dX5_softest_2 rfl (lv_at hl 1 rfl) ?_
  obtain ⟨r1, er1, hf⟩ := bd_e hf
  refine gPd (owner := RX0) E hK hP hj (cX0_softestc hj _ er1) kP_X0_softest (x := ⟨"BladeBetweenThumbs$Sounding", "softest", "(I)I"⟩) rfl wd_2_235 wd_2_236 wd_2_41 (Or.inl wd_2_32) rfl rfl rfl ⟨Nat.le_of_ble_eq_true rfl, Nat.le_of_ble_eq_true rfl⟩ ⟨Nat.zero_le _, Nat.zero_le _⟩ hl.1 (Nat.le_of_ble_eq_true rfl) rfl dX5_softest_3 ?_
  refine lv_imul hx hb dX5_softest_6 ?_
  exact gret_i E hr hlk dX5_softest_7 (som_e hf).symm
noncomputable def fX7_softest (σ : St) (j : Nat) (a1 : Int32) : Option (Int32) :=
  bd (fX0_softest σ j a1) fun r1 =>
  some (r1 / 2)
def rX7_softest : Room := { frames := 1, cells := 0, slots := 0, locals := 21 }
set_option maxHeartbeats 4000000 in
set_option maxRecDepth 100000 in
theorem cX7_softestc {l : Launch} {dC : Nat → ClassId} {dI : Nat → Nat → Nat} {ks : Nat → ClassId} {ad : Nat → Nat → Nat} {σ : St} {j : Nat} (hj : j < gS σ 2 0 ∧ okc (gS σ 1 j)) (a1 : Int32)  {out : Int32} (hf : fX7_softest σ j a1 = some out) : MRi l dC dI ks ad σ yX7_softest cX7_softest 2 (some .int) rX7_softest [.ref (ad 16 j), .int a1] out := by
  refine met_r (own := RX7) (by decide) rfl (Nat.le_of_ble_eq_true rfl) ?_
  intro p e s m args below meth c ls E hr hlk hP hK hl
  have hx := E.1
  have hb := E.2.1
  have hl : lv_has ls 2 [(0, .ref (ad 16 j)), (1, .int a1)] := hl
  unfold fX7_softest at hf
  refine lv_aload_n hx hb dX7_softest_0 rfl (lv_at hl 0 rfl) ?_
  refine lv_iload_n hx hb dX7_softest_1 rfl (lv_at hl 1 rfl) ?_
  obtain ⟨r1, er1, hf⟩ := bd_e hf
  refine gPd (owner := RX0) E hK hP hj (cX0_softestc hj _ er1) kP_X0_softest (x := ⟨"BladeBetweenThumbs$Cupped", "softest", "(I)I"⟩) rfl wd_3_2 wd_3_3 wd_2_68 (Or.inr ⟨RX8, wd_2_59, wd_2_32⟩) rfl rfl rfl ⟨Nat.le_of_ble_eq_true rfl, Nat.le_of_ble_eq_true rfl⟩ ⟨Nat.zero_le _, Nat.zero_le _⟩ hl.1 (Nat.le_of_ble_eq_true rfl) rfl dX7_softest_2 ?_
  refine lv_iconst (v := 2) hx hb dX7_softest_5 (by decide) ?_
  refine lv_idiv hx hb dX7_softest_6 (by decide) ?_
  exact gret_i E hr hlk dX7_softest_7 (som_e hf).symm
noncomputable def fvsoftest (σ : St) (j : Nat) (a1 : Int32) : Option Int32 := if gS σ 1 j = 0 then fX0_softest σ j a1 else if gS σ 1 j = 1 then fX0_softest σ j a1 else if gS σ 1 j = 2 then fX2_softest σ j a1 else if gS σ 1 j = 5 then fX5_softest σ j a1 else if gS σ 1 j = 6 then fX2_softest σ j a1 else if gS σ 1 j = 7 then fX7_softest σ j a1 else if gS σ 1 j = 8 then fX0_softest σ j a1 else if gS σ 1 j = 10 then fX0_softest σ j a1 else none
set_option maxHeartbeats 4000000 in
theorem vsoftest {p : Program} {l : Launch} {e : Env} {R : Room} {s : State} {m : MethodId} {args : Array Value} {below : List Frame} {meth : Method} {c : Code} {H : Heap} {locs : List Loc} {cells slots : Nat} {Q : State → Prop} {cc : ByteArray} {pc nL index j : Nat} {ls : Array Slot} {rest st : List Value} {own : String} {dC : Nat → ClassId} {dI : Nat → Nat → Nat} {ks : Nat → ClassId} {ad : Nat → Nat → Nat} {σ : St} {a1 : Int32} {out : Int32} (E : CallFix p m c cc nL s args tT own) (hK : gK dC dI ks s) (hP : va_P (dC, dI) vwCl (wG ks ad σ) H) (hj : j < gS σ 2 0 ∧ okc (gS σ 1 j)) (hf : fvsoftest σ j a1 = some out) (h1 : Cond.methodLink own index yX0_softest ∈ tT) (hR : 2 ≤ R.frames ∧ 42 ≤ R.locals) (hz : cells ≤ R.cells ∧ slots ≤ R.slots) (hls : ls.size = nL) (hW : (rest.map fun v => v.category).sum ≤ 8) (hst : st = .int a1 :: .ref (ad 16 j) :: rest) (hdg : decode cc pc = .ok (.invokevirtual index, 3)) (kk : W p l e R s m args below meth c H locs cells slots Q (F0 m (pc + 3) ls (.int out :: rest))) : W p l e R s m args below meth c H locs cells slots Q (F0 m pc ls st) := by
  have he := q_blow ks ad σ hj.1
  rcases hj.2 with h | h | h | h | h | h | h | h <;> rw [h] at he
  · exact gVr_i E hK hP (cX0_softestc hj _ (by simpa [fvsoftest, h] using hf)) kV_X0_softest h1 rfl rfl he (ci := 0) rfl rfl rfl ⟨Nat.le_trans (Nat.le_of_ble_eq_true rfl) hR.1, Nat.le_trans (Nat.le_of_ble_eq_true rfl) hR.2⟩ hz hls hW hst hdg kk
  · exact gUr_i E hK hP (cX0_softestc hj _ (by simpa [fvsoftest, h] using hf)) kU_softest_1 h1 rfl rfl he (ci := 1) rfl rfl rfl ⟨Nat.le_trans (Nat.le_of_ble_eq_true rfl) hR.1, Nat.le_trans (Nat.le_of_ble_eq_true rfl) hR.2⟩ hz hls hW hst hdg kk
  · exact gOr_i E hK hP (cX2_softestc hj _ (by simpa [fvsoftest, h] using hf)) kU_softest_2 h1 rfl rfl he (ci := 2) rfl rfl rfl ⟨Nat.le_trans (Nat.le_of_ble_eq_true rfl) hR.1, Nat.le_trans (Nat.le_of_ble_eq_true rfl) hR.2⟩ hz hls hW hst hdg kk
  · exact gOr_i E hK hP (cX5_softestc hj _ (by simpa [fvsoftest, h] using hf)) kU_softest_5 h1 rfl rfl he (ci := 5) rfl rfl rfl ⟨Nat.le_trans (Nat.le_of_ble_eq_true rfl) hR.1, Nat.le_trans (Nat.le_of_ble_eq_true rfl) hR.2⟩ hz hls hW hst hdg kk
  · exact gOr_i E hK hP (cX2_softestc hj _ (by simpa [fvsoftest, h] using hf)) kU_softest_6 h1 rfl rfl he (ci := 6) rfl rfl rfl ⟨Nat.le_trans (Nat.le_of_ble_eq_true rfl) hR.1, Nat.le_trans (Nat.le_of_ble_eq_true rfl) hR.2⟩ hz hls hW hst hdg kk
  · exact gOr_i E hK hP (cX7_softestc hj _ (by simpa [fvsoftest, h] using hf)) kU_softest_7 h1 rfl rfl he (ci := 7) rfl rfl rfl ⟨Nat.le_trans (Nat.le_of_ble_eq_true rfl) hR.1, Nat.le_trans (Nat.le_of_ble_eq_true rfl) hR.2⟩ hz hls hW hst hdg kk
  · exact gUr_i E hK hP (cX0_softestc hj _ (by simpa [fvsoftest, h] using hf)) kU_softest_8 h1 rfl rfl he (ci := 8) rfl rfl rfl ⟨Nat.le_trans (Nat.le_of_ble_eq_true rfl) hR.1, Nat.le_trans (Nat.le_of_ble_eq_true rfl) hR.2⟩ hz hls hW hst hdg kk
  · exact gUr_i E hK hP (cX0_softestc hj _ (by simpa [fvsoftest, h] using hf)) kU_softest_10 h1 rfl rfl he (ci := 10) rfl rfl rfl ⟨Nat.le_trans (Nat.le_of_ble_eq_true rfl) hR.1, Nat.le_trans (Nat.le_of_ble_eq_true rfl) hR.2⟩ hz hls hW hst hdg kk
noncomputable def fX0_hardest (σ : St) (j : Nat) (a1 : Int32) : Option (Int32) :=
  some (a1 + 20)
def rX0_hardest : Room := { frames := 0, cells := 0, slots := 0, locals := 0 }
set_option maxHeartbeats 4000000 in
set_option maxRecDepth 100000 in
theorem cX0_hardestc {l : Launch} {dC : Nat → ClassId} {dI : Nat → Nat → Nat} {ks : Nat → ClassId} {ad : Nat → Nat → Nat} {σ : St} {j : Nat} (hj : j < gS σ 2 0 ∧ okc (gS σ 1 j)) (a1 : Int32)  {out : Int32} (hf : fX0_hardest σ j a1 = some out) : MRi l dC dI ks ad σ yX0_hardest cX0_hardest 2 (some .int) rX0_hardest [.ref (ad 16 j), .int a1] out := by
  refine met_r (own := RX0) (by decide) rfl (Nat.le_of_ble_eq_true rfl) ?_
  intro p e s m args below meth c ls E hr hlk hP hK hl
  have hx := E.1
  have hb := E.2.1
  have hl : lv_has ls 2 [(0, .ref (ad 16 j)), (1, .int a1)] := hl
  unfold fX0_hardest at hf
  refine lv_iload_n hx hb dX0_hardest_0 rfl (lv_at hl 1 rfl) ?_
  refine lv_bipush (v := 20) hx hb dX0_hardest_1 (by decide) ?_
  refine lv_iadd hx hb dX0_hardest_3 ?_
  exact gret_i E hr hlk dX0_hardest_4 (som_e hf).symm
noncomputable def fX7_hardest (σ : St) (j : Nat) (a1 : Int32) : Option (Int32) :=
  bd (fX0_hardest σ j a1) fun r1 =>
  some (a1 + ((r1 - a1) / 2))
def rX7_hardest : Room := { frames := 1, cells := 0, slots := 0, locals := 21 }
set_option maxHeartbeats 4000000 in
set_option maxRecDepth 100000 in
theorem cX7_hardestc {l : Launch} {dC : Nat → ClassId} {dI : Nat → Nat → Nat} {ks : Nat → ClassId} {ad : Nat → Nat → Nat} {σ : St} {j : Nat} (hj : j < gS σ 2 0 ∧ okc (gS σ 1 j)) (a1 : Int32)  {out : Int32} (hf : fX7_hardest σ j a1 = some out) : MRi l dC dI ks ad σ yX7_hardest cX7_hardest 2 (some .int) rX7_hardest [.ref (ad 16 j), .int a1] out := by
  refine met_r (own := RX7) (by decide) rfl (Nat.le_of_ble_eq_true rfl) ?_
  intro p e s m args below meth c ls E hr hlk hP hK hl
  have hx := E.1
  have hb := E.2.1
  have hl : lv_has ls 2 [(0, .ref (ad 16 j)), (1, .int a1)] := hl
  unfold fX7_hardest at hf
  refine lv_iload_n hx hb dX7_hardest_0 rfl (lv_at hl 1 rfl) ?_
  refine lv_aload_n hx hb dX7_hardest_1 rfl (lv_at hl 0 rfl) ?_
  refine lv_iload_n hx hb dX7_hardest_2 rfl (lv_at hl 1 rfl) ?_
  obtain ⟨r1, er1, hf⟩ := bd_e hf
  refine gPd (owner := RX0) E hK hP hj (cX0_hardestc hj _ er1) kP_X0_hardest (x := ⟨"BladeBetweenThumbs$Cupped", "hardest", "(I)I"⟩) rfl wd_3_18 wd_3_19 wd_2_68 (Or.inr ⟨RX8, wd_2_59, wd_2_32⟩) rfl rfl rfl ⟨Nat.le_of_ble_eq_true rfl, Nat.le_of_ble_eq_true rfl⟩ ⟨Nat.zero_le _, Nat.zero_le _⟩ hl.1 (Nat.le_of_ble_eq_true rfl) rfl dX7_hardest_3 ?_
  refine lv_iload_n hx hb dX7_hardest_6 rfl (lv_at hl 1 rfl) ?_
  refine lv_isub hx hb dX7_hardest_7 ?_
  refine lv_iconst (v := 2) hx hb dX7_hardest_8 (by decide) ?_
  refine lv_idiv hx hb dX7_hardest_9 (by decide) ?_
  refine lv_iadd hx hb dX7_hardest_10 ?_
  exact gret_i E hr hlk dX7_hardest_11 (som_e hf).symm
noncomputable def fX10_hardest (σ : St) (j : Nat) (a1 : Int32) : Option (Int32) :=
  bd (fX0_hardest σ j a1) fun r1 =>
  some (r1 - (gI σ 14 0 j))
def rX10_hardest : Room := { frames := 1, cells := 0, slots := 0, locals := 21 }
set_option maxHeartbeats 4000000 in
set_option maxRecDepth 100000 in
theorem cX10_hardestc {l : Launch} {dC : Nat → ClassId} {dI : Nat → Nat → Nat} {ks : Nat → ClassId} {ad : Nat → Nat → Nat} {σ : St} {j : Nat} (hj : j < gS σ 2 0 ∧ okc (gS σ 1 j)) (a1 : Int32)  {out : Int32} (hf : fX10_hardest σ j a1 = some out) : MRi l dC dI ks ad σ yX10_hardest cX10_hardest 2 (some .int) rX10_hardest [.ref (ad 16 j), .int a1] out := by
  refine met_r (own := RX10) (by decide) rfl (Nat.le_of_ble_eq_true rfl) ?_
  intro p e s m args below meth c ls E hr hlk hP hK hl
  have hx := E.1
  have hb := E.2.1
  have hl : lv_has ls 2 [(0, .ref (ad 16 j)), (1, .int a1)] := hl
  unfold fX10_hardest at hf
  refine lv_aload_n hx hb dX10_hardest_0 rfl (lv_at hl 0 rfl) ?_
  refine lv_iload_n hx hb dX10_hardest_1 rfl (lv_at hl 1 rfl) ?_
  obtain ⟨r1, er1, hf⟩ := bd_e hf
  refine gPb E hK hP hj (cX0_hardestc hj _ er1) kP_X0_hardest wd_3_25 wd_3_10 wd_2_50 rfl rfl rfl ⟨Nat.le_of_ble_eq_true rfl, Nat.le_of_ble_eq_true rfl⟩ ⟨Nat.zero_le _, Nat.zero_le _⟩ hl.1 (Nat.le_of_ble_eq_true rfl) rfl dX10_hardest_2 ?_
  refine lv_aload_n hx hb dX10_hardest_5 rfl (lv_at hl 0 rfl) ?_
  refine gfig E hK hP hj wd_2_1 (Or.inr wd_2_2) dX10_hardest_6 ?_
  refine lv_isub hx hb dX10_hardest_9 ?_
  exact gret_i E hr hlk dX10_hardest_10 (som_e hf).symm
noncomputable def fvhardest (σ : St) (j : Nat) (a1 : Int32) : Option Int32 := if gS σ 1 j = 0 then fX0_hardest σ j a1 else if gS σ 1 j = 1 then fX0_hardest σ j a1 else if gS σ 1 j = 2 then fX0_hardest σ j a1 else if gS σ 1 j = 5 then fX0_hardest σ j a1 else if gS σ 1 j = 6 then fX0_hardest σ j a1 else if gS σ 1 j = 7 then fX7_hardest σ j a1 else if gS σ 1 j = 8 then fX0_hardest σ j a1 else if gS σ 1 j = 10 then fX10_hardest σ j a1 else none
set_option maxHeartbeats 4000000 in
theorem vhardest {p : Program} {l : Launch} {e : Env} {R : Room} {s : State} {m : MethodId} {args : Array Value} {below : List Frame} {meth : Method} {c : Code} {H : Heap} {locs : List Loc} {cells slots : Nat} {Q : State → Prop} {cc : ByteArray} {pc nL index j : Nat} {ls : Array Slot} {rest st : List Value} {own : String} {dC : Nat → ClassId} {dI : Nat → Nat → Nat} {ks : Nat → ClassId} {ad : Nat → Nat → Nat} {σ : St} {a1 : Int32} {out : Int32} (E : CallFix p m c cc nL s args tT own) (hK : gK dC dI ks s) (hP : va_P (dC, dI) vwCl (wG ks ad σ) H) (hj : j < gS σ 2 0 ∧ okc (gS σ 1 j)) (hf : fvhardest σ j a1 = some out) (h1 : Cond.methodLink own index yX0_hardest ∈ tT) (hR : 2 ≤ R.frames ∧ 42 ≤ R.locals) (hz : cells ≤ R.cells ∧ slots ≤ R.slots) (hls : ls.size = nL) (hW : (rest.map fun v => v.category).sum ≤ 8) (hst : st = .int a1 :: .ref (ad 16 j) :: rest) (hdg : decode cc pc = .ok (.invokevirtual index, 3)) (kk : W p l e R s m args below meth c H locs cells slots Q (F0 m (pc + 3) ls (.int out :: rest))) : W p l e R s m args below meth c H locs cells slots Q (F0 m pc ls st) := by
  have he := q_blow ks ad σ hj.1
  rcases hj.2 with h | h | h | h | h | h | h | h <;> rw [h] at he
  · exact gVr_i E hK hP (cX0_hardestc hj _ (by simpa [fvhardest, h] using hf)) kV_X0_hardest h1 rfl rfl he (ci := 0) rfl rfl rfl ⟨Nat.le_trans (Nat.le_of_ble_eq_true rfl) hR.1, Nat.le_trans (Nat.le_of_ble_eq_true rfl) hR.2⟩ hz hls hW hst hdg kk
  · exact gUr_i E hK hP (cX0_hardestc hj _ (by simpa [fvhardest, h] using hf)) kU_hardest_1 h1 rfl rfl he (ci := 1) rfl rfl rfl ⟨Nat.le_trans (Nat.le_of_ble_eq_true rfl) hR.1, Nat.le_trans (Nat.le_of_ble_eq_true rfl) hR.2⟩ hz hls hW hst hdg kk
  · exact gUr_i E hK hP (cX0_hardestc hj _ (by simpa [fvhardest, h] using hf)) kU_hardest_2 h1 rfl rfl he (ci := 2) rfl rfl rfl ⟨Nat.le_trans (Nat.le_of_ble_eq_true rfl) hR.1, Nat.le_trans (Nat.le_of_ble_eq_true rfl) hR.2⟩ hz hls hW hst hdg kk
  · exact gUr_i E hK hP (cX0_hardestc hj _ (by simpa [fvhardest, h] using hf)) kU_hardest_5 h1 rfl rfl he (ci := 5) rfl rfl rfl ⟨Nat.le_trans (Nat.le_of_ble_eq_true rfl) hR.1, Nat.le_trans (Nat.le_of_ble_eq_true rfl) hR.2⟩ hz hls hW hst hdg kk
  · exact gUr_i E hK hP (cX0_hardestc hj _ (by simpa [fvhardest, h] using hf)) kU_hardest_6 h1 rfl rfl he (ci := 6) rfl rfl rfl ⟨Nat.le_trans (Nat.le_of_ble_eq_true rfl) hR.1, Nat.le_trans (Nat.le_of_ble_eq_true rfl) hR.2⟩ hz hls hW hst hdg kk
  · exact gOr_i E hK hP (cX7_hardestc hj _ (by simpa [fvhardest, h] using hf)) kU_hardest_7 h1 rfl rfl he (ci := 7) rfl rfl rfl ⟨Nat.le_trans (Nat.le_of_ble_eq_true rfl) hR.1, Nat.le_trans (Nat.le_of_ble_eq_true rfl) hR.2⟩ hz hls hW hst hdg kk
  · exact gUr_i E hK hP (cX0_hardestc hj _ (by simpa [fvhardest, h] using hf)) kU_hardest_8 h1 rfl rfl he (ci := 8) rfl rfl rfl ⟨Nat.le_trans (Nat.le_of_ble_eq_true rfl) hR.1, Nat.le_trans (Nat.le_of_ble_eq_true rfl) hR.2⟩ hz hls hW hst hdg kk
  · exact gOr_i E hK hP (cX10_hardestc hj _ (by simpa [fvhardest, h] using hf)) kU_hardest_10 h1 rfl rfl he (ci := 10) rfl rfl rfl ⟨Nat.le_trans (Nat.le_of_ble_eq_true rfl) hR.1, Nat.le_trans (Nat.le_of_ble_eq_true rfl) hR.2⟩ hz hls hW hst hdg kk
noncomputable def fX3_spanOf (σ : St) (h : Nat) (a1 : Int32) (a2 : Int32) (a3 : Int32) : Option (St) :=
  ck (vp_in a3 6) <|
  bd (gR σ 0 h a3.toNatClampNeg) fun j2 =>
  ck (j2 < gS σ 2 0 ∧ okc (gS σ 1 j2)) <|
  ck (vp_in a1 6) <|
  ck (vp_in a2 4) <|
  bd (fvlow σ j2 (gI σ 1 h a1.toNatClampNeg) (gI σ 5 h a2.toNatClampNeg)) fun r5 =>
  nmv (sI σ 7 h 0 r5) fun σ6 =>
  ck (vp_in a3 6) <|
  bd (gR σ6 0 h a3.toNatClampNeg) fun j8 =>
  ck (j8 < gS σ6 2 0 ∧ okc (gS σ6 1 j8)) <|
  ck (vp_in a1 6) <|
  bd (fvhigh σ6 j8 (gI σ6 7 h 0) (gI σ6 3 h a1.toNatClampNeg)) fun r10 =>
  nmv (sI σ6 7 h 1 r10) fun σ11 =>
  ck (vp_in a2 4) <|
  nmv (sI σ11 7 h 2 (gI σ11 6 h a2.toNatClampNeg)) fun σ13 =>
  ck (vp_in a3 6) <|
  bd (gR σ13 0 h a3.toNatClampNeg) fun j15 =>
  ck (j15 < gS σ13 2 0 ∧ okc (gS σ13 1 j15)) <|
  ck (vp_in a2 4) <|
  bd (fvsoftest σ13 j15 (gI σ13 5 h a2.toNatClampNeg)) fun r17 =>
  nmv (sI σ13 7 h 3 r17) fun σ18 =>
  ck (vp_in a3 6) <|
  bd (gR σ18 0 h a3.toNatClampNeg) fun j20 =>
  ck (j20 < gS σ18 2 0 ∧ okc (gS σ18 1 j20)) <|
  bd (fvhardest σ18 j20 (gI σ18 7 h 3)) fun r21 =>
  nmv (sI σ18 7 h 4 r21) fun σ22 =>
  some σ22
def rX3_spanOf : Room := { frames := 3, cells := 0, slots := 0, locals := 71 }
set_option maxHeartbeats 4000000 in
set_option maxRecDepth 100000 in
theorem cX3_spanOfc {l : Launch} {dC : Nat → ClassId} {dI : Nat → Nat → Nat} {ks : Nat → ClassId} {ad : Nat → Nat → Nat} {σ : St} {h : Nat} (hh : h < 3) (a1 : Int32) (a2 : Int32) (a3 : Int32)  {out : St} (hf : fX3_spanOf σ h a1 a2 a3 = some out) : MWf l dC dI ks ad σ yX3_spanOf cX3_spanOf 4 (some (.object "BladeBetweenThumbs$Span")) rX3_spanOf [.ref (ad 1 h), .int a1, .int a2, .int a3] (ad 9 h) out := by
  intro sz
  refine met_w (Qc := fun A => va_Qq (fun r σ' => r = some (ad 9 h) ∧ σ' = out) (gBw dC dI ks ad A) A) (own := RX3) (by decide) rfl (Nat.le_of_ble_eq_true rfl) ?_
  intro A p e s m args below meth c ls E hr hlk hA hP hD hS hK hl
  have hx := E.1
  have hb := E.2.1
  have hl : lv_has ls 4 [(0, .ref (ad 1 h)), (1, .int a1), (2, .int a2), (3, .int a3)] := hl
  unfold fX3_spanOf at hf
  refine lv_aload_n hx hb dX3_spanOf_0 rfl (lv_at hl 0 rfl) ?_
  refine gget E in_X3 hK hP (qh_0 ks ad σ hh) rfl (k := 10) (by decide) wd_1_92 rfl (v := .ref (ad 9 h)) rfl dX3_spanOf_1 ?_
  refine lv_aload_n hx hb dX3_spanOf_4 rfl (lv_at hl 0 rfl) ?_
  refine gget E in_X3 hK hP (qh_0 ks ad σ hh) rfl (k := 9) (by decide) wd_1_90 rfl (v := .ref (ad 8 h)) rfl dX3_spanOf_5 ?_
  refine lv_iload_n hx hb dX3_spanOf_8 rfl (lv_at hl 3 rfl) ?_
  obtain ⟨c1, hf⟩ := ck_e hf
  refine gaaldB hh E hK hP c1 dX3_spanOf_9 ?_
  obtain ⟨j2, ej2, hf⟩ := bd_e hf
  obtain ⟨hj2, hf⟩ := ck_e hf
  refine lv_nmo ej2 ?_
  refine lv_aload_n hx hb dX3_spanOf_10 rfl (lv_at hl 0 rfl) ?_
  refine gget E in_X3 hK hP (qh_0 ks ad σ hh) rfl (k := 1) (by decide) wd_1_74 rfl (v := .ref (ad 2 h)) rfl dX3_spanOf_11 ?_
  refine lv_iload_n hx hb dX3_spanOf_14 rfl (lv_at hl 1 rfl) ?_
  obtain ⟨c3, hf⟩ := ck_e hf
  refine giald E hK hP (qh_1 ks ad σ hh) c3 dX3_spanOf_15 ?_
  refine lv_aload_n hx hb dX3_spanOf_16 rfl (lv_at hl 0 rfl) ?_
  refine gget E in_X3 hK hP (qh_0 ks ad σ hh) rfl (k := 6) (by decide) wd_1_84 rfl (v := .ref (ad 6 h)) rfl dX3_spanOf_17 ?_
  refine lv_iload_n hx hb dX3_spanOf_20 rfl (lv_at hl 2 rfl) ?_
  obtain ⟨c4, hf⟩ := ck_e hf
  refine giald E hK hP (qh_5 ks ad σ hh) c4 dX3_spanOf_21 ?_
  obtain ⟨r5, er5, hf⟩ := bd_e hf
  refine vlow E hK hP hj2 er5 wd_2_183 ⟨Nat.le_of_ble_eq_true rfl, Nat.le_of_ble_eq_true rfl⟩ ⟨Nat.zero_le _, Nat.zero_le _⟩ hl.1 (Nat.le_of_ble_eq_true rfl) rfl dX3_spanOf_22 ?_
  obtain ⟨σ6, eσ6, hf⟩ := nmv_e hf
  refine gput (k := 0) E in_X9 tyX9 tyX9_ok nmX9 hK hP hD hS (qh_8 ks ad σ hh) rfl (by decide) wd_1_48 rfl rfl rfl rfl rfl (Nat.le_of_ble_eq_true rfl) (σ' := σ6) (by rw [eσ6]; exact st_sp_0 ks ad σ hh _) dX3_spanOf_25 (fun H locs hP hD hS => ?_)
  refine lv_aload_n hx hb dX3_spanOf_28 rfl (lv_at hl 0 rfl) ?_
  refine gget E in_X3 hK hP (qh_0 ks ad σ6 hh) rfl (k := 10) (by decide) wd_1_92 rfl (v := .ref (ad 9 h)) rfl dX3_spanOf_29 ?_
  refine lv_aload_n hx hb dX3_spanOf_32 rfl (lv_at hl 0 rfl) ?_
  refine gget E in_X3 hK hP (qh_0 ks ad σ6 hh) rfl (k := 9) (by decide) wd_1_90 rfl (v := .ref (ad 8 h)) rfl dX3_spanOf_33 ?_
  refine lv_iload_n hx hb dX3_spanOf_36 rfl (lv_at hl 3 rfl) ?_
  obtain ⟨c7, hf⟩ := ck_e hf
  refine gaaldB hh E hK hP c7 dX3_spanOf_37 ?_
  obtain ⟨j8, ej8, hf⟩ := bd_e hf
  obtain ⟨hj8, hf⟩ := ck_e hf
  refine lv_nmo ej8 ?_
  refine lv_aload_n hx hb dX3_spanOf_38 rfl (lv_at hl 0 rfl) ?_
  refine gget E in_X3 hK hP (qh_0 ks ad σ6 hh) rfl (k := 10) (by decide) wd_1_92 rfl (v := .ref (ad 9 h)) rfl dX3_spanOf_39 ?_
  refine gget E in_X9 hK hP (qh_8 ks ad σ6 hh) rfl (k := 0) (by decide) wd_1_48 rfl (v := .int (gI σ6 7 h 0)) rfl dX3_spanOf_42 ?_
  refine lv_aload_n hx hb dX3_spanOf_45 rfl (lv_at hl 0 rfl) ?_
  refine gget E in_X3 hK hP (qh_0 ks ad σ6 hh) rfl (k := 3) (by decide) wd_1_78 rfl (v := .ref (ad 4 h)) rfl dX3_spanOf_46 ?_
  refine lv_iload_n hx hb dX3_spanOf_49 rfl (lv_at hl 1 rfl) ?_
  obtain ⟨c9, hf⟩ := ck_e hf
  refine giald E hK hP (qh_3 ks ad σ6 hh) c9 dX3_spanOf_50 ?_
  obtain ⟨r10, er10, hf⟩ := bd_e hf
  refine vhigh E hK hP hj8 er10 wd_2_207 ⟨Nat.le_of_ble_eq_true rfl, Nat.le_of_ble_eq_true rfl⟩ ⟨Nat.zero_le _, Nat.zero_le _⟩ hl.1 (Nat.le_of_ble_eq_true rfl) rfl dX3_spanOf_51 ?_
  obtain ⟨σ11, eσ11, hf⟩ := nmv_e hf
  refine gput (k := 1) E in_X9 tyX9 tyX9_ok nmX9 hK hP hD hS (qh_8 ks ad σ6 hh) rfl (by decide) wd_1_51 rfl rfl rfl rfl rfl (Nat.le_of_ble_eq_true rfl) (σ' := σ11) (by rw [eσ11]; exact st_sp_1 ks ad σ6 hh _) dX3_spanOf_54 (fun H locs hP hD hS => ?_)
  refine lv_aload_n hx hb dX3_spanOf_57 rfl (lv_at hl 0 rfl) ?_
  refine gget E in_X3 hK hP (qh_0 ks ad σ11 hh) rfl (k := 10) (by decide) wd_1_92 rfl (v := .ref (ad 9 h)) rfl dX3_spanOf_58 ?_
  refine lv_aload_n hx hb dX3_spanOf_61 rfl (lv_at hl 0 rfl) ?_
  refine gget E in_X3 hK hP (qh_0 ks ad σ11 hh) rfl (k := 7) (by decide) wd_1_86 rfl (v := .ref (ad 7 h)) rfl dX3_spanOf_62 ?_
  refine lv_iload_n hx hb dX3_spanOf_65 rfl (lv_at hl 2 rfl) ?_
  obtain ⟨c12, hf⟩ := ck_e hf
  refine giald E hK hP (qh_6 ks ad σ11 hh) c12 dX3_spanOf_66 ?_
  obtain ⟨σ13, eσ13, hf⟩ := nmv_e hf
  refine gput (k := 2) E in_X9 tyX9 tyX9_ok nmX9 hK hP hD hS (qh_8 ks ad σ11 hh) rfl (by decide) wd_1_53 rfl rfl rfl rfl rfl (Nat.le_of_ble_eq_true rfl) (σ' := σ13) (by rw [eσ13]; exact st_sp_2 ks ad σ11 hh _) dX3_spanOf_67 (fun H locs hP hD hS => ?_)
  refine lv_aload_n hx hb dX3_spanOf_70 rfl (lv_at hl 0 rfl) ?_
  refine gget E in_X3 hK hP (qh_0 ks ad σ13 hh) rfl (k := 10) (by decide) wd_1_92 rfl (v := .ref (ad 9 h)) rfl dX3_spanOf_71 ?_
  refine lv_aload_n hx hb dX3_spanOf_74 rfl (lv_at hl 0 rfl) ?_
  refine gget E in_X3 hK hP (qh_0 ks ad σ13 hh) rfl (k := 9) (by decide) wd_1_90 rfl (v := .ref (ad 8 h)) rfl dX3_spanOf_75 ?_
  refine lv_iload_n hx hb dX3_spanOf_78 rfl (lv_at hl 3 rfl) ?_
  obtain ⟨c14, hf⟩ := ck_e hf
  refine gaaldB hh E hK hP c14 dX3_spanOf_79 ?_
  obtain ⟨j15, ej15, hf⟩ := bd_e hf
  obtain ⟨hj15, hf⟩ := ck_e hf
  refine lv_nmo ej15 ?_
  refine lv_aload_n hx hb dX3_spanOf_80 rfl (lv_at hl 0 rfl) ?_
  refine gget E in_X3 hK hP (qh_0 ks ad σ13 hh) rfl (k := 6) (by decide) wd_1_84 rfl (v := .ref (ad 6 h)) rfl dX3_spanOf_81 ?_
  refine lv_iload_n hx hb dX3_spanOf_84 rfl (lv_at hl 2 rfl) ?_
  obtain ⟨c16, hf⟩ := ck_e hf
  refine giald E hK hP (qh_5 ks ad σ13 hh) c16 dX3_spanOf_85 ?_
  obtain ⟨r17, er17, hf⟩ := bd_e hf
  refine vsoftest E hK hP hj15 er17 wd_2_224 ⟨Nat.le_of_ble_eq_true rfl, Nat.le_of_ble_eq_true rfl⟩ ⟨Nat.zero_le _, Nat.zero_le _⟩ hl.1 (Nat.le_of_ble_eq_true rfl) rfl dX3_spanOf_86 ?_
  obtain ⟨σ18, eσ18, hf⟩ := nmv_e hf
  refine gput (k := 3) E in_X9 tyX9 tyX9_ok nmX9 hK hP hD hS (qh_8 ks ad σ13 hh) rfl (by decide) wd_1_56 rfl rfl rfl rfl rfl (Nat.le_of_ble_eq_true rfl) (σ' := σ18) (by rw [eσ18]; exact st_sp_3 ks ad σ13 hh _) dX3_spanOf_89 (fun H locs hP hD hS => ?_)
  refine lv_aload_n hx hb dX3_spanOf_92 rfl (lv_at hl 0 rfl) ?_
  refine gget E in_X3 hK hP (qh_0 ks ad σ18 hh) rfl (k := 10) (by decide) wd_1_92 rfl (v := .ref (ad 9 h)) rfl dX3_spanOf_93 ?_
  refine lv_aload_n hx hb dX3_spanOf_96 rfl (lv_at hl 0 rfl) ?_
  refine gget E in_X3 hK hP (qh_0 ks ad σ18 hh) rfl (k := 9) (by decide) wd_1_90 rfl (v := .ref (ad 8 h)) rfl dX3_spanOf_97 ?_
  refine lv_iload_n hx hb dX3_spanOf_100 rfl (lv_at hl 3 rfl) ?_
  obtain ⟨c19, hf⟩ := ck_e hf
  refine gaaldB hh E hK hP c19 dX3_spanOf_101 ?_
  obtain ⟨j20, ej20, hf⟩ := bd_e hf
  obtain ⟨hj20, hf⟩ := ck_e hf
  refine lv_nmo ej20 ?_
  refine lv_aload_n hx hb dX3_spanOf_102 rfl (lv_at hl 0 rfl) ?_
  refine gget E in_X3 hK hP (qh_0 ks ad σ18 hh) rfl (k := 10) (by decide) wd_1_92 rfl (v := .ref (ad 9 h)) rfl dX3_spanOf_103 ?_
  refine gget E in_X9 hK hP (qh_8 ks ad σ18 hh) rfl (k := 3) (by decide) wd_1_56 rfl (v := .int (gI σ18 7 h 3)) rfl dX3_spanOf_106 ?_
  obtain ⟨r21, er21, hf⟩ := bd_e hf
  refine vhardest E hK hP hj20 er21 wd_3_7 ⟨Nat.le_of_ble_eq_true rfl, Nat.le_of_ble_eq_true rfl⟩ ⟨Nat.zero_le _, Nat.zero_le _⟩ hl.1 (Nat.le_of_ble_eq_true rfl) rfl dX3_spanOf_109 ?_
  obtain ⟨σ22, eσ22, hf⟩ := nmv_e hf
  refine gput (k := 4) E in_X9 tyX9 tyX9_ok nmX9 hK hP hD hS (qh_8 ks ad σ18 hh) rfl (by decide) wd_1_59 rfl rfl rfl rfl rfl (Nat.le_of_ble_eq_true rfl) (σ' := σ22) (by rw [eσ22]; exact st_sp_4 ks ad σ18 hh _) dX3_spanOf_112 (fun H locs hP hD hS => ?_)
  refine lv_aload_n hx hb dX3_spanOf_115 rfl (lv_at hl 0 rfl) ?_
  refine gget E in_X3 hK hP (qh_0 ks ad σ22 hh) rfl (k := 10) (by decide) wd_1_92 rfl (v := .ref (ad 9 h)) rfl dX3_spanOf_116 ?_
  exact gretw_f E hlk hP hD hS hr (Or.inl ⟨_, rfl⟩) dX3_spanOf_119 (som_e hf)
noncomputable def fX11_span (σ : St) (a1 : Int32) (a2 : Int32) (a3 : Int32) (a4 : Int32) : Option (Int32 × St) :=
  bd (fX3_hasAll σ 0 a1 a2 a3) fun r1 =>
  if r1 = 0 then
  some ((-1), σ)
  else
  bd (fX3_spanOf σ 0 a1 a2 a3) fun r3 =>
  if a4 = 0 then
  some (gI r3 7 0 0, r3)
  else
  if a4 = 1 then
  some (gI r3 7 0 1, r3)
  else
  if a4 = 2 then
  some (gI r3 7 0 3, r3)
  else
  if a4 = 3 then
  some (gI r3 7 0 4, r3)
  else
  some ((-1), r3)
def rX11_span : Room := { frames := 4, cells := 0, slots := 0, locals := 94 }
set_option maxHeartbeats 4000000 in
set_option maxRecDepth 100000 in
theorem cX11_spanc {l : Launch} {dC : Nat → ClassId} {dI : Nat → Nat → Nat} {ks : Nat → ClassId} {ad : Nat → Nat → Nat} {σ : St} (a1 : Int32) (a2 : Int32) (a3 : Int32) (a4 : Int32)  {out : Int32 × St} (hf : fX11_span σ a1 a2 a3 a4 = some out) : MWi l dC dI ks ad σ yX11_span cX11_span 6 (some .int) rX11_span [.ref (ad 0 0), .int a1, .int a2, .int a3, .int a4] out := by
  intro sz
  refine met_w (Qc := fun A => va_Qi (fun r σ' => r = out.1 ∧ σ' = out.2) (gBw dC dI ks ad A) A) (own := RX11) (by decide) rfl (Nat.le_of_ble_eq_true rfl) ?_
  intro A p e s m args below meth c ls E hr hlk hA hP hD hS hK hl
  have hx := E.1
  have hb := E.2.1
  have hl : lv_has ls 6 [(0, .ref (ad 0 0)), (1, .int a1), (2, .int a2), (3, .int a3), (4, .int a4)] := hl
  unfold fX11_span at hf
  refine lv_aload_n hx hb dX11_span_0 rfl (lv_at hl 0 rfl) ?_
  refine gget E in_X11 hK hP (q_main ks ad σ) rfl (k := 0) (by decide) wd_1_145 rfl (v := .ref (ad 1 0)) rfl dX11_span_1 ?_
  refine lv_iload_n hx hb dX11_span_4 rfl (lv_at hl 1 rfl) ?_
  refine lv_iload_n hx hb dX11_span_5 rfl (lv_at hl 2 rfl) ?_
  refine lv_iload_n hx hb dX11_span_6 rfl (lv_at hl 3 rfl) ?_
  obtain ⟨r1, er1, hf⟩ := bd_e hf
  refine gVr_i E hK hP (cX3_hasAllc (by decide : (0 : Nat) < 3) _ _ _ er1) kV_X3_hasAll wd_2_86 rfl rfl (qh_0 ks ad σ (by decide : (0 : Nat) < 3)) rfl rfl rfl ⟨Nat.le_of_ble_eq_true rfl, Nat.le_of_ble_eq_true rfl⟩ ⟨Nat.zero_le _, Nat.zero_le _⟩ hl.1 (Nat.le_of_ble_eq_true rfl) rfl dX11_span_7 ?_
  refine lv_if_ne (tgt := 15) hx hb dX11_span_10 (by decide) (fun c2 => ?_) (fun c2 => ?_)
  · replace hf := neg_e c2 hf
    refine lv_aload_n hx hb dX11_span_15 rfl (lv_at hl 0 rfl) ?_
    refine gget E in_X11 hK hP (q_main ks ad σ) rfl (k := 0) (by decide) wd_1_145 rfl (v := .ref (ad 1 0)) rfl dX11_span_16 ?_
    refine lv_iload_n hx hb dX11_span_19 rfl (lv_at hl 1 rfl) ?_
    refine lv_iload_n hx hb dX11_span_20 rfl (lv_at hl 2 rfl) ?_
    refine lv_iload_n hx hb dX11_span_21 rfl (lv_at hl 3 rfl) ?_
    obtain ⟨r3, er3, hf⟩ := bd_e hf
    refine gVw_f E hK hP hD hS hA (cX3_spanOfc (by decide : (0 : Nat) < 3) _ _ _ er3) kV_X3_spanOf wd_2_179 rfl rfl (qh_0 ks ad σ (by decide : (0 : Nat) < 3)) rfl rfl rfl ⟨Nat.le_of_ble_eq_true rfl, Nat.le_of_ble_eq_true rfl⟩ ⟨Nat.zero_le _, Nat.zero_le _⟩ hl.1 (Nat.le_of_ble_eq_true rfl) rfl dX11_span_22 (fun H locs hP hD hS => ?_)
    refine lv_astore (lv' := [(5, .ref (ad 9 0)), (0, .ref (ad 0 0)), (1, .int a1), (2, .int a2), (3, .int a3), (4, .int a4)]) hx hb dX11_span_25 hl (by decide) rfl (fun ls hl => ?_)
    refine lv_iload hx hb dX11_span_27 (lv_at hl 5 rfl) ?_
    by_cases c4 : a4 = 0
    · replace hf := pos_e c4 hf
      refine lv_tableIn (tgt := 60) (off := 31) hx hb dX11_span_29 (by rw [c4]; decide) (by rw [c4]; decide) (by rw [c4]; rfl) (by decide) ?_
      refine lv_aload hx hb dX11_span_60 (lv_at hl 0 rfl) ?_
      refine gget E in_X9 hK hP (qh_8 ks ad r3 (by decide : (0 : Nat) < 3)) rfl (k := 0) (by decide) wd_1_47 rfl (v := .int (gI r3 7 0 0)) rfl dX11_span_62 ?_
      exact gretw_i E hlk hP hD hS hr dX11_span_65 (som_e hf)
    · replace hf := neg_e c4 hf
      by_cases c5 : a4 = 1
      · replace hf := pos_e c5 hf
        refine lv_tableIn (tgt := 66) (off := 37) hx hb dX11_span_29 (by rw [c5]; decide) (by rw [c5]; decide) (by rw [c5]; rfl) (by decide) ?_
        refine lv_aload hx hb dX11_span_66 (lv_at hl 0 rfl) ?_
        refine gget E in_X9 hK hP (qh_8 ks ad r3 (by decide : (0 : Nat) < 3)) rfl (k := 1) (by decide) wd_1_50 rfl (v := .int (gI r3 7 0 1)) rfl dX11_span_68 ?_
        exact gretw_i E hlk hP hD hS hr dX11_span_71 (som_e hf)
      · replace hf := neg_e c5 hf
        by_cases c6 : a4 = 2
        · replace hf := pos_e c6 hf
          refine lv_tableIn (tgt := 72) (off := 43) hx hb dX11_span_29 (by rw [c6]; decide) (by rw [c6]; decide) (by rw [c6]; rfl) (by decide) ?_
          refine lv_aload hx hb dX11_span_72 (lv_at hl 0 rfl) ?_
          refine gget E in_X9 hK hP (qh_8 ks ad r3 (by decide : (0 : Nat) < 3)) rfl (k := 3) (by decide) wd_1_55 rfl (v := .int (gI r3 7 0 3)) rfl dX11_span_74 ?_
          exact gretw_i E hlk hP hD hS hr dX11_span_77 (som_e hf)
        · replace hf := neg_e c6 hf
          by_cases c7 : a4 = 3
          · replace hf := pos_e c7 hf
            refine lv_tableIn (tgt := 78) (off := 49) hx hb dX11_span_29 (by rw [c7]; decide) (by rw [c7]; decide) (by rw [c7]; rfl) (by decide) ?_
            refine lv_aload hx hb dX11_span_78 (lv_at hl 0 rfl) ?_
            refine gget E in_X9 hK hP (qh_8 ks ad r3 (by decide : (0 : Nat) < 3)) rfl (k := 4) (by decide) wd_1_58 rfl (v := .int (gI r3 7 0 4)) rfl dX11_span_80 ?_
            exact gretw_i E hlk hP hD hS hr dX11_span_83 (som_e hf)
          · replace hf := neg_e c7 hf
            refine lv_tableOut (tgt := 84) hx hb dX11_span_29 (by have q0 := lv_neT c4 (a := 0) rfl; have q1 := lv_neT c5 (a := 1) rfl; have q2 := lv_neT c6 (a := 2) rfl; have q3 := lv_neT c7 (a := 3) rfl; omega) (by decide) ?_
            refine lv_iconst (v := -1) hx hb dX11_span_84 (by decide) ?_
            exact gretw_i E hlk hP hD hS hr dX11_span_85 (som_e hf)
  · replace hf := pos_e c2 hf
    refine lv_iconst (v := -1) hx hb dX11_span_13 (by decide) ?_
    exact gretw_i E hlk hP hD hS hr dX11_span_14 (som_e hf)
noncomputable def fX9_wrongBits_J61 (σ : St) (h : Nat) (a2 : Int32) (v5 : Int32) (z6 : Int32) : Option (Int32) :=
  nmv (v5 ||| z6) fun v7 =>
  if a2 ≤ (gI σ 7 h 4) then
  nmv (v7 ||| (0 : Int32)) fun v9 =>
  some v9
  else
  nmv (v7 ||| (16 : Int32)) fun v10 =>
  some v10
noncomputable def fX9_wrongBits_J44 (σ : St) (h : Nat) (a2 : Int32) (v3 : Int32) (z4 : Int32) : Option (Int32) :=
  nmv (v3 ||| z4) fun v5 =>
  if (gI σ 7 h 3) ≤ a2 then
  fX9_wrongBits_J61 σ h a2 v5 0
  else
  fX9_wrongBits_J61 σ h a2 v5 8
noncomputable def fX9_wrongBits_J28 (σ : St) (h : Nat) (a1 : Int32) (a2 : Int32) (z1 : Int32) (z2 : Int32) : Option (Int32) :=
  nmv (z1 ||| z2) fun v3 =>
  if a1 ≤ (gI σ 7 h 2) then
  fX9_wrongBits_J44 σ h a2 v3 0
  else
  fX9_wrongBits_J44 σ h a2 v3 4
noncomputable def fX9_wrongBits_J13 (σ : St) (h : Nat) (a1 : Int32) (a2 : Int32) (z1 : Int32) : Option (Int32) :=
  if a1 ≤ (gI σ 7 h 1) then
  fX9_wrongBits_J28 σ h a1 a2 z1 0
  else
  fX9_wrongBits_J28 σ h a1 a2 z1 2
noncomputable def fX9_wrongBits (σ : St) (h : Nat) (a1 : Int32) (a2 : Int32) : Option (Int32) :=
  if (gI σ 7 h 0) ≤ a1 then
  fX9_wrongBits_J13 σ h a1 a2 0
  else
  fX9_wrongBits_J13 σ h a1 a2 1
def rX9_wrongBits : Room := { frames := 0, cells := 0, slots := 0, locals := 0 }
set_option maxHeartbeats 4000000 in
set_option maxRecDepth 100000 in
theorem cX9_wrongBitsc {l : Launch} {dC : Nat → ClassId} {dI : Nat → Nat → Nat} {ks : Nat → ClassId} {ad : Nat → Nat → Nat} {σ : St} {h : Nat} (hh : h < 3) (a1 : Int32) (a2 : Int32)  {out : Int32} (hf : fX9_wrongBits σ h a1 a2 = some out) : MRi l dC dI ks ad σ yX9_wrongBits cX9_wrongBits 4 (some .int) rX9_wrongBits [.ref (ad 9 h), .int a1, .int a2] out := by
  refine met_r (own := RX9) (by decide) rfl (Nat.le_of_ble_eq_true rfl) ?_
  intro p e s m args below meth c ls E hr hlk hP hK hl
  have hx := E.1
  have hb := E.2.1
  have hl : lv_has ls 4 [(0, .ref (ad 9 h)), (1, .int a1), (2, .int a2)] := hl
  unfold fX9_wrongBits at hf
  refine lv_iload_n hx hb dX9_wrongBits_0 rfl (lv_at hl 1 rfl) ?_
  refine lv_aload_n hx hb dX9_wrongBits_1 rfl (lv_at hl 0 rfl) ?_
  refine gget E in_X9 hK hP (qh_8 ks ad σ hh) rfl (k := 0) (by decide) wd_1_46 rfl (v := .int (gI σ 7 h 0)) rfl dX9_wrongBits_2 ?_
  have hJ_13 : ∀ (z1 : Int32) (hf : fX9_wrongBits_J13 σ h a1 a2 z1 = some out) (ls : Array Slot), lv_has ls 4 [(0, .ref (ad 9 h)), (1, .int a1), (2, .int a2)] → W p l e rX9_wrongBits s m args below meth c s.heap [] 0 0 (MQ below (vp_Si (fun r => r = out)) args s 0 0 (fun _ => False)) (F0 m 13 ls [.int z1]) := by
    intro z1 hf ls hl
    unfold fX9_wrongBits_J13 at hf
    refine lv_istore_n (lv' := [(3, .int z1), (0, .ref (ad 9 h)), (1, .int a1), (2, .int a2)]) hx hb dX9_wrongBits_13 rfl hl (by decide) rfl (fun ls hl => ?_)
    refine lv_iload_n hx hb dX9_wrongBits_14 rfl (lv_at hl 0 rfl) ?_
    refine lv_iload_n hx hb dX9_wrongBits_15 rfl (lv_at hl 2 rfl) ?_
    refine lv_aload_n hx hb dX9_wrongBits_16 rfl (lv_at hl 1 rfl) ?_
    refine gget E in_X9 hK hP (qh_8 ks ad σ hh) rfl (k := 1) (by decide) wd_1_49 rfl (v := .int (gI σ 7 h 1)) rfl dX9_wrongBits_17 ?_
    have hJ_28 : ∀ (z2 : Int32) (hf : fX9_wrongBits_J28 σ h a1 a2 z1 z2 = some out) (ls : Array Slot), lv_has ls 4 [(0, .ref (ad 9 h)), (1, .int a1), (2, .int a2)] → W p l e rX9_wrongBits s m args below meth c s.heap [] 0 0 (MQ below (vp_Si (fun r => r = out)) args s 0 0 (fun _ => False)) (F0 m 28 ls [.int z2, .int z1]) := by
      intro z2 hf ls hl
      unfold fX9_wrongBits_J28 at hf
      refine lv_ior hx hb dX9_wrongBits_28 ?_
      obtain ⟨v3, ev3, hf⟩ := nmv_e hf
      refine lv_nmi ev3 ?_
      refine lv_istore_n (lv' := [(3, .int v3), (0, .ref (ad 9 h)), (1, .int a1), (2, .int a2)]) hx hb dX9_wrongBits_29 rfl hl (by decide) rfl (fun ls hl => ?_)
      refine lv_iload_n hx hb dX9_wrongBits_30 rfl (lv_at hl 0 rfl) ?_
      refine lv_iload_n hx hb dX9_wrongBits_31 rfl (lv_at hl 2 rfl) ?_
      refine lv_aload_n hx hb dX9_wrongBits_32 rfl (lv_at hl 1 rfl) ?_
      refine gget E in_X9 hK hP (qh_8 ks ad σ hh) rfl (k := 2) (by decide) wd_1_52 rfl (v := .int (gI σ 7 h 2)) rfl dX9_wrongBits_33 ?_
      have hJ_44 : ∀ (z4 : Int32) (hf : fX9_wrongBits_J44 σ h a2 v3 z4 = some out) (ls : Array Slot), lv_has ls 4 [(0, .ref (ad 9 h)), (2, .int a2)] → W p l e rX9_wrongBits s m args below meth c s.heap [] 0 0 (MQ below (vp_Si (fun r => r = out)) args s 0 0 (fun _ => False)) (F0 m 44 ls [.int z4, .int v3]) := by
        intro z4 hf ls hl
        unfold fX9_wrongBits_J44 at hf
        refine lv_ior hx hb dX9_wrongBits_44 ?_
        obtain ⟨v5, ev5, hf⟩ := nmv_e hf
        refine lv_nmi ev5 ?_
        refine lv_istore_n (lv' := [(3, .int v5), (0, .ref (ad 9 h)), (2, .int a2)]) hx hb dX9_wrongBits_45 rfl hl (by decide) rfl (fun ls hl => ?_)
        refine lv_iload_n hx hb dX9_wrongBits_46 rfl (lv_at hl 0 rfl) ?_
        refine lv_iload_n hx hb dX9_wrongBits_47 rfl (lv_at hl 2 rfl) ?_
        refine lv_aload_n hx hb dX9_wrongBits_48 rfl (lv_at hl 1 rfl) ?_
        refine gget E in_X9 hK hP (qh_8 ks ad σ hh) rfl (k := 3) (by decide) wd_1_54 rfl (v := .int (gI σ 7 h 3)) rfl dX9_wrongBits_49 ?_
        have hJ_61 : ∀ (z6 : Int32) (hf : fX9_wrongBits_J61 σ h a2 v5 z6 = some out) (ls : Array Slot), lv_has ls 4 [(0, .ref (ad 9 h)), (2, .int a2)] → W p l e rX9_wrongBits s m args below meth c s.heap [] 0 0 (MQ below (vp_Si (fun r => r = out)) args s 0 0 (fun _ => False)) (F0 m 61 ls [.int z6, .int v5]) := by
          intro z6 hf ls hl
          unfold fX9_wrongBits_J61 at hf
          refine lv_ior hx hb dX9_wrongBits_61 ?_
          obtain ⟨v7, ev7, hf⟩ := nmv_e hf
          refine lv_nmi ev7 ?_
          refine lv_istore_n (lv' := [(3, .int v7), (0, .ref (ad 9 h)), (2, .int a2)]) hx hb dX9_wrongBits_62 rfl hl (by decide) rfl (fun ls hl => ?_)
          refine lv_iload_n hx hb dX9_wrongBits_63 rfl (lv_at hl 0 rfl) ?_
          refine lv_iload_n hx hb dX9_wrongBits_64 rfl (lv_at hl 2 rfl) ?_
          refine lv_aload_n hx hb dX9_wrongBits_65 rfl (lv_at hl 1 rfl) ?_
          refine gget E in_X9 hK hP (qh_8 ks ad σ hh) rfl (k := 4) (by decide) wd_1_57 rfl (v := .int (gI σ 7 h 4)) rfl dX9_wrongBits_66 ?_
          refine lv_icmp_le (tgt := 77) hx hb dX9_wrongBits_69 (by decide) (fun c8 => ?_) (fun c8 => ?_)
          · replace hf := pos_e c8 hf
            refine lv_iconst (v := 0) hx hb dX9_wrongBits_77 (by decide) ?_
            refine lv_ior hx hb dX9_wrongBits_78 ?_
            obtain ⟨v9, ev9, hf⟩ := nmv_e hf
            refine lv_nmi ev9 ?_
            refine lv_istore_n (lv' := [(3, .int v9), (0, .ref (ad 9 h)), (2, .int a2)]) hx hb dX9_wrongBits_79 rfl hl (by decide) rfl (fun ls hl => ?_)
            refine lv_iload_n hx hb dX9_wrongBits_80 rfl (lv_at hl 0 rfl) ?_
            exact gret_i E hr hlk dX9_wrongBits_81 (som_e hf).symm
          · replace hf := neg_e c8 hf
            refine lv_bipush (v := 16) hx hb dX9_wrongBits_72 (by decide) ?_
            refine lv_goto (tgt := 78) hx hb dX9_wrongBits_74 (by decide) ?_
            refine lv_ior hx hb dX9_wrongBits_78 ?_
            obtain ⟨v10, ev10, hf⟩ := nmv_e hf
            refine lv_nmi ev10 ?_
            refine lv_istore_n (lv' := [(3, .int v10), (0, .ref (ad 9 h)), (2, .int a2)]) hx hb dX9_wrongBits_79 rfl hl (by decide) rfl (fun ls hl => ?_)
            refine lv_iload_n hx hb dX9_wrongBits_80 rfl (lv_at hl 0 rfl) ?_
            exact gret_i E hr hlk dX9_wrongBits_81 (som_e hf).symm
        refine lv_icmp_ge (tgt := 60) hx hb dX9_wrongBits_52 (by decide) (fun c11 => ?_) (fun c11 => ?_)
        · replace hf := pos_e c11 hf
          refine lv_iconst (v := 0) hx hb dX9_wrongBits_60 (by decide) ?_
          exact hJ_61 _ hf _ (lv_sub hl [1, 2] rfl)
        · replace hf := neg_e c11 hf
          refine lv_bipush (v := 8) hx hb dX9_wrongBits_55 (by decide) ?_
          refine lv_goto (tgt := 61) hx hb dX9_wrongBits_57 (by decide) ?_
          exact hJ_61 _ hf _ (lv_sub hl [1, 2] rfl)
      refine lv_icmp_le (tgt := 43) hx hb dX9_wrongBits_36 (by decide) (fun c12 => ?_) (fun c12 => ?_)
      · replace hf := pos_e c12 hf
        refine lv_iconst (v := 0) hx hb dX9_wrongBits_43 (by decide) ?_
        exact hJ_44 _ hf _ (lv_sub hl [1, 3] rfl)
      · replace hf := neg_e c12 hf
        refine lv_iconst (v := 4) hx hb dX9_wrongBits_39 (by decide) ?_
        refine lv_goto (tgt := 44) hx hb dX9_wrongBits_40 (by decide) ?_
        exact hJ_44 _ hf _ (lv_sub hl [1, 3] rfl)
    refine lv_icmp_le (tgt := 27) hx hb dX9_wrongBits_20 (by decide) (fun c13 => ?_) (fun c13 => ?_)
    · replace hf := pos_e c13 hf
      refine lv_iconst (v := 0) hx hb dX9_wrongBits_27 (by decide) ?_
      exact hJ_28 _ hf _ (lv_sub hl [1, 2, 3] rfl)
    · replace hf := neg_e c13 hf
      refine lv_iconst (v := 2) hx hb dX9_wrongBits_23 (by decide) ?_
      refine lv_goto (tgt := 28) hx hb dX9_wrongBits_24 (by decide) ?_
      exact hJ_28 _ hf _ (lv_sub hl [1, 2, 3] rfl)
  refine lv_icmp_ge (tgt := 12) hx hb dX9_wrongBits_5 (by decide) (fun c14 => ?_) (fun c14 => ?_)
  · replace hf := pos_e c14 hf
    refine lv_iconst (v := 0) hx hb dX9_wrongBits_12 (by decide) ?_
    exact hJ_13 _ hf _ (lv_sub hl [0, 1, 2] rfl)
  · replace hf := neg_e c14 hf
    refine lv_iconst (v := 1) hx hb dX9_wrongBits_8 (by decide) ?_
    refine lv_goto (tgt := 13) hx hb dX9_wrongBits_9 (by decide) ?_
    exact hJ_13 _ hf _ (lv_sub hl [0, 1, 2] rfl)
noncomputable def fX11_sounds (σ : St) (a1 : Int32) (a2 : Int32) (a3 : Int32) (a4 : Int32) (a5 : Int32) : Option (Int32 × St) :=
  bd (fX3_hasAll σ 0 a1 a2 a3) fun r1 =>
  if r1 = 0 then
  some ((-1), σ)
  else
  bd (fX11_isOut σ a4 0 60) fun r3 =>
  if r3 = 0 then
  bd (fX11_isOut σ a5 0 60) fun r5 =>
  if r5 = 0 then
  bd (fX3_spanOf σ 0 a1 a2 a3) fun r7 =>
  bd (fX9_wrongBits r7 0 a4 a5) fun r8 =>
  if r8 = 0 then
  some (1, r7)
  else
  some (0, r7)
  else
  some ((-1), σ)
  else
  some ((-1), σ)
def rX11_sounds : Room := { frames := 4, cells := 0, slots := 0, locals := 94 }
set_option maxHeartbeats 4000000 in
set_option maxRecDepth 100000 in
theorem cX11_soundsc {l : Launch} {dC : Nat → ClassId} {dI : Nat → Nat → Nat} {ks : Nat → ClassId} {ad : Nat → Nat → Nat} {σ : St} (a1 : Int32) (a2 : Int32) (a3 : Int32) (a4 : Int32) (a5 : Int32)  {out : Int32 × St} (hf : fX11_sounds σ a1 a2 a3 a4 a5 = some out) : MWi l dC dI ks ad σ yX11_sounds cX11_sounds 6 (some .int) rX11_sounds [.ref (ad 0 0), .int a1, .int a2, .int a3, .int a4, .int a5] out := by
  intro sz
  refine met_w (Qc := fun A => va_Qi (fun r σ' => r = out.1 ∧ σ' = out.2) (gBw dC dI ks ad A) A) (own := RX11) (by decide) rfl (Nat.le_of_ble_eq_true rfl) ?_
  intro A p e s m args below meth c ls E hr hlk hA hP hD hS hK hl
  have hx := E.1
  have hb := E.2.1
  have hl : lv_has ls 6 [(0, .ref (ad 0 0)), (1, .int a1), (2, .int a2), (3, .int a3), (4, .int a4), (5, .int a5)] := hl
  unfold fX11_sounds at hf
  refine lv_aload_n hx hb dX11_sounds_0 rfl (lv_at hl 0 rfl) ?_
  refine gget E in_X11 hK hP (q_main ks ad σ) rfl (k := 0) (by decide) wd_1_145 rfl (v := .ref (ad 1 0)) rfl dX11_sounds_1 ?_
  refine lv_iload_n hx hb dX11_sounds_4 rfl (lv_at hl 1 rfl) ?_
  refine lv_iload_n hx hb dX11_sounds_5 rfl (lv_at hl 2 rfl) ?_
  refine lv_iload_n hx hb dX11_sounds_6 rfl (lv_at hl 3 rfl) ?_
  obtain ⟨r1, er1, hf⟩ := bd_e hf
  refine gVr_i E hK hP (cX3_hasAllc (by decide : (0 : Nat) < 3) _ _ _ er1) kV_X3_hasAll wd_2_86 rfl rfl (qh_0 ks ad σ (by decide : (0 : Nat) < 3)) rfl rfl rfl ⟨Nat.le_of_ble_eq_true rfl, Nat.le_of_ble_eq_true rfl⟩ ⟨Nat.zero_le _, Nat.zero_le _⟩ hl.1 (Nat.le_of_ble_eq_true rfl) rfl dX11_sounds_7 ?_
  refine lv_if_eq (tgt := 35) hx hb dX11_sounds_10 (by decide) (fun c2 => ?_) (fun c2 => ?_)
  · replace hf := pos_e c2 hf
    refine lv_iconst (v := -1) hx hb dX11_sounds_35 (by decide) ?_
    exact gretw_i E hlk hP hD hS hr dX11_sounds_36 (som_e hf)
  · replace hf := neg_e c2 hf
    refine lv_iload hx hb dX11_sounds_13 (lv_at hl 4 rfl) ?_
    refine lv_iconst (v := 0) hx hb dX11_sounds_15 (by decide) ?_
    refine lv_bipush (v := 60) hx hb dX11_sounds_16 (by decide) ?_
    obtain ⟨r3, er3, hf⟩ := bd_e hf
    refine gSr_i E hK hP (cX11_isOutc _ _ _ er3) kS_X11_isOut wd_1_178 rfl rfl rfl ⟨Nat.le_of_ble_eq_true rfl, Nat.le_of_ble_eq_true rfl⟩ ⟨Nat.zero_le _, Nat.zero_le _⟩ hl.1 (Nat.le_of_ble_eq_true rfl) rfl dX11_sounds_18 ?_
    refine lv_if_ne (tgt := 35) hx hb dX11_sounds_21 (by decide) (fun c4 => ?_) (fun c4 => ?_)
    · replace hf := neg_e c4 hf
      refine lv_iconst (v := -1) hx hb dX11_sounds_35 (by decide) ?_
      exact gretw_i E hlk hP hD hS hr dX11_sounds_36 (som_e hf)
    · replace hf := pos_e c4 hf
      refine lv_iload hx hb dX11_sounds_24 (lv_at hl 5 rfl) ?_
      refine lv_iconst (v := 0) hx hb dX11_sounds_26 (by decide) ?_
      refine lv_bipush (v := 60) hx hb dX11_sounds_27 (by decide) ?_
      obtain ⟨r5, er5, hf⟩ := bd_e hf
      refine gSr_i E hK hP (cX11_isOutc _ _ _ er5) kS_X11_isOut wd_1_178 rfl rfl rfl ⟨Nat.le_of_ble_eq_true rfl, Nat.le_of_ble_eq_true rfl⟩ ⟨Nat.zero_le _, Nat.zero_le _⟩ hl.1 (Nat.le_of_ble_eq_true rfl) rfl dX11_sounds_29 ?_
      refine lv_if_eq (tgt := 37) hx hb dX11_sounds_32 (by decide) (fun c6 => ?_) (fun c6 => ?_)
      · replace hf := pos_e c6 hf
        refine lv_aload_n hx hb dX11_sounds_37 rfl (lv_at hl 0 rfl) ?_
        refine gget E in_X11 hK hP (q_main ks ad σ) rfl (k := 0) (by decide) wd_1_145 rfl (v := .ref (ad 1 0)) rfl dX11_sounds_38 ?_
        refine lv_iload_n hx hb dX11_sounds_41 rfl (lv_at hl 1 rfl) ?_
        refine lv_iload_n hx hb dX11_sounds_42 rfl (lv_at hl 2 rfl) ?_
        refine lv_iload_n hx hb dX11_sounds_43 rfl (lv_at hl 3 rfl) ?_
        obtain ⟨r7, er7, hf⟩ := bd_e hf
        refine gVw_f E hK hP hD hS hA (cX3_spanOfc (by decide : (0 : Nat) < 3) _ _ _ er7) kV_X3_spanOf wd_2_179 rfl rfl (qh_0 ks ad σ (by decide : (0 : Nat) < 3)) rfl rfl rfl ⟨Nat.le_of_ble_eq_true rfl, Nat.le_of_ble_eq_true rfl⟩ ⟨Nat.zero_le _, Nat.zero_le _⟩ hl.1 (Nat.le_of_ble_eq_true rfl) rfl dX11_sounds_44 (fun H locs hP hD hS => ?_)
        refine lv_iload hx hb dX11_sounds_47 (lv_at hl 4 rfl) ?_
        refine lv_iload hx hb dX11_sounds_49 (lv_at hl 5 rfl) ?_
        obtain ⟨r8, er8, hf⟩ := bd_e hf
        refine gVr_i E hK hP (cX9_wrongBitsc (by decide : (0 : Nat) < 3) _ _ er8) kV_X9_wrongBits wd_3_31 rfl rfl (qh_8 ks ad r7 (by decide : (0 : Nat) < 3)) rfl rfl rfl ⟨Nat.le_of_ble_eq_true rfl, Nat.le_of_ble_eq_true rfl⟩ ⟨Nat.zero_le _, Nat.zero_le _⟩ hl.1 (Nat.le_of_ble_eq_true rfl) rfl dX11_sounds_51 ?_
        refine lv_if_ne (tgt := 61) hx hb dX11_sounds_54 (by decide) (fun c9 => ?_) (fun c9 => ?_)
        · replace hf := neg_e c9 hf
          refine lv_iconst (v := 0) hx hb dX11_sounds_61 (by decide) ?_
          exact gretw_i E hlk hP hD hS hr dX11_sounds_62 (som_e hf)
        · replace hf := pos_e c9 hf
          refine lv_iconst (v := 1) hx hb dX11_sounds_57 (by decide) ?_
          refine lv_goto (tgt := 62) hx hb dX11_sounds_58 (by decide) ?_
          exact gretw_i E hlk hP hD hS hr dX11_sounds_62 (som_e hf)
      · replace hf := neg_e c6 hf
        refine lv_iconst (v := -1) hx hb dX11_sounds_35 (by decide) ?_
        exact gretw_i E hlk hP hD hS hr dX11_sounds_36 (som_e hf)
noncomputable def fX0_pitchAt (σ : St) (j : Nat) (a1 : Int32) (a2 : Int32) (a3 : Int32) : Option (Int32) :=
  some ((60 - a1) + a2)
def rX0_pitchAt : Room := { frames := 0, cells := 0, slots := 0, locals := 0 }
set_option maxHeartbeats 4000000 in
set_option maxRecDepth 100000 in
theorem cX0_pitchAtc {l : Launch} {dC : Nat → ClassId} {dI : Nat → Nat → Nat} {ks : Nat → ClassId} {ad : Nat → Nat → Nat} {σ : St} {j : Nat} (hj : j < gS σ 2 0 ∧ okc (gS σ 1 j)) (a1 : Int32) (a2 : Int32) (a3 : Int32)  {out : Int32} (hf : fX0_pitchAt σ j a1 a2 a3 = some out) : MRi l dC dI ks ad σ yX0_pitchAt cX0_pitchAt 4 (some .int) rX0_pitchAt [.ref (ad 16 j), .int a1, .int a2, .int a3] out := by
  refine met_r (own := RX0) (by decide) rfl (Nat.le_of_ble_eq_true rfl) ?_
  intro p e s m args below meth c ls E hr hlk hP hK hl
  have hx := E.1
  have hb := E.2.1
  have hl : lv_has ls 4 [(0, .ref (ad 16 j)), (1, .int a1), (2, .int a2), (3, .int a3)] := hl
  unfold fX0_pitchAt at hf
  refine lv_bipush (v := 60) hx hb dX0_pitchAt_0 (by decide) ?_
  refine lv_iload_n hx hb dX0_pitchAt_2 rfl (lv_at hl 1 rfl) ?_
  refine lv_isub hx hb dX0_pitchAt_3 ?_
  refine lv_iload_n hx hb dX0_pitchAt_4 rfl (lv_at hl 2 rfl) ?_
  refine lv_iadd hx hb dX0_pitchAt_5 ?_
  exact gret_i E hr hlk dX0_pitchAt_6 (som_e hf).symm
noncomputable def fX1_pitchAt (σ : St) (j : Nat) (a1 : Int32) (a2 : Int32) (a3 : Int32) : Option (Int32) :=
  bd (fX0_pitchAt σ j a1 a2 a3) fun r1 =>
  some (r1 - a3)
def rX1_pitchAt : Room := { frames := 1, cells := 0, slots := 0, locals := 23 }
set_option maxHeartbeats 4000000 in
set_option maxRecDepth 100000 in
theorem cX1_pitchAtc {l : Launch} {dC : Nat → ClassId} {dI : Nat → Nat → Nat} {ks : Nat → ClassId} {ad : Nat → Nat → Nat} {σ : St} {j : Nat} (hj : j < gS σ 2 0 ∧ okc (gS σ 1 j)) (a1 : Int32) (a2 : Int32) (a3 : Int32)  {out : Int32} (hf : fX1_pitchAt σ j a1 a2 a3 = some out) : MRi l dC dI ks ad σ yX1_pitchAt cX1_pitchAt 4 (some .int) rX1_pitchAt [.ref (ad 16 j), .int a1, .int a2, .int a3] out := by
  refine met_r (own := RX1) (by decide) rfl (Nat.le_of_ble_eq_true rfl) ?_
  intro p e s m args below meth c ls E hr hlk hP hK hl
  have hx := E.1
  have hb := E.2.1
  have hl : lv_has ls 4 [(0, .ref (ad 16 j)), (1, .int a1), (2, .int a2), (3, .int a3)] := hl
  unfold fX1_pitchAt at hf
  refine lv_aload_n hx hb dX1_pitchAt_0 rfl (lv_at hl 0 rfl) ?_
  refine lv_iload_n hx hb dX1_pitchAt_1 rfl (lv_at hl 1 rfl) ?_
  refine lv_iload_n hx hb dX1_pitchAt_2 rfl (lv_at hl 2 rfl) ?_
  refine lv_iload_n hx hb dX1_pitchAt_3 rfl (lv_at hl 3 rfl) ?_
  obtain ⟨r1, er1, hf⟩ := bd_e hf
  refine gPd (owner := RX0) E hK hP hj (cX0_pitchAtc hj _ _ _ er1) kP_X0_pitchAt (x := ⟨"BladeBetweenThumbs$Sounding", "pitchAt", "(III)I"⟩) rfl wd_3_47 wd_3_48 wd_2_59 (Or.inl wd_2_32) rfl rfl rfl ⟨Nat.le_of_ble_eq_true rfl, Nat.le_of_ble_eq_true rfl⟩ ⟨Nat.zero_le _, Nat.zero_le _⟩ hl.1 (Nat.le_of_ble_eq_true rfl) rfl dX1_pitchAt_4 ?_
  refine lv_iload_n hx hb dX1_pitchAt_7 rfl (lv_at hl 3 rfl) ?_
  refine lv_isub hx hb dX1_pitchAt_8 ?_
  exact gret_i E hr hlk dX1_pitchAt_9 (som_e hf).symm
noncomputable def fX5_pitchAt (σ : St) (j : Nat) (a1 : Int32) (a2 : Int32) (a3 : Int32) : Option (Int32) :=
  bd (fX0_pitchAt σ j a1 a2 a3) fun r1 =>
  some (r1 + 12)
def rX5_pitchAt : Room := { frames := 1, cells := 0, slots := 0, locals := 23 }
set_option maxHeartbeats 4000000 in
set_option maxRecDepth 100000 in
theorem cX5_pitchAtc {l : Launch} {dC : Nat → ClassId} {dI : Nat → Nat → Nat} {ks : Nat → ClassId} {ad : Nat → Nat → Nat} {σ : St} {j : Nat} (hj : j < gS σ 2 0 ∧ okc (gS σ 1 j)) (a1 : Int32) (a2 : Int32) (a3 : Int32)  {out : Int32} (hf : fX5_pitchAt σ j a1 a2 a3 = some out) : MRi l dC dI ks ad σ yX5_pitchAt cX5_pitchAt 4 (some .int) rX5_pitchAt [.ref (ad 16 j), .int a1, .int a2, .int a3] out := by
  refine met_r (own := RX5) (by decide) rfl (Nat.le_of_ble_eq_true rfl) ?_
  intro p e s m args below meth c ls E hr hlk hP hK hl
  have hx := E.1
  have hb := E.2.1
  have hl : lv_has ls 4 [(0, .ref (ad 16 j)), (1, .int a1), (2, .int a2), (3, .int a3)] := hl
  unfold fX5_pitchAt at hf
  refine lv_aload_n hx hb dX5_pitchAt_0 rfl (lv_at hl 0 rfl) ?_
  refine lv_iload_n hx hb dX5_pitchAt_1 rfl (lv_at hl 1 rfl) ?_
  refine lv_iload_n hx hb dX5_pitchAt_2 rfl (lv_at hl 2 rfl) ?_
  refine lv_iload_n hx hb dX5_pitchAt_3 rfl (lv_at hl 3 rfl) ?_
  obtain ⟨r1, er1, hf⟩ := bd_e hf
  refine gPd (owner := RX0) E hK hP hj (cX0_pitchAtc hj _ _ _ er1) kP_X0_pitchAt (x := ⟨"BladeBetweenThumbs$Sounding", "pitchAt", "(III)I"⟩) rfl wd_3_54 wd_3_48 wd_2_41 (Or.inl wd_2_32) rfl rfl rfl ⟨Nat.le_of_ble_eq_true rfl, Nat.le_of_ble_eq_true rfl⟩ ⟨Nat.zero_le _, Nat.zero_le _⟩ hl.1 (Nat.le_of_ble_eq_true rfl) rfl dX5_pitchAt_4 ?_
  refine lv_bipush (v := 12) hx hb dX5_pitchAt_7 (by decide) ?_
  refine lv_iadd hx hb dX5_pitchAt_9 ?_
  exact gret_i E hr hlk dX5_pitchAt_10 (som_e hf).symm
noncomputable def fX10_pitchAt (σ : St) (j : Nat) (a1 : Int32) (a2 : Int32) (a3 : Int32) : Option (Int32) :=
  bd (fX0_pitchAt σ j a1 a2 a3) fun r1 =>
  some (r1 + (gI σ 14 0 j))
def rX10_pitchAt : Room := { frames := 1, cells := 0, slots := 0, locals := 23 }
set_option maxHeartbeats 4000000 in
set_option maxRecDepth 100000 in
theorem cX10_pitchAtc {l : Launch} {dC : Nat → ClassId} {dI : Nat → Nat → Nat} {ks : Nat → ClassId} {ad : Nat → Nat → Nat} {σ : St} {j : Nat} (hj : j < gS σ 2 0 ∧ okc (gS σ 1 j)) (a1 : Int32) (a2 : Int32) (a3 : Int32)  {out : Int32} (hf : fX10_pitchAt σ j a1 a2 a3 = some out) : MRi l dC dI ks ad σ yX10_pitchAt cX10_pitchAt 4 (some .int) rX10_pitchAt [.ref (ad 16 j), .int a1, .int a2, .int a3] out := by
  refine met_r (own := RX10) (by decide) rfl (Nat.le_of_ble_eq_true rfl) ?_
  intro p e s m args below meth c ls E hr hlk hP hK hl
  have hx := E.1
  have hb := E.2.1
  have hl : lv_has ls 4 [(0, .ref (ad 16 j)), (1, .int a1), (2, .int a2), (3, .int a3)] := hl
  unfold fX10_pitchAt at hf
  refine lv_aload_n hx hb dX10_pitchAt_0 rfl (lv_at hl 0 rfl) ?_
  refine lv_iload_n hx hb dX10_pitchAt_1 rfl (lv_at hl 1 rfl) ?_
  refine lv_iload_n hx hb dX10_pitchAt_2 rfl (lv_at hl 2 rfl) ?_
  refine lv_iload_n hx hb dX10_pitchAt_3 rfl (lv_at hl 3 rfl) ?_
  obtain ⟨r1, er1, hf⟩ := bd_e hf
  refine gPb E hK hP hj (cX0_pitchAtc hj _ _ _ er1) kP_X0_pitchAt wd_3_61 wd_3_43 wd_2_50 rfl rfl rfl ⟨Nat.le_of_ble_eq_true rfl, Nat.le_of_ble_eq_true rfl⟩ ⟨Nat.zero_le _, Nat.zero_le _⟩ hl.1 (Nat.le_of_ble_eq_true rfl) rfl dX10_pitchAt_4 ?_
  refine lv_aload_n hx hb dX10_pitchAt_7 rfl (lv_at hl 0 rfl) ?_
  refine gfig E hK hP hj wd_2_1 (Or.inr wd_2_2) dX10_pitchAt_8 ?_
  refine lv_iadd hx hb dX10_pitchAt_11 ?_
  exact gret_i E hr hlk dX10_pitchAt_12 (som_e hf).symm
noncomputable def fvpitchAt (σ : St) (j : Nat) (a1 : Int32) (a2 : Int32) (a3 : Int32) : Option Int32 := if gS σ 1 j = 0 then fX0_pitchAt σ j a1 a2 a3 else if gS σ 1 j = 1 then fX1_pitchAt σ j a1 a2 a3 else if gS σ 1 j = 2 then fX0_pitchAt σ j a1 a2 a3 else if gS σ 1 j = 5 then fX5_pitchAt σ j a1 a2 a3 else if gS σ 1 j = 6 then fX0_pitchAt σ j a1 a2 a3 else if gS σ 1 j = 7 then fX1_pitchAt σ j a1 a2 a3 else if gS σ 1 j = 8 then fX0_pitchAt σ j a1 a2 a3 else if gS σ 1 j = 10 then fX10_pitchAt σ j a1 a2 a3 else none
set_option maxHeartbeats 4000000 in
theorem vpitchAt {p : Program} {l : Launch} {e : Env} {R : Room} {s : State} {m : MethodId} {args : Array Value} {below : List Frame} {meth : Method} {c : Code} {H : Heap} {locs : List Loc} {cells slots : Nat} {Q : State → Prop} {cc : ByteArray} {pc nL index j : Nat} {ls : Array Slot} {rest st : List Value} {own : String} {dC : Nat → ClassId} {dI : Nat → Nat → Nat} {ks : Nat → ClassId} {ad : Nat → Nat → Nat} {σ : St} {a1 : Int32} {a2 : Int32} {a3 : Int32} {out : Int32} (E : CallFix p m c cc nL s args tT own) (hK : gK dC dI ks s) (hP : va_P (dC, dI) vwCl (wG ks ad σ) H) (hj : j < gS σ 2 0 ∧ okc (gS σ 1 j)) (hf : fvpitchAt σ j a1 a2 a3 = some out) (h1 : Cond.methodLink own index yX0_pitchAt ∈ tT) (hR : 2 ≤ R.frames ∧ 46 ≤ R.locals) (hz : cells ≤ R.cells ∧ slots ≤ R.slots) (hls : ls.size = nL) (hW : (rest.map fun v => v.category).sum ≤ 8) (hst : st = .int a3 :: .int a2 :: .int a1 :: .ref (ad 16 j) :: rest) (hdg : decode cc pc = .ok (.invokevirtual index, 3)) (kk : W p l e R s m args below meth c H locs cells slots Q (F0 m (pc + 3) ls (.int out :: rest))) : W p l e R s m args below meth c H locs cells slots Q (F0 m pc ls st) := by
  have he := q_blow ks ad σ hj.1
  rcases hj.2 with h | h | h | h | h | h | h | h <;> rw [h] at he
  · exact gVr_i E hK hP (cX0_pitchAtc hj _ _ _ (by simpa [fvpitchAt, h] using hf)) kV_X0_pitchAt h1 rfl rfl he (ci := 0) rfl rfl rfl ⟨Nat.le_trans (Nat.le_of_ble_eq_true rfl) hR.1, Nat.le_trans (Nat.le_of_ble_eq_true rfl) hR.2⟩ hz hls hW hst hdg kk
  · exact gOr_i E hK hP (cX1_pitchAtc hj _ _ _ (by simpa [fvpitchAt, h] using hf)) kU_pitchAt_1 h1 rfl rfl he (ci := 1) rfl rfl rfl ⟨Nat.le_trans (Nat.le_of_ble_eq_true rfl) hR.1, Nat.le_trans (Nat.le_of_ble_eq_true rfl) hR.2⟩ hz hls hW hst hdg kk
  · exact gUr_i E hK hP (cX0_pitchAtc hj _ _ _ (by simpa [fvpitchAt, h] using hf)) kU_pitchAt_2 h1 rfl rfl he (ci := 2) rfl rfl rfl ⟨Nat.le_trans (Nat.le_of_ble_eq_true rfl) hR.1, Nat.le_trans (Nat.le_of_ble_eq_true rfl) hR.2⟩ hz hls hW hst hdg kk
  · exact gOr_i E hK hP (cX5_pitchAtc hj _ _ _ (by simpa [fvpitchAt, h] using hf)) kU_pitchAt_5 h1 rfl rfl he (ci := 5) rfl rfl rfl ⟨Nat.le_trans (Nat.le_of_ble_eq_true rfl) hR.1, Nat.le_trans (Nat.le_of_ble_eq_true rfl) hR.2⟩ hz hls hW hst hdg kk
  · exact gUr_i E hK hP (cX0_pitchAtc hj _ _ _ (by simpa [fvpitchAt, h] using hf)) kU_pitchAt_6 h1 rfl rfl he (ci := 6) rfl rfl rfl ⟨Nat.le_trans (Nat.le_of_ble_eq_true rfl) hR.1, Nat.le_trans (Nat.le_of_ble_eq_true rfl) hR.2⟩ hz hls hW hst hdg kk
  · exact gOr_i E hK hP (cX1_pitchAtc hj _ _ _ (by simpa [fvpitchAt, h] using hf)) kU_pitchAt_7 h1 rfl rfl he (ci := 7) rfl rfl rfl ⟨Nat.le_trans (Nat.le_of_ble_eq_true rfl) hR.1, Nat.le_trans (Nat.le_of_ble_eq_true rfl) hR.2⟩ hz hls hW hst hdg kk
  · exact gUr_i E hK hP (cX0_pitchAtc hj _ _ _ (by simpa [fvpitchAt, h] using hf)) kU_pitchAt_8 h1 rfl rfl he (ci := 8) rfl rfl rfl ⟨Nat.le_trans (Nat.le_of_ble_eq_true rfl) hR.1, Nat.le_trans (Nat.le_of_ble_eq_true rfl) hR.2⟩ hz hls hW hst hdg kk
  · exact gOr_i E hK hP (cX10_pitchAtc hj _ _ _ (by simpa [fvpitchAt, h] using hf)) kU_pitchAt_10 h1 rfl rfl he (ci := 10) rfl rfl rfl ⟨Nat.le_trans (Nat.le_of_ble_eq_true rfl) hR.1, Nat.le_trans (Nat.le_of_ble_eq_true rfl) hR.2⟩ hz hls hW hst hdg kk
noncomputable def fX11_pitch (σ : St) (a1 : Int32) (a2 : Int32) (a3 : Int32) (a4 : Int32) : Option (Int32) :=
  bd (fX3_hasBlade σ 0 a1) fun r1 =>
  if r1 = 0 then
  some 1000000001
  else
  bd (fX3_hasBlow σ 0 a2) fun r3 =>
  if r3 = 0 then
  some 1000000001
  else
  bd (fX11_isOut σ a3 0 60) fun r5 =>
  if r5 = 0 then
  bd (fX11_isOut σ a4 0 9) fun r7 =>
  if r7 = 0 then
  ck (vp_in a2 6) <|
  bd (gR σ 0 0 a2.toNatClampNeg) fun j10 =>
  ck (j10 < gS σ 2 0 ∧ okc (gS σ 1 j10)) <|
  ck (vp_in a1 6) <|
  bd (fvpitchAt σ j10 (gI σ 1 0 a1.toNatClampNeg) a3 a4) fun r12 =>
  some r12
  else
  some 1000000001
  else
  some 1000000001
def rX11_pitch : Room := { frames := 2, cells := 0, slots := 0, locals := 46 }
set_option maxHeartbeats 4000000 in
set_option maxRecDepth 100000 in
theorem cX11_pitchc {l : Launch} {dC : Nat → ClassId} {dI : Nat → Nat → Nat} {ks : Nat → ClassId} {ad : Nat → Nat → Nat} {σ : St} (a1 : Int32) (a2 : Int32) (a3 : Int32) (a4 : Int32)  {out : Int32} (hf : fX11_pitch σ a1 a2 a3 a4 = some out) : MRi l dC dI ks ad σ yX11_pitch cX11_pitch 5 (some .int) rX11_pitch [.ref (ad 0 0), .int a1, .int a2, .int a3, .int a4] out := by
  refine met_r (own := RX11) (by decide) rfl (Nat.le_of_ble_eq_true rfl) ?_
  intro p e s m args below meth c ls E hr hlk hP hK hl
  have hx := E.1
  have hb := E.2.1
  have hl : lv_has ls 5 [(0, .ref (ad 0 0)), (1, .int a1), (2, .int a2), (3, .int a3), (4, .int a4)] := hl
  unfold fX11_pitch at hf
  refine lv_aload_n hx hb dX11_pitch_0 rfl (lv_at hl 0 rfl) ?_
  refine gget E in_X11 hK hP (q_main ks ad σ) rfl (k := 0) (by decide) wd_1_145 rfl (v := .ref (ad 1 0)) rfl dX11_pitch_1 ?_
  refine lv_iload_n hx hb dX11_pitch_4 rfl (lv_at hl 1 rfl) ?_
  obtain ⟨r1, er1, hf⟩ := bd_e hf
  refine gVr_i E hK hP (cX3_hasBladec (by decide : (0 : Nat) < 3) _ er1) kV_X3_hasBlade wd_2_144 rfl rfl (qh_0 ks ad σ (by decide : (0 : Nat) < 3)) rfl rfl rfl ⟨Nat.le_of_ble_eq_true rfl, Nat.le_of_ble_eq_true rfl⟩ ⟨Nat.zero_le _, Nat.zero_le _⟩ hl.1 (Nat.le_of_ble_eq_true rfl) rfl dX11_pitch_5 ?_
  refine lv_if_eq (tgt := 43) hx hb dX11_pitch_8 (by decide) (fun c2 => ?_) (fun c2 => ?_)
  · replace hf := pos_e c2 hf
    refine lv_ldc (v := 1000000001) hx hb E.2.2.2.1 (E.2.2.2.2 _ wd_3_39) dX11_pitch_43 ?_
    exact gret_i E hr hlk dX11_pitch_45 (som_e hf).symm
  · replace hf := neg_e c2 hf
    refine lv_aload_n hx hb dX11_pitch_11 rfl (lv_at hl 0 rfl) ?_
    refine gget E in_X11 hK hP (q_main ks ad σ) rfl (k := 0) (by decide) wd_1_145 rfl (v := .ref (ad 1 0)) rfl dX11_pitch_12 ?_
    refine lv_iload_n hx hb dX11_pitch_15 rfl (lv_at hl 2 rfl) ?_
    obtain ⟨r3, er3, hf⟩ := bd_e hf
    refine gVr_i E hK hP (cX3_hasBlowc (by decide : (0 : Nat) < 3) _ er3) kV_X3_hasBlow wd_2_154 rfl rfl (qh_0 ks ad σ (by decide : (0 : Nat) < 3)) rfl rfl rfl ⟨Nat.le_of_ble_eq_true rfl, Nat.le_of_ble_eq_true rfl⟩ ⟨Nat.zero_le _, Nat.zero_le _⟩ hl.1 (Nat.le_of_ble_eq_true rfl) rfl dX11_pitch_16 ?_
    refine lv_if_eq (tgt := 43) hx hb dX11_pitch_19 (by decide) (fun c4 => ?_) (fun c4 => ?_)
    · replace hf := pos_e c4 hf
      refine lv_ldc (v := 1000000001) hx hb E.2.2.2.1 (E.2.2.2.2 _ wd_3_39) dX11_pitch_43 ?_
      exact gret_i E hr hlk dX11_pitch_45 (som_e hf).symm
    · replace hf := neg_e c4 hf
      refine lv_iload_n hx hb dX11_pitch_22 rfl (lv_at hl 3 rfl) ?_
      refine lv_iconst (v := 0) hx hb dX11_pitch_23 (by decide) ?_
      refine lv_bipush (v := 60) hx hb dX11_pitch_24 (by decide) ?_
      obtain ⟨r5, er5, hf⟩ := bd_e hf
      refine gSr_i E hK hP (cX11_isOutc _ _ _ er5) kS_X11_isOut wd_1_178 rfl rfl rfl ⟨Nat.le_of_ble_eq_true rfl, Nat.le_of_ble_eq_true rfl⟩ ⟨Nat.zero_le _, Nat.zero_le _⟩ hl.1 (Nat.le_of_ble_eq_true rfl) rfl dX11_pitch_26 ?_
      refine lv_if_ne (tgt := 43) hx hb dX11_pitch_29 (by decide) (fun c6 => ?_) (fun c6 => ?_)
      · replace hf := neg_e c6 hf
        refine lv_ldc (v := 1000000001) hx hb E.2.2.2.1 (E.2.2.2.2 _ wd_3_39) dX11_pitch_43 ?_
        exact gret_i E hr hlk dX11_pitch_45 (som_e hf).symm
      · replace hf := pos_e c6 hf
        refine lv_iload hx hb dX11_pitch_32 (lv_at hl 4 rfl) ?_
        refine lv_iconst (v := 0) hx hb dX11_pitch_34 (by decide) ?_
        refine lv_bipush (v := 9) hx hb dX11_pitch_35 (by decide) ?_
        obtain ⟨r7, er7, hf⟩ := bd_e hf
        refine gSr_i E hK hP (cX11_isOutc _ _ _ er7) kS_X11_isOut wd_1_178 rfl rfl rfl ⟨Nat.le_of_ble_eq_true rfl, Nat.le_of_ble_eq_true rfl⟩ ⟨Nat.zero_le _, Nat.zero_le _⟩ hl.1 (Nat.le_of_ble_eq_true rfl) rfl dX11_pitch_37 ?_
        refine lv_if_eq (tgt := 46) hx hb dX11_pitch_40 (by decide) (fun c8 => ?_) (fun c8 => ?_)
        · replace hf := pos_e c8 hf
          refine lv_aload_n hx hb dX11_pitch_46 rfl (lv_at hl 0 rfl) ?_
          refine gget E in_X11 hK hP (q_main ks ad σ) rfl (k := 0) (by decide) wd_1_145 rfl (v := .ref (ad 1 0)) rfl dX11_pitch_47 ?_
          refine gget E in_X3 hK hP (qh_0 ks ad σ (by decide : (0 : Nat) < 3)) rfl (k := 9) (by decide) wd_1_91 rfl (v := .ref (ad 8 0)) rfl dX11_pitch_50 ?_
          refine lv_iload_n hx hb dX11_pitch_53 rfl (lv_at hl 2 rfl) ?_
          obtain ⟨c9, hf⟩ := ck_e hf
          refine gaaldB (by decide : (0 : Nat) < 3) E hK hP c9 dX11_pitch_54 ?_
          obtain ⟨j10, ej10, hf⟩ := bd_e hf
          obtain ⟨hj10, hf⟩ := ck_e hf
          refine lv_nmo ej10 ?_
          refine lv_aload_n hx hb dX11_pitch_55 rfl (lv_at hl 0 rfl) ?_
          refine gget E in_X11 hK hP (q_main ks ad σ) rfl (k := 0) (by decide) wd_1_145 rfl (v := .ref (ad 1 0)) rfl dX11_pitch_56 ?_
          refine gget E in_X3 hK hP (qh_0 ks ad σ (by decide : (0 : Nat) < 3)) rfl (k := 1) (by decide) wd_1_75 rfl (v := .ref (ad 2 0)) rfl dX11_pitch_59 ?_
          refine lv_iload_n hx hb dX11_pitch_62 rfl (lv_at hl 1 rfl) ?_
          obtain ⟨c11, hf⟩ := ck_e hf
          refine giald E hK hP (qh_1 ks ad σ (by decide : (0 : Nat) < 3)) c11 dX11_pitch_63 ?_
          refine lv_iload_n hx hb dX11_pitch_64 rfl (lv_at hl 3 rfl) ?_
          refine lv_iload hx hb dX11_pitch_65 (lv_at hl 4 rfl) ?_
          obtain ⟨r12, er12, hf⟩ := bd_e hf
          refine vpitchAt E hK hP hj10 er12 wd_3_40 ⟨Nat.le_of_ble_eq_true rfl, Nat.le_of_ble_eq_true rfl⟩ ⟨Nat.zero_le _, Nat.zero_le _⟩ hl.1 (Nat.le_of_ble_eq_true rfl) rfl dX11_pitch_67 ?_
          exact gret_i E hr hlk dX11_pitch_70 (som_e hf).symm
        · replace hf := neg_e c8 hf
          refine lv_ldc (v := 1000000001) hx hb E.2.2.2.1 (E.2.2.2.2 _ wd_3_39) dX11_pitch_43 ?_
          exact gret_i E hr hlk dX11_pitch_45 (som_e hf).symm
noncomputable def fX3_blowOnce (σ : St) (h : Nat) (a1 : Int32) (a2 : Int32) (a3 : Int32) (a4 : Int32) (a5 : Int32) : Option (Int32 × St) :=
  ck (vp_in a1 6) <|
  ck (vp_in a3 6) <|
  bd (gR σ 0 h a3.toNatClampNeg) fun j3 =>
  ck (j3 < gS σ 2 0 ∧ okc (gS σ 1 j3)) <|
  bd (fvwearBy σ j3 a5) fun r4 =>
  ck (vp_in a1 6) <|
  nmv (sI σ 4 h a1.toNatClampNeg ((gI σ 4 h a1.toNatClampNeg) + r4)) fun σ6 =>
  bd (fX3_spanOf σ6 h a1 a2 a3) fun r7 =>
  bd (fX9_wrongBits r7 h a4 a5) fun r8 =>
  if r8 = 0 then
  some (1, r7)
  else
  some (0, r7)
def rX3_blowOnce : Room := { frames := 4, cells := 0, slots := 0, locals := 94 }
set_option maxHeartbeats 4000000 in
set_option maxRecDepth 100000 in
theorem cX3_blowOncec {l : Launch} {dC : Nat → ClassId} {dI : Nat → Nat → Nat} {ks : Nat → ClassId} {ad : Nat → Nat → Nat} {σ : St} {h : Nat} (hh : h < 3) (a1 : Int32) (a2 : Int32) (a3 : Int32) (a4 : Int32) (a5 : Int32)  {out : Int32 × St} (hf : fX3_blowOnce σ h a1 a2 a3 a4 a5 = some out) : MWi l dC dI ks ad σ yX3_blowOnce cX3_blowOnce 6 (some .int) rX3_blowOnce [.ref (ad 1 h), .int a1, .int a2, .int a3, .int a4, .int a5] out := by
  intro sz
  refine met_w (Qc := fun A => va_Qi (fun r σ' => r = out.1 ∧ σ' = out.2) (gBw dC dI ks ad A) A) (own := RX3) (by decide) rfl (Nat.le_of_ble_eq_true rfl) ?_
  intro A p e s m args below meth c ls E hr hlk hA hP hD hS hK hl
  have hx := E.1
  have hb := E.2.1
  have hl : lv_has ls 6 [(0, .ref (ad 1 h)), (1, .int a1), (2, .int a2), (3, .int a3), (4, .int a4), (5, .int a5)] := hl
  unfold fX3_blowOnce at hf
  refine lv_aload_n hx hb dX3_blowOnce_0 rfl (lv_at hl 0 rfl) ?_
  refine gget E in_X3 hK hP (qh_0 ks ad σ hh) rfl (k := 4) (by decide) wd_1_80 rfl (v := .ref (ad 5 h)) rfl dX3_blowOnce_1 ?_
  refine lv_iload_n hx hb dX3_blowOnce_4 rfl (lv_at hl 1 rfl) ?_
  refine lv_dup2_11 hx hb dX3_blowOnce_5 rfl rfl ?_
  obtain ⟨c1, hf⟩ := ck_e hf
  refine giald E hK hP (qh_4 ks ad σ hh) c1 dX3_blowOnce_6 ?_
  refine lv_aload_n hx hb dX3_blowOnce_7 rfl (lv_at hl 0 rfl) ?_
  refine gget E in_X3 hK hP (qh_0 ks ad σ hh) rfl (k := 9) (by decide) wd_1_90 rfl (v := .ref (ad 8 h)) rfl dX3_blowOnce_8 ?_
  refine lv_iload_n hx hb dX3_blowOnce_11 rfl (lv_at hl 3 rfl) ?_
  obtain ⟨c2, hf⟩ := ck_e hf
  refine gaaldB hh E hK hP c2 dX3_blowOnce_12 ?_
  obtain ⟨j3, ej3, hf⟩ := bd_e hf
  obtain ⟨hj3, hf⟩ := ck_e hf
  refine lv_nmo ej3 ?_
  refine lv_iload hx hb dX3_blowOnce_13 (lv_at hl 5 rfl) ?_
  obtain ⟨r4, er4, hf⟩ := bd_e hf
  refine vwearBy E hK hP hj3 er4 wd_3_71 ⟨Nat.le_of_ble_eq_true rfl, Nat.le_of_ble_eq_true rfl⟩ ⟨Nat.zero_le _, Nat.zero_le _⟩ hl.1 (Nat.le_of_ble_eq_true rfl) rfl dX3_blowOnce_15 ?_
  refine lv_iadd hx hb dX3_blowOnce_18 ?_
  obtain ⟨c5, hf⟩ := ck_e hf
  obtain ⟨σ6, eσ6, hf⟩ := nmv_e hf
  refine giast E hK hP hD hS (qh_4 ks ad σ hh) c5 (σ' := σ6) (by rw [eσ6]; exact st_ha_4 ks ad σ hh _) dX3_blowOnce_19 (fun H locs hP hD hS => ?_)
  refine lv_aload_n hx hb dX3_blowOnce_20 rfl (lv_at hl 0 rfl) ?_
  refine lv_iload_n hx hb dX3_blowOnce_21 rfl (lv_at hl 1 rfl) ?_
  refine lv_iload_n hx hb dX3_blowOnce_22 rfl (lv_at hl 2 rfl) ?_
  refine lv_iload_n hx hb dX3_blowOnce_23 rfl (lv_at hl 3 rfl) ?_
  obtain ⟨r7, er7, hf⟩ := bd_e hf
  refine gVw_f E hK hP hD hS hA (cX3_spanOfc hh _ _ _ er7) kV_X3_spanOf wd_3_72 rfl rfl (qh_0 ks ad σ6 hh) rfl rfl rfl ⟨Nat.le_of_ble_eq_true rfl, Nat.le_of_ble_eq_true rfl⟩ ⟨Nat.zero_le _, Nat.zero_le _⟩ hl.1 (Nat.le_of_ble_eq_true rfl) rfl dX3_blowOnce_24 (fun H locs hP hD hS => ?_)
  refine lv_iload hx hb dX3_blowOnce_27 (lv_at hl 4 rfl) ?_
  refine lv_iload hx hb dX3_blowOnce_29 (lv_at hl 5 rfl) ?_
  obtain ⟨r8, er8, hf⟩ := bd_e hf
  refine gVr_i E hK hP (cX9_wrongBitsc hh _ _ er8) kV_X9_wrongBits wd_3_73 rfl rfl (qh_8 ks ad r7 hh) rfl rfl rfl ⟨Nat.le_of_ble_eq_true rfl, Nat.le_of_ble_eq_true rfl⟩ ⟨Nat.zero_le _, Nat.zero_le _⟩ hl.1 (Nat.le_of_ble_eq_true rfl) rfl dX3_blowOnce_31 ?_
  refine lv_if_ne (tgt := 41) hx hb dX3_blowOnce_34 (by decide) (fun c9 => ?_) (fun c9 => ?_)
  · replace hf := neg_e c9 hf
    refine lv_iconst (v := 0) hx hb dX3_blowOnce_41 (by decide) ?_
    exact gretw_i E hlk hP hD hS hr dX3_blowOnce_42 (som_e hf)
  · replace hf := pos_e c9 hf
    refine lv_iconst (v := 1) hx hb dX3_blowOnce_37 (by decide) ?_
    refine lv_goto (tgt := 42) hx hb dX3_blowOnce_38 (by decide) ?_
    exact gretw_i E hlk hP hD hS hr dX3_blowOnce_42 (som_e hf)
noncomputable def fX11_tries (σ : St) (a1 : Int32) (a2 : Int32) (a3 : Int32) (a4 : Int32) (a5 : Int32) : Option (Int32 × St) :=
  bd (fX3_hasAll σ 0 a1 a2 a3) fun r1 =>
  if r1 = 0 then
  some ((-1), σ)
  else
  bd (fX11_isOut σ a4 0 60) fun r3 =>
  if r3 = 0 then
  bd (fX11_isOut σ a5 0 60) fun r5 =>
  if r5 = 0 then
  bd (fX3_isSplit σ 0 a1) fun r7 =>
  if r7 = 0 then
  bd (fX3_blowOnce σ 0 a1 a2 a3 a4 a5) fun r9 =>
  bd (fX3_isSplit r9.2 0 a1) fun r10 =>
  if r10 = 0 then
  some (r9.1, r9.2)
  else
  some (r9.1 + 2, r9.2)
  else
  some ((-3), σ)
  else
  some ((-1), σ)
  else
  some ((-1), σ)
def rX11_tries : Room := { frames := 5, cells := 0, slots := 0, locals := 119 }
set_option maxHeartbeats 4000000 in
set_option maxRecDepth 100000 in
theorem cX11_triesc {l : Launch} {dC : Nat → ClassId} {dI : Nat → Nat → Nat} {ks : Nat → ClassId} {ad : Nat → Nat → Nat} {σ : St} (a1 : Int32) (a2 : Int32) (a3 : Int32) (a4 : Int32) (a5 : Int32)  {out : Int32 × St} (hf : fX11_tries σ a1 a2 a3 a4 a5 = some out) : MWi l dC dI ks ad σ yX11_tries cX11_tries 7 (some .int) rX11_tries [.ref (ad 0 0), .int a1, .int a2, .int a3, .int a4, .int a5] out := by
  intro sz
  refine met_w (Qc := fun A => va_Qi (fun r σ' => r = out.1 ∧ σ' = out.2) (gBw dC dI ks ad A) A) (own := RX11) (by decide) rfl (Nat.le_of_ble_eq_true rfl) ?_
  intro A p e s m args below meth c ls E hr hlk hA hP hD hS hK hl
  have hx := E.1
  have hb := E.2.1
  have hl : lv_has ls 7 [(0, .ref (ad 0 0)), (1, .int a1), (2, .int a2), (3, .int a3), (4, .int a4), (5, .int a5)] := hl
  unfold fX11_tries at hf
  refine lv_aload_n hx hb dX11_tries_0 rfl (lv_at hl 0 rfl) ?_
  refine gget E in_X11 hK hP (q_main ks ad σ) rfl (k := 0) (by decide) wd_1_145 rfl (v := .ref (ad 1 0)) rfl dX11_tries_1 ?_
  refine lv_iload_n hx hb dX11_tries_4 rfl (lv_at hl 1 rfl) ?_
  refine lv_iload_n hx hb dX11_tries_5 rfl (lv_at hl 2 rfl) ?_
  refine lv_iload_n hx hb dX11_tries_6 rfl (lv_at hl 3 rfl) ?_
  obtain ⟨r1, er1, hf⟩ := bd_e hf
  refine gVr_i E hK hP (cX3_hasAllc (by decide : (0 : Nat) < 3) _ _ _ er1) kV_X3_hasAll wd_2_86 rfl rfl (qh_0 ks ad σ (by decide : (0 : Nat) < 3)) rfl rfl rfl ⟨Nat.le_of_ble_eq_true rfl, Nat.le_of_ble_eq_true rfl⟩ ⟨Nat.zero_le _, Nat.zero_le _⟩ hl.1 (Nat.le_of_ble_eq_true rfl) rfl dX11_tries_7 ?_
  refine lv_if_eq (tgt := 35) hx hb dX11_tries_10 (by decide) (fun c2 => ?_) (fun c2 => ?_)
  · replace hf := pos_e c2 hf
    refine lv_iconst (v := -1) hx hb dX11_tries_35 (by decide) ?_
    exact gretw_i E hlk hP hD hS hr dX11_tries_36 (som_e hf)
  · replace hf := neg_e c2 hf
    refine lv_iload hx hb dX11_tries_13 (lv_at hl 4 rfl) ?_
    refine lv_iconst (v := 0) hx hb dX11_tries_15 (by decide) ?_
    refine lv_bipush (v := 60) hx hb dX11_tries_16 (by decide) ?_
    obtain ⟨r3, er3, hf⟩ := bd_e hf
    refine gSr_i E hK hP (cX11_isOutc _ _ _ er3) kS_X11_isOut wd_1_178 rfl rfl rfl ⟨Nat.le_of_ble_eq_true rfl, Nat.le_of_ble_eq_true rfl⟩ ⟨Nat.zero_le _, Nat.zero_le _⟩ hl.1 (Nat.le_of_ble_eq_true rfl) rfl dX11_tries_18 ?_
    refine lv_if_ne (tgt := 35) hx hb dX11_tries_21 (by decide) (fun c4 => ?_) (fun c4 => ?_)
    · replace hf := neg_e c4 hf
      refine lv_iconst (v := -1) hx hb dX11_tries_35 (by decide) ?_
      exact gretw_i E hlk hP hD hS hr dX11_tries_36 (som_e hf)
    · replace hf := pos_e c4 hf
      refine lv_iload hx hb dX11_tries_24 (lv_at hl 5 rfl) ?_
      refine lv_iconst (v := 0) hx hb dX11_tries_26 (by decide) ?_
      refine lv_bipush (v := 60) hx hb dX11_tries_27 (by decide) ?_
      obtain ⟨r5, er5, hf⟩ := bd_e hf
      refine gSr_i E hK hP (cX11_isOutc _ _ _ er5) kS_X11_isOut wd_1_178 rfl rfl rfl ⟨Nat.le_of_ble_eq_true rfl, Nat.le_of_ble_eq_true rfl⟩ ⟨Nat.zero_le _, Nat.zero_le _⟩ hl.1 (Nat.le_of_ble_eq_true rfl) rfl dX11_tries_29 ?_
      refine lv_if_eq (tgt := 37) hx hb dX11_tries_32 (by decide) (fun c6 => ?_) (fun c6 => ?_)
      · replace hf := pos_e c6 hf
        refine lv_aload_n hx hb dX11_tries_37 rfl (lv_at hl 0 rfl) ?_
        refine gget E in_X11 hK hP (q_main ks ad σ) rfl (k := 0) (by decide) wd_1_145 rfl (v := .ref (ad 1 0)) rfl dX11_tries_38 ?_
        refine lv_iload_n hx hb dX11_tries_41 rfl (lv_at hl 1 rfl) ?_
        obtain ⟨r7, er7, hf⟩ := bd_e hf
        refine gVr_i E hK hP (cX3_isSplitc (by decide : (0 : Nat) < 3) _ er7) kV_X3_isSplit wd_2_102 rfl rfl (qh_0 ks ad σ (by decide : (0 : Nat) < 3)) rfl rfl rfl ⟨Nat.le_of_ble_eq_true rfl, Nat.le_of_ble_eq_true rfl⟩ ⟨Nat.zero_le _, Nat.zero_le _⟩ hl.1 (Nat.le_of_ble_eq_true rfl) rfl dX11_tries_42 ?_
        refine lv_if_eq (tgt := 51) hx hb dX11_tries_45 (by decide) (fun c8 => ?_) (fun c8 => ?_)
        · replace hf := pos_e c8 hf
          refine lv_aload_n hx hb dX11_tries_51 rfl (lv_at hl 0 rfl) ?_
          refine gget E in_X11 hK hP (q_main ks ad σ) rfl (k := 0) (by decide) wd_1_145 rfl (v := .ref (ad 1 0)) rfl dX11_tries_52 ?_
          refine lv_iload_n hx hb dX11_tries_55 rfl (lv_at hl 1 rfl) ?_
          refine lv_iload_n hx hb dX11_tries_56 rfl (lv_at hl 2 rfl) ?_
          refine lv_iload_n hx hb dX11_tries_57 rfl (lv_at hl 3 rfl) ?_
          refine lv_iload hx hb dX11_tries_58 (lv_at hl 4 rfl) ?_
          refine lv_iload hx hb dX11_tries_60 (lv_at hl 5 rfl) ?_
          obtain ⟨r9, er9, hf⟩ := bd_e hf
          refine gVw_i E hK hP hD hS hA (cX3_blowOncec (by decide : (0 : Nat) < 3) _ _ _ _ _ er9) kV_X3_blowOnce wd_3_67 rfl rfl (qh_0 ks ad σ (by decide : (0 : Nat) < 3)) rfl rfl rfl ⟨Nat.le_of_ble_eq_true rfl, Nat.le_of_ble_eq_true rfl⟩ ⟨Nat.zero_le _, Nat.zero_le _⟩ hl.1 (Nat.le_of_ble_eq_true rfl) rfl dX11_tries_62 (fun H locs hP hD hS => ?_)
          refine lv_istore (lv' := [(6, .int r9.1), (0, .ref (ad 0 0)), (1, .int a1), (2, .int a2), (3, .int a3), (4, .int a4), (5, .int a5)]) hx hb dX11_tries_65 hl (by decide) rfl (fun ls hl => ?_)
          refine lv_aload_n hx hb dX11_tries_67 rfl (lv_at hl 1 rfl) ?_
          refine gget E in_X11 hK hP (q_main ks ad r9.2) rfl (k := 0) (by decide) wd_1_145 rfl (v := .ref (ad 1 0)) rfl dX11_tries_68 ?_
          refine lv_iload_n hx hb dX11_tries_71 rfl (lv_at hl 2 rfl) ?_
          obtain ⟨r10, er10, hf⟩ := bd_e hf
          refine gVr_i E hK hP (cX3_isSplitc (by decide : (0 : Nat) < 3) _ er10) kV_X3_isSplit wd_2_102 rfl rfl (qh_0 ks ad r9.2 (by decide : (0 : Nat) < 3)) rfl rfl rfl ⟨Nat.le_of_ble_eq_true rfl, Nat.le_of_ble_eq_true rfl⟩ ⟨Nat.zero_le _, Nat.zero_le _⟩ hl.1 (Nat.le_of_ble_eq_true rfl) rfl dX11_tries_72 ?_
          refine lv_if_eq (tgt := 85) hx hb dX11_tries_75 (by decide) (fun c11 => ?_) (fun c11 => ?_)
          · replace hf := pos_e c11 hf
            refine lv_iload hx hb dX11_tries_85 (lv_at hl 0 rfl) ?_
            exact gretw_i E hlk hP hD hS hr dX11_tries_87 (som_e hf)
          · replace hf := neg_e c11 hf
            refine lv_iload hx hb dX11_tries_78 (lv_at hl 0 rfl) ?_
            refine lv_iconst (v := 2) hx hb dX11_tries_80 (by decide) ?_
            refine lv_iadd hx hb dX11_tries_81 ?_
            refine lv_goto (tgt := 87) hx hb dX11_tries_82 (by decide) ?_
            exact gretw_i E hlk hP hD hS hr dX11_tries_87 (som_e hf)
        · replace hf := neg_e c8 hf
          refine lv_bipush (v := -3) hx hb dX11_tries_48 (by decide) ?_
          exact gretw_i E hlk hP hD hS hr dX11_tries_50 (som_e hf)
      · replace hf := neg_e c6 hf
        refine lv_iconst (v := -1) hx hb dX11_tries_35 (by decide) ?_
        exact gretw_i E hlk hP hD hS hr dX11_tries_36 (som_e hf)
