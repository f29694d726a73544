noncomputable def fX11_judge_L82B (a4 : Int32) (K_82 : St → Option (Int32 × St)) (rec_82 : Int32 → St → Option (Int32 × St)) (x12 : Int32) (σ13 : St) : Option (Int32 × St) :=
  if (gI σ13 8 a4.toNatClampNeg 3) ≤ x12 then
  K_82 σ13
  else
  ck (vp_in x12 100) <|
  bd (fX11_isOut σ13 (gI σ13 9 a4.toNatClampNeg x12.toNatClampNeg) 0 60) fun r16 =>
  if r16 = 0 then
  nmv (x12 + 1) fun v18 =>
  rec_82 v18 σ13
  else
  some ((-13), σ13)
noncomputable def fX11_judge_L82 (a4 : Int32) (K_82 : St → Option (Int32 × St)) : Nat → Int32 → St → Option (Int32 × St)
  | 0 => fun _ _ => none
  | n + 1 => fX11_judge_L82B a4 K_82 (fX11_judge_L82 a4 K_82 n)
noncomputable def fX11_judge (σ : St) (a1 : Int32) (a2 : Int32) (a3 : Int32) (a4 : Int32) : Option (Int32 × St) :=
  nmv (a1 / 100) fun v1 =>
  nmv ((a1 / 10) - (a1 / 10) / 10 * 10) fun v2 =>
  nmv (a1 - a1 / 10 * 10) fun v3 =>
  if a1 < 0 then
  some ((-1), σ)
  else
  bd (fX3_hasAll σ 0 v1 v2 v3) fun r5 =>
  if r5 = 0 then
  some ((-1), σ)
  else
  bd (fX11_isOut σ a2 0 60) fun r7 =>
  if r7 = 0 then
  bd (fX11_rowsRefusal σ a3 a4) fun r9 =>
  if 0 ≤ r9 then
  ck (vp_in a4 8) <|
  fX11_judge_L82 a4 (fun σ19 => ck (vp_in a3 8) <|
  bd (fX11_firstNotSo σ19 v1 v2 v3 a2 a3.toNatClampNeg a4.toNatClampNeg) fun r21 =>
  some (r21.1, r21.2)) FU 0 σ
  else
  some (r9, σ)
  else
  some ((-1), σ)
def rX11_judge : Room := { frames := 6, cells := 0, slots := 0, locals := 149 }
set_option maxHeartbeats 4000000 in
set_option maxRecDepth 100000 in
theorem cX11_judgec {l : Launch} {dC : Nat → ClassId} {dI : Nat → Nat → Nat} {ks : Nat → ClassId} {ad : Nat → Nat → Nat} {σ : St} (a1 : Int32) (a2 : Int32) (a3 : Int32) (a4 : Int32)  {out : Int32 × St} (hf : fX11_judge σ a1 a2 a3 a4 = some out) : MWi l dC dI ks ad σ yX11_judge cX11_judge 11 (some .int) rX11_judge [.ref (ad 0 0), .int a1, .int a2, .int a3, .int a4] out := by
  intro sz
  refine met_w (Qc := fun A => va_Qi (fun r σ' => r = out.1 ∧ σ' = out.2) (gBw dC dI ks ad A) A) (own := RX11) (by decide) rfl (Nat.le_of_ble_eq_true rfl) ?_
  intro A p e s m args below meth c ls E hr hlk hA hP hD hS hK hl
  have hx := E.1
  have hb := E.2.1
  have hl : lv_has ls 11 [(0, .ref (ad 0 0)), (1, .int a1), (2, .int a2), (3, .int a3), (4, .int a4)] := hl
  unfold fX11_judge at hf
  refine lv_iload_n hx hb dX11_judge_0 rfl (lv_at hl 1 rfl) ?_
  refine lv_bipush (v := 100) hx hb dX11_judge_1 (by decide) ?_
  refine lv_idiv hx hb dX11_judge_3 (by decide) ?_
  obtain ⟨v1, ev1, hf⟩ := nmv_e hf
  refine lv_nmi ev1 ?_
  refine lv_istore (lv' := [(5, .int v1), (0, .ref (ad 0 0)), (1, .int a1), (2, .int a2), (3, .int a3), (4, .int a4)]) hx hb dX11_judge_4 hl (by decide) rfl (fun ls hl => ?_)
  refine lv_iload_n hx hb dX11_judge_6 rfl (lv_at hl 2 rfl) ?_
  refine lv_bipush (v := 10) hx hb dX11_judge_7 (by decide) ?_
  refine lv_idiv hx hb dX11_judge_9 (by decide) ?_
  refine lv_bipush (v := 10) hx hb dX11_judge_10 (by decide) ?_
  refine lv_irem hx hb dX11_judge_12 (by decide) ?_
  obtain ⟨v2, ev2, hf⟩ := nmv_e hf
  refine lv_nmi ev2 ?_
  refine lv_istore (lv' := [(6, .int v2), (5, .int v1), (0, .ref (ad 0 0)), (1, .int a1), (2, .int a2), (3, .int a3), (4, .int a4)]) hx hb dX11_judge_13 hl (by decide) rfl (fun ls hl => ?_)
  refine lv_iload_n hx hb dX11_judge_15 rfl (lv_at hl 3 rfl) ?_
  refine lv_bipush (v := 10) hx hb dX11_judge_16 (by decide) ?_
  refine lv_irem hx hb dX11_judge_18 (by decide) ?_
  obtain ⟨v3, ev3, hf⟩ := nmv_e hf
  refine lv_nmi ev3 ?_
  refine lv_istore (lv' := [(7, .int v3), (6, .int v2), (5, .int v1), (0, .ref (ad 0 0)), (1, .int a1), (2, .int a2), (3, .int a3), (4, .int a4)]) hx hb dX11_judge_19 hl (by decide) rfl (fun ls hl => ?_)
  refine lv_iload_n hx hb dX11_judge_21 rfl (lv_at hl 4 rfl) ?_
  refine lv_if_lt (tgt := 51) hx hb dX11_judge_22 (by decide) (fun c4 => ?_) (fun c4 => ?_)
  · replace hf := pos_e c4 hf
    refine lv_iconst (v := -1) hx hb dX11_judge_51 (by decide) ?_
    exact gretw_i E hlk hP hD hS hr dX11_judge_52 (som_e hf)
  · replace hf := neg_e c4 hf
    refine lv_aload_n hx hb dX11_judge_25 rfl (lv_at hl 3 rfl) ?_
    refine gget E in_X11 hK hP (q_main ks ad σ) rfl (k := 0) (by decide) wd_1_145 rfl (v := .ref (ad 1 0)) rfl dX11_judge_26 ?_
    refine lv_iload hx hb dX11_judge_29 (lv_at hl 2 rfl) ?_
    refine lv_iload hx hb dX11_judge_31 (lv_at hl 1 rfl) ?_
    refine lv_iload hx hb dX11_judge_33 (lv_at hl 0 rfl) ?_
    obtain ⟨r5, er5, hf⟩ := bd_e hf
    refine gVr_i E hK hP (cX3_hasAllc (by decide : (0 : Nat) < 3) _ _ _ er5) kV_X3_hasAll wd_2_86 rfl rfl (qh_0 ks ad σ (by decide : (0 : Nat) < 3)) rfl rfl rfl ⟨Nat.le_of_ble_eq_true rfl, Nat.le_of_ble_eq_true rfl⟩ ⟨Nat.zero_le _, Nat.zero_le _⟩ hl.1 (Nat.le_of_ble_eq_true rfl) rfl dX11_judge_35 ?_
    refine lv_if_eq (tgt := 51) hx hb dX11_judge_38 (by decide) (fun c6 => ?_) (fun c6 => ?_)
    · replace hf := pos_e c6 hf
      refine lv_iconst (v := -1) hx hb dX11_judge_51 (by decide) ?_
      exact gretw_i E hlk hP hD hS hr dX11_judge_52 (som_e hf)
    · replace hf := neg_e c6 hf
      refine lv_iload_n hx hb dX11_judge_41 rfl (lv_at hl 5 rfl) ?_
      refine lv_iconst (v := 0) hx hb dX11_judge_42 (by decide) ?_
      refine lv_bipush (v := 60) hx hb dX11_judge_43 (by decide) ?_
      obtain ⟨r7, er7, hf⟩ := bd_e hf
      refine gSr_i E hK hP (cX11_isOutc _ _ _ er7) kS_X11_isOut wd_1_178 rfl rfl rfl ⟨Nat.le_of_ble_eq_true rfl, Nat.le_of_ble_eq_true rfl⟩ ⟨Nat.zero_le _, Nat.zero_le _⟩ hl.1 (Nat.le_of_ble_eq_true rfl) rfl dX11_judge_45 ?_
      refine lv_if_eq (tgt := 53) hx hb dX11_judge_48 (by decide) (fun c8 => ?_) (fun c8 => ?_)
      · replace hf := pos_e c8 hf
        refine lv_aload_n hx hb dX11_judge_53 rfl (lv_at hl 3 rfl) ?_
        refine lv_iload_n hx hb dX11_judge_54 rfl (lv_at hl 6 rfl) ?_
        refine lv_iload hx hb dX11_judge_55 (lv_at hl 7 rfl) ?_
        obtain ⟨r9, er9, hf⟩ := bd_e hf
        refine gVr_i E hK hP (cX11_rowsRefusalc _ _ er9) kV_X11_rowsRefusal wd_4_15 rfl rfl (q_main ks ad σ) rfl rfl rfl ⟨Nat.le_of_ble_eq_true rfl, Nat.le_of_ble_eq_true rfl⟩ ⟨Nat.zero_le _, Nat.zero_le _⟩ hl.1 (Nat.le_of_ble_eq_true rfl) rfl dX11_judge_57 ?_
        refine lv_istore (lv' := [(8, .int r9), (7, .int v3), (6, .int v2), (5, .int v1), (0, .ref (ad 0 0)), (1, .int a1), (2, .int a2), (3, .int a3), (4, .int a4)]) hx hb dX11_judge_60 hl (by decide) rfl (fun ls hl => ?_)
        refine lv_iload hx hb dX11_judge_62 (lv_at hl 0 rfl) ?_
        refine lv_if_ge (tgt := 70) hx hb dX11_judge_64 (by decide) (fun c10 => ?_) (fun c10 => ?_)
        · replace hf := pos_e c10 hf
          refine lv_aload_n hx hb dX11_judge_70 rfl (lv_at hl 4 rfl) ?_
          refine gget E in_X11 hK hP (q_main ks ad σ) rfl (k := 4) (by decide) wd_1_149 rfl (v := .ref (ad 12 0)) rfl dX11_judge_71 ?_
          refine lv_iload hx hb dX11_judge_74 (lv_at hl 8 rfl) ?_
          obtain ⟨c11, hf⟩ := ck_e hf
          refine gaaldS E hK hP c11 dX11_judge_76 ?_
          refine lv_astore (lv' := [(9, .ref (ad 10 a4.toNatClampNeg)), (8, .int r9), (7, .int v3), (6, .int v2), (5, .int v1), (0, .ref (ad 0 0)), (1, .int a1), (2, .int a2), (3, .int a3), (4, .int a4)]) hx hb dX11_judge_77 hl (by decide) rfl (fun ls hl => ?_)
          refine lv_iconst (v := 0) hx hb dX11_judge_79 (by decide) ?_
          refine lv_istore (lv' := [(10, .int 0), (9, .ref (ad 10 a4.toNatClampNeg)), (8, .int r9), (7, .int v3), (6, .int v2), (5, .int v1), (0, .ref (ad 0 0)), (1, .int a1), (2, .int a2), (3, .int a3), (4, .int a4)]) hx hb dX11_judge_80 hl (by decide) rfl (fun ls hl => ?_)
          have loop_82 : ∀ (K_82 : St → Option (Int32 × St)) (hK_82 : (∀ (σ19 : St) (H : Heap) (locs : List Loc) (hP : va_P (dC, dI) vwCl (wG ks ad σ19) H) (hD : va_D A (wG ks ad σ19)) (hS : va_S A s.heap H locs) (hf : K_82 σ19 = some out) (ls : Array Slot), lv_has ls 11 [(0, .ref (ad 0 0)), (2, .int a2), (3, .int a3), (5, .int v1), (6, .int v2), (7, .int v3), (9, .ref (ad 10 a4.toNatClampNeg))] → W p l e rX11_judge s m args below meth c H locs 0 0 (MQ below (va_Qi (fun r σ' => r = out.1 ∧ σ' = out.2) (gBw dC dI ks ad A) A) args s 0 0 A) (F0 m 118 ls []))) (n_82 : Nat) (x12 : Int32) (σ13 : St) (H : Heap) (locs : List Loc) (hP : va_P (dC, dI) vwCl (wG ks ad σ13) H) (hD : va_D A (wG ks ad σ13)) (hS : va_S A s.heap H locs) (hf : fX11_judge_L82 a4 K_82 n_82 x12 σ13 = some out) (ls : Array Slot), lv_has ls 11 [(0, .ref (ad 0 0)), (2, .int a2), (3, .int a3), (5, .int v1), (6, .int v2), (7, .int v3), (9, .ref (ad 10 a4.toNatClampNeg)), (10, .int x12)] → W p l e rX11_judge s m args below meth c H locs 0 0 (MQ below (va_Qi (fun r σ' => r = out.1 ∧ σ' = out.2) (gBw dC dI ks ad A) A) args s 0 0 A) (F0 m 82 ls []) := by
            intro K_82 hK_82 n_82
            induction n_82 with
            | zero => intro x12 σ13 H locs hP hD hS hf; cases hf
            | succ n_82 ih_82 =>
              intro x12 σ13 H locs hP hD hS hf ls hl
              have hf : fX11_judge_L82B a4 K_82 (fX11_judge_L82 a4 K_82 n_82) x12 σ13 = some out := hf
              unfold fX11_judge_L82B at hf
              refine lv_iload hx hb dX11_judge_82 (lv_at hl 7 rfl) ?_
              refine lv_aload hx hb dX11_judge_84 (lv_at hl 6 rfl) ?_
              refine gget E in_X4 hK hP (qs_0 ks ad σ13 (vp_lt c11)) rfl (k := 3) (by decide) wd_1_129 rfl (v := .int (gI σ13 8 a4.toNatClampNeg 3)) rfl dX11_judge_86 ?_
              refine lv_icmp_ge (tgt := 118) hx hb dX11_judge_89 (by decide) (fun c14 => ?_) (fun c14 => ?_)
              · replace hf := pos_e c14 hf
                exact hK_82 _ _ _ hP hD hS hf _ (lv_sub hl [0, 1, 2, 3, 4, 5, 6] rfl)
              · replace hf := neg_e c14 hf
                refine lv_aload hx hb dX11_judge_92 (lv_at hl 6 rfl) ?_
                refine gget E in_X4 hK hP (qs_0 ks ad σ13 (vp_lt c11)) rfl (k := 4) (by decide) wd_1_132 rfl (v := .ref (ad 11 a4.toNatClampNeg)) rfl dX11_judge_94 ?_
                refine lv_iload hx hb dX11_judge_97 (lv_at hl 7 rfl) ?_
                obtain ⟨c15, hf⟩ := ck_e hf
                refine giald E hK hP (qs_1 ks ad σ13 (vp_lt c11)) c15 dX11_judge_99 ?_
                refine lv_iconst (v := 0) hx hb dX11_judge_100 (by decide) ?_
                refine lv_bipush (v := 60) hx hb dX11_judge_101 (by decide) ?_
                obtain ⟨r16, er16, hf⟩ := bd_e hf
                refine gSr_i E hK hP (cX11_isOutc _ _ _ er16) kS_X11_isOut wd_1_178 rfl rfl rfl ⟨Nat.le_of_ble_eq_true rfl, Nat.le_of_ble_eq_true rfl⟩ ⟨Nat.zero_le _, Nat.zero_le _⟩ hl.1 (Nat.le_of_ble_eq_true rfl) rfl dX11_judge_103 ?_
                refine lv_if_eq (tgt := 112) hx hb dX11_judge_106 (by decide) (fun c17 => ?_) (fun c17 => ?_)
                · replace hf := pos_e c17 hf
                  obtain ⟨v18, ev18, hf⟩ := nmv_e hf
                  refine lv_iinc (v := v18) (lv' := [(10, .int v18), (0, .ref (ad 0 0)), (2, .int a2), (3, .int a3), (5, .int v1), (6, .int v2), (7, .int v3), (9, .ref (ad 10 a4.toNatClampNeg))]) hx hb dX11_judge_112 hl (k := 7) rfl (by rw [ev18]; rfl) (by decide) rfl (fun ls hl => ?_)
                  refine lv_goto (tgt := 82) hx hb dX11_judge_115 (by decide) ?_
                  exact ih_82 _ _ _ _ hP hD hS hf _ (lv_sub hl [1, 2, 3, 4, 5, 6, 7, 0] rfl)
                · replace hf := neg_e c17 hf
                  refine lv_bipush (v := -13) hx hb dX11_judge_109 (by decide) ?_
                  exact gretw_i E hlk hP hD hS hr dX11_judge_111 (som_e hf)
          refine loop_82 _ (fun σ19 H locs hP hD hS hf ls hl => ?_) _ _ _ _ _ hP hD hS hf _ (lv_sub hl [6, 8, 9, 5, 4, 3, 1, 0] rfl)
          refine lv_aload_n hx hb dX11_judge_118 rfl (lv_at hl 0 rfl) ?_
          refine lv_iload hx hb dX11_judge_119 (lv_at hl 3 rfl) ?_
          refine lv_iload hx hb dX11_judge_121 (lv_at hl 4 rfl) ?_
          refine lv_iload hx hb dX11_judge_123 (lv_at hl 5 rfl) ?_
          refine lv_iload_n hx hb dX11_judge_125 rfl (lv_at hl 1 rfl) ?_
          refine lv_aload_n hx hb dX11_judge_126 rfl (lv_at hl 0 rfl) ?_
          refine gget E in_X11 hK hP (q_main ks ad σ19) rfl (k := 4) (by decide) wd_1_149 rfl (v := .ref (ad 12 0)) rfl dX11_judge_127 ?_
          refine lv_iload_n hx hb dX11_judge_130 rfl (lv_at hl 2 rfl) ?_
          obtain ⟨c20, hf⟩ := ck_e hf
          refine gaaldS E hK hP c20 dX11_judge_131 ?_
          refine lv_aload hx hb dX11_judge_132 (lv_at hl 6 rfl) ?_
          obtain ⟨r21, er21, hf⟩ := bd_e hf
          refine gVw_i E hK hP hD hS hA (cX11_firstNotSoc _ _ _ _ (vp_lt c20) (vp_lt c11) er21) kV_X11_firstNotSo wd_4_19 rfl rfl (q_main ks ad σ19) rfl rfl rfl ⟨Nat.le_of_ble_eq_true rfl, Nat.le_of_ble_eq_true rfl⟩ ⟨Nat.zero_le _, Nat.zero_le _⟩ hl.1 (Nat.le_of_ble_eq_true rfl) rfl dX11_judge_134 (fun H locs hP hD hS => ?_)
          exact gretw_i E hlk hP hD hS hr dX11_judge_137 (som_e hf)
        · replace hf := neg_e c10 hf
          refine lv_iload hx hb dX11_judge_67 (lv_at hl 0 rfl) ?_
          exact gretw_i E hlk hP hD hS hr dX11_judge_69 (som_e hf)
      · replace hf := neg_e c8 hf
        refine lv_iconst (v := -1) hx hb dX11_judge_51 (by decide) ?_
        exact gretw_i E hlk hP hD hS hr dX11_judge_52 (som_e hf)
noncomputable def fX11_draw (σ : St) (a1 : Int32) : Option (Int32 × St) :=
  nmv (sI σ 10 0 7 (((gI σ 10 0 7) * 1103515245) + 12345)) fun σ1 =>
  nmv (((gI σ1 10 0 7) &&& (2147483647 : Int32)) / 65536) fun v2 =>
  if 0 < a1 then
  ck (¬ a1 = 0) <|
  some (v2 - v2 / a1 * a1, σ1)
  else
  some (0, σ1)
def rX11_draw : Room := { frames := 0, cells := 0, slots := 0, locals := 0 }
set_option maxHeartbeats 4000000 in
set_option maxRecDepth 100000 in
theorem cX11_drawc {l : Launch} {dC : Nat → ClassId} {dI : Nat → Nat → Nat} {ks : Nat → ClassId} {ad : Nat → Nat → Nat} {σ : St} (a1 : Int32)  {out : Int32 × St} (hf : fX11_draw σ a1 = some out) : MWi l dC dI ks ad σ yX11_draw cX11_draw 3 (some .int) rX11_draw [.ref (ad 0 0), .int a1] out := by
  intro sz
  refine met_w (Qc := fun A => va_Qi (fun r σ' => r = out.1 ∧ σ' = out.2) (gBw dC dI ks ad A) A) (own := RX11) (by decide) rfl (Nat.le_of_ble_eq_true rfl) ?_
  intro A p e s m args below meth c ls E hr hlk hA hP hD hS hK hl
  have hx := E.1
  have hb := E.2.1
  have hl : lv_has ls 3 [(0, .ref (ad 0 0)), (1, .int a1)] := hl
  unfold fX11_draw at hf
  refine lv_aload_n hx hb dX11_draw_0 rfl (lv_at hl 0 rfl) ?_
  refine lv_aload_n hx hb dX11_draw_1 rfl (lv_at hl 0 rfl) ?_
  refine gget E in_X11 hK hP (q_main ks ad σ) rfl (k := 7) (by decide) wd_1_152 rfl (v := .int (gI σ 10 0 7)) rfl dX11_draw_2 ?_
  refine lv_ldcw (v := 1103515245) hx hb E.2.2.2.1 (E.2.2.2.2 _ wd_4_40) dX11_draw_5 ?_
  refine lv_imul hx hb dX11_draw_8 ?_
  refine lv_sipush (v := 12345) hx hb dX11_draw_9 (by decide) ?_
  refine lv_iadd hx hb dX11_draw_12 ?_
  obtain ⟨σ1, eσ1, hf⟩ := nmv_e hf
  refine gput (k := 7) E in_X11 tyX11 tyX11_ok nmX11 hK hP hD hS (q_main ks ad σ) rfl (by decide) wd_1_152 rfl rfl rfl rfl rfl (Nat.le_of_ble_eq_true rfl) (σ' := σ1) (by rw [eσ1]; exact st_main_7 ks ad σ _) dX11_draw_13 (fun H locs hP hD hS => ?_)
  refine lv_aload_n hx hb dX11_draw_16 rfl (lv_at hl 0 rfl) ?_
  refine gget E in_X11 hK hP (q_main ks ad σ1) rfl (k := 7) (by decide) wd_1_152 rfl (v := .int (gI σ1 10 0 7)) rfl dX11_draw_17 ?_
  refine lv_ldcw (v := 2147483647) hx hb E.2.2.2.1 (E.2.2.2.2 _ wd_4_41) dX11_draw_20 ?_
  refine lv_iand hx hb dX11_draw_23 ?_
  refine lv_ldcw (v := 65536) hx hb E.2.2.2.1 (E.2.2.2.2 _ wd_4_42) dX11_draw_24 ?_
  refine lv_idiv hx hb dX11_draw_27 (by decide) ?_
  obtain ⟨v2, ev2, hf⟩ := nmv_e hf
  refine lv_nmi ev2 ?_
  refine lv_istore_n (lv' := [(2, .int v2), (0, .ref (ad 0 0)), (1, .int a1)]) hx hb dX11_draw_28 rfl hl (by decide) rfl (fun ls hl => ?_)
  refine lv_iload_n hx hb dX11_draw_29 rfl (lv_at hl 2 rfl) ?_
  refine lv_if_gt (tgt := 37) hx hb dX11_draw_30 (by decide) (fun c3 => ?_) (fun c3 => ?_)
  · replace hf := pos_e c3 hf
    refine lv_iload_n hx hb dX11_draw_37 rfl (lv_at hl 0 rfl) ?_
    refine lv_iload_n hx hb dX11_draw_38 rfl (lv_at hl 2 rfl) ?_
    obtain ⟨c4, hf⟩ := ck_e hf
    refine lv_irem hx hb dX11_draw_39 c4 ?_
    exact gretw_i E hlk hP hD hS hr dX11_draw_40 (som_e hf)
  · replace hf := neg_e c3 hf
    refine lv_iconst (v := 0) hx hb dX11_draw_33 (by decide) ?_
    refine lv_goto (tgt := 40) hx hb dX11_draw_34 (by decide) ?_
    exact gretw_i E hlk hP hD hS hr dX11_draw_40 (som_e hf)
noncomputable def fX11_walkOnSpare_J94 (x2 : Int32) (rec_4 : Int32 → Int32 → St → Option (Int32 × St)) (z11 : Int32) (σ12 : St) : Option (Int32 × St) :=
  nmv (x2 + 1) fun v13 =>
  rec_4 z11 v13 σ12
noncomputable def fX11_walkOnSpare_L4B (K_4 : Int32 → St → Option (Int32 × St)) (rec_4 : Int32 → Int32 → St → Option (Int32 × St)) (x1 : Int32) (x2 : Int32) (σ3 : St) : Option (Int32 × St) :=
  if 10 ≤ x2 then
  K_4 x1 σ3
  else
  bd (fX11_draw σ3 (gI σ3 0 2 0)) fun r5 =>
  bd (fX11_draw r5.2 (gI r5.2 0 2 5)) fun r6 =>
  bd (fX11_draw r6.2 (gI r6.2 0 2 8)) fun r7 =>
  bd (fX11_draw r7.2 61) fun r8 =>
  bd (fX11_draw r8.2 61) fun r9 =>
  bd (fX3_isSplit r9.2 2 r5.1) fun r10 =>
  if r10 = 0 then
  bd (fX3_blowOnce r9.2 2 r5.1 r6.1 r7.1 r8.1 r9.1) fun r15 =>
  nmv (x1 + r15.1) fun v16 =>
  fX11_walkOnSpare_J94 x2 rec_4 v16 r15.2
  else
  fX11_walkOnSpare_J94 x2 rec_4 x1 r9.2
noncomputable def fX11_walkOnSpare_L4 (K_4 : Int32 → St → Option (Int32 × St)) : Nat → Int32 → Int32 → St → Option (Int32 × St)
  | 0 => fun _ _ _ => none
  | n + 1 => fX11_walkOnSpare_L4B K_4 (fX11_walkOnSpare_L4 K_4 n)
noncomputable def fX11_walkOnSpare (σ : St) : Option (Int32 × St) :=
  fX11_walkOnSpare_L4 (fun y17 σ18 => some (y17, σ18)) FU 0 0 σ
def rX11_walkOnSpare : Room := { frames := 5, cells := 0, slots := 0, locals := 119 }
set_option maxHeartbeats 4000000 in
set_option maxRecDepth 100000 in
theorem cX11_walkOnSparec {l : Launch} {dC : Nat → ClassId} {dI : Nat → Nat → Nat} {ks : Nat → ClassId} {ad : Nat → Nat → Nat} {σ : St}   {out : Int32 × St} (hf : fX11_walkOnSpare σ = some out) : MWi l dC dI ks ad σ yX11_walkOnSpare cX11_walkOnSpare 8 (some .int) rX11_walkOnSpare [.ref (ad 0 0)] out := by
  intro sz
  refine met_w (Qc := fun A => va_Qi (fun r σ' => r = out.1 ∧ σ' = out.2) (gBw dC dI ks ad A) A) (own := RX11) (by decide) rfl (Nat.le_of_ble_eq_true rfl) ?_
  intro A p e s m args below meth c ls E hr hlk hA hP hD hS hK hl
  have hx := E.1
  have hb := E.2.1
  have hl : lv_has ls 8 [(0, .ref (ad 0 0))] := hl
  unfold fX11_walkOnSpare at hf
  refine lv_iconst (v := 0) hx hb dX11_walkOnSpare_0 (by decide) ?_
  refine lv_istore_n (lv' := [(1, .int 0), (0, .ref (ad 0 0))]) hx hb dX11_walkOnSpare_1 rfl hl (by decide) rfl (fun ls hl => ?_)
  refine lv_iconst (v := 0) hx hb dX11_walkOnSpare_2 (by decide) ?_
  refine lv_istore_n (lv' := [(2, .int 0), (1, .int 0), (0, .ref (ad 0 0))]) hx hb dX11_walkOnSpare_3 rfl hl (by decide) rfl (fun ls hl => ?_)
  have loop_4 : ∀ (K_4 : Int32 → St → Option (Int32 × St)) (hK_4 : (∀ (y17 : Int32) (σ18 : St) (H : Heap) (locs : List Loc) (hP : va_P (dC, dI) vwCl (wG ks ad σ18) H) (hD : va_D A (wG ks ad σ18)) (hS : va_S A s.heap H locs) (hf : K_4 y17 σ18 = some out) (ls : Array Slot), lv_has ls 8 [(1, .int y17)] → W p l e rX11_walkOnSpare s m args below meth c H locs 0 0 (MQ below (va_Qi (fun r σ' => r = out.1 ∧ σ' = out.2) (gBw dC dI ks ad A) A) args s 0 0 A) (F0 m 100 ls []))) (n_4 : Nat) (x1 : Int32) (x2 : Int32) (σ3 : St) (H : Heap) (locs : List Loc) (hP : va_P (dC, dI) vwCl (wG ks ad σ3) H) (hD : va_D A (wG ks ad σ3)) (hS : va_S A s.heap H locs) (hf : fX11_walkOnSpare_L4 K_4 n_4 x1 x2 σ3 = some out) (ls : Array Slot), lv_has ls 8 [(0, .ref (ad 0 0)), (1, .int x1), (2, .int x2)] → W p l e rX11_walkOnSpare s m args below meth c H locs 0 0 (MQ below (va_Qi (fun r σ' => r = out.1 ∧ σ' = out.2) (gBw dC dI ks ad A) A) args s 0 0 A) (F0 m 4 ls []) := by
    intro K_4 hK_4 n_4
    induction n_4 with
    | zero => intro x1 x2 σ3 H locs hP hD hS hf; cases hf
    | succ n_4 ih_4 =>
      intro x1 x2 σ3 H locs hP hD hS hf ls hl
      have hf : fX11_walkOnSpare_L4B K_4 (fX11_walkOnSpare_L4 K_4 n_4) x1 x2 σ3 = some out := hf
      unfold fX11_walkOnSpare_L4B at hf
      refine lv_iload_n hx hb dX11_walkOnSpare_4 rfl (lv_at hl 2 rfl) ?_
      refine lv_bipush (v := 10) hx hb dX11_walkOnSpare_5 (by decide) ?_
      refine lv_icmp_ge (tgt := 100) hx hb dX11_walkOnSpare_7 (by decide) (fun c4 => ?_) (fun c4 => ?_)
      · replace hf := pos_e c4 hf
        exact hK_4 _ _ _ _ hP hD hS hf _ (lv_sub hl [1] rfl)
      · replace hf := neg_e c4 hf
        refine lv_aload_n hx hb dX11_walkOnSpare_10 rfl (lv_at hl 0 rfl) ?_
        refine lv_aload_n hx hb dX11_walkOnSpare_11 rfl (lv_at hl 0 rfl) ?_
        refine gget E in_X11 hK hP (q_main ks ad σ3) rfl (k := 2) (by decide) wd_1_147 rfl (v := .ref (ad 1 2)) rfl dX11_walkOnSpare_12 ?_
        refine gget E in_X3 hK hP (qh_0 ks ad σ3 (by decide : (2 : Nat) < 3)) rfl (k := 0) (by decide) wd_1_73 rfl (v := .int (gI σ3 0 2 0)) rfl dX11_walkOnSpare_15 ?_
        obtain ⟨r5, er5, hf⟩ := bd_e hf
        refine gVw_i E hK hP hD hS hA (cX11_drawc _ er5) kV_X11_draw wd_4_36 rfl rfl (q_main ks ad σ3) rfl rfl rfl ⟨Nat.le_of_ble_eq_true rfl, Nat.le_of_ble_eq_true rfl⟩ ⟨Nat.zero_le _, Nat.zero_le _⟩ hl.1 (Nat.le_of_ble_eq_true rfl) rfl dX11_walkOnSpare_18 (fun H locs hP hD hS => ?_)
        refine lv_istore_n (lv' := [(3, .int r5.1), (0, .ref (ad 0 0)), (1, .int x1), (2, .int x2)]) hx hb dX11_walkOnSpare_21 rfl hl (by decide) rfl (fun ls hl => ?_)
        refine lv_aload_n hx hb dX11_walkOnSpare_22 rfl (lv_at hl 1 rfl) ?_
        refine lv_aload_n hx hb dX11_walkOnSpare_23 rfl (lv_at hl 1 rfl) ?_
        refine gget E in_X11 hK hP (q_main ks ad r5.2) rfl (k := 2) (by decide) wd_1_147 rfl (v := .ref (ad 1 2)) rfl dX11_walkOnSpare_24 ?_
        refine gget E in_X3 hK hP (qh_0 ks ad r5.2 (by decide : (2 : Nat) < 3)) rfl (k := 5) (by decide) wd_1_83 rfl (v := .int (gI r5.2 0 2 5)) rfl dX11_walkOnSpare_27 ?_
        obtain ⟨r6, er6, hf⟩ := bd_e hf
        refine gVw_i E hK hP hD hS hA (cX11_drawc _ er6) kV_X11_draw wd_4_36 rfl rfl (q_main ks ad r5.2) rfl rfl rfl ⟨Nat.le_of_ble_eq_true rfl, Nat.le_of_ble_eq_true rfl⟩ ⟨Nat.zero_le _, Nat.zero_le _⟩ hl.1 (Nat.le_of_ble_eq_true rfl) rfl dX11_walkOnSpare_30 (fun H locs hP hD hS => ?_)
        refine lv_istore (lv' := [(4, .int r6.1), (3, .int r5.1), (0, .ref (ad 0 0)), (1, .int x1), (2, .int x2)]) hx hb dX11_walkOnSpare_33 hl (by decide) rfl (fun ls hl => ?_)
        refine lv_aload_n hx hb dX11_walkOnSpare_35 rfl (lv_at hl 2 rfl) ?_
        refine lv_aload_n hx hb dX11_walkOnSpare_36 rfl (lv_at hl 2 rfl) ?_
        refine gget E in_X11 hK hP (q_main ks ad r6.2) rfl (k := 2) (by decide) wd_1_147 rfl (v := .ref (ad 1 2)) rfl dX11_walkOnSpare_37 ?_
        refine gget E in_X3 hK hP (qh_0 ks ad r6.2 (by decide : (2 : Nat) < 3)) rfl (k := 8) (by decide) wd_1_89 rfl (v := .int (gI r6.2 0 2 8)) rfl dX11_walkOnSpare_40 ?_
        obtain ⟨r7, er7, hf⟩ := bd_e hf
        refine gVw_i E hK hP hD hS hA (cX11_drawc _ er7) kV_X11_draw wd_4_36 rfl rfl (q_main ks ad r6.2) rfl rfl rfl ⟨Nat.le_of_ble_eq_true rfl, Nat.le_of_ble_eq_true rfl⟩ ⟨Nat.zero_le _, Nat.zero_le _⟩ hl.1 (Nat.le_of_ble_eq_true rfl) rfl dX11_walkOnSpare_43 (fun H locs hP hD hS => ?_)
        refine lv_istore (lv' := [(5, .int r7.1), (4, .int r6.1), (3, .int r5.1), (0, .ref (ad 0 0)), (1, .int x1), (2, .int x2)]) hx hb dX11_walkOnSpare_46 hl (by decide) rfl (fun ls hl => ?_)
        refine lv_aload_n hx hb dX11_walkOnSpare_48 rfl (lv_at hl 3 rfl) ?_
        refine lv_bipush (v := 61) hx hb dX11_walkOnSpare_49 (by decide) ?_
        obtain ⟨r8, er8, hf⟩ := bd_e hf
        refine gVw_i E hK hP hD hS hA (cX11_drawc _ er8) kV_X11_draw wd_4_36 rfl rfl (q_main ks ad r7.2) rfl rfl rfl ⟨Nat.le_of_ble_eq_true rfl, Nat.le_of_ble_eq_true rfl⟩ ⟨Nat.zero_le _, Nat.zero_le _⟩ hl.1 (Nat.le_of_ble_eq_true rfl) rfl dX11_walkOnSpare_51 (fun H locs hP hD hS => ?_)
        refine lv_istore (lv' := [(6, .int r8.1), (5, .int r7.1), (4, .int r6.1), (3, .int r5.1), (0, .ref (ad 0 0)), (1, .int x1), (2, .int x2)]) hx hb dX11_walkOnSpare_54 hl (by decide) rfl (fun ls hl => ?_)
        refine lv_aload_n hx hb dX11_walkOnSpare_56 rfl (lv_at hl 4 rfl) ?_
        refine lv_bipush (v := 61) hx hb dX11_walkOnSpare_57 (by decide) ?_
        obtain ⟨r9, er9, hf⟩ := bd_e hf
        refine gVw_i E hK hP hD hS hA (cX11_drawc _ er9) kV_X11_draw wd_4_36 rfl rfl (q_main ks ad r8.2) rfl rfl rfl ⟨Nat.le_of_ble_eq_true rfl, Nat.le_of_ble_eq_true rfl⟩ ⟨Nat.zero_le _, Nat.zero_le _⟩ hl.1 (Nat.le_of_ble_eq_true rfl) rfl dX11_walkOnSpare_59 (fun H locs hP hD hS => ?_)
        refine lv_istore (lv' := [(7, .int r9.1), (6, .int r8.1), (5, .int r7.1), (4, .int r6.1), (3, .int r5.1), (0, .ref (ad 0 0)), (1, .int x1), (2, .int x2)]) hx hb dX11_walkOnSpare_62 hl (by decide) rfl (fun ls hl => ?_)
        refine lv_aload_n hx hb dX11_walkOnSpare_64 rfl (lv_at hl 5 rfl) ?_
        refine gget E in_X11 hK hP (q_main ks ad r9.2) rfl (k := 2) (by decide) wd_1_147 rfl (v := .ref (ad 1 2)) rfl dX11_walkOnSpare_65 ?_
        refine lv_iload_n hx hb dX11_walkOnSpare_68 rfl (lv_at hl 4 rfl) ?_
        obtain ⟨r10, er10, hf⟩ := bd_e hf
        refine gVr_i E hK hP (cX3_isSplitc (by decide : (2 : Nat) < 3) _ er10) kV_X3_isSplit wd_2_102 rfl rfl (qh_0 ks ad r9.2 (by decide : (2 : Nat) < 3)) rfl rfl rfl ⟨Nat.le_of_ble_eq_true rfl, Nat.le_of_ble_eq_true rfl⟩ ⟨Nat.zero_le _, Nat.zero_le _⟩ hl.1 (Nat.le_of_ble_eq_true rfl) rfl dX11_walkOnSpare_69 ?_
        have hJ_94 : ∀ (z11 : Int32) (σ12 : St) (H : Heap) (locs : List Loc) (hP : va_P (dC, dI) vwCl (wG ks ad σ12) H) (hD : va_D A (wG ks ad σ12)) (hS : va_S A s.heap H locs) (hf : fX11_walkOnSpare_J94 x2 (fX11_walkOnSpare_L4 K_4 n_4) z11 σ12 = some out) (ls : Array Slot), lv_has ls 8 [(0, .ref (ad 0 0)), (1, .int z11), (2, .int x2)] → W p l e rX11_walkOnSpare s m args below meth c H locs 0 0 (MQ below (va_Qi (fun r σ' => r = out.1 ∧ σ' = out.2) (gBw dC dI ks ad A) A) args s 0 0 A) (F0 m 94 ls []) := by
          intro z11 σ12 H locs hP hD hS hf ls hl
          unfold fX11_walkOnSpare_J94 at hf
          obtain ⟨v13, ev13, hf⟩ := nmv_e hf
          refine lv_iinc (v := v13) (lv' := [(2, .int v13), (0, .ref (ad 0 0)), (1, .int z11)]) hx hb dX11_walkOnSpare_94 hl (k := 2) rfl (by rw [ev13]; rfl) (by decide) rfl (fun ls hl => ?_)
          refine lv_goto (tgt := 4) hx hb dX11_walkOnSpare_97 (by decide) ?_
          exact ih_4 _ _ _ _ _ hP hD hS hf _ (lv_sub hl [1, 2, 0] rfl)
        refine lv_if_ne (tgt := 94) hx hb dX11_walkOnSpare_72 (by decide) (fun c14 => ?_) (fun c14 => ?_)
        · replace hf := neg_e c14 hf
          exact hJ_94 _ _ _ _ hP hD hS hf _ (lv_sub hl [5, 6, 7] rfl)
        · replace hf := pos_e c14 hf
          refine lv_iload_n hx hb dX11_walkOnSpare_75 rfl (lv_at hl 6 rfl) ?_
          refine lv_aload_n hx hb dX11_walkOnSpare_76 rfl (lv_at hl 5 rfl) ?_
          refine gget E in_X11 hK hP (q_main ks ad r9.2) rfl (k := 2) (by decide) wd_1_147 rfl (v := .ref (ad 1 2)) rfl dX11_walkOnSpare_77 ?_
          refine lv_iload_n hx hb dX11_walkOnSpare_80 rfl (lv_at hl 4 rfl) ?_
          refine lv_iload hx hb dX11_walkOnSpare_81 (lv_at hl 3 rfl) ?_
          refine lv_iload hx hb dX11_walkOnSpare_83 (lv_at hl 2 rfl) ?_
          refine lv_iload hx hb dX11_walkOnSpare_85 (lv_at hl 1 rfl) ?_
          refine lv_iload hx hb dX11_walkOnSpare_87 (lv_at hl 0 rfl) ?_
          obtain ⟨r15, er15, hf⟩ := bd_e hf
          refine gVw_i E hK hP hD hS hA (cX3_blowOncec (by decide : (2 : Nat) < 3) _ _ _ _ _ er15) kV_X3_blowOnce wd_3_67 rfl rfl (qh_0 ks ad r9.2 (by decide : (2 : Nat) < 3)) rfl rfl rfl ⟨Nat.le_of_ble_eq_true rfl, Nat.le_of_ble_eq_true rfl⟩ ⟨Nat.zero_le _, Nat.zero_le _⟩ hl.1 (Nat.le_of_ble_eq_true rfl) rfl dX11_walkOnSpare_89 (fun H locs hP hD hS => ?_)
          refine lv_iadd hx hb dX11_walkOnSpare_92 ?_
          obtain ⟨v16, ev16, hf⟩ := nmv_e hf
          refine lv_nmi ev16 ?_
          refine lv_istore_n (lv' := [(1, .int v16), (7, .int r9.1), (6, .int r8.1), (5, .int r7.1), (4, .int r6.1), (3, .int r5.1), (0, .ref (ad 0 0)), (2, .int x2)]) hx hb dX11_walkOnSpare_93 rfl hl (by decide) rfl (fun ls hl => ?_)
          exact hJ_94 _ _ _ _ hP hD hS hf _ (lv_sub hl [6, 0, 7] rfl)
  refine loop_4 _ (fun y17 σ18 H locs hP hD hS hf ls hl => ?_) _ _ _ _ _ _ hP hD hS hf _ (lv_sub hl [2, 1, 0] rfl)
  refine lv_iload_n hx hb dX11_walkOnSpare_100 rfl (lv_at hl 0 rfl) ?_
  exact gretw_i E hlk hP hD hS hr dX11_walkOnSpare_101 (som_e hf)
noncomputable def fX3_splitBits_J26 (x2 : Int32) (rec_4 : Int32 → Int32 → Option (Int32)) (z5 : Int32) : Option (Int32) :=
  nmv (x2 + 1) fun v6 =>
  rec_4 z5 v6
noncomputable def fX3_splitBits_L4B (σ : St) (h : Nat) (K_4 : Int32 → Option (Int32)) (rec_4 : Int32 → Int32 → Option (Int32)) (x1 : Int32) (x2 : Int32) : Option (Int32) :=
  if (gI σ 0 h 0) ≤ x2 then
  K_4 x1
  else
  bd (fX3_isSplit σ h x2) fun r4 =>
  if r4 = 0 then
  fX3_splitBits_J26 x2 rec_4 x1
  else
  nmv (x1 ||| ((1 : Int32) <<< (x2 &&& 31))) fun v8 =>
  fX3_splitBits_J26 x2 rec_4 v8
noncomputable def fX3_splitBits_L4 (σ : St) (h : Nat) (K_4 : Int32 → Option (Int32)) : Nat → Int32 → Int32 → Option (Int32)
  | 0 => fun _ _ => none
  | n + 1 => fX3_splitBits_L4B σ h K_4 (fX3_splitBits_L4 σ h K_4 n)
noncomputable def fX3_splitBits (σ : St) (h : Nat) : Option (Int32) :=
  fX3_splitBits_L4 σ h (fun y9 => some y9) FU 0 0
def rX3_splitBits : Room := { frames := 1, cells := 0, slots := 0, locals := 21 }
set_option maxHeartbeats 4000000 in
set_option maxRecDepth 100000 in
theorem cX3_splitBitsc {l : Launch} {dC : Nat → ClassId} {dI : Nat → Nat → Nat} {ks : Nat → ClassId} {ad : Nat → Nat → Nat} {σ : St} {h : Nat} (hh : h < 3)  {out : Int32} (hf : fX3_splitBits σ h = some out) : MRi l dC dI ks ad σ yX3_splitBits cX3_splitBits 3 (some .int) rX3_splitBits [.ref (ad 1 h)] out := by
  refine met_r (own := RX3) (by decide) rfl (Nat.le_of_ble_eq_true rfl) ?_
  intro p e s m args below meth c ls E hr hlk hP hK hl
  have hx := E.1
  have hb := E.2.1
  have hl : lv_has ls 3 [(0, .ref (ad 1 h))] := hl
  unfold fX3_splitBits at hf
  refine lv_iconst (v := 0) hx hb dX3_splitBits_0 (by decide) ?_
  refine lv_istore_n (lv' := [(1, .int 0), (0, .ref (ad 1 h))]) hx hb dX3_splitBits_1 rfl hl (by decide) rfl (fun ls hl => ?_)
  refine lv_iconst (v := 0) hx hb dX3_splitBits_2 (by decide) ?_
  refine lv_istore_n (lv' := [(2, .int 0), (1, .int 0), (0, .ref (ad 1 h))]) hx hb dX3_splitBits_3 rfl hl (by decide) rfl (fun ls hl => ?_)
  have loop_4 : ∀ (K_4 : Int32 → Option (Int32)) (hK_4 : (∀ (y9 : Int32) (hf : K_4 y9 = some out) (ls : Array Slot), lv_has ls 3 [(1, .int y9)] → W p l e rX3_splitBits s m args below meth c s.heap [] 0 0 (MQ below (vp_Si (fun r => r = out)) args s 0 0 (fun _ => False)) (F0 m 32 ls []))) (n_4 : Nat) (x1 : Int32) (x2 : Int32) (hf : fX3_splitBits_L4 σ h K_4 n_4 x1 x2 = some out) (ls : Array Slot), lv_has ls 3 [(0, .ref (ad 1 h)), (1, .int x1), (2, .int x2)] → W p l e rX3_splitBits s m args below meth c s.heap [] 0 0 (MQ below (vp_Si (fun r => r = out)) args s 0 0 (fun _ => False)) (F0 m 4 ls []) := by
    intro K_4 hK_4 n_4
    induction n_4 with
    | zero => intro x1 x2 hf; cases hf
    | succ n_4 ih_4 =>
      intro x1 x2 hf ls hl
      have hf : fX3_splitBits_L4B σ h K_4 (fX3_splitBits_L4 σ h K_4 n_4) x1 x2 = some out := hf
      unfold fX3_splitBits_L4B at hf
      refine lv_iload_n hx hb dX3_splitBits_4 rfl (lv_at hl 2 rfl) ?_
      refine lv_aload_n hx hb dX3_splitBits_5 rfl (lv_at hl 0 rfl) ?_
      refine gget E in_X3 hK hP (qh_0 ks ad σ hh) rfl (k := 0) (by decide) wd_1_72 rfl (v := .int (gI σ 0 h 0)) rfl dX3_splitBits_6 ?_
      refine lv_icmp_ge (tgt := 32) hx hb dX3_splitBits_9 (by decide) (fun c3 => ?_) (fun c3 => ?_)
      · replace hf := pos_e c3 hf
        exact hK_4 _ hf _ (lv_sub hl [1] rfl)
      · replace hf := neg_e c3 hf
        refine lv_aload_n hx hb dX3_splitBits_12 rfl (lv_at hl 0 rfl) ?_
        refine lv_iload_n hx hb dX3_splitBits_13 rfl (lv_at hl 2 rfl) ?_
        obtain ⟨r4, er4, hf⟩ := bd_e hf
        refine gVr_i E hK hP (cX3_isSplitc hh _ er4) kV_X3_isSplit wd_4_47 rfl rfl (qh_0 ks ad σ hh) rfl rfl rfl ⟨Nat.le_of_ble_eq_true rfl, Nat.le_of_ble_eq_true rfl⟩ ⟨Nat.zero_le _, Nat.zero_le _⟩ hl.1 (Nat.le_of_ble_eq_true rfl) rfl dX3_splitBits_14 ?_
        have hJ_26 : ∀ (z5 : Int32) (hf : fX3_splitBits_J26 x2 (fX3_splitBits_L4 σ h K_4 n_4) z5 = some out) (ls : Array Slot), lv_has ls 3 [(0, .ref (ad 1 h)), (1, .int z5), (2, .int x2)] → W p l e rX3_splitBits s m args below meth c s.heap [] 0 0 (MQ below (vp_Si (fun r => r = out)) args s 0 0 (fun _ => False)) (F0 m 26 ls []) := by
          intro z5 hf ls hl
          unfold fX3_splitBits_J26 at hf
          obtain ⟨v6, ev6, hf⟩ := nmv_e hf
          refine lv_iinc (v := v6) (lv' := [(2, .int v6), (0, .ref (ad 1 h)), (1, .int z5)]) hx hb dX3_splitBits_26 hl (k := 2) rfl (by rw [ev6]; rfl) (by decide) rfl (fun ls hl => ?_)
          refine lv_goto (tgt := 4) hx hb dX3_splitBits_29 (by decide) ?_
          exact ih_4 _ _ hf _ (lv_sub hl [1, 2, 0] rfl)
        refine lv_if_eq (tgt := 26) hx hb dX3_splitBits_17 (by decide) (fun c7 => ?_) (fun c7 => ?_)
        · replace hf := pos_e c7 hf
          exact hJ_26 _ hf _ (lv_sub hl [0, 1, 2] rfl)
        · replace hf := neg_e c7 hf
          refine lv_iload_n hx hb dX3_splitBits_20 rfl (lv_at hl 1 rfl) ?_
          refine lv_iconst (v := 1) hx hb dX3_splitBits_21 (by decide) ?_
          refine lv_iload_n hx hb dX3_splitBits_22 rfl (lv_at hl 2 rfl) ?_
          refine lv_ishl hx hb dX3_splitBits_23 ?_
          refine lv_ior hx hb dX3_splitBits_24 ?_
          obtain ⟨v8, ev8, hf⟩ := nmv_e hf
          refine lv_nmi ev8 ?_
          refine lv_istore_n (lv' := [(1, .int v8), (0, .ref (ad 1 h)), (2, .int x2)]) hx hb dX3_splitBits_25 rfl hl (by decide) rfl (fun ls hl => ?_)
          exact hJ_26 _ hf _ (lv_sub hl [1, 0, 2] rfl)
  refine loop_4 _ (fun y9 hf ls hl => ?_) _ _ _ hf _ (lv_sub hl [2, 1, 0] rfl)
  refine lv_iload_n hx hb dX3_splitBits_32 rfl (lv_at hl 0 rfl) ?_
  exact gret_i E hr hlk dX3_splitBits_33 (som_e hf).symm
noncomputable def fJ6_bitCount_0f7a4 (σ : St) (a1 : Int32) : Option (Int32) :=
  nmv (a1 - (((a1.toUInt32 >>> ((1 : Int32).toUInt32 &&& Int32.toUInt32 31)).toInt32) &&& (1431655765 : Int32))) fun v1 =>
  nmv ((v1 &&& (858993459 : Int32)) + (((v1.toUInt32 >>> ((2 : Int32).toUInt32 &&& Int32.toUInt32 31)).toInt32) &&& (858993459 : Int32))) fun v2 =>
  nmv ((v2 + ((v2.toUInt32 >>> ((4 : Int32).toUInt32 &&& Int32.toUInt32 31)).toInt32)) &&& (252645135 : Int32)) fun v3 =>
  nmv (v3 + ((v3.toUInt32 >>> ((8 : Int32).toUInt32 &&& Int32.toUInt32 31)).toInt32)) fun v4 =>
  nmv (v4 + ((v4.toUInt32 >>> ((16 : Int32).toUInt32 &&& Int32.toUInt32 31)).toInt32)) fun v5 =>
  some (v5 &&& (63 : Int32))
def rJ6_bitCount_0f7a4 : Room := { frames := 0, cells := 0, slots := 0, locals := 0 }
set_option maxHeartbeats 4000000 in
set_option maxRecDepth 100000 in
theorem cJ6_bitCount_0f7a4c {l : Launch} {dC : Nat → ClassId} {dI : Nat → Nat → Nat} {ks : Nat → ClassId} {ad : Nat → Nat → Nat} {σ : St} (a1 : Int32)  {out : Int32} (hf : fJ6_bitCount_0f7a4 σ a1 = some out) : MRi l dC dI ks ad σ yJ6_bitCount_0f7a4 cJ6_bitCount_0f7a4 1 (some .int) rJ6_bitCount_0f7a4 [.int a1] out := by
  refine met_r (own := RJ6) (by decide) rfl (Nat.le_of_ble_eq_true rfl) ?_
  intro p e s m args below meth c ls E hr hlk hP hK hl
  have hx := E.1
  have hb := E.2.1
  have hl : lv_has ls 1 [(0, .int a1)] := hl
  unfold fJ6_bitCount_0f7a4 at hf
  refine lv_iload_n hx hb dJ6_bitCount_0f7a4_0 rfl (lv_at hl 0 rfl) ?_
  refine lv_iload_n hx hb dJ6_bitCount_0f7a4_1 rfl (lv_at hl 0 rfl) ?_
  refine lv_iconst (v := 1) hx hb dJ6_bitCount_0f7a4_2 (by decide) ?_
  refine lv_iushr hx hb dJ6_bitCount_0f7a4_3 rfl ?_
  refine lv_ldcw (v := 1431655765) hx hb E.2.2.2.1 (E.2.2.2.2 _ wd_4_51) dJ6_bitCount_0f7a4_4 ?_
  refine lv_iand hx hb dJ6_bitCount_0f7a4_7 ?_
  refine lv_isub hx hb dJ6_bitCount_0f7a4_8 ?_
  obtain ⟨v1, ev1, hf⟩ := nmv_e hf
  refine lv_nmi ev1 ?_
  refine lv_istore_n (lv' := [(0, .int v1)]) hx hb dJ6_bitCount_0f7a4_9 rfl hl (by decide) rfl (fun ls hl => ?_)
  refine lv_iload_n hx hb dJ6_bitCount_0f7a4_10 rfl (lv_at hl 0 rfl) ?_
  refine lv_ldcw (v := 858993459) hx hb E.2.2.2.1 (E.2.2.2.2 _ wd_4_52) dJ6_bitCount_0f7a4_11 ?_
  refine lv_iand hx hb dJ6_bitCount_0f7a4_14 ?_
  refine lv_iload_n hx hb dJ6_bitCount_0f7a4_15 rfl (lv_at hl 0 rfl) ?_
  refine lv_iconst (v := 2) hx hb dJ6_bitCount_0f7a4_16 (by decide) ?_
  refine lv_iushr hx hb dJ6_bitCount_0f7a4_17 rfl ?_
  refine lv_ldcw (v := 858993459) hx hb E.2.2.2.1 (E.2.2.2.2 _ wd_4_52) dJ6_bitCount_0f7a4_18 ?_
  refine lv_iand hx hb dJ6_bitCount_0f7a4_21 ?_
  refine lv_iadd hx hb dJ6_bitCount_0f7a4_22 ?_
  obtain ⟨v2, ev2, hf⟩ := nmv_e hf
  refine lv_nmi ev2 ?_
  refine lv_istore_n (lv' := [(0, .int v2)]) hx hb dJ6_bitCount_0f7a4_23 rfl hl (by decide) rfl (fun ls hl => ?_)
  refine lv_iload_n hx hb dJ6_bitCount_0f7a4_24 rfl (lv_at hl 0 rfl) ?_
  refine lv_iload_n hx hb dJ6_bitCount_0f7a4_25 rfl (lv_at hl 0 rfl) ?_
  refine lv_iconst (v := 4) hx hb dJ6_bitCount_0f7a4_26 (by decide) ?_
  refine lv_iushr hx hb dJ6_bitCount_0f7a4_27 rfl ?_
  refine lv_iadd hx hb dJ6_bitCount_0f7a4_28 ?_
  refine lv_ldcw (v := 252645135) hx hb E.2.2.2.1 (E.2.2.2.2 _ wd_4_53) dJ6_bitCount_0f7a4_29 ?_
  refine lv_iand hx hb dJ6_bitCount_0f7a4_32 ?_
  obtain ⟨v3, ev3, hf⟩ := nmv_e hf
  refine lv_nmi ev3 ?_
  refine lv_istore_n (lv' := [(0, .int v3)]) hx hb dJ6_bitCount_0f7a4_33 rfl hl (by decide) rfl (fun ls hl => ?_)
  refine lv_iload_n hx hb dJ6_bitCount_0f7a4_34 rfl (lv_at hl 0 rfl) ?_
  refine lv_iload_n hx hb dJ6_bitCount_0f7a4_35 rfl (lv_at hl 0 rfl) ?_
  refine lv_bipush (v := 8) hx hb dJ6_bitCount_0f7a4_36 (by decide) ?_
  refine lv_iushr hx hb dJ6_bitCount_0f7a4_38 rfl ?_
  refine lv_iadd hx hb dJ6_bitCount_0f7a4_39 ?_
  obtain ⟨v4, ev4, hf⟩ := nmv_e hf
  refine lv_nmi ev4 ?_
  refine lv_istore_n (lv' := [(0, .int v4)]) hx hb dJ6_bitCount_0f7a4_40 rfl hl (by decide) rfl (fun ls hl => ?_)
  refine lv_iload_n hx hb dJ6_bitCount_0f7a4_41 rfl (lv_at hl 0 rfl) ?_
  refine lv_iload_n hx hb dJ6_bitCount_0f7a4_42 rfl (lv_at hl 0 rfl) ?_
  refine lv_bipush (v := 16) hx hb dJ6_bitCount_0f7a4_43 (by decide) ?_
  refine lv_iushr hx hb dJ6_bitCount_0f7a4_45 rfl ?_
  refine lv_iadd hx hb dJ6_bitCount_0f7a4_46 ?_
  obtain ⟨v5, ev5, hf⟩ := nmv_e hf
  refine lv_nmi ev5 ?_
  refine lv_istore_n (lv' := [(0, .int v5)]) hx hb dJ6_bitCount_0f7a4_47 rfl hl (by decide) rfl (fun ls hl => ?_)
  refine lv_iload_n hx hb dJ6_bitCount_0f7a4_48 rfl (lv_at hl 0 rfl) ?_
  refine lv_bipush (v := 63) hx hb dJ6_bitCount_0f7a4_49 (by decide) ?_
  refine lv_iand hx hb dJ6_bitCount_0f7a4_51 ?_
  exact gret_i E hr hlk dJ6_bitCount_0f7a4_52 (som_e hf).symm
noncomputable def fX11_walks_L68B (a1 : Int32) (K_68 : Int32 → Int32 → St → Option (Int32 × St)) (rec_68 : Int32 → Int32 → Int32 → St → Option (Int32 × St)) (x9 : Int32) (x10 : Int32) (x11 : Int32) (σ12 : St) : Option (Int32 × St) :=
  if a1 ≤ x11 then
  K_68 x9 x10 σ12
  else
  bd (fX3_become σ12 2 0) fun r14 =>
  bd (fX11_walkOnSpare r14) fun r15 =>
  nmv (x9 + r15.1) fun v16 =>
  bd (fX3_splitBits r15.2 2) fun r17 =>
  bd (fJ6_bitCount_0f7a4 r15.2 r17) fun r18 =>
  nmv (x10 + r18) fun v19 =>
  nmv (x11 + 1) fun v20 =>
  rec_68 v16 v19 v20 r15.2
noncomputable def fX11_walks_L68 (a1 : Int32) (K_68 : Int32 → Int32 → St → Option (Int32 × St)) : Nat → Int32 → Int32 → Int32 → St → Option (Int32 × St)
  | 0 => fun _ _ _ _ => none
  | n + 1 => fX11_walks_L68B a1 K_68 (fX11_walks_L68 a1 K_68 n)
noncomputable def fX11_walks (σ : St) (a1 : Int32) (a2 : Int32) (a3 : Int32) : Option (Int32 × St) :=
  bd (fX11_isOut σ a1 1 20) fun r1 =>
  if r1 = 0 then
  bd (fX11_isOut σ a3 0 1) fun r3 =>
  if r3 = 0 then
  if (gI σ 0 0 0) = 0 then
  some ((-3), σ)
  else
  if (gI σ 0 0 5) = 0 then
  some ((-3), σ)
  else
  if (gI σ 0 0 8) = 0 then
  some ((-3), σ)
  else
  nmv (sI σ 10 0 7 a2) fun σ8 =>
  fX11_walks_L68 a1 (fun y21 y22 σ23 => if a3 = 0 then
  some (y21, σ23)
  else
  some (y22, σ23)) FU 0 0 0 σ8
  else
  some ((-1), σ)
  else
  some ((-1), σ)
def rX11_walks : Room := { frames := 6, cells := 0, slots := 0, locals := 146 }
set_option maxHeartbeats 4000000 in
set_option maxRecDepth 100000 in
theorem cX11_walksc {l : Launch} {dC : Nat → ClassId} {dI : Nat → Nat → Nat} {ks : Nat → ClassId} {ad : Nat → Nat → Nat} {σ : St} (a1 : Int32) (a2 : Int32) (a3 : Int32)  {out : Int32 × St} (hf : fX11_walks σ a1 a2 a3 = some out) : MWi l dC dI ks ad σ yX11_walks cX11_walks 7 (some .int) rX11_walks [.ref (ad 0 0), .int a1, .int a2, .int a3] out := by
  intro sz
  refine met_w (Qc := fun A => va_Qi (fun r σ' => r = out.1 ∧ σ' = out.2) (gBw dC dI ks ad A) A) (own := RX11) (by decide) rfl (Nat.le_of_ble_eq_true rfl) ?_
  intro A p e s m args below meth c ls E hr hlk hA hP hD hS hK hl
  have hx := E.1
  have hb := E.2.1
  have hl : lv_has ls 7 [(0, .ref (ad 0 0)), (1, .int a1), (2, .int a2), (3, .int a3)] := hl
  unfold fX11_walks at hf
  refine lv_iload_n hx hb dX11_walks_0 rfl (lv_at hl 1 rfl) ?_
  refine lv_iconst (v := 1) hx hb dX11_walks_1 (by decide) ?_
  refine lv_bipush (v := 20) hx hb dX11_walks_2 (by decide) ?_
  obtain ⟨r1, er1, hf⟩ := bd_e hf
  refine gSr_i E hK hP (cX11_isOutc _ _ _ er1) kS_X11_isOut wd_1_178 rfl rfl rfl ⟨Nat.le_of_ble_eq_true rfl, Nat.le_of_ble_eq_true rfl⟩ ⟨Nat.zero_le _, Nat.zero_le _⟩ hl.1 (Nat.le_of_ble_eq_true rfl) rfl dX11_walks_4 ?_
  refine lv_if_ne (tgt := 19) hx hb dX11_walks_7 (by decide) (fun c2 => ?_) (fun c2 => ?_)
  · replace hf := neg_e c2 hf
    refine lv_iconst (v := -1) hx hb dX11_walks_19 (by decide) ?_
    exact gretw_i E hlk hP hD hS hr dX11_walks_20 (som_e hf)
  · replace hf := pos_e c2 hf
    refine lv_iload_n hx hb dX11_walks_10 rfl (lv_at hl 3 rfl) ?_
    refine lv_iconst (v := 0) hx hb dX11_walks_11 (by decide) ?_
    refine lv_iconst (v := 1) hx hb dX11_walks_12 (by decide) ?_
    obtain ⟨r3, er3, hf⟩ := bd_e hf
    refine gSr_i E hK hP (cX11_isOutc _ _ _ er3) kS_X11_isOut wd_1_178 rfl rfl rfl ⟨Nat.le_of_ble_eq_true rfl, Nat.le_of_ble_eq_true rfl⟩ ⟨Nat.zero_le _, Nat.zero_le _⟩ hl.1 (Nat.le_of_ble_eq_true rfl) rfl dX11_walks_13 ?_
    refine lv_if_eq (tgt := 21) hx hb dX11_walks_16 (by decide) (fun c4 => ?_) (fun c4 => ?_)
    · replace hf := pos_e c4 hf
      refine lv_aload_n hx hb dX11_walks_21 rfl (lv_at hl 0 rfl) ?_
      refine gget E in_X11 hK hP (q_main ks ad σ) rfl (k := 0) (by decide) wd_1_145 rfl (v := .ref (ad 1 0)) rfl dX11_walks_22 ?_
      refine gget E in_X3 hK hP (qh_0 ks ad σ (by decide : (0 : Nat) < 3)) rfl (k := 0) (by decide) wd_1_73 rfl (v := .int (gI σ 0 0 0)) rfl dX11_walks_25 ?_
      refine lv_if_eq (tgt := 51) hx hb dX11_walks_28 (by decide) (fun c5 => ?_) (fun c5 => ?_)
      · replace hf := pos_e c5 hf
        refine lv_bipush (v := -3) hx hb dX11_walks_51 (by decide) ?_
        exact gretw_i E hlk hP hD hS hr dX11_walks_53 (som_e hf)
      · replace hf := neg_e c5 hf
        refine lv_aload_n hx hb dX11_walks_31 rfl (lv_at hl 0 rfl) ?_
        refine gget E in_X11 hK hP (q_main ks ad σ) rfl (k := 0) (by decide) wd_1_145 rfl (v := .ref (ad 1 0)) rfl dX11_walks_32 ?_
        refine gget E in_X3 hK hP (qh_0 ks ad σ (by decide : (0 : Nat) < 3)) rfl (k := 5) (by decide) wd_1_83 rfl (v := .int (gI σ 0 0 5)) rfl dX11_walks_35 ?_
        refine lv_if_eq (tgt := 51) hx hb dX11_walks_38 (by decide) (fun c6 => ?_) (fun c6 => ?_)
        · replace hf := pos_e c6 hf
          refine lv_bipush (v := -3) hx hb dX11_walks_51 (by decide) ?_
          exact gretw_i E hlk hP hD hS hr dX11_walks_53 (som_e hf)
        · replace hf := neg_e c6 hf
          refine lv_aload_n hx hb dX11_walks_41 rfl (lv_at hl 0 rfl) ?_
          refine gget E in_X11 hK hP (q_main ks ad σ) rfl (k := 0) (by decide) wd_1_145 rfl (v := .ref (ad 1 0)) rfl dX11_walks_42 ?_
          refine gget E in_X3 hK hP (qh_0 ks ad σ (by decide : (0 : Nat) < 3)) rfl (k := 8) (by decide) wd_1_89 rfl (v := .int (gI σ 0 0 8)) rfl dX11_walks_45 ?_
          refine lv_if_ne (tgt := 54) hx hb dX11_walks_48 (by decide) (fun c7 => ?_) (fun c7 => ?_)
          · replace hf := neg_e c7 hf
            refine lv_aload_n hx hb dX11_walks_54 rfl (lv_at hl 0 rfl) ?_
            refine lv_iload_n hx hb dX11_walks_55 rfl (lv_at hl 2 rfl) ?_
            obtain ⟨σ8, eσ8, hf⟩ := nmv_e hf
            refine gput (k := 7) E in_X11 tyX11 tyX11_ok nmX11 hK hP hD hS (q_main ks ad σ) rfl (by decide) wd_1_152 rfl rfl rfl rfl rfl (Nat.le_of_ble_eq_true rfl) (σ' := σ8) (by rw [eσ8]; exact st_main_7 ks ad σ _) dX11_walks_56 (fun H locs hP hD hS => ?_)
            refine lv_iconst (v := 0) hx hb dX11_walks_59 (by decide) ?_
            refine lv_istore (lv' := [(4, .int 0), (0, .ref (ad 0 0)), (1, .int a1), (2, .int a2), (3, .int a3)]) hx hb dX11_walks_60 hl (by decide) rfl (fun ls hl => ?_)
            refine lv_iconst (v := 0) hx hb dX11_walks_62 (by decide) ?_
            refine lv_istore (lv' := [(5, .int 0), (4, .int 0), (0, .ref (ad 0 0)), (1, .int a1), (2, .int a2), (3, .int a3)]) hx hb dX11_walks_63 hl (by decide) rfl (fun ls hl => ?_)
            refine lv_iconst (v := 0) hx hb dX11_walks_65 (by decide) ?_
            refine lv_istore (lv' := [(6, .int 0), (5, .int 0), (4, .int 0), (0, .ref (ad 0 0)), (1, .int a1), (2, .int a2), (3, .int a3)]) hx hb dX11_walks_66 hl (by decide) rfl (fun ls hl => ?_)
            have loop_68 : ∀ (K_68 : Int32 → Int32 → St → Option (Int32 × St)) (hK_68 : (∀ (y21 : Int32) (y22 : Int32) (σ23 : St) (H : Heap) (locs : List Loc) (hP : va_P (dC, dI) vwCl (wG ks ad σ23) H) (hD : va_D A (wG ks ad σ23)) (hS : va_S A s.heap H locs) (hf : K_68 y21 y22 σ23 = some out) (ls : Array Slot), lv_has ls 7 [(3, .int a3), (4, .int y21), (5, .int y22)] → W p l e rX11_walks s m args below meth c H locs 0 0 (MQ below (va_Qi (fun r σ' => r = out.1 ∧ σ' = out.2) (gBw dC dI ks ad A) A) args s 0 0 A) (F0 m 115 ls []))) (n_68 : Nat) (x9 : Int32) (x10 : Int32) (x11 : Int32) (σ12 : St) (H : Heap) (locs : List Loc) (hP : va_P (dC, dI) vwCl (wG ks ad σ12) H) (hD : va_D A (wG ks ad σ12)) (hS : va_S A s.heap H locs) (hf : fX11_walks_L68 a1 K_68 n_68 x9 x10 x11 σ12 = some out) (ls : Array Slot), lv_has ls 7 [(0, .ref (ad 0 0)), (1, .int a1), (3, .int a3), (4, .int x9), (5, .int x10), (6, .int x11)] → W p l e rX11_walks s m args below meth c H locs 0 0 (MQ below (va_Qi (fun r σ' => r = out.1 ∧ σ' = out.2) (gBw dC dI ks ad A) A) args s 0 0 A) (F0 m 68 ls []) := by
              intro K_68 hK_68 n_68
              induction n_68 with
              | zero => intro x9 x10 x11 σ12 H locs hP hD hS hf; cases hf
              | succ n_68 ih_68 =>
                intro x9 x10 x11 σ12 H locs hP hD hS hf ls hl
                have hf : fX11_walks_L68B a1 K_68 (fX11_walks_L68 a1 K_68 n_68) x9 x10 x11 σ12 = some out := hf
                unfold fX11_walks_L68B at hf
                refine lv_iload hx hb dX11_walks_68 (lv_at hl 5 rfl) ?_
                refine lv_iload_n hx hb dX11_walks_70 rfl (lv_at hl 1 rfl) ?_
                refine lv_icmp_ge (tgt := 115) hx hb dX11_walks_71 (by decide) (fun c13 => ?_) (fun c13 => ?_)
                · replace hf := pos_e c13 hf
                  exact hK_68 _ _ _ _ _ hP hD hS hf _ (lv_sub hl [2, 3, 4] rfl)
                · replace hf := neg_e c13 hf
                  refine lv_aload_n hx hb dX11_walks_74 rfl (lv_at hl 0 rfl) ?_
                  refine gget E in_X11 hK hP (q_main ks ad σ12) rfl (k := 2) (by decide) wd_1_147 rfl (v := .ref (ad 1 2)) rfl dX11_walks_75 ?_
                  refine lv_aload_n hx hb dX11_walks_78 rfl (lv_at hl 0 rfl) ?_
                  refine gget E in_X11 hK hP (q_main ks ad σ12) rfl (k := 0) (by decide) wd_1_145 rfl (v := .ref (ad 1 0)) rfl dX11_walks_79 ?_
                  obtain ⟨r14, er14, hf⟩ := bd_e hf
                  refine gVw_v E hK hP hD hS hA (cX3_becomec (by decide : (2 : Nat) < 3) (by decide : (0 : Nat) < 3) er14) kV_X3_become wd_1_199 rfl rfl (qh_0 ks ad σ12 (by decide : (2 : Nat) < 3)) rfl rfl rfl ⟨Nat.le_of_ble_eq_true rfl, Nat.le_of_ble_eq_true rfl⟩ ⟨Nat.zero_le _, Nat.zero_le _⟩ hl.1 (Nat.le_of_ble_eq_true rfl) rfl dX11_walks_82 (fun H locs hP hD hS => ?_)
                  refine lv_iload hx hb dX11_walks_85 (lv_at hl 3 rfl) ?_
                  refine lv_aload_n hx hb dX11_walks_87 rfl (lv_at hl 0 rfl) ?_
                  obtain ⟨r15, er15, hf⟩ := bd_e hf
                  refine gVw_i E hK hP hD hS hA (cX11_walkOnSparec  er15) kV_X11_walkOnSpare wd_4_32 rfl rfl (q_main ks ad r14) rfl rfl rfl ⟨Nat.le_of_ble_eq_true rfl, Nat.le_of_ble_eq_true rfl⟩ ⟨Nat.zero_le _, Nat.zero_le _⟩ hl.1 (Nat.le_of_ble_eq_true rfl) rfl dX11_walks_88 (fun H locs hP hD hS => ?_)
                  refine lv_iadd hx hb dX11_walks_91 ?_
                  obtain ⟨v16, ev16, hf⟩ := nmv_e hf
                  refine lv_nmi ev16 ?_
                  refine lv_istore (lv' := [(4, .int v16), (0, .ref (ad 0 0)), (1, .int a1), (3, .int a3), (5, .int x10), (6, .int x11)]) hx hb dX11_walks_92 hl (by decide) rfl (fun ls hl => ?_)
                  refine lv_iload hx hb dX11_walks_94 (lv_at hl 4 rfl) ?_
                  refine lv_aload_n hx hb dX11_walks_96 rfl (lv_at hl 1 rfl) ?_
                  refine gget E in_X11 hK hP (q_main ks ad r15.2) rfl (k := 2) (by decide) wd_1_147 rfl (v := .ref (ad 1 2)) rfl dX11_walks_97 ?_
                  obtain ⟨r17, er17, hf⟩ := bd_e hf
                  refine gVr_i E hK hP (cX3_splitBitsc (by decide : (2 : Nat) < 3) er17) kV_X3_splitBits wd_4_43 rfl rfl (qh_0 ks ad r15.2 (by decide : (2 : Nat) < 3)) rfl rfl rfl ⟨Nat.le_of_ble_eq_true rfl, Nat.le_of_ble_eq_true rfl⟩ ⟨Nat.zero_le _, Nat.zero_le _⟩ hl.1 (Nat.le_of_ble_eq_true rfl) rfl dX11_walks_100 ?_
                  obtain ⟨r18, er18, hf⟩ := bd_e hf
                  refine gSr_i E hK hP (cJ6_bitCount_0f7a4c _ er18) kS_J6_bitCount_0f7a4 wd_4_48 rfl rfl rfl ⟨Nat.le_of_ble_eq_true rfl, Nat.le_of_ble_eq_true rfl⟩ ⟨Nat.zero_le _, Nat.zero_le _⟩ hl.1 (Nat.le_of_ble_eq_true rfl) rfl dX11_walks_103 ?_
                  refine lv_iadd hx hb dX11_walks_106 ?_
                  obtain ⟨v19, ev19, hf⟩ := nmv_e hf
                  refine lv_nmi ev19 ?_
                  refine lv_istore (lv' := [(5, .int v19), (4, .int v16), (0, .ref (ad 0 0)), (1, .int a1), (3, .int a3), (6, .int x11)]) hx hb dX11_walks_107 hl (by decide) rfl (fun ls hl => ?_)
                  obtain ⟨v20, ev20, hf⟩ := nmv_e hf
                  refine lv_iinc (v := v20) (lv' := [(6, .int v20), (5, .int v19), (4, .int v16), (0, .ref (ad 0 0)), (1, .int a1), (3, .int a3)]) hx hb dX11_walks_109 hl (k := 5) rfl (by rw [ev20]; rfl) (by decide) rfl (fun ls hl => ?_)
                  refine lv_goto (tgt := 68) hx hb dX11_walks_112 (by decide) ?_
                  exact ih_68 _ _ _ _ _ _ hP hD hS hf _ (lv_sub hl [3, 4, 5, 2, 1, 0] rfl)
            refine loop_68 _ (fun y21 y22 σ23 H locs hP hD hS hf ls hl => ?_) _ _ _ _ _ _ _ hP hD hS hf _ (lv_sub hl [3, 4, 6, 2, 1, 0] rfl)
            refine lv_iload_n hx hb dX11_walks_115 rfl (lv_at hl 0 rfl) ?_
            refine lv_if_ne (tgt := 124) hx hb dX11_walks_116 (by decide) (fun c24 => ?_) (fun c24 => ?_)
            · replace hf := neg_e c24 hf
              refine lv_iload hx hb dX11_walks_124 (lv_at hl 2 rfl) ?_
              exact gretw_i E hlk hP hD hS hr dX11_walks_126 (som_e hf)
            · replace hf := pos_e c24 hf
              refine lv_iload hx hb dX11_walks_119 (lv_at hl 1 rfl) ?_
              refine lv_goto (tgt := 126) hx hb dX11_walks_121 (by decide) ?_
              exact gretw_i E hlk hP hD hS hr dX11_walks_126 (som_e hf)
          · replace hf := pos_e c7 hf
            refine lv_bipush (v := -3) hx hb dX11_walks_51 (by decide) ?_
            exact gretw_i E hlk hP hD hS hr dX11_walks_53 (som_e hf)
    · replace hf := neg_e c4 hf
      refine lv_iconst (v := -1) hx hb dX11_walks_19 (by decide) ?_
      exact gretw_i E hlk hP hD hS hr dX11_walks_20 (som_e hf)
noncomputable def fX11_image (σ : St) : Option (Int32 × St) :=
  bd (fX3_become σ 1 0) fun r1 =>
  nmv (sI r1 10 0 3 1) fun σ2 =>
  some (gI σ2 0 0 0, σ2)
def rX11_image : Room := { frames := 2, cells := 0, slots := 0, locals := 62 }
set_option maxHeartbeats 4000000 in
set_option maxRecDepth 100000 in
theorem cX11_imagec {l : Launch} {dC : Nat → ClassId} {dI : Nat → Nat → Nat} {ks : Nat → ClassId} {ad : Nat → Nat → Nat} {σ : St}   {out : Int32 × St} (hf : fX11_image σ = some out) : MWi l dC dI ks ad σ yX11_image cX11_image 1 (some .int) rX11_image [.ref (ad 0 0)] out := by
  intro sz
  refine met_w (Qc := fun A => va_Qi (fun r σ' => r = out.1 ∧ σ' = out.2) (gBw dC dI ks ad A) A) (own := RX11) (by decide) rfl (Nat.le_of_ble_eq_true rfl) ?_
  intro A p e s m args below meth c ls E hr hlk hA hP hD hS hK hl
  have hx := E.1
  have hb := E.2.1
  have hl : lv_has ls 1 [(0, .ref (ad 0 0))] := hl
  unfold fX11_image at hf
  refine lv_aload_n hx hb dX11_image_0 rfl (lv_at hl 0 rfl) ?_
  refine gget E in_X11 hK hP (q_main ks ad σ) rfl (k := 1) (by decide) wd_1_146 rfl (v := .ref (ad 1 1)) rfl dX11_image_1 ?_
  refine lv_aload_n hx hb dX11_image_4 rfl (lv_at hl 0 rfl) ?_
  refine gget E in_X11 hK hP (q_main ks ad σ) rfl (k := 0) (by decide) wd_1_145 rfl (v := .ref (ad 1 0)) rfl dX11_image_5 ?_
  obtain ⟨r1, er1, hf⟩ := bd_e hf
  refine gVw_v E hK hP hD hS hA (cX3_becomec (by decide : (1 : Nat) < 3) (by decide : (0 : Nat) < 3) er1) kV_X3_become wd_1_199 rfl rfl (qh_0 ks ad σ (by decide : (1 : Nat) < 3)) rfl rfl rfl ⟨Nat.le_of_ble_eq_true rfl, Nat.le_of_ble_eq_true rfl⟩ ⟨Nat.zero_le _, Nat.zero_le _⟩ hl.1 (Nat.le_of_ble_eq_true rfl) rfl dX11_image_8 (fun H locs hP hD hS => ?_)
  refine lv_aload_n hx hb dX11_image_11 rfl (lv_at hl 0 rfl) ?_
  refine lv_iconst (v := 1) hx hb dX11_image_12 (by decide) ?_
  obtain ⟨σ2, eσ2, hf⟩ := nmv_e hf
  refine gput (k := 3) E in_X11 tyX11 tyX11_ok nmX11 hK hP hD hS (q_main ks ad r1) rfl (by decide) wd_1_148 rfl rfl rfl rfl rfl (Nat.le_of_ble_eq_true rfl) (σ' := σ2) (by rw [eσ2]; exact st_main_3 ks ad r1 _) dX11_image_13 (fun H locs hP hD hS => ?_)
  refine lv_aload_n hx hb dX11_image_16 rfl (lv_at hl 0 rfl) ?_
  refine gget E in_X11 hK hP (q_main ks ad σ2) rfl (k := 0) (by decide) wd_1_145 rfl (v := .ref (ad 1 0)) rfl dX11_image_17 ?_
  refine gget E in_X3 hK hP (qh_0 ks ad σ2 (by decide : (0 : Nat) < 3)) rfl (k := 0) (by decide) wd_1_73 rfl (v := .int (gI σ2 0 0 0)) rfl dX11_image_20 ?_
  exact gretw_i E hlk hP hD hS hr dX11_image_23 (som_e hf)
noncomputable def fX11_restore (σ : St) : Option (Int32 × St) :=
  if (gI σ 10 0 3) = 0 then
  some ((-3), σ)
  else
  bd (fX3_become σ 0 1) fun r2 =>
  some (gI r2 0 0 0, r2)
def rX11_restore : Room := { frames := 2, cells := 0, slots := 0, locals := 62 }
set_option maxHeartbeats 4000000 in
set_option maxRecDepth 100000 in
theorem cX11_restorec {l : Launch} {dC : Nat → ClassId} {dI : Nat → Nat → Nat} {ks : Nat → ClassId} {ad : Nat → Nat → Nat} {σ : St}   {out : Int32 × St} (hf : fX11_restore σ = some out) : MWi l dC dI ks ad σ yX11_restore cX11_restore 1 (some .int) rX11_restore [.ref (ad 0 0)] out := by
  intro sz
  refine met_w (Qc := fun A => va_Qi (fun r σ' => r = out.1 ∧ σ' = out.2) (gBw dC dI ks ad A) A) (own := RX11) (by decide) rfl (Nat.le_of_ble_eq_true rfl) ?_
  intro A p e s m args below meth c ls E hr hlk hA hP hD hS hK hl
  have hx := E.1
  have hb := E.2.1
  have hl : lv_has ls 1 [(0, .ref (ad 0 0))] := hl
  unfold fX11_restore at hf
  refine lv_aload_n hx hb dX11_restore_0 rfl (lv_at hl 0 rfl) ?_
  refine gget E in_X11 hK hP (q_main ks ad σ) rfl (k := 3) (by decide) wd_1_148 rfl (v := .int (gI σ 10 0 3)) rfl dX11_restore_1 ?_
  refine lv_if_ne (tgt := 10) hx hb dX11_restore_4 (by decide) (fun c1 => ?_) (fun c1 => ?_)
  · replace hf := neg_e c1 hf
    refine lv_aload_n hx hb dX11_restore_10 rfl (lv_at hl 0 rfl) ?_
    refine gget E in_X11 hK hP (q_main ks ad σ) rfl (k := 0) (by decide) wd_1_145 rfl (v := .ref (ad 1 0)) rfl dX11_restore_11 ?_
    refine lv_aload_n hx hb dX11_restore_14 rfl (lv_at hl 0 rfl) ?_
    refine gget E in_X11 hK hP (q_main ks ad σ) rfl (k := 1) (by decide) wd_1_146 rfl (v := .ref (ad 1 1)) rfl dX11_restore_15 ?_
    obtain ⟨r2, er2, hf⟩ := bd_e hf
    refine gVw_v E hK hP hD hS hA (cX3_becomec (by decide : (0 : Nat) < 3) (by decide : (1 : Nat) < 3) er2) kV_X3_become wd_1_199 rfl rfl (qh_0 ks ad σ (by decide : (0 : Nat) < 3)) rfl rfl rfl ⟨Nat.le_of_ble_eq_true rfl, Nat.le_of_ble_eq_true rfl⟩ ⟨Nat.zero_le _, Nat.zero_le _⟩ hl.1 (Nat.le_of_ble_eq_true rfl) rfl dX11_restore_18 (fun H locs hP hD hS => ?_)
    refine lv_aload_n hx hb dX11_restore_21 rfl (lv_at hl 0 rfl) ?_
    refine gget E in_X11 hK hP (q_main ks ad r2) rfl (k := 0) (by decide) wd_1_145 rfl (v := .ref (ad 1 0)) rfl dX11_restore_22 ?_
    refine gget E in_X3 hK hP (qh_0 ks ad r2 (by decide : (0 : Nat) < 3)) rfl (k := 0) (by decide) wd_1_73 rfl (v := .int (gI r2 0 0 0)) rfl dX11_restore_25 ?_
    exact gretw_i E hlk hP hD hS hr dX11_restore_28 (som_e hf)
  · replace hf := pos_e c1 hf
    refine lv_bipush (v := -3) hx hb dX11_restore_7 (by decide) ?_
    exact gretw_i E hlk hP hD hS hr dX11_restore_9 (som_e hf)
noncomputable def fX11_sumOf_L4B (a1n : Nat) (a1g : Nat → Int32) (a2 : Int32) (K_4 : Int32 → Option (Int32)) (rec_4 : Int32 → Int32 → Option (Int32)) (x1 : Int32) (x2 : Int32) : Option (Int32) :=
  if a2 ≤ x2 then
  K_4 x1
  else
  if (nI a1n) ≤ x2 then
  K_4 x1
  else
  ck (vp_in x2 a1n) <|
  nmv (x1 + (a1g x2.toNatClampNeg)) fun v6 =>
  nmv (x2 + 1) fun v7 =>
  rec_4 v6 v7
noncomputable def fX11_sumOf_L4 (a1n : Nat) (a1g : Nat → Int32) (a2 : Int32) (K_4 : Int32 → Option (Int32)) : Nat → Int32 → Int32 → Option (Int32)
  | 0 => fun _ _ => none
  | n + 1 => fX11_sumOf_L4B a1n a1g a2 K_4 (fX11_sumOf_L4 a1n a1g a2 K_4 n)
noncomputable def fX11_sumOf (σ : St) (a1n : Nat) (a1g : Nat → Int32) (a2 : Int32) : Option (Int32) :=
  fX11_sumOf_L4 a1n a1g a2 (fun y8 => some y8) FU 0 0
def rX11_sumOf : Room := { frames := 0, cells := 0, slots := 0, locals := 0 }
set_option maxHeartbeats 4000000 in
set_option maxRecDepth 100000 in
theorem cX11_sumOfc {l : Launch} {dC : Nat → ClassId} {dI : Nat → Nat → Nat} {ks : Nat → ClassId} {ad : Nat → Nat → Nat} {σ : St} {a1q a1b a1n : Nat} {a1g : Nat → Int32} (a1e : (wG ks ad σ)[a1q]? = some (a1b, .inl (ks 0, a1n, .inl a1g))) (a2 : Int32)  {out : Int32} (hf : fX11_sumOf σ a1n a1g a2 = some out) : MRi l dC dI ks ad σ yX11_sumOf cX11_sumOf 4 (some .int) rX11_sumOf [.ref a1b, .int a2] out := by
  refine met_r (own := RX11) (by decide) rfl (Nat.le_of_ble_eq_true rfl) ?_
  intro p e s m args below meth c ls E hr hlk hP hK hl
  have hx := E.1
  have hb := E.2.1
  have hl : lv_has ls 4 [(0, .ref a1b), (1, .int a2)] := hl
  unfold fX11_sumOf at hf
  refine lv_iconst (v := 0) hx hb dX11_sumOf_0 (by decide) ?_
  refine lv_istore_n (lv' := [(2, .int 0), (0, .ref a1b), (1, .int a2)]) hx hb dX11_sumOf_1 rfl hl (by decide) rfl (fun ls hl => ?_)
  refine lv_iconst (v := 0) hx hb dX11_sumOf_2 (by decide) ?_
  refine lv_istore_n (lv' := [(3, .int 0), (2, .int 0), (0, .ref a1b), (1, .int a2)]) hx hb dX11_sumOf_3 rfl hl (by decide) rfl (fun ls hl => ?_)
  have loop_4 : ∀ (K_4 : Int32 → Option (Int32)) (hK_4 : (∀ (y8 : Int32) (hf : K_4 y8 = some out) (ls : Array Slot), lv_has ls 4 [(2, .int y8)] → W p l e rX11_sumOf s m args below meth c s.heap [] 0 0 (MQ below (vp_Si (fun r => r = out)) args s 0 0 (fun _ => False)) (F0 m 27 ls []))) (n_4 : Nat) (x1 : Int32) (x2 : Int32) (hf : fX11_sumOf_L4 a1n a1g a2 K_4 n_4 x1 x2 = some out) (ls : Array Slot), lv_has ls 4 [(0, .ref a1b), (1, .int a2), (2, .int x1), (3, .int x2)] → W p l e rX11_sumOf s m args below meth c s.heap [] 0 0 (MQ below (vp_Si (fun r => r = out)) args s 0 0 (fun _ => False)) (F0 m 4 ls []) := by
    intro K_4 hK_4 n_4
    induction n_4 with
    | zero => intro x1 x2 hf; cases hf
    | succ n_4 ih_4 =>
      intro x1 x2 hf ls hl
      have hf : fX11_sumOf_L4B a1n a1g a2 K_4 (fX11_sumOf_L4 a1n a1g a2 K_4 n_4) x1 x2 = some out := hf
      unfold fX11_sumOf_L4B at hf
      refine lv_iload_n hx hb dX11_sumOf_4 rfl (lv_at hl 3 rfl) ?_
      refine lv_iload_n hx hb dX11_sumOf_5 rfl (lv_at hl 1 rfl) ?_
      refine lv_icmp_ge (tgt := 27) hx hb dX11_sumOf_6 (by decide) (fun c3 => ?_) (fun c3 => ?_)
      · replace hf := pos_e c3 hf
        exact hK_4 _ hf _ (lv_sub hl [2] rfl)
      · replace hf := neg_e c3 hf
        refine lv_iload_n hx hb dX11_sumOf_9 rfl (lv_at hl 3 rfl) ?_
        refine lv_aload_n hx hb dX11_sumOf_10 rfl (lv_at hl 0 rfl) ?_
        refine galenI E hK hP a1e dX11_sumOf_11 ?_
        refine lv_icmp_ge (tgt := 27) hx hb dX11_sumOf_12 (by decide) (fun c4 => ?_) (fun c4 => ?_)
        · replace hf := pos_e c4 hf
          exact hK_4 _ hf _ (lv_sub hl [2] rfl)
        · replace hf := neg_e c4 hf
          refine lv_iload_n hx hb dX11_sumOf_15 rfl (lv_at hl 2 rfl) ?_
          refine lv_aload_n hx hb dX11_sumOf_16 rfl (lv_at hl 0 rfl) ?_
          refine lv_iload_n hx hb dX11_sumOf_17 rfl (lv_at hl 3 rfl) ?_
          obtain ⟨c5, hf⟩ := ck_e hf
          refine giald E hK hP a1e c5 dX11_sumOf_18 ?_
          refine lv_iadd hx hb dX11_sumOf_19 ?_
          obtain ⟨v6, ev6, hf⟩ := nmv_e hf
          refine lv_nmi ev6 ?_
          refine lv_istore_n (lv' := [(2, .int v6), (0, .ref a1b), (1, .int a2), (3, .int x2)]) hx hb dX11_sumOf_20 rfl hl (by decide) rfl (fun ls hl => ?_)
          obtain ⟨v7, ev7, hf⟩ := nmv_e hf
          refine lv_iinc (v := v7) (lv' := [(3, .int v7), (2, .int v6), (0, .ref a1b), (1, .int a2)]) hx hb dX11_sumOf_21 hl (k := 3) rfl (by rw [ev7]; rfl) (by decide) rfl (fun ls hl => ?_)
          refine lv_goto (tgt := 4) hx hb dX11_sumOf_24 (by decide) ?_
          exact ih_4 _ _ hf _ (lv_sub hl [2, 3, 1, 0] rfl)
  refine loop_4 _ (fun y8 hf ls hl => ?_) _ _ _ hf _ (lv_sub hl [2, 3, 1, 0] rfl)
  refine lv_iload_n hx hb dX11_sumOf_27 rfl (lv_at hl 0 rfl) ?_
  exact gret_i E hr hlk dX11_sumOf_28 (som_e hf).symm
noncomputable def fX11_count (σ : St) (a1 : Int32) : Option (Int32) :=
  if a1 = 0 then
  some (gI σ 0 0 0)
  else
  if a1 = 1 then
  some (gI σ 0 0 5)
  else
  if a1 = 2 then
  some (gI σ 0 0 8)
  else
  if a1 = 3 then
  bd (fX3_splitBits σ 0) fun r7 =>
  some r7
  else
  if a1 = 4 then
  bd (fX11_sumOf σ 6 (gI σ 4 0) (gI σ 0 0 0)) fun r8 =>
  some r8
  else
  if a1 = 5 then
  bd (fX11_sumOf σ 4 (gI σ 6 0) (gI σ 0 0 5)) fun r9 =>
  some r9
  else
  some (-1)
def rX11_count : Room := { frames := 2, cells := 0, slots := 0, locals := 43 }
set_option maxHeartbeats 4000000 in
set_option maxRecDepth 100000 in
theorem cX11_countc {l : Launch} {dC : Nat → ClassId} {dI : Nat → Nat → Nat} {ks : Nat → ClassId} {ad : Nat → Nat → Nat} {σ : St} (a1 : Int32)  {out : Int32} (hf : fX11_count σ a1 = some out) : MRi l dC dI ks ad σ yX11_count cX11_count 2 (some .int) rX11_count [.ref (ad 0 0), .int a1] out := by
  refine met_r (own := RX11) (by decide) rfl (Nat.le_of_ble_eq_true rfl) ?_
  intro p e s m args below meth c ls E hr hlk hP hK hl
  have hx := E.1
  have hb := E.2.1
  have hl : lv_has ls 2 [(0, .ref (ad 0 0)), (1, .int a1)] := hl
  unfold fX11_count at hf
  refine lv_iload_n hx hb dX11_count_0 rfl (lv_at hl 1 rfl) ?_
  by_cases c1 : a1 = 0
  · replace hf := pos_e c1 hf
    refine lv_tableIn (tgt := 40) (off := 39) hx hb dX11_count_1 (by rw [c1]; decide) (by rw [c1]; decide) (by rw [c1]; rfl) (by decide) ?_
    refine lv_aload_n hx hb dX11_count_40 rfl (lv_at hl 0 rfl) ?_
    refine gget E in_X11 hK hP (q_main ks ad σ) rfl (k := 0) (by decide) wd_1_145 rfl (v := .ref (ad 1 0)) rfl dX11_count_41 ?_
    refine gget E in_X3 hK hP (qh_0 ks ad σ (by decide : (0 : Nat) < 3)) rfl (k := 0) (by decide) wd_1_73 rfl (v := .int (gI σ 0 0 0)) rfl dX11_count_44 ?_
    exact gret_i E hr hlk dX11_count_47 (som_e hf).symm
  · replace hf := neg_e c1 hf
    by_cases c2 : a1 = 1
    · replace hf := pos_e c2 hf
      refine lv_tableIn (tgt := 48) (off := 47) hx hb dX11_count_1 (by rw [c2]; decide) (by rw [c2]; decide) (by rw [c2]; rfl) (by decide) ?_
      refine lv_aload_n hx hb dX11_count_48 rfl (lv_at hl 0 rfl) ?_
      refine gget E in_X11 hK hP (q_main ks ad σ) rfl (k := 0) (by decide) wd_1_145 rfl (v := .ref (ad 1 0)) rfl dX11_count_49 ?_
      refine gget E in_X3 hK hP (qh_0 ks ad σ (by decide : (0 : Nat) < 3)) rfl (k := 5) (by decide) wd_1_83 rfl (v := .int (gI σ 0 0 5)) rfl dX11_count_52 ?_
      exact gret_i E hr hlk dX11_count_55 (som_e hf).symm
    · replace hf := neg_e c2 hf
      by_cases c3 : a1 = 2
      · replace hf := pos_e c3 hf
        refine lv_tableIn (tgt := 56) (off := 55) hx hb dX11_count_1 (by rw [c3]; decide) (by rw [c3]; decide) (by rw [c3]; rfl) (by decide) ?_
        refine lv_aload_n hx hb dX11_count_56 rfl (lv_at hl 0 rfl) ?_
        refine gget E in_X11 hK hP (q_main ks ad σ) rfl (k := 0) (by decide) wd_1_145 rfl (v := .ref (ad 1 0)) rfl dX11_count_57 ?_
        refine gget E in_X3 hK hP (qh_0 ks ad σ (by decide : (0 : Nat) < 3)) rfl (k := 8) (by decide) wd_1_89 rfl (v := .int (gI σ 0 0 8)) rfl dX11_count_60 ?_
        exact gret_i E hr hlk dX11_count_63 (som_e hf).symm
      · replace hf := neg_e c3 hf
        by_cases c4 : a1 = 3
        · replace hf := pos_e c4 hf
          refine lv_tableIn (tgt := 64) (off := 63) hx hb dX11_count_1 (by rw [c4]; decide) (by rw [c4]; decide) (by rw [c4]; rfl) (by decide) ?_
          refine lv_aload_n hx hb dX11_count_64 rfl (lv_at hl 0 rfl) ?_
          refine gget E in_X11 hK hP (q_main ks ad σ) rfl (k := 0) (by decide) wd_1_145 rfl (v := .ref (ad 1 0)) rfl dX11_count_65 ?_
          obtain ⟨r7, er7, hf⟩ := bd_e hf
          refine gVr_i E hK hP (cX3_splitBitsc (by decide : (0 : Nat) < 3) er7) kV_X3_splitBits wd_4_43 rfl rfl (qh_0 ks ad σ (by decide : (0 : Nat) < 3)) rfl rfl rfl ⟨Nat.le_of_ble_eq_true rfl, Nat.le_of_ble_eq_true rfl⟩ ⟨Nat.zero_le _, Nat.zero_le _⟩ hl.1 (Nat.le_of_ble_eq_true rfl) rfl dX11_count_68 ?_
          exact gret_i E hr hlk dX11_count_71 (som_e hf).symm
        · replace hf := neg_e c4 hf
          by_cases c5 : a1 = 4
          · replace hf := pos_e c5 hf
            refine lv_tableIn (tgt := 72) (off := 71) hx hb dX11_count_1 (by rw [c5]; decide) (by rw [c5]; decide) (by rw [c5]; rfl) (by decide) ?_
            refine lv_aload_n hx hb dX11_count_72 rfl (lv_at hl 0 rfl) ?_
            refine gget E in_X11 hK hP (q_main ks ad σ) rfl (k := 0) (by decide) wd_1_145 rfl (v := .ref (ad 1 0)) rfl dX11_count_73 ?_
            refine gget E in_X3 hK hP (qh_0 ks ad σ (by decide : (0 : Nat) < 3)) rfl (k := 4) (by decide) wd_1_81 rfl (v := .ref (ad 5 0)) rfl dX11_count_76 ?_
            refine lv_aload_n hx hb dX11_count_79 rfl (lv_at hl 0 rfl) ?_
            refine gget E in_X11 hK hP (q_main ks ad σ) rfl (k := 0) (by decide) wd_1_145 rfl (v := .ref (ad 1 0)) rfl dX11_count_80 ?_
            refine gget E in_X3 hK hP (qh_0 ks ad σ (by decide : (0 : Nat) < 3)) rfl (k := 0) (by decide) wd_1_73 rfl (v := .int (gI σ 0 0 0)) rfl dX11_count_83 ?_
            obtain ⟨r8, er8, hf⟩ := bd_e hf
            refine gSr_i E hK hP (cX11_sumOfc (qh_4 ks ad σ (by decide : (0 : Nat) < 3)) _ er8) kS_X11_sumOf wd_4_66 rfl rfl rfl ⟨Nat.le_of_ble_eq_true rfl, Nat.le_of_ble_eq_true rfl⟩ ⟨Nat.zero_le _, Nat.zero_le _⟩ hl.1 (Nat.le_of_ble_eq_true rfl) rfl dX11_count_86 ?_
            exact gret_i E hr hlk dX11_count_89 (som_e hf).symm
          · replace hf := neg_e c5 hf
            by_cases c6 : a1 = 5
            · replace hf := pos_e c6 hf
              refine lv_tableIn (tgt := 90) (off := 89) hx hb dX11_count_1 (by rw [c6]; decide) (by rw [c6]; decide) (by rw [c6]; rfl) (by decide) ?_
              refine lv_aload_n hx hb dX11_count_90 rfl (lv_at hl 0 rfl) ?_
              refine gget E in_X11 hK hP (q_main ks ad σ) rfl (k := 0) (by decide) wd_1_145 rfl (v := .ref (ad 1 0)) rfl dX11_count_91 ?_
              refine gget E in_X3 hK hP (qh_0 ks ad σ (by decide : (0 : Nat) < 3)) rfl (k := 7) (by decide) wd_1_87 rfl (v := .ref (ad 7 0)) rfl dX11_count_94 ?_
              refine lv_aload_n hx hb dX11_count_97 rfl (lv_at hl 0 rfl) ?_
              refine gget E in_X11 hK hP (q_main ks ad σ) rfl (k := 0) (by decide) wd_1_145 rfl (v := .ref (ad 1 0)) rfl dX11_count_98 ?_
              refine gget E in_X3 hK hP (qh_0 ks ad σ (by decide : (0 : Nat) < 3)) rfl (k := 5) (by decide) wd_1_83 rfl (v := .int (gI σ 0 0 5)) rfl dX11_count_101 ?_
              obtain ⟨r9, er9, hf⟩ := bd_e hf
              refine gSr_i E hK hP (cX11_sumOfc (qh_6 ks ad σ (by decide : (0 : Nat) < 3)) _ er9) kS_X11_sumOf wd_4_66 rfl rfl rfl ⟨Nat.le_of_ble_eq_true rfl, Nat.le_of_ble_eq_true rfl⟩ ⟨Nat.zero_le _, Nat.zero_le _⟩ hl.1 (Nat.le_of_ble_eq_true rfl) rfl dX11_count_104 ?_
              exact gret_i E hr hlk dX11_count_107 (som_e hf).symm
            · replace hf := neg_e c6 hf
              refine lv_tableOut (tgt := 108) hx hb dX11_count_1 (by have q0 := lv_neT c1 (a := 0) rfl; have q1 := lv_neT c2 (a := 1) rfl; have q2 := lv_neT c3 (a := 2) rfl; have q3 := lv_neT c4 (a := 3) rfl; have q4 := lv_neT c5 (a := 4) rfl; have q5 := lv_neT c6 (a := 5) rfl; omega) (by decide) ?_
              refine lv_iconst (v := -1) hx hb dX11_count_108 (by decide) ?_
              exact gret_i E hr hlk dX11_count_109 (som_e hf).symm
noncomputable def fJ7_fill_53178_L5B (a1 : Nat) (a2 : Int32) (v1 : Int32) (K_5 : St → Option (St)) (rec_5 : Int32 → St → Option (St)) (x2 : Int32) (σ3 : St) : Option (St) :=
  if v1 ≤ x2 then
  K_5 σ3
  else
  ck (vp_in x2 100) <|
  nmv (sI σ3 9 a1 x2.toNatClampNeg a2) fun σ6 =>
  nmv (x2 + 1) fun v7 =>
  rec_5 v7 σ6
noncomputable def fJ7_fill_53178_L5 (a1 : Nat) (a2 : Int32) (v1 : Int32) (K_5 : St → Option (St)) : Nat → Int32 → St → Option (St)
  | 0 => fun _ _ => none
  | n + 1 => fJ7_fill_53178_L5B a1 a2 v1 K_5 (fJ7_fill_53178_L5 a1 a2 v1 K_5 n)
noncomputable def fJ7_fill_53178 (σ : St) (a1 : Nat) (a2 : Int32) : Option (St) :=
  nmv (nI 100) fun v1 =>
  fJ7_fill_53178_L5 a1 a2 v1 (fun σ8 => some σ8) FU 0 σ
def rJ7_fill_53178 : Room := { frames := 0, cells := 0, slots := 0, locals := 0 }
set_option maxHeartbeats 4000000 in
set_option maxRecDepth 100000 in
theorem cJ7_fill_53178c {l : Launch} {dC : Nat → ClassId} {dI : Nat → Nat → Nat} {ks : Nat → ClassId} {ad : Nat → Nat → Nat} {σ : St} {a1 : Nat} (a2 : Int32) (ha1 : a1 < 8) {out : St} (hf : fJ7_fill_53178 σ a1 a2 = some out) : MWv l dC dI ks ad σ yJ7_fill_53178 cJ7_fill_53178 4 none rJ7_fill_53178 [.ref (ad 11 a1), .int a2] out := by
  intro sz
  refine met_w (Qc := fun A => va_Qv (fun σ' => σ' = out) (gBw dC dI ks ad A) A) (own := RJ7) (by decide) rfl (Nat.le_of_ble_eq_true rfl) ?_
  intro A p e s m args below meth c ls E hr hlk hA hP hD hS hK hl
  have hx := E.1
  have hb := E.2.1
  have hl : lv_has ls 4 [(0, .ref (ad 11 a1)), (1, .int a2)] := hl
  unfold fJ7_fill_53178 at hf
  refine lv_iconst (v := 0) hx hb dJ7_fill_53178_0 (by decide) ?_
  refine lv_istore_n (lv' := [(2, .int 0), (0, .ref (ad 11 a1)), (1, .int a2)]) hx hb dJ7_fill_53178_1 rfl hl (by decide) rfl (fun ls hl => ?_)
  refine lv_aload_n hx hb dJ7_fill_53178_2 rfl (lv_at hl 1 rfl) ?_
  refine galenI E hK hP (qs_1 ks ad σ ha1) dJ7_fill_53178_3 ?_
  obtain ⟨v1, ev1, hf⟩ := nmv_e hf
  refine lv_nmi ev1 ?_
  refine lv_istore_n (lv' := [(3, .int v1), (2, .int 0), (0, .ref (ad 11 a1)), (1, .int a2)]) hx hb dJ7_fill_53178_4 rfl hl (by decide) rfl (fun ls hl => ?_)
  have loop_5 : ∀ (K_5 : St → Option (St)) (hK_5 : (∀ (σ8 : St) (H : Heap) (locs : List Loc) (hP : va_P (dC, dI) vwCl (wG ks ad σ8) H) (hD : va_D A (wG ks ad σ8)) (hS : va_S A s.heap H locs) (hf : K_5 σ8 = some out) (ls : Array Slot), lv_has ls 4 [] → W p l e rJ7_fill_53178 s m args below meth c H locs 0 0 (MQ below (va_Qv (fun σ' => σ' = out) (gBw dC dI ks ad A) A) args s 0 0 A) (F0 m 20 ls []))) (n_5 : Nat) (x2 : Int32) (σ3 : St) (H : Heap) (locs : List Loc) (hP : va_P (dC, dI) vwCl (wG ks ad σ3) H) (hD : va_D A (wG ks ad σ3)) (hS : va_S A s.heap H locs) (hf : fJ7_fill_53178_L5 a1 a2 v1 K_5 n_5 x2 σ3 = some out) (ls : Array Slot), lv_has ls 4 [(0, .ref (ad 11 a1)), (1, .int a2), (2, .int x2), (3, .int v1)] → W p l e rJ7_fill_53178 s m args below meth c H locs 0 0 (MQ below (va_Qv (fun σ' => σ' = out) (gBw dC dI ks ad A) A) args s 0 0 A) (F0 m 5 ls []) := by
    intro K_5 hK_5 n_5
    induction n_5 with
    | zero => intro x2 σ3 H locs hP hD hS hf; cases hf
    | succ n_5 ih_5 =>
      intro x2 σ3 H locs hP hD hS hf ls hl
      have hf : fJ7_fill_53178_L5B a1 a2 v1 K_5 (fJ7_fill_53178_L5 a1 a2 v1 K_5 n_5) x2 σ3 = some out := hf
      unfold fJ7_fill_53178_L5B at hf
      refine lv_iload_n hx hb dJ7_fill_53178_5 rfl (lv_at hl 2 rfl) ?_
      refine lv_iload_n hx hb dJ7_fill_53178_6 rfl (lv_at hl 3 rfl) ?_
      refine lv_icmp_ge (tgt := 20) hx hb dJ7_fill_53178_7 (by decide) (fun c4 => ?_) (fun c4 => ?_)
      · replace hf := pos_e c4 hf
        exact hK_5 _ _ _ hP hD hS hf _ (lv_sub hl [] rfl)
      · replace hf := neg_e c4 hf
        refine lv_aload_n hx hb dJ7_fill_53178_10 rfl (lv_at hl 0 rfl) ?_
        refine lv_iload_n hx hb dJ7_fill_53178_11 rfl (lv_at hl 2 rfl) ?_
        refine lv_iload_n hx hb dJ7_fill_53178_12 rfl (lv_at hl 1 rfl) ?_
        obtain ⟨c5, hf⟩ := ck_e hf
        obtain ⟨σ6, eσ6, hf⟩ := nmv_e hf
        refine giast E hK hP hD hS (qs_1 ks ad σ3 ha1) c5 (σ' := σ6) (by rw [eσ6]; exact st_sc ks ad σ3 ha1 _) dJ7_fill_53178_13 (fun H locs hP hD hS => ?_)
        obtain ⟨v7, ev7, hf⟩ := nmv_e hf
        refine lv_iinc (v := v7) (lv' := [(2, .int v7), (0, .ref (ad 11 a1)), (1, .int a2), (3, .int v1)]) hx hb dJ7_fill_53178_14 hl (k := 2) rfl (by rw [ev7]; rfl) (by decide) rfl (fun ls hl => ?_)
        refine lv_goto (tgt := 5) hx hb dJ7_fill_53178_17 (by decide) ?_
        exact ih_5 _ _ _ _ hP hD hS hf _ (lv_sub hl [1, 2, 0, 3] rfl)
  refine loop_5 _ (fun σ8 H locs hP hD hS hf ls hl => ?_) _ _ _ _ _ hP hD hS hf _ (lv_sub hl [2, 3, 1, 0] rfl)
  exact gretw_v E hlk hP hD hS hr dJ7_fill_53178_20 (som_e hf)
noncomputable def fX4_holdRow (σ : St) (d : Nat) (a1 : Int32) (a2 : Int32) : Option (St) :=
  nmv (sR σ 1 d 0 none) fun σ1 =>
  nmv (sI σ1 8 d 1 1) fun σ2 =>
  nmv (sI σ2 8 d 2 a1) fun σ3 =>
  nmv (sI σ3 8 d 3 a2) fun σ4 =>
  bd (fJ7_fill_53178 σ4 d 0) fun r5 =>
  some r5
def rX4_holdRow : Room := { frames := 1, cells := 0, slots := 0, locals := 23 }
set_option maxHeartbeats 4000000 in
set_option maxRecDepth 100000 in
theorem cX4_holdRowc {l : Launch} {dC : Nat → ClassId} {dI : Nat → Nat → Nat} {ks : Nat → ClassId} {ad : Nat → Nat → Nat} {σ : St} {d : Nat} (hd : d < 8) (a1 : Int32) (a2 : Int32)  {out : St} (hf : fX4_holdRow σ d a1 a2 = some out) : MWv l dC dI ks ad σ yX4_holdRow cX4_holdRow 3 none rX4_holdRow [.ref (ad 10 d), .int a1, .int a2] out := by
  intro sz
  refine met_w (Qc := fun A => va_Qv (fun σ' => σ' = out) (gBw dC dI ks ad A) A) (own := RX4) (by decide) rfl (Nat.le_of_ble_eq_true rfl) ?_
  intro A p e s m args below meth c ls E hr hlk hA hP hD hS hK hl
  have hx := E.1
  have hb := E.2.1
  have hl : lv_has ls 3 [(0, .ref (ad 10 d)), (1, .int a1), (2, .int a2)] := hl
  unfold fX4_holdRow at hf
  refine lv_aload_n hx hb dX4_holdRow_0 rfl (lv_at hl 0 rfl) ?_
  refine lv_null hx hb dX4_holdRow_1 ?_
  obtain ⟨σ1, eσ1, hf⟩ := nmv_e hf
  refine gput (k := 0) E in_X4 tyX4 tyX4_ok nmX4 hK hP hD hS (qs_0 ks ad σ hd) rfl (by decide) wd_1_123 rfl rfl rfl rfl rfl (Nat.le_of_ble_eq_true rfl) (σ' := σ1) (by rw [eσ1]; exact st_s_0 ks ad σ hd none) dX4_holdRow_2 (fun H locs hP hD hS => ?_)
  refine lv_aload_n hx hb dX4_holdRow_5 rfl (lv_at hl 0 rfl) ?_
  refine lv_iconst (v := 1) hx hb dX4_holdRow_6 (by decide) ?_
  obtain ⟨σ2, eσ2, hf⟩ := nmv_e hf
  refine gput (k := 1) E in_X4 tyX4 tyX4_ok nmX4 hK hP hD hS (qs_0 ks ad σ1 hd) rfl (by decide) wd_1_125 rfl rfl rfl rfl rfl (Nat.le_of_ble_eq_true rfl) (σ' := σ2) (by rw [eσ2]; exact st_s_1 ks ad σ1 hd _) dX4_holdRow_7 (fun H locs hP hD hS => ?_)
  refine lv_aload_n hx hb dX4_holdRow_10 rfl (lv_at hl 0 rfl) ?_
  refine lv_iload_n hx hb dX4_holdRow_11 rfl (lv_at hl 1 rfl) ?_
  obtain ⟨σ3, eσ3, hf⟩ := nmv_e hf
  refine gput (k := 2) E in_X4 tyX4 tyX4_ok nmX4 hK hP hD hS (qs_0 ks ad σ2 hd) rfl (by decide) wd_1_128 rfl rfl rfl rfl rfl (Nat.le_of_ble_eq_true rfl) (σ' := σ3) (by rw [eσ3]; exact st_s_2 ks ad σ2 hd _) dX4_holdRow_12 (fun H locs hP hD hS => ?_)
  refine lv_aload_n hx hb dX4_holdRow_15 rfl (lv_at hl 0 rfl) ?_
  refine lv_iload_n hx hb dX4_holdRow_16 rfl (lv_at hl 2 rfl) ?_
  obtain ⟨σ4, eσ4, hf⟩ := nmv_e hf
  refine gput (k := 3) E in_X4 tyX4 tyX4_ok nmX4 hK hP hD hS (qs_0 ks ad σ3 hd) rfl (by decide) wd_1_130 rfl rfl rfl rfl rfl (Nat.le_of_ble_eq_true rfl) (σ' := σ4) (by rw [eσ4]; exact st_s_3 ks ad σ3 hd _) dX4_holdRow_17 (fun H locs hP hD hS => ?_)
  refine lv_aload_n hx hb dX4_holdRow_20 rfl (lv_at hl 0 rfl) ?_
  refine gget E in_X4 hK hP (qs_0 ks ad σ4 hd) rfl (k := 4) (by decide) wd_1_131 rfl (v := .ref (ad 11 d)) rfl dX4_holdRow_21 ?_
  refine lv_iconst (v := 0) hx hb dX4_holdRow_24 (by decide) ?_
  obtain ⟨r5, er5, hf⟩ := bd_e hf
  refine gSw_v E hK hP hD hS hA (cJ7_fill_53178c _ hd er5) kS_J7_fill_53178 wd_4_90 rfl rfl rfl ⟨Nat.le_of_ble_eq_true rfl, Nat.le_of_ble_eq_true rfl⟩ ⟨Nat.zero_le _, Nat.zero_le _⟩ hl.1 (Nat.le_of_ble_eq_true rfl) rfl dX4_holdRow_25 (fun H locs hP hD hS => ?_)
  exact gretw_v E hlk hP hD hS hr dX4_holdRow_28 (som_e hf)
noncomputable def fX11_row (σ : St) (a1 : Int32) (a2 : Int32) (a3 : Int32) : Option (Int32 × St) :=
  bd (fX11_isOut σ a1 0 7) fun r1 =>
  if r1 = 0 then
  bd (fX11_isOut σ a2 0 2) fun r3 =>
  if r3 = 0 then
  if a3 ≤ 100 then
  if 0 ≤ a3 then
  ck (vp_in a1 8) <|
  bd (fX4_holdRow σ a1.toNatClampNeg a2 a3) fun r8 =>
  some (0, r8)
  else
  some ((-14), σ)
  else
  some ((-1), σ)
  else
  some ((-1), σ)
  else
  some ((-1), σ)
def rX11_row : Room := { frames := 2, cells := 0, slots := 0, locals := 45 }
set_option maxHeartbeats 4000000 in
set_option maxRecDepth 100000 in
theorem cX11_rowc {l : Launch} {dC : Nat → ClassId} {dI : Nat → Nat → Nat} {ks : Nat → ClassId} {ad : Nat → Nat → Nat} {σ : St} (a1 : Int32) (a2 : Int32) (a3 : Int32)  {out : Int32 × St} (hf : fX11_row σ a1 a2 a3 = some out) : MWi l dC dI ks ad σ yX11_row cX11_row 4 (some .int) rX11_row [.ref (ad 0 0), .int a1, .int a2, .int a3] out := by
  intro sz
  refine met_w (Qc := fun A => va_Qi (fun r σ' => r = out.1 ∧ σ' = out.2) (gBw dC dI ks ad A) A) (own := RX11) (by decide) rfl (Nat.le_of_ble_eq_true rfl) ?_
  intro A p e s m args below meth c ls E hr hlk hA hP hD hS hK hl
  have hx := E.1
  have hb := E.2.1
  have hl : lv_has ls 4 [(0, .ref (ad 0 0)), (1, .int a1), (2, .int a2), (3, .int a3)] := hl
  unfold fX11_row at hf
  refine lv_iload_n hx hb dX11_row_0 rfl (lv_at hl 1 rfl) ?_
  refine lv_iconst (v := 0) hx hb dX11_row_1 (by decide) ?_
  refine lv_bipush (v := 7) hx hb dX11_row_2 (by decide) ?_
  obtain ⟨r1, er1, hf⟩ := bd_e hf
  refine gSr_i E hK hP (cX11_isOutc _ _ _ er1) kS_X11_isOut wd_1_178 rfl rfl rfl ⟨Nat.le_of_ble_eq_true rfl, Nat.le_of_ble_eq_true rfl⟩ ⟨Nat.zero_le _, Nat.zero_le _⟩ hl.1 (Nat.le_of_ble_eq_true rfl) rfl dX11_row_4 ?_
  refine lv_if_ne (tgt := 25) hx hb dX11_row_7 (by decide) (fun c2 => ?_) (fun c2 => ?_)
  · replace hf := neg_e c2 hf
    refine lv_iconst (v := -1) hx hb dX11_row_25 (by decide) ?_
    exact gretw_i E hlk hP hD hS hr dX11_row_26 (som_e hf)
  · replace hf := pos_e c2 hf
    refine lv_iload_n hx hb dX11_row_10 rfl (lv_at hl 2 rfl) ?_
    refine lv_iconst (v := 0) hx hb dX11_row_11 (by decide) ?_
    refine lv_iconst (v := 2) hx hb dX11_row_12 (by decide) ?_
    obtain ⟨r3, er3, hf⟩ := bd_e hf
    refine gSr_i E hK hP (cX11_isOutc _ _ _ er3) kS_X11_isOut wd_1_178 rfl rfl rfl ⟨Nat.le_of_ble_eq_true rfl, Nat.le_of_ble_eq_true rfl⟩ ⟨Nat.zero_le _, Nat.zero_le _⟩ hl.1 (Nat.le_of_ble_eq_true rfl) rfl dX11_row_13 ?_
    refine lv_if_ne (tgt := 25) hx hb dX11_row_16 (by decide) (fun c4 => ?_) (fun c4 => ?_)
    · replace hf := neg_e c4 hf
      refine lv_iconst (v := -1) hx hb dX11_row_25 (by decide) ?_
      exact gretw_i E hlk hP hD hS hr dX11_row_26 (som_e hf)
    · replace hf := pos_e c4 hf
      refine lv_iload_n hx hb dX11_row_19 rfl (lv_at hl 3 rfl) ?_
      refine lv_bipush (v := 100) hx hb dX11_row_20 (by decide) ?_
      refine lv_icmp_le (tgt := 27) hx hb dX11_row_22 (by decide) (fun c5 => ?_) (fun c5 => ?_)
      · replace hf := pos_e c5 hf
        refine lv_iload_n hx hb dX11_row_27 rfl (lv_at hl 3 rfl) ?_
        refine lv_if_ge (tgt := 34) hx hb dX11_row_28 (by decide) (fun c6 => ?_) (fun c6 => ?_)
        · replace hf := pos_e c6 hf
          refine lv_aload_n hx hb dX11_row_34 rfl (lv_at hl 0 rfl) ?_
          refine gget E in_X11 hK hP (q_main ks ad σ) rfl (k := 4) (by decide) wd_1_149 rfl (v := .ref (ad 12 0)) rfl dX11_row_35 ?_
          refine lv_iload_n hx hb dX11_row_38 rfl (lv_at hl 1 rfl) ?_
          obtain ⟨c7, hf⟩ := ck_e hf
          refine gaaldS E hK hP c7 dX11_row_39 ?_
          refine lv_iload_n hx hb dX11_row_40 rfl (lv_at hl 2 rfl) ?_
          refine lv_iload_n hx hb dX11_row_41 rfl (lv_at hl 3 rfl) ?_
          obtain ⟨r8, er8, hf⟩ := bd_e hf
          refine gVw_v E hK hP hD hS hA (cX4_holdRowc (vp_lt c7) _ _ er8) kV_X4_holdRow wd_4_86 rfl rfl (qs_0 ks ad σ (vp_lt c7)) rfl rfl rfl ⟨Nat.le_of_ble_eq_true rfl, Nat.le_of_ble_eq_true rfl⟩ ⟨Nat.zero_le _, Nat.zero_le _⟩ hl.1 (Nat.le_of_ble_eq_true rfl) rfl dX11_row_42 (fun H locs hP hD hS => ?_)
          refine lv_iconst (v := 0) hx hb dX11_row_45 (by decide) ?_
          exact gretw_i E hlk hP hD hS hr dX11_row_46 (som_e hf)
        · replace hf := neg_e c6 hf
          refine lv_bipush (v := -14) hx hb dX11_row_31 (by decide) ?_
          exact gretw_i E hlk hP hD hS hr dX11_row_33 (som_e hf)
      · replace hf := neg_e c5 hf
        refine lv_iconst (v := -1) hx hb dX11_row_25 (by decide) ?_
        exact gretw_i E hlk hP hD hS hr dX11_row_26 (som_e hf)
noncomputable def fX4_cutToSort (σ : St) (d : Nat) (a1 : Int32) : Option (Int32) :=
  if (gI σ 8 d 2) = 0 then
  some a1.toInt8.toInt32
  else
  if (gI σ 8 d 2) = 1 then
  some a1.toInt16.toInt32
  else
  some a1
def rX4_cutToSort : Room := { frames := 0, cells := 0, slots := 0, locals := 0 }
set_option maxHeartbeats 4000000 in
set_option maxRecDepth 100000 in
theorem cX4_cutToSortc {l : Launch} {dC : Nat → ClassId} {dI : Nat → Nat → Nat} {ks : Nat → ClassId} {ad : Nat → Nat → Nat} {σ : St} {d : Nat} (hd : d < 8) (a1 : Int32)  {out : Int32} (hf : fX4_cutToSort σ d a1 = some out) : MRi l dC dI ks ad σ yX4_cutToSort cX4_cutToSort 2 (some .int) rX4_cutToSort [.ref (ad 10 d), .int a1] out := by
  refine met_r (own := RX4) (by decide) rfl (Nat.le_of_ble_eq_true rfl) ?_
  intro p e s m args below meth c ls E hr hlk hP hK hl
  have hx := E.1
  have hb := E.2.1
  have hl : lv_has ls 2 [(0, .ref (ad 10 d)), (1, .int a1)] := hl
  unfold fX4_cutToSort at hf
  refine lv_aload_n hx hb dX4_cutToSort_0 rfl (lv_at hl 0 rfl) ?_
  refine gget E in_X4 hK hP (qs_0 ks ad σ hd) rfl (k := 2) (by decide) wd_1_128 rfl (v := .int (gI σ 8 d 2)) rfl dX4_cutToSort_1 ?_
  refine lv_if_ne (tgt := 10) hx hb dX4_cutToSort_4 (by decide) (fun c1 => ?_) (fun c1 => ?_)
  · replace hf := neg_e c1 hf
    refine lv_aload_n hx hb dX4_cutToSort_10 rfl (lv_at hl 0 rfl) ?_
    refine gget E in_X4 hK hP (qs_0 ks ad σ hd) rfl (k := 2) (by decide) wd_1_128 rfl (v := .int (gI σ 8 d 2)) rfl dX4_cutToSort_11 ?_
    refine lv_iconst (v := 1) hx hb dX4_cutToSort_14 (by decide) ?_
    refine lv_icmp_ne (tgt := 23) hx hb dX4_cutToSort_15 (by decide) (fun c2 => ?_) (fun c2 => ?_)
    · replace hf := neg_e c2 hf
      refine lv_iload_n hx hb dX4_cutToSort_23 rfl (lv_at hl 1 rfl) ?_
      exact gret_i E hr hlk dX4_cutToSort_24 (som_e hf).symm
    · replace hf := pos_e c2 hf
      refine lv_iload_n hx hb dX4_cutToSort_18 rfl (lv_at hl 1 rfl) ?_
      refine lv_i2s hx hb dX4_cutToSort_19 rfl ?_
      refine lv_goto (tgt := 24) hx hb dX4_cutToSort_20 (by decide) ?_
      exact gret_i E hr hlk dX4_cutToSort_24 (som_e hf).symm
  · replace hf := pos_e c1 hf
    refine lv_iload_n hx hb dX4_cutToSort_7 rfl (lv_at hl 1 rfl) ?_
    refine lv_i2b hx hb dX4_cutToSort_8 rfl ?_
    exact gret_i E hr hlk dX4_cutToSort_9 (som_e hf).symm
noncomputable def fX11_put (σ : St) (a1 : Int32) (a2 : Int32) (a3 : Int32) : Option (Int32 × St) :=
  bd (fX11_rowRefusal σ a1) fun r1 =>
  if 0 ≤ r1 then
  ck (vp_in a1 8) <|
  bd (fX4_hasPlace σ a1.toNatClampNeg a2) fun r4 =>
  if r4 = 0 then
  some ((-13), σ)
  else
  bd (fX4_cutToSort σ a1.toNatClampNeg a3) fun r6 =>
  ck (vp_in a2 100) <|
  nmv (sI σ 9 a1.toNatClampNeg a2.toNatClampNeg r6) fun σ8 =>
  some (0, σ8)
  else
  some (r1, σ)
def rX11_put : Room := { frames := 2, cells := 0, slots := 0, locals := 43 }
set_option maxHeartbeats 4000000 in
set_option maxRecDepth 100000 in
theorem cX11_putc {l : Launch} {dC : Nat → ClassId} {dI : Nat → Nat → Nat} {ks : Nat → ClassId} {ad : Nat → Nat → Nat} {σ : St} (a1 : Int32) (a2 : Int32) (a3 : Int32)  {out : Int32 × St} (hf : fX11_put σ a1 a2 a3 = some out) : MWi l dC dI ks ad σ yX11_put cX11_put 6 (some .int) rX11_put [.ref (ad 0 0), .int a1, .int a2, .int a3] out := by
  intro sz
  refine met_w (Qc := fun A => va_Qi (fun r σ' => r = out.1 ∧ σ' = out.2) (gBw dC dI ks ad A) A) (own := RX11) (by decide) rfl (Nat.le_of_ble_eq_true rfl) ?_
  intro A p e s m args below meth c ls E hr hlk hA hP hD hS hK hl
  have hx := E.1
  have hb := E.2.1
  have hl : lv_has ls 6 [(0, .ref (ad 0 0)), (1, .int a1), (2, .int a2), (3, .int a3)] := hl
  unfold fX11_put at hf
  refine lv_aload_n hx hb dX11_put_0 rfl (lv_at hl 0 rfl) ?_
  refine lv_iload_n hx hb dX11_put_1 rfl (lv_at hl 1 rfl) ?_
  obtain ⟨r1, er1, hf⟩ := bd_e hf
  refine gVr_i E hK hP (cX11_rowRefusalc _ er1) kV_X11_rowRefusal wd_1_174 rfl rfl (q_main ks ad σ) rfl rfl rfl ⟨Nat.le_of_ble_eq_true rfl, Nat.le_of_ble_eq_true rfl⟩ ⟨Nat.zero_le _, Nat.zero_le _⟩ hl.1 (Nat.le_of_ble_eq_true rfl) rfl dX11_put_2 ?_
  refine lv_istore (lv' := [(4, .int r1), (0, .ref (ad 0 0)), (1, .int a1), (2, .int a2), (3, .int a3)]) hx hb dX11_put_5 hl (by decide) rfl (fun ls hl => ?_)
  refine lv_iload hx hb dX11_put_7 (lv_at hl 0 rfl) ?_
  refine lv_if_ge (tgt := 15) hx hb dX11_put_9 (by decide) (fun c2 => ?_) (fun c2 => ?_)
  · replace hf := pos_e c2 hf
    refine lv_aload_n hx hb dX11_put_15 rfl (lv_at hl 1 rfl) ?_
    refine gget E in_X11 hK hP (q_main ks ad σ) rfl (k := 4) (by decide) wd_1_149 rfl (v := .ref (ad 12 0)) rfl dX11_put_16 ?_
    refine lv_iload_n hx hb dX11_put_19 rfl (lv_at hl 2 rfl) ?_
    obtain ⟨c3, hf⟩ := ck_e hf
    refine gaaldS E hK hP c3 dX11_put_20 ?_
    refine lv_astore (lv' := [(5, .ref (ad 10 a1.toNatClampNeg)), (4, .int r1), (0, .ref (ad 0 0)), (1, .int a1), (2, .int a2), (3, .int a3)]) hx hb dX11_put_21 hl (by decide) rfl (fun ls hl => ?_)
    refine lv_aload hx hb dX11_put_23 (lv_at hl 0 rfl) ?_
    refine lv_iload_n hx hb dX11_put_25 rfl (lv_at hl 4 rfl) ?_
    obtain ⟨r4, er4, hf⟩ := bd_e hf
    refine gVr_i E hK hP (cX4_hasPlacec (vp_lt c3) _ er4) kV_X4_hasPlace wd_4_8 rfl rfl (qs_0 ks ad σ (vp_lt c3)) rfl rfl rfl ⟨Nat.le_of_ble_eq_true rfl, Nat.le_of_ble_eq_true rfl⟩ ⟨Nat.zero_le _, Nat.zero_le _⟩ hl.1 (Nat.le_of_ble_eq_true rfl) rfl dX11_put_26 ?_
    refine lv_if_ne (tgt := 35) hx hb dX11_put_29 (by decide) (fun c5 => ?_) (fun c5 => ?_)
    · replace hf := neg_e c5 hf
      refine lv_aload hx hb dX11_put_35 (lv_at hl 0 rfl) ?_
      refine gget E in_X4 hK hP (qs_0 ks ad σ (vp_lt c3)) rfl (k := 4) (by decide) wd_1_132 rfl (v := .ref (ad 11 a1.toNatClampNeg)) rfl dX11_put_37 ?_
      refine lv_iload_n hx hb dX11_put_40 rfl (lv_at hl 4 rfl) ?_
      refine lv_aload hx hb dX11_put_41 (lv_at hl 0 rfl) ?_
      refine lv_iload_n hx hb dX11_put_43 rfl (lv_at hl 5 rfl) ?_
      obtain ⟨r6, er6, hf⟩ := bd_e hf
      refine gVr_i E hK hP (cX4_cutToSortc (vp_lt c3) _ er6) kV_X4_cutToSort wd_4_97 rfl rfl (qs_0 ks ad σ (vp_lt c3)) rfl rfl rfl ⟨Nat.le_of_ble_eq_true rfl, Nat.le_of_ble_eq_true rfl⟩ ⟨Nat.zero_le _, Nat.zero_le _⟩ hl.1 (Nat.le_of_ble_eq_true rfl) rfl dX11_put_44 ?_
      obtain ⟨c7, hf⟩ := ck_e hf
      obtain ⟨σ8, eσ8, hf⟩ := nmv_e hf
      refine giast E hK hP hD hS (qs_1 ks ad σ (vp_lt c3)) c7 (σ' := σ8) (by rw [eσ8]; exact st_sc ks ad σ (vp_lt c3) _) dX11_put_47 (fun H locs hP hD hS => ?_)
      refine lv_iconst (v := 0) hx hb dX11_put_48 (by decide) ?_
      exact gretw_i E hlk hP hD hS hr dX11_put_49 (som_e hf)
    · replace hf := pos_e c5 hf
      refine lv_bipush (v := -13) hx hb dX11_put_32 (by decide) ?_
      exact gretw_i E hlk hP hD hS hr dX11_put_34 (som_e hf)
  · replace hf := neg_e c2 hf
    refine lv_iload hx hb dX11_put_12 (lv_at hl 0 rfl) ?_
    exact gretw_i E hlk hP hD hS hr dX11_put_14 (som_e hf)
noncomputable def fX4_hasPlaces (σ : St) (d : Nat) (a1 : Int32) (a2 : Int32) : Option (Int32) :=
  if a1 < 0 then
  some 0
  else
  if (gI σ 8 d 3) < a1 then
  some 0
  else
  if ((gI σ 8 d 3) - a1) < a2 then
  some 0
  else
  some 1
def rX4_hasPlaces : Room := { frames := 0, cells := 0, slots := 0, locals := 0 }
set_option maxHeartbeats 4000000 in
set_option maxRecDepth 100000 in
theorem cX4_hasPlacesc {l : Launch} {dC : Nat → ClassId} {dI : Nat → Nat → Nat} {ks : Nat → ClassId} {ad : Nat → Nat → Nat} {σ : St} {d : Nat} (hd : d < 8) (a1 : Int32) (a2 : Int32)  {out : Int32} (hf : fX4_hasPlaces σ d a1 a2 = some out) : MRi l dC dI ks ad σ yX4_hasPlaces cX4_hasPlaces 3 (some .boolean) rX4_hasPlaces [.ref (ad 10 d), .int a1, .int a2] out := by
  refine met_r (own := RX4) (by decide) rfl (Nat.le_of_ble_eq_true rfl) ?_
  intro p e s m args below meth c ls E hr hlk hP hK hl
  have hx := E.1
  have hb := E.2.1
  have hl : lv_has ls 3 [(0, .ref (ad 10 d)), (1, .int a1), (2, .int a2)] := hl
  unfold fX4_hasPlaces at hf
  refine lv_iload_n hx hb dX4_hasPlaces_0 rfl (lv_at hl 1 rfl) ?_
  refine lv_if_lt (tgt := 26) hx hb dX4_hasPlaces_1 (by decide) (fun c1 => ?_) (fun c1 => ?_)
  · replace hf := pos_e c1 hf
    refine lv_iconst (v := 0) hx hb dX4_hasPlaces_26 (by decide) ?_
    exact gret_z rfl E hr hlk dX4_hasPlaces_27 (som_e hf).symm
  · replace hf := neg_e c1 hf
    refine lv_iload_n hx hb dX4_hasPlaces_4 rfl (lv_at hl 1 rfl) ?_
    refine lv_aload_n hx hb dX4_hasPlaces_5 rfl (lv_at hl 0 rfl) ?_
    refine gget E in_X4 hK hP (qs_0 ks ad σ hd) rfl (k := 3) (by decide) wd_1_130 rfl (v := .int (gI σ 8 d 3)) rfl dX4_hasPlaces_6 ?_
    refine lv_icmp_gt (tgt := 26) hx hb dX4_hasPlaces_9 (by decide) (fun c2 => ?_) (fun c2 => ?_)
    · replace hf := pos_e c2 hf
      refine lv_iconst (v := 0) hx hb dX4_hasPlaces_26 (by decide) ?_
      exact gret_z rfl E hr hlk dX4_hasPlaces_27 (som_e hf).symm
    · replace hf := neg_e c2 hf
      refine lv_iload_n hx hb dX4_hasPlaces_12 rfl (lv_at hl 2 rfl) ?_
      refine lv_aload_n hx hb dX4_hasPlaces_13 rfl (lv_at hl 0 rfl) ?_
      refine gget E in_X4 hK hP (qs_0 ks ad σ hd) rfl (k := 3) (by decide) wd_1_130 rfl (v := .int (gI σ 8 d 3)) rfl dX4_hasPlaces_14 ?_
      refine lv_iload_n hx hb dX4_hasPlaces_17 rfl (lv_at hl 1 rfl) ?_
      refine lv_isub hx hb dX4_hasPlaces_18 ?_
      refine lv_icmp_gt (tgt := 26) hx hb dX4_hasPlaces_19 (by decide) (fun c3 => ?_) (fun c3 => ?_)
      · replace hf := pos_e c3 hf
        refine lv_iconst (v := 0) hx hb dX4_hasPlaces_26 (by decide) ?_
        exact gret_z rfl E hr hlk dX4_hasPlaces_27 (som_e hf).symm
      · replace hf := neg_e c3 hf
        refine lv_iconst (v := 1) hx hb dX4_hasPlaces_22 (by decide) ?_
        refine lv_goto (tgt := 27) hx hb dX4_hasPlaces_23 (by decide) ?_
        exact gret_z rfl E hr hlk dX4_hasPlaces_27 (som_e hf).symm
noncomputable def fX11_copy (σ : St) (a1 : Int32) (a2 : Int32) (a3 : Int32) (a4 : Int32) (a5 : Int32) : Option (Int32 × St) :=
  bd (fX11_rowsRefusal σ a1 a3) fun r1 =>
  if 0 ≤ r1 then
  ck (vp_in a1 8) <|
  ck (vp_in a3 8) <|
  if (gI σ 8 a1.toNatClampNeg 2) = (gI σ 8 a3.toNatClampNeg 2) then
  if a5 < 0 then
  some ((-13), σ)
  else
  bd (fX4_hasPlaces σ a1.toNatClampNeg a2 a5) fun r7 =>
  if r7 = 0 then
  some ((-13), σ)
  else
  bd (fX4_hasPlaces σ a3.toNatClampNeg a4 a5) fun r9 =>
  if r9 = 0 then
  some ((-13), σ)
  else
  ck (¬ a2 < 0 ∧ ¬ a4 < 0 ∧ ¬ a5 < 0 ∧ a2.toNatClampNeg + a5.toNatClampNeg ≤ 100 ∧ a4.toNatClampNeg + a5.toNatClampNeg ≤ 100) <|
  nmv (sA σ 9 a3.toNatClampNeg (va_cpy (gI σ 9 a1.toNatClampNeg) (gI σ 9 a3.toNatClampNeg) a2.toNatClampNeg a4.toNatClampNeg a5.toNatClampNeg)) fun σ12 =>
  some (a5, σ12)
  else
  some ((-12), σ)
  else
  some (r1, σ)
def rX11_copy : Room := { frames := 3, cells := 0, slots := 0, locals := 67 }
set_option maxHeartbeats 4000000 in
set_option maxRecDepth 100000 in
theorem cX11_copyc {l : Launch} {dC : Nat → ClassId} {dI : Nat → Nat → Nat} {ks : Nat → ClassId} {ad : Nat → Nat → Nat} {σ : St} (a1 : Int32) (a2 : Int32) (a3 : Int32) (a4 : Int32) (a5 : Int32)  {out : Int32 × St} (hf : fX11_copy σ a1 a2 a3 a4 a5 = some out) : MWi l dC dI ks ad σ yX11_copy cX11_copy 9 (some .int) rX11_copy [.ref (ad 0 0), .int a1, .int a2, .int a3, .int a4, .int a5] out := by
  intro sz
  refine met_w (Qc := fun A => va_Qi (fun r σ' => r = out.1 ∧ σ' = out.2) (gBw dC dI ks ad A) A) (own := RX11) (by decide) rfl (Nat.le_of_ble_eq_true rfl) ?_
  intro A p e s m args below meth c ls E hr hlk hA hP hD hS hK hl
  have hx := E.1
  have hb := E.2.1
  have hl : lv_has ls 9 [(0, .ref (ad 0 0)), (1, .int a1), (2, .int a2), (3, .int a3), (4, .int a4), (5, .int a5)] := hl
  unfold fX11_copy at hf
  refine lv_aload_n hx hb dX11_copy_0 rfl (lv_at hl 0 rfl) ?_
  refine lv_iload_n hx hb dX11_copy_1 rfl (lv_at hl 1 rfl) ?_
  refine lv_iload_n hx hb dX11_copy_2 rfl (lv_at hl 3 rfl) ?_
  obtain ⟨r1, er1, hf⟩ := bd_e hf
  refine gVr_i E hK hP (cX11_rowsRefusalc _ _ er1) kV_X11_rowsRefusal wd_4_15 rfl rfl (q_main ks ad σ) rfl rfl rfl ⟨Nat.le_of_ble_eq_true rfl, Nat.le_of_ble_eq_true rfl⟩ ⟨Nat.zero_le _, Nat.zero_le _⟩ hl.1 (Nat.le_of_ble_eq_true rfl) rfl dX11_copy_3 ?_
  refine lv_istore (lv' := [(6, .int r1), (0, .ref (ad 0 0)), (1, .int a1), (2, .int a2), (3, .int a3), (4, .int a4), (5, .int a5)]) hx hb dX11_copy_6 hl (by decide) rfl (fun ls hl => ?_)
  refine lv_iload hx hb dX11_copy_8 (lv_at hl 0 rfl) ?_
  refine lv_if_ge (tgt := 16) hx hb dX11_copy_10 (by decide) (fun c2 => ?_) (fun c2 => ?_)
  · replace hf := pos_e c2 hf
    refine lv_aload_n hx hb dX11_copy_16 rfl (lv_at hl 1 rfl) ?_
    refine gget E in_X11 hK hP (q_main ks ad σ) rfl (k := 4) (by decide) wd_1_149 rfl (v := .ref (ad 12 0)) rfl dX11_copy_17 ?_
    refine lv_iload_n hx hb dX11_copy_20 rfl (lv_at hl 2 rfl) ?_
    obtain ⟨c3, hf⟩ := ck_e hf
    refine gaaldS E hK hP c3 dX11_copy_21 ?_
    refine lv_astore (lv' := [(7, .ref (ad 10 a1.toNatClampNeg)), (6, .int r1), (0, .ref (ad 0 0)), (1, .int a1), (2, .int a2), (3, .int a3), (4, .int a4), (5, .int a5)]) hx hb dX11_copy_22 hl (by decide) rfl (fun ls hl => ?_)
    refine lv_aload_n hx hb dX11_copy_24 rfl (lv_at hl 2 rfl) ?_
    refine gget E in_X11 hK hP (q_main ks ad σ) rfl (k := 4) (by decide) wd_1_149 rfl (v := .ref (ad 12 0)) rfl dX11_copy_25 ?_
    refine lv_iload_n hx hb dX11_copy_28 rfl (lv_at hl 5 rfl) ?_
    obtain ⟨c4, hf⟩ := ck_e hf
    refine gaaldS E hK hP c4 dX11_copy_29 ?_
    refine lv_astore (lv' := [(8, .ref (ad 10 a3.toNatClampNeg)), (7, .ref (ad 10 a1.toNatClampNeg)), (6, .int r1), (0, .ref (ad 0 0)), (1, .int a1), (2, .int a2), (3, .int a3), (4, .int a4), (5, .int a5)]) hx hb dX11_copy_30 hl (by decide) rfl (fun ls hl => ?_)
    refine lv_aload hx hb dX11_copy_32 (lv_at hl 1 rfl) ?_
    refine gget E in_X4 hK hP (qs_0 ks ad σ (vp_lt c3)) rfl (k := 2) (by decide) wd_1_127 rfl (v := .int (gI σ 8 a1.toNatClampNeg 2)) rfl dX11_copy_34 ?_
    refine lv_aload hx hb dX11_copy_37 (lv_at hl 0 rfl) ?_
    refine gget E in_X4 hK hP (qs_0 ks ad σ (vp_lt c4)) rfl (k := 2) (by decide) wd_1_127 rfl (v := .int (gI σ 8 a3.toNatClampNeg 2)) rfl dX11_copy_39 ?_
    refine lv_icmp_eq (tgt := 48) hx hb dX11_copy_42 (by decide) (fun c5 => ?_) (fun c5 => ?_)
    · replace hf := pos_e c5 hf
      refine lv_iload hx hb dX11_copy_48 (lv_at hl 8 rfl) ?_
      refine lv_if_lt (tgt := 76) hx hb dX11_copy_50 (by decide) (fun c6 => ?_) (fun c6 => ?_)
      · replace hf := pos_e c6 hf
        refine lv_bipush (v := -13) hx hb dX11_copy_76 (by decide) ?_
        exact gretw_i E hlk hP hD hS hr dX11_copy_78 (som_e hf)
      · replace hf := neg_e c6 hf
        refine lv_aload hx hb dX11_copy_53 (lv_at hl 1 rfl) ?_
        refine lv_iload_n hx hb dX11_copy_55 rfl (lv_at hl 5 rfl) ?_
        refine lv_iload hx hb dX11_copy_56 (lv_at hl 8 rfl) ?_
        obtain ⟨r7, er7, hf⟩ := bd_e hf
        refine gVr_i E hK hP (cX4_hasPlacesc (vp_lt c3) _ _ er7) kV_X4_hasPlaces wd_4_105 rfl rfl (qs_0 ks ad σ (vp_lt c3)) rfl rfl rfl ⟨Nat.le_of_ble_eq_true rfl, Nat.le_of_ble_eq_true rfl⟩ ⟨Nat.zero_le _, Nat.zero_le _⟩ hl.1 (Nat.le_of_ble_eq_true rfl) rfl dX11_copy_58 ?_
        refine lv_if_eq (tgt := 76) hx hb dX11_copy_61 (by decide) (fun c8 => ?_) (fun c8 => ?_)
        · replace hf := pos_e c8 hf
          refine lv_bipush (v := -13) hx hb dX11_copy_76 (by decide) ?_
          exact gretw_i E hlk hP hD hS hr dX11_copy_78 (som_e hf)
        · replace hf := neg_e c8 hf
          refine lv_aload hx hb dX11_copy_64 (lv_at hl 0 rfl) ?_
          refine lv_iload hx hb dX11_copy_66 (lv_at hl 7 rfl) ?_
          refine lv_iload hx hb dX11_copy_68 (lv_at hl 8 rfl) ?_
          obtain ⟨r9, er9, hf⟩ := bd_e hf
          refine gVr_i E hK hP (cX4_hasPlacesc (vp_lt c4) _ _ er9) kV_X4_hasPlaces wd_4_105 rfl rfl (qs_0 ks ad σ (vp_lt c4)) rfl rfl rfl ⟨Nat.le_of_ble_eq_true rfl, Nat.le_of_ble_eq_true rfl⟩ ⟨Nat.zero_le _, Nat.zero_le _⟩ hl.1 (Nat.le_of_ble_eq_true rfl) rfl dX11_copy_70 ?_
          refine lv_if_ne (tgt := 79) hx hb dX11_copy_73 (by decide) (fun c10 => ?_) (fun c10 => ?_)
          · replace hf := neg_e c10 hf
            refine lv_aload hx hb dX11_copy_79 (lv_at hl 1 rfl) ?_
            refine gget E in_X4 hK hP (qs_0 ks ad σ (vp_lt c3)) rfl (k := 4) (by decide) wd_1_132 rfl (v := .ref (ad 11 a1.toNatClampNeg)) rfl dX11_copy_81 ?_
            refine lv_iload_n hx hb dX11_copy_84 rfl (lv_at hl 5 rfl) ?_
            refine lv_aload hx hb dX11_copy_85 (lv_at hl 0 rfl) ?_
            refine gget E in_X4 hK hP (qs_0 ks ad σ (vp_lt c4)) rfl (k := 4) (by decide) wd_1_132 rfl (v := .ref (ad 11 a3.toNatClampNeg)) rfl dX11_copy_87 ?_
            refine lv_iload hx hb dX11_copy_90 (lv_at hl 7 rfl) ?_
            refine lv_iload hx hb dX11_copy_92 (lv_at hl 8 rfl) ?_
            obtain ⟨c11, hf⟩ := ck_e hf
            obtain ⟨σ12, eσ12, hf⟩ := nmv_e hf
            refine gacopy E hK hP hD hS hl.1 wd_4_109 wd_1_205 wd_1_204 wd_1_6 (qs_1 ks ad σ (vp_lt c3)) (qs_1 ks ad σ (vp_lt c4)) c11 (σ' := σ12) (by rw [eσ12]; exact st_sc ks ad σ (vp_lt c4) _) (Nat.le_of_ble_eq_true rfl) (by decide) dX11_copy_94 (fun H locs hP hD hS => ?_)
            refine lv_iload hx hb dX11_copy_97 (lv_at hl 8 rfl) ?_
            exact gretw_i E hlk hP hD hS hr dX11_copy_99 (som_e hf)
          · replace hf := pos_e c10 hf
            refine lv_bipush (v := -13) hx hb dX11_copy_76 (by decide) ?_
            exact gretw_i E hlk hP hD hS hr dX11_copy_78 (som_e hf)
    · replace hf := neg_e c5 hf
      refine lv_bipush (v := -12) hx hb dX11_copy_45 (by decide) ?_
      exact gretw_i E hlk hP hD hS hr dX11_copy_47 (som_e hf)
  · replace hf := neg_e c2 hf
    refine lv_iload hx hb dX11_copy_13 (lv_at hl 0 rfl) ?_
    exact gretw_i E hlk hP hD hS hr dX11_copy_15 (som_e hf)
noncomputable def fX0_costs (σ : St) (j : Nat) : Option (Int32) :=
  some 3
def rX0_costs : Room := { frames := 0, cells := 0, slots := 0, locals := 0 }
set_option maxHeartbeats 4000000 in
set_option maxRecDepth 100000 in
theorem cX0_costsc {l : Launch} {dC : Nat → ClassId} {dI : Nat → Nat → Nat} {ks : Nat → ClassId} {ad : Nat → Nat → Nat} {σ : St} {j : Nat} (hj : j < gS σ 2 0 ∧ okc (gS σ 1 j))  {out : Int32} (hf : fX0_costs σ j = some out) : MRi l dC dI ks ad σ yX0_costs cX0_costs 1 (some .int) rX0_costs [.ref (ad 16 j)] out := by
  refine met_r (own := RX0) (by decide) rfl (Nat.le_of_ble_eq_true rfl) ?_
  intro p e s m args below meth c ls E hr hlk hP hK hl
  have hx := E.1
  have hb := E.2.1
  have hl : lv_has ls 1 [(0, .ref (ad 16 j))] := hl
  unfold fX0_costs at hf
  refine lv_iconst (v := 3) hx hb dX0_costs_0 (by decide) ?_
  exact gret_i E hr hlk dX0_costs_1 (som_e hf).symm
noncomputable def fX8_costs (σ : St) (j : Nat) : Option (Int32) :=
  bd (fX0_costs σ j) fun r1 =>
  some (r1 + (gI σ 14 0 j))
def rX8_costs : Room := { frames := 1, cells := 0, slots := 0, locals := 20 }
set_option maxHeartbeats 4000000 in
set_option maxRecDepth 100000 in
theorem cX8_costsc {l : Launch} {dC : Nat → ClassId} {dI : Nat → Nat → Nat} {ks : Nat → ClassId} {ad : Nat → Nat → Nat} {σ : St} {j : Nat} (hj : j < gS σ 2 0 ∧ okc (gS σ 1 j))  {out : Int32} (hf : fX8_costs σ j = some out) : MRi l dC dI ks ad σ yX8_costs cX8_costs 1 (some .int) rX8_costs [.ref (ad 16 j)] out := by
  refine met_r (own := RX8) (by decide) rfl (Nat.le_of_ble_eq_true rfl) ?_
  intro p e s m args below meth c ls E hr hlk hP hK hl
  have hx := E.1
  have hb := E.2.1
  have hl : lv_has ls 1 [(0, .ref (ad 16 j))] := hl
  unfold fX8_costs at hf
  refine lv_aload_n hx hb dX8_costs_0 rfl (lv_at hl 0 rfl) ?_
  obtain ⟨r1, er1, hf⟩ := bd_e hf
  refine gPb E hK hP hj (cX0_costsc hj er1) kP_X0_costs wd_4_124 wd_4_117 wd_2_32 rfl rfl rfl ⟨Nat.le_of_ble_eq_true rfl, Nat.le_of_ble_eq_true rfl⟩ ⟨Nat.zero_le _, Nat.zero_le _⟩ hl.1 (Nat.le_of_ble_eq_true rfl) rfl dX8_costs_1 ?_
  refine lv_aload_n hx hb dX8_costs_4 rfl (lv_at hl 0 rfl) ?_
  refine gfig E hK hP hj wd_2_5 (Or.inr wd_2_6) dX8_costs_5 ?_
  refine lv_iadd hx hb dX8_costs_8 ?_
  exact gret_i E hr hlk dX8_costs_9 (som_e hf).symm
noncomputable def fX1_costs (σ : St) (j : Nat) : Option (Int32) :=
  bd (fX8_costs σ j) fun r1 =>
  some (r1 + 2)
def rX1_costs : Room := { frames := 2, cells := 0, slots := 0, locals := 40 }
set_option maxHeartbeats 4000000 in
set_option maxRecDepth 100000 in
theorem cX1_costsc {l : Launch} {dC : Nat → ClassId} {dI : Nat → Nat → Nat} {ks : Nat → ClassId} {ad : Nat → Nat → Nat} {σ : St} {j : Nat} (hj : j < gS σ 2 0 ∧ okc (gS σ 1 j))  {out : Int32} (hf : fX1_costs σ j = some out) : MRi l dC dI ks ad σ yX1_costs cX1_costs 1 (some .int) rX1_costs [.ref (ad 16 j)] out := by
  refine met_r (own := RX1) (by decide) rfl (Nat.le_of_ble_eq_true rfl) ?_
  intro p e s m args below meth c ls E hr hlk hP hK hl
  have hx := E.1
  have hb := E.2.1
  have hl : lv_has ls 1 [(0, .ref (ad 16 j))] := hl
  unfold fX1_costs at hf
  refine lv_aload_n hx hb dX1_costs_0 rfl (lv_at hl 0 rfl) ?_
  obtain ⟨r1, er1, hf⟩ := bd_e hf
  refine gPb E hK hP hj (cX8_costsc hj er1) kP_X8_costs wd_4_121 wd_7_58 wd_2_59 rfl rfl rfl ⟨Nat.le_of_ble_eq_true rfl, Nat.le_of_ble_eq_true rfl⟩ ⟨Nat.zero_le _, Nat.zero_le _⟩ hl.1 (Nat.le_of_ble_eq_true rfl) rfl dX1_costs_1 ?_
  refine lv_iconst (v := 2) hx hb dX1_costs_4 (by decide) ?_
  refine lv_iadd hx hb dX1_costs_5 ?_
  exact gret_i E hr hlk dX1_costs_6 (som_e hf).symm
noncomputable def fX2_costs (σ : St) (j : Nat) : Option (Int32) :=
  bd (fX0_costs σ j) fun r1 =>
  some (r1 - 1)
def rX2_costs : Room := { frames := 1, cells := 0, slots := 0, locals := 20 }
set_option maxHeartbeats 4000000 in
set_option maxRecDepth 100000 in
theorem cX2_costsc {l : Launch} {dC : Nat → ClassId} {dI : Nat → Nat → Nat} {ks : Nat → ClassId} {ad : Nat → Nat → Nat} {σ : St} {j : Nat} (hj : j < gS σ 2 0 ∧ okc (gS σ 1 j))  {out : Int32} (hf : fX2_costs σ j = some out) : MRi l dC dI ks ad σ yX2_costs cX2_costs 1 (some .int) rX2_costs [.ref (ad 16 j)] out := by
  refine met_r (own := RX2) (by decide) rfl (Nat.le_of_ble_eq_true rfl) ?_
  intro p e s m args below meth c ls E hr hlk hP hK hl
  have hx := E.1
  have hb := E.2.1
  have hl : lv_has ls 1 [(0, .ref (ad 16 j))] := hl
  unfold fX2_costs at hf
  refine lv_aload_n hx hb dX2_costs_0 rfl (lv_at hl 0 rfl) ?_
  obtain ⟨r1, er1, hf⟩ := bd_e hf
  refine gPb E hK hP hj (cX0_costsc hj er1) kP_X0_costs wd_4_128 wd_4_117 wd_2_23 rfl rfl rfl ⟨Nat.le_of_ble_eq_true rfl, Nat.le_of_ble_eq_true rfl⟩ ⟨Nat.zero_le _, Nat.zero_le _⟩ hl.1 (Nat.le_of_ble_eq_true rfl) rfl dX2_costs_1 ?_
  refine lv_iconst (v := 1) hx hb dX2_costs_4 (by decide) ?_
  refine lv_isub hx hb dX2_costs_5 ?_
  exact gret_i E hr hlk dX2_costs_6 (som_e hf).symm
noncomputable def fX5_costs (σ : St) (j : Nat) : Option (Int32) :=
  bd (fX8_costs σ j) fun r1 =>
  some (2 * r1)
def rX5_costs : Room := { frames := 2, cells := 0, slots := 0, locals := 40 }
set_option maxHeartbeats 4000000 in
set_option maxRecDepth 100000 in
theorem cX5_costsc {l : Launch} {dC : Nat → ClassId} {dI : Nat → Nat → Nat} {ks : Nat → ClassId} {ad : Nat → Nat → Nat} {σ : St} {j : Nat} (hj : j < gS σ 2 0 ∧ okc (gS σ 1 j))  {out : Int32} (hf : fX5_costs σ j = some out) : MRi l dC dI ks ad σ yX5_costs cX5_costs 1 (some .int) rX5_costs [.ref (ad 16 j)] out := by
  refine met_r (own := RX5) (by decide) rfl (Nat.le_of_ble_eq_true rfl) ?_
  intro p e s m args below meth c ls E hr hlk hP hK hl
  have hx := E.1
  have hb := E.2.1
  have hl : lv_has ls 1 [(0, .ref (ad 16 j))] := hl
  unfold fX5_costs at hf
  refine lv_iconst (v := 2) hx hb dX5_costs_0 (by decide) ?_
  refine lv_aload_n hx hb dX5_costs_1 rfl (lv_at hl 0 rfl) ?_
  obtain ⟨r1, er1, hf⟩ := bd_e hf
  refine gPb E hK hP hj (cX8_costsc hj er1) kP_X8_costs wd_4_132 wd_7_58 wd_2_41 rfl rfl rfl ⟨Nat.le_of_ble_eq_true rfl, Nat.le_of_ble_eq_true rfl⟩ ⟨Nat.zero_le _, Nat.zero_le _⟩ hl.1 (Nat.le_of_ble_eq_true rfl) rfl dX5_costs_2 ?_
  refine lv_imul hx hb dX5_costs_5 ?_
  exact gret_i E hr hlk dX5_costs_6 (som_e hf).symm
noncomputable def fX6_costs (σ : St) (j : Nat) : Option (Int32) :=
  bd (fX2_costs σ j) fun r1 =>
  some (r1 + (gI σ 14 0 j))
def rX6_costs : Room := { frames := 2, cells := 0, slots := 0, locals := 40 }
set_option maxHeartbeats 4000000 in
set_option maxRecDepth 100000 in
theorem cX6_costsc {l : Launch} {dC : Nat → ClassId} {dI : Nat → Nat → Nat} {ks : Nat → ClassId} {ad : Nat → Nat → Nat} {σ : St} {j : Nat} (hj : j < gS σ 2 0 ∧ okc (gS σ 1 j))  {out : Int32} (hf : fX6_costs σ j = some out) : MRi l dC dI ks ad σ yX6_costs cX6_costs 1 (some .int) rX6_costs [.ref (ad 16 j)] out := by
  refine met_r (own := RX6) (by decide) rfl (Nat.le_of_ble_eq_true rfl) ?_
  intro p e s m args below meth c ls E hr hlk hP hK hl
  have hx := E.1
  have hb := E.2.1
  have hl : lv_has ls 1 [(0, .ref (ad 16 j))] := hl
  unfold fX6_costs at hf
  refine lv_aload_n hx hb dX6_costs_0 rfl (lv_at hl 0 rfl) ?_
  obtain ⟨r1, er1, hf⟩ := bd_e hf
  refine gPb E hK hP hj (cX2_costsc hj er1) kP_X2_costs wd_4_136 wd_7_59 wd_2_77 rfl rfl rfl ⟨Nat.le_of_ble_eq_true rfl, Nat.le_of_ble_eq_true rfl⟩ ⟨Nat.zero_le _, Nat.zero_le _⟩ hl.1 (Nat.le_of_ble_eq_true rfl) rfl dX6_costs_1 ?_
  refine lv_aload_n hx hb dX6_costs_4 rfl (lv_at hl 0 rfl) ?_
  refine gfig E hK hP hj wd_2_3 (Or.inr wd_2_4) dX6_costs_5 ?_
  refine lv_iadd hx hb dX6_costs_8 ?_
  exact gret_i E hr hlk dX6_costs_9 (som_e hf).symm
noncomputable def fX7_costs (σ : St) (j : Nat) : Option (Int32) :=
  bd (fX1_costs σ j) fun r1 =>
  some (r1 / 2)
def rX7_costs : Room := { frames := 3, cells := 0, slots := 0, locals := 60 }
set_option maxHeartbeats 4000000 in
set_option maxRecDepth 100000 in
theorem cX7_costsc {l : Launch} {dC : Nat → ClassId} {dI : Nat → Nat → Nat} {ks : Nat → ClassId} {ad : Nat → Nat → Nat} {σ : St} {j : Nat} (hj : j < gS σ 2 0 ∧ okc (gS σ 1 j))  {out : Int32} (hf : fX7_costs σ j = some out) : MRi l dC dI ks ad σ yX7_costs cX7_costs 1 (some .int) rX7_costs [.ref (ad 16 j)] out := by
  refine met_r (own := RX7) (by decide) rfl (Nat.le_of_ble_eq_true rfl) ?_
  intro p e s m args below meth c ls E hr hlk hP hK hl
  have hx := E.1
  have hb := E.2.1
  have hl : lv_has ls 1 [(0, .ref (ad 16 j))] := hl
  unfold fX7_costs at hf
  refine lv_aload_n hx hb dX7_costs_0 rfl (lv_at hl 0 rfl) ?_
  obtain ⟨r1, er1, hf⟩ := bd_e hf
  refine gPb E hK hP hj (cX1_costsc hj er1) kP_X1_costs wd_4_140 wd_7_60 wd_2_68 rfl rfl rfl ⟨Nat.le_of_ble_eq_true rfl, Nat.le_of_ble_eq_true rfl⟩ ⟨Nat.zero_le _, Nat.zero_le _⟩ hl.1 (Nat.le_of_ble_eq_true rfl) rfl dX7_costs_1 ?_
  refine lv_iconst (v := 2) hx hb dX7_costs_4 (by decide) ?_
  refine lv_idiv hx hb dX7_costs_5 (by decide) ?_
  exact gret_i E hr hlk dX7_costs_6 (som_e hf).symm
noncomputable def fX10_costs (σ : St) (j : Nat) : Option (Int32) :=
  bd (fX0_costs σ j) fun r1 =>
  some (r1 + 4)
def rX10_costs : Room := { frames := 1, cells := 0, slots := 0, locals := 20 }
set_option maxHeartbeats 4000000 in
set_option maxRecDepth 100000 in
theorem cX10_costsc {l : Launch} {dC : Nat → ClassId} {dI : Nat → Nat → Nat} {ks : Nat → ClassId} {ad : Nat → Nat → Nat} {σ : St} {j : Nat} (hj : j < gS σ 2 0 ∧ okc (gS σ 1 j))  {out : Int32} (hf : fX10_costs σ j = some out) : MRi l dC dI ks ad σ yX10_costs cX10_costs 1 (some .int) rX10_costs [.ref (ad 16 j)] out := by
  refine met_r (own := RX10) (by decide) rfl (Nat.le_of_ble_eq_true rfl) ?_
  intro p e s m args below meth c ls E hr hlk hP hK hl
  have hx := E.1
  have hb := E.2.1
  have hl : lv_has ls 1 [(0, .ref (ad 16 j))] := hl
  unfold fX10_costs at hf
  refine lv_aload_n hx hb dX10_costs_0 rfl (lv_at hl 0 rfl) ?_
  obtain ⟨r1, er1, hf⟩ := bd_e hf
  refine gPb E hK hP hj (cX0_costsc hj er1) kP_X0_costs wd_4_145 wd_4_117 wd_2_50 rfl rfl rfl ⟨Nat.le_of_ble_eq_true rfl, Nat.le_of_ble_eq_true rfl⟩ ⟨Nat.zero_le _, Nat.zero_le _⟩ hl.1 (Nat.le_of_ble_eq_true rfl) rfl dX10_costs_1 ?_
  refine lv_iconst (v := 4) hx hb dX10_costs_4 (by decide) ?_
  refine lv_iadd hx hb dX10_costs_5 ?_
  exact gret_i E hr hlk dX10_costs_6 (som_e hf).symm
noncomputable def fvcosts (σ : St) (j : Nat) : Option Int32 := if gS σ 1 j = 0 then fX0_costs σ j else if gS σ 1 j = 1 then fX1_costs σ j else if gS σ 1 j = 2 then fX2_costs σ j else if gS σ 1 j = 5 then fX5_costs σ j else if gS σ 1 j = 6 then fX6_costs σ j else if gS σ 1 j = 7 then fX7_costs σ j else if gS σ 1 j = 8 then fX8_costs σ j else if gS σ 1 j = 10 then fX10_costs σ j else none
set_option maxHeartbeats 4000000 in
theorem vcosts {p : Program} {l : Launch} {e : Env} {R : Room} {s : State} {m : MethodId} {args : Array Value} {below : List Frame} {meth : Method} {c : Code} {H : Heap} {locs : List Loc} {cells slots : Nat} {Q : State → Prop} {cc : ByteArray} {pc nL index j : Nat} {ls : Array Slot} {rest st : List Value} {own : String} {dC : Nat → ClassId} {dI : Nat → Nat → Nat} {ks : Nat → ClassId} {ad : Nat → Nat → Nat} {σ : St} {out : Int32} (E : CallFix p m c cc nL s args tT own) (hK : gK dC dI ks s) (hP : va_P (dC, dI) vwCl (wG ks ad σ) H) (hj : j < gS σ 2 0 ∧ okc (gS σ 1 j)) (hf : fvcosts σ j = some out) (h1 : Cond.methodLink own index yX0_costs ∈ tT) (hR : 4 ≤ R.frames ∧ 80 ≤ R.locals) (hz : cells ≤ R.cells ∧ slots ≤ R.slots) (hls : ls.size = nL) (hW : (rest.map fun v => v.category).sum ≤ 8) (hst : st = .ref (ad 16 j) :: rest) (hdg : decode cc pc = .ok (.invokevirtual index, 3)) (kk : W p l e R s m args below meth c H locs cells slots Q (F0 m (pc + 3) ls (.int out :: rest))) : W p l e R s m args below meth c H locs cells slots Q (F0 m pc ls st) := by
  have he := q_blow ks ad σ hj.1
  rcases hj.2 with h | h | h | h | h | h | h | h <;> rw [h] at he
  · exact gVr_i E hK hP (cX0_costsc hj (by simpa [fvcosts, h] using hf)) kV_X0_costs h1 rfl rfl he (ci := 0) rfl rfl rfl ⟨Nat.le_trans (Nat.le_of_ble_eq_true rfl) hR.1, Nat.le_trans (Nat.le_of_ble_eq_true rfl) hR.2⟩ hz hls hW hst hdg kk
  · exact gOr_i E hK hP (cX1_costsc hj (by simpa [fvcosts, h] using hf)) kU_costs_1 h1 rfl rfl he (ci := 1) rfl rfl rfl ⟨Nat.le_trans (Nat.le_of_ble_eq_true rfl) hR.1, Nat.le_trans (Nat.le_of_ble_eq_true rfl) hR.2⟩ hz hls hW hst hdg kk
  · exact gOr_i E hK hP (cX2_costsc hj (by simpa [fvcosts, h] using hf)) kU_costs_2 h1 rfl rfl he (ci := 2) rfl rfl rfl ⟨Nat.le_trans (Nat.le_of_ble_eq_true rfl) hR.1, Nat.le_trans (Nat.le_of_ble_eq_true rfl) hR.2⟩ hz hls hW hst hdg kk
  · exact gOr_i E hK hP (cX5_costsc hj (by simpa [fvcosts, h] using hf)) kU_costs_5 h1 rfl rfl he (ci := 5) rfl rfl rfl ⟨Nat.le_trans (Nat.le_of_ble_eq_true rfl) hR.1, Nat.le_trans (Nat.le_of_ble_eq_true rfl) hR.2⟩ hz hls hW hst hdg kk
  · exact gOr_i E hK hP (cX6_costsc hj (by simpa [fvcosts, h] using hf)) kU_costs_6 h1 rfl rfl he (ci := 6) rfl rfl rfl ⟨Nat.le_trans (Nat.le_of_ble_eq_true rfl) hR.1, Nat.le_trans (Nat.le_of_ble_eq_true rfl) hR.2⟩ hz hls hW hst hdg kk
  · exact gOr_i E hK hP (cX7_costsc hj (by simpa [fvcosts, h] using hf)) kU_costs_7 h1 rfl rfl he (ci := 7) rfl rfl rfl ⟨Nat.le_trans (Nat.le_of_ble_eq_true rfl) hR.1, Nat.le_trans (Nat.le_of_ble_eq_true rfl) hR.2⟩ hz hls hW hst hdg kk
  · exact gOr_i E hK hP (cX8_costsc hj (by simpa [fvcosts, h] using hf)) kU_costs_8 h1 rfl rfl he (ci := 8) rfl rfl rfl ⟨Nat.le_trans (Nat.le_of_ble_eq_true rfl) hR.1, Nat.le_trans (Nat.le_of_ble_eq_true rfl) hR.2⟩ hz hls hW hst hdg kk
  · exact gOr_i E hK hP (cX10_costsc hj (by simpa [fvcosts, h] using hf)) kU_costs_10 h1 rfl rfl he (ci := 10) rfl rfl rfl ⟨Nat.le_trans (Nat.le_of_ble_eq_true rfl) hR.1, Nat.le_trans (Nat.le_of_ble_eq_true rfl) hR.2⟩ hz hls hW hst hdg kk
noncomputable def fX11_cost (σ : St) (a1 : Int32) : Option (Int32) :=
  bd (fX11_blowRefusal σ a1) fun r1 =>
  if 0 ≤ r1 then
  ck (vp_in a1 8) <|
  bd (gR σ 1 a1.toNatClampNeg 0) fun j4 =>
  ck (j4 < gS σ 2 0 ∧ okc (gS σ 1 j4)) <|
  bd (fvcosts σ j4) fun r5 =>
  some r5
  else
  some r1
def rX11_cost : Room := { frames := 4, cells := 0, slots := 0, locals := 80 }
set_option maxHeartbeats 4000000 in
set_option maxRecDepth 100000 in
theorem cX11_costc {l : Launch} {dC : Nat → ClassId} {dI : Nat → Nat → Nat} {ks : Nat → ClassId} {ad : Nat → Nat → Nat} {σ : St} (a1 : Int32)  {out : Int32} (hf : fX11_cost σ a1 = some out) : MRi l dC dI ks ad σ yX11_cost cX11_cost 3 (some .int) rX11_cost [.ref (ad 0 0), .int a1] out := by
  refine met_r (own := RX11) (by decide) rfl (Nat.le_of_ble_eq_true rfl) ?_
  intro p e s m args below meth c ls E hr hlk hP hK hl
  have hx := E.1
  have hb := E.2.1
  have hl : lv_has ls 3 [(0, .ref (ad 0 0)), (1, .int a1)] := hl
  unfold fX11_cost at hf
  refine lv_aload_n hx hb dX11_cost_0 rfl (lv_at hl 0 rfl) ?_
  refine lv_iload_n hx hb dX11_cost_1 rfl (lv_at hl 1 rfl) ?_
  obtain ⟨r1, er1, hf⟩ := bd_e hf
  refine gVr_i E hK hP (cX11_blowRefusalc _ er1) kV_X11_blowRefusal wd_2_163 rfl rfl (q_main ks ad σ) rfl rfl rfl ⟨Nat.le_of_ble_eq_true rfl, Nat.le_of_ble_eq_true rfl⟩ ⟨Nat.zero_le _, Nat.zero_le _⟩ hl.1 (Nat.le_of_ble_eq_true rfl) rfl dX11_cost_2 ?_
  refine lv_istore_n (lv' := [(2, .int r1), (0, .ref (ad 0 0)), (1, .int a1)]) hx hb dX11_cost_5 rfl hl (by decide) rfl (fun ls hl => ?_)
  refine lv_iload_n hx hb dX11_cost_6 rfl (lv_at hl 0 rfl) ?_
  refine lv_if_ge (tgt := 14) hx hb dX11_cost_7 (by decide) (fun c2 => ?_) (fun c2 => ?_)
  · replace hf := pos_e c2 hf
    refine lv_aload_n hx hb dX11_cost_14 rfl (lv_at hl 1 rfl) ?_
    refine gget E in_X11 hK hP (q_main ks ad σ) rfl (k := 4) (by decide) wd_1_149 rfl (v := .ref (ad 12 0)) rfl dX11_cost_15 ?_
    refine lv_iload_n hx hb dX11_cost_18 rfl (lv_at hl 2 rfl) ?_
    obtain ⟨c3, hf⟩ := ck_e hf
    refine gaaldS E hK hP c3 dX11_cost_19 ?_
    refine gget E in_X4 hK hP (qs_0 ks ad σ (vp_lt c3)) rfl (k := 0) (by decide) wd_1_124 rfl (v := va_rf ((gR σ 1 a1.toNatClampNeg 0).map (ad 16))) rfl dX11_cost_20 ?_
    obtain ⟨j4, ej4, hf⟩ := bd_e hf
    obtain ⟨hj4, hf⟩ := ck_e hf
    refine lv_nmo ej4 ?_
    obtain ⟨r5, er5, hf⟩ := bd_e hf
    refine vcosts E hK hP hj4 er5 wd_4_114 ⟨Nat.le_of_ble_eq_true rfl, Nat.le_of_ble_eq_true rfl⟩ ⟨Nat.zero_le _, Nat.zero_le _⟩ hl.1 (Nat.le_of_ble_eq_true rfl) rfl dX11_cost_23 ?_
    exact gret_i E hr hlk dX11_cost_26 (som_e hf).symm
  · replace hf := neg_e c2 hf
    refine lv_iload_n hx hb dX11_cost_10 rfl (lv_at hl 0 rfl) ?_
    refine lv_goto (tgt := 26) hx hb dX11_cost_11 (by decide) ?_
    exact gret_i E hr hlk dX11_cost_26 (som_e hf).symm
noncomputable def fX4_byteAt (σ : St) (d : Nat) (a1 : Int32) : Option (Int32) :=
  bd (fX4_hasPlace σ d a1) fun r1 =>
  if r1 = 0 then
  some 0
  else
  ck (vp_in a1 100) <|
  some (gI σ 9 d a1.toNatClampNeg)
def rX4_byteAt : Room := { frames := 1, cells := 0, slots := 0, locals := 21 }
set_option maxHeartbeats 4000000 in
set_option maxRecDepth 100000 in
theorem cX4_byteAtc {l : Launch} {dC : Nat → ClassId} {dI : Nat → Nat → Nat} {ks : Nat → ClassId} {ad : Nat → Nat → Nat} {σ : St} {d : Nat} (hd : d < 8) (a1 : Int32)  {out : Int32} (hf : fX4_byteAt σ d a1 = some out) : MRi l dC dI ks ad σ yX4_byteAt cX4_byteAt 2 (some .int) rX4_byteAt [.ref (ad 10 d), .int a1] out := by
  refine met_r (own := RX4) (by decide) rfl (Nat.le_of_ble_eq_true rfl) ?_
  intro p e s m args below meth c ls E hr hlk hP hK hl
  have hx := E.1
  have hb := E.2.1
  have hl : lv_has ls 2 [(0, .ref (ad 10 d)), (1, .int a1)] := hl
  unfold fX4_byteAt at hf
  refine lv_aload_n hx hb dX4_byteAt_0 rfl (lv_at hl 0 rfl) ?_
  refine lv_iload_n hx hb dX4_byteAt_1 rfl (lv_at hl 1 rfl) ?_
  obtain ⟨r1, er1, hf⟩ := bd_e hf
  refine gVr_i E hK hP (cX4_hasPlacec hd _ er1) kV_X4_hasPlace wd_1_192 rfl rfl (qs_0 ks ad σ hd) rfl rfl rfl ⟨Nat.le_of_ble_eq_true rfl, Nat.le_of_ble_eq_true rfl⟩ ⟨Nat.zero_le _, Nat.zero_le _⟩ hl.1 (Nat.le_of_ble_eq_true rfl) rfl dX4_byteAt_2 ?_
  refine lv_if_eq (tgt := 17) hx hb dX4_byteAt_5 (by decide) (fun c2 => ?_) (fun c2 => ?_)
  · replace hf := pos_e c2 hf
    refine lv_iconst (v := 0) hx hb dX4_byteAt_17 (by decide) ?_
    exact gret_i E hr hlk dX4_byteAt_18 (som_e hf).symm
  · replace hf := neg_e c2 hf
    refine lv_aload_n hx hb dX4_byteAt_8 rfl (lv_at hl 0 rfl) ?_
    refine gget E in_X4 hK hP (qs_0 ks ad σ hd) rfl (k := 4) (by decide) wd_1_131 rfl (v := .ref (ad 11 d)) rfl dX4_byteAt_9 ?_
    refine lv_iload_n hx hb dX4_byteAt_12 rfl (lv_at hl 1 rfl) ?_
    obtain ⟨c3, hf⟩ := ck_e hf
    refine giald E hK hP (qs_1 ks ad σ hd) c3 dX4_byteAt_13 ?_
    refine lv_goto (tgt := 18) hx hb dX4_byteAt_14 (by decide) ?_
    exact gret_i E hr hlk dX4_byteAt_18 (som_e hf).symm
noncomputable def fX11_digitsBehind (σ : St) (a1 : Int32) : Option (Int32) :=
  if a1 = 98 then
  some 5
  else
  if a1 = 107 then
  some 2
  else
  if a1 = 116 then
  some 3
  else
  if a1 = 121 then
  some 7
  else
  some (-1)
def rX11_digitsBehind : Room := { frames := 0, cells := 0, slots := 0, locals := 0 }
set_option maxHeartbeats 4000000 in
set_option maxRecDepth 100000 in
theorem cX11_digitsBehindc {l : Launch} {dC : Nat → ClassId} {dI : Nat → Nat → Nat} {ks : Nat → ClassId} {ad : Nat → Nat → Nat} {σ : St} (a1 : Int32)  {out : Int32} (hf : fX11_digitsBehind σ a1 = some out) : MRi l dC dI ks ad σ yX11_digitsBehind cX11_digitsBehind 1 (some .int) rX11_digitsBehind [.int a1] out := by
  refine met_r (own := RX11) (by decide) rfl (Nat.le_of_ble_eq_true rfl) ?_
  intro p e s m args below meth c ls E hr hlk hP hK hl
  have hx := E.1
  have hb := E.2.1
  have hl : lv_has ls 1 [(0, .int a1)] := hl
  unfold fX11_digitsBehind at hf
  refine lv_iload_n hx hb dX11_digitsBehind_0 rfl (lv_at hl 0 rfl) ?_
  by_cases c1 : a1 = 98
  · replace hf := pos_e c1 hf
    refine lv_lookup (tgt := 44) (off := 43) hx hb dX11_digitsBehind_1 (by decide) (by show Op.lookupswitch.offset [(98, 43), (107, 47), (116, 45), (121, 49)] 52 _ = _; rw [Op.lookupswitch.offset_cons, if_pos (by rw [c1]; rfl)]) (by decide) ?_
    refine lv_iconst (v := 5) hx hb dX11_digitsBehind_44 (by decide) ?_
    exact gret_i E hr hlk dX11_digitsBehind_45 (som_e hf).symm
  · replace hf := neg_e c1 hf
    by_cases c2 : a1 = 107
    · replace hf := pos_e c2 hf
      refine lv_lookup (tgt := 48) (off := 47) hx hb dX11_digitsBehind_1 (by decide) (by show Op.lookupswitch.offset [(98, 43), (107, 47), (116, 45), (121, 49)] 52 _ = _; rw [lv_osw c1 (a := 98) rfl]; rw [Op.lookupswitch.offset_cons, if_pos (by rw [c2]; rfl)]) (by decide) ?_
      refine lv_iconst (v := 2) hx hb dX11_digitsBehind_48 (by decide) ?_
      exact gret_i E hr hlk dX11_digitsBehind_49 (som_e hf).symm
    · replace hf := neg_e c2 hf
      by_cases c3 : a1 = 116
      · replace hf := pos_e c3 hf
        refine lv_lookup (tgt := 46) (off := 45) hx hb dX11_digitsBehind_1 (by decide) (by show Op.lookupswitch.offset [(98, 43), (107, 47), (116, 45), (121, 49)] 52 _ = _; rw [lv_osw c1 (a := 98) rfl, lv_osw c2 (a := 107) rfl]; rw [Op.lookupswitch.offset_cons, if_pos (by rw [c3]; rfl)]) (by decide) ?_
        refine lv_iconst (v := 3) hx hb dX11_digitsBehind_46 (by decide) ?_
        exact gret_i E hr hlk dX11_digitsBehind_47 (som_e hf).symm
      · replace hf := neg_e c3 hf
        by_cases c4 : a1 = 121
        · replace hf := pos_e c4 hf
          refine lv_lookup (tgt := 50) (off := 49) hx hb dX11_digitsBehind_1 (by decide) (by show Op.lookupswitch.offset [(98, 43), (107, 47), (116, 45), (121, 49)] 52 _ = _; rw [lv_osw c1 (a := 98) rfl, lv_osw c2 (a := 107) rfl, lv_osw c3 (a := 116) rfl]; rw [Op.lookupswitch.offset_cons, if_pos (by rw [c4]; rfl)]) (by decide) ?_
          refine lv_bipush (v := 7) hx hb dX11_digitsBehind_50 (by decide) ?_
          exact gret_i E hr hlk dX11_digitsBehind_52 (som_e hf).symm
        · replace hf := neg_e c4 hf
          refine lv_lookup (tgt := 53) (off := 52) hx hb dX11_digitsBehind_1 (by decide) (by show Op.lookupswitch.offset [(98, 43), (107, 47), (116, 45), (121, 49)] 52 _ = _; rw [lv_osw c1 (a := 98) rfl, lv_osw c2 (a := 107) rfl, lv_osw c3 (a := 116) rfl, lv_osw c4 (a := 121) rfl]; rfl) (by decide) ?_
          refine lv_iconst (v := -1) hx hb dX11_digitsBehind_53 (by decide) ?_
          exact gret_i E hr hlk dX11_digitsBehind_54 (som_e hf).symm
noncomputable def fX11_firstBadByte_L28B (σ : St) (a1 : Nat) (v5 : Int32) (K_28 : Option (Int32)) (rec_28 : Int32 → Option (Int32)) (x7 : Int32) : Option (Int32) :=
  if v5 ≤ x7 then
  K_28
  else
  bd (fX4_byteAt σ a1 x7) fun r9 =>
  bd (fX11_isOut σ r9 48 57) fun r10 =>
  if r10 = 0 then
  nmv (x7 + 1) fun v12 =>
  rec_28 v12
  else
  some x7
noncomputable def fX11_firstBadByte_L28 (σ : St) (a1 : Nat) (v5 : Int32) (K_28 : Option (Int32)) : Nat → Int32 → Option (Int32)
  | 0 => fun _ => none
  | n + 1 => fX11_firstBadByte_L28B σ a1 v5 K_28 (fX11_firstBadByte_L28 σ a1 v5 K_28 n)
noncomputable def fX11_firstBadByte_L2B (σ : St) (a1 : Nat) (K_2 : Option (Int32)) (rec_2 : Int32 → Option (Int32)) (x1 : Int32) : Option (Int32) :=
  bd (fX4_byteAt σ a1 x1) fun r2 =>
  bd (fX11_digitsBehind σ r2) fun r3 =>
  if 0 ≤ r3 then
  nmv ((x1 + r3) + 1) fun v5 =>
  nmv (x1 + 1) fun v6 =>
  fX11_firstBadByte_L28 σ a1 v5 (bd (fX4_byteAt σ a1 v5) fun r13 =>
  if r13 = 59 then
  nmv (v5 + 1) fun v15 =>
  if v15 < (gI σ 8 a1 3) then
  rec_2 v15
  else
  K_2
  else
  some v5) FU v6
  else
  some x1
noncomputable def fX11_firstBadByte_L2 (σ : St) (a1 : Nat) (K_2 : Option (Int32)) : Nat → Int32 → Option (Int32)
  | 0 => fun _ => none
  | n + 1 => fX11_firstBadByte_L2B σ a1 K_2 (fX11_firstBadByte_L2 σ a1 K_2 n)
noncomputable def fX11_firstBadByte (σ : St) (a1 : Nat) : Option (Int32) :=
  fX11_firstBadByte_L2 σ a1 (some (-1)) FU 0
def rX11_firstBadByte : Room := { frames := 2, cells := 0, slots := 0, locals := 42 }
set_option maxHeartbeats 4000000 in
set_option maxRecDepth 100000 in
theorem cX11_firstBadBytec {l : Launch} {dC : Nat → ClassId} {dI : Nat → Nat → Nat} {ks : Nat → ClassId} {ad : Nat → Nat → Nat} {σ : St} {a1 : Nat} (ha1 : a1 < 8) {out : Int32} (hf : fX11_firstBadByte σ a1 = some out) : MRi l dC dI ks ad σ yX11_firstBadByte cX11_firstBadByte 5 (some .int) rX11_firstBadByte [.ref (ad 10 a1)] out := by
  refine met_r (own := RX11) (by decide) rfl (Nat.le_of_ble_eq_true rfl) ?_
  intro p e s m args below meth c ls E hr hlk hP hK hl
  have hx := E.1
  have hb := E.2.1
  have hl : lv_has ls 5 [(0, .ref (ad 10 a1))] := hl
  unfold fX11_firstBadByte at hf
  refine lv_iconst (v := 0) hx hb dX11_firstBadByte_0 (by decide) ?_
  refine lv_istore_n (lv' := [(1, .int 0), (0, .ref (ad 10 a1))]) hx hb dX11_firstBadByte_1 rfl hl (by decide) rfl (fun ls hl => ?_)
  have loop_2 : ∀ (K_2 : Option (Int32)) (hK_2 : (∀ (hf : K_2 = some out) (ls : Array Slot), lv_has ls 5 [] → W p l e rX11_firstBadByte s m args below meth c s.heap [] 0 0 (MQ below (vp_Si (fun r => r = out)) args s 0 0 (fun _ => False)) (F0 m 83 ls []))) (n_2 : Nat) (x1 : Int32) (hf : fX11_firstBadByte_L2 σ a1 K_2 n_2 x1 = some out) (ls : Array Slot), lv_has ls 5 [(0, .ref (ad 10 a1)), (1, .int x1)] → W p l e rX11_firstBadByte s m args below meth c s.heap [] 0 0 (MQ below (vp_Si (fun r => r = out)) args s 0 0 (fun _ => False)) (F0 m 2 ls []) := by
    intro K_2 hK_2 n_2
    induction n_2 with
    | zero => intro x1 hf; cases hf
    | succ n_2 ih_2 =>
      intro x1 hf ls hl
      have hf : fX11_firstBadByte_L2B σ a1 K_2 (fX11_firstBadByte_L2 σ a1 K_2 n_2) x1 = some out := hf
      unfold fX11_firstBadByte_L2B at hf
      refine lv_aload_n hx hb dX11_firstBadByte_2 rfl (lv_at hl 0 rfl) ?_
      refine lv_iload_n hx hb dX11_firstBadByte_3 rfl (lv_at hl 1 rfl) ?_
      obtain ⟨r2, er2, hf⟩ := bd_e hf
      refine gVr_i E hK hP (cX4_byteAtc ha1 _ er2) kV_X4_byteAt wd_1_188 rfl rfl (qs_0 ks ad σ ha1) rfl rfl rfl ⟨Nat.le_of_ble_eq_true rfl, Nat.le_of_ble_eq_true rfl⟩ ⟨Nat.zero_le _, Nat.zero_le _⟩ hl.1 (Nat.le_of_ble_eq_true rfl) rfl dX11_firstBadByte_4 ?_
      obtain ⟨r3, er3, hf⟩ := bd_e hf
      refine gSr_i E hK hP (cX11_digitsBehindc _ er3) kS_X11_digitsBehind wd_1_196 rfl rfl rfl ⟨Nat.le_of_ble_eq_true rfl, Nat.le_of_ble_eq_true rfl⟩ ⟨Nat.zero_le _, Nat.zero_le _⟩ hl.1 (Nat.le_of_ble_eq_true rfl) rfl dX11_firstBadByte_7 ?_
      refine lv_istore_n (lv' := [(2, .int r3), (0, .ref (ad 10 a1)), (1, .int x1)]) hx hb dX11_firstBadByte_10 rfl hl (by decide) rfl (fun ls hl => ?_)
      refine lv_iload_n hx hb dX11_firstBadByte_11 rfl (lv_at hl 0 rfl) ?_
      refine lv_if_ge (tgt := 17) hx hb dX11_firstBadByte_12 (by decide) (fun c4 => ?_) (fun c4 => ?_)
      · replace hf := pos_e c4 hf
        refine lv_iload_n hx hb dX11_firstBadByte_17 rfl (lv_at hl 2 rfl) ?_
        refine lv_iload_n hx hb dX11_firstBadByte_18 rfl (lv_at hl 0 rfl) ?_
        refine lv_iadd hx hb dX11_firstBadByte_19 ?_
        refine lv_iconst (v := 1) hx hb dX11_firstBadByte_20 (by decide) ?_
        refine lv_iadd hx hb dX11_firstBadByte_21 ?_
        obtain ⟨v5, ev5, hf⟩ := nmv_e hf
        refine lv_nmi ev5 ?_
        refine lv_istore_n (lv' := [(3, .int v5), (2, .int r3), (0, .ref (ad 10 a1)), (1, .int x1)]) hx hb dX11_firstBadByte_22 rfl hl (by decide) rfl (fun ls hl => ?_)
        refine lv_iload_n hx hb dX11_firstBadByte_23 rfl (lv_at hl 3 rfl) ?_
        refine lv_iconst (v := 1) hx hb dX11_firstBadByte_24 (by decide) ?_
        refine lv_iadd hx hb dX11_firstBadByte_25 ?_
        obtain ⟨v6, ev6, hf⟩ := nmv_e hf
        refine lv_nmi ev6 ?_
        refine lv_istore (lv' := [(4, .int v6), (3, .int v5), (2, .int r3), (0, .ref (ad 10 a1)), (1, .int x1)]) hx hb dX11_firstBadByte_26 hl (by decide) rfl (fun ls hl => ?_)
        have loop_28 : ∀ (K_28 : Option (Int32)) (hK_28 : (∀ (hf : K_28 = some out) (ls : Array Slot), lv_has ls 5 [(0, .ref (ad 10 a1)), (3, .int v5)] → W p l e rX11_firstBadByte s m args below meth c s.heap [] 0 0 (MQ below (vp_Si (fun r => r = out)) args s 0 0 (fun _ => False)) (F0 m 59 ls []))) (n_28 : Nat) (x7 : Int32) (hf : fX11_firstBadByte_L28 σ a1 v5 K_28 n_28 x7 = some out) (ls : Array Slot), lv_has ls 5 [(0, .ref (ad 10 a1)), (3, .int v5), (4, .int x7)] → W p l e rX11_firstBadByte s m args below meth c s.heap [] 0 0 (MQ below (vp_Si (fun r => r = out)) args s 0 0 (fun _ => False)) (F0 m 28 ls []) := by
          intro K_28 hK_28 n_28
          induction n_28 with
          | zero => intro x7 hf; cases hf
          | succ n_28 ih_28 =>
            intro x7 hf ls hl
            have hf : fX11_firstBadByte_L28B σ a1 v5 K_28 (fX11_firstBadByte_L28 σ a1 v5 K_28 n_28) x7 = some out := hf
            unfold fX11_firstBadByte_L28B at hf
            refine lv_iload hx hb dX11_firstBadByte_28 (lv_at hl 2 rfl) ?_
            refine lv_iload_n hx hb dX11_firstBadByte_30 rfl (lv_at hl 1 rfl) ?_
            refine lv_icmp_ge (tgt := 59) hx hb dX11_firstBadByte_31 (by decide) (fun c8 => ?_) (fun c8 => ?_)
            · replace hf := pos_e c8 hf
              exact hK_28 hf _ (lv_sub hl [0, 1] rfl)
            · replace hf := neg_e c8 hf
              refine lv_aload_n hx hb dX11_firstBadByte_34 rfl (lv_at hl 0 rfl) ?_
              refine lv_iload hx hb dX11_firstBadByte_35 (lv_at hl 2 rfl) ?_
              obtain ⟨r9, er9, hf⟩ := bd_e hf
              refine gVr_i E hK hP (cX4_byteAtc ha1 _ er9) kV_X4_byteAt wd_1_188 rfl rfl (qs_0 ks ad σ ha1) rfl rfl rfl ⟨Nat.le_of_ble_eq_true rfl, Nat.le_of_ble_eq_true rfl⟩ ⟨Nat.zero_le _, Nat.zero_le _⟩ hl.1 (Nat.le_of_ble_eq_true rfl) rfl dX11_firstBadByte_37 ?_
              refine lv_bipush (v := 48) hx hb dX11_firstBadByte_40 (by decide) ?_
              refine lv_bipush (v := 57) hx hb dX11_firstBadByte_42 (by decide) ?_
              obtain ⟨r10, er10, hf⟩ := bd_e hf
              refine gSr_i E hK hP (cX11_isOutc _ _ _ er10) kS_X11_isOut wd_1_178 rfl rfl rfl ⟨Nat.le_of_ble_eq_true rfl, Nat.le_of_ble_eq_true rfl⟩ ⟨Nat.zero_le _, Nat.zero_le _⟩ hl.1 (Nat.le_of_ble_eq_true rfl) rfl dX11_firstBadByte_44 ?_
              refine lv_if_eq (tgt := 53) hx hb dX11_firstBadByte_47 (by decide) (fun c11 => ?_) (fun c11 => ?_)
              · replace hf := pos_e c11 hf
                obtain ⟨v12, ev12, hf⟩ := nmv_e hf
                refine lv_iinc (v := v12) (lv' := [(4, .int v12), (0, .ref (ad 10 a1)), (3, .int v5)]) hx hb dX11_firstBadByte_53 hl (k := 2) rfl (by rw [ev12]; rfl) (by decide) rfl (fun ls hl => ?_)
                refine lv_goto (tgt := 28) hx hb dX11_firstBadByte_56 (by decide) ?_
                exact ih_28 _ hf _ (lv_sub hl [1, 2, 0] rfl)
              · replace hf := neg_e c11 hf
                refine lv_iload hx hb dX11_firstBadByte_50 (lv_at hl 2 rfl) ?_
                exact gret_i E hr hlk dX11_firstBadByte_52 (som_e hf).symm
        refine loop_28 _ (fun hf ls hl => ?_) _ _ hf _ (lv_sub hl [3, 1, 0] rfl)
        refine lv_aload_n hx hb dX11_firstBadByte_59 rfl (lv_at hl 0 rfl) ?_
        refine lv_iload_n hx hb dX11_firstBadByte_60 rfl (lv_at hl 1 rfl) ?_
        obtain ⟨r13, er13, hf⟩ := bd_e hf
        refine gVr_i E hK hP (cX4_byteAtc ha1 _ er13) kV_X4_byteAt wd_1_188 rfl rfl (qs_0 ks ad σ ha1) rfl rfl rfl ⟨Nat.le_of_ble_eq_true rfl, Nat.le_of_ble_eq_true rfl⟩ ⟨Nat.zero_le _, Nat.zero_le _⟩ hl.1 (Nat.le_of_ble_eq_true rfl) rfl dX11_firstBadByte_61 ?_
        refine lv_bipush (v := 59) hx hb dX11_firstBadByte_64 (by decide) ?_
        refine lv_icmp_eq (tgt := 71) hx hb dX11_firstBadByte_66 (by decide) (fun c14 => ?_) (fun c14 => ?_)
        · replace hf := pos_e c14 hf
          refine lv_iload_n hx hb dX11_firstBadByte_71 rfl (lv_at hl 1 rfl) ?_
          refine lv_iconst (v := 1) hx hb dX11_firstBadByte_72 (by decide) ?_
          refine lv_iadd hx hb dX11_firstBadByte_73 ?_
          obtain ⟨v15, ev15, hf⟩ := nmv_e hf
          refine lv_nmi ev15 ?_
          refine lv_istore_n (lv' := [(1, .int v15), (0, .ref (ad 10 a1)), (3, .int v5)]) hx hb dX11_firstBadByte_74 rfl hl (by decide) rfl (fun ls hl => ?_)
          refine lv_iload_n hx hb dX11_firstBadByte_75 rfl (lv_at hl 0 rfl) ?_
          refine lv_aload_n hx hb dX11_firstBadByte_76 rfl (lv_at hl 1 rfl) ?_
          refine gget E in_X4 hK hP (qs_0 ks ad σ ha1) rfl (k := 3) (by decide) wd_1_129 rfl (v := .int (gI σ 8 a1 3)) rfl dX11_firstBadByte_77 ?_
          refine lv_icmp_lt (tgt := 2) hx hb dX11_firstBadByte_80 (by decide) (fun c16 => ?_) (fun c16 => ?_)
          · replace hf := pos_e c16 hf
            exact ih_2 _ hf _ (lv_sub hl [1, 0] rfl)
          · replace hf := neg_e c16 hf
            exact hK_2 hf _ (lv_sub hl [] rfl)
        · replace hf := neg_e c14 hf
          refine lv_iload_n hx hb dX11_firstBadByte_69 rfl (lv_at hl 1 rfl) ?_
          exact gret_i E hr hlk dX11_firstBadByte_70 (som_e hf).symm
      · replace hf := neg_e c4 hf
        refine lv_iload_n hx hb dX11_firstBadByte_15 rfl (lv_at hl 2 rfl) ?_
        exact gret_i E hr hlk dX11_firstBadByte_16 (som_e hf).symm
  refine loop_2 _ (fun hf ls hl => ?_) _ _ hf _ (lv_sub hl [1, 0] rfl)
  refine lv_iconst (v := -1) hx hb dX11_firstBadByte_83 (by decide) ?_
  exact gret_i E hr hlk dX11_firstBadByte_84 (som_e hf).symm
noncomputable def fX11_lengthAt (σ : St) (a1 : Nat) (a2 : Int32) : Option (Int32) :=
  bd (fX4_byteAt σ a1 a2) fun r1 =>
  bd (fX11_digitsBehind σ r1) fun r2 =>
  nmv (if 0 < r2 then r2 else 0) fun v3 =>
  some (v3 + 2)
def rX11_lengthAt : Room := { frames := 2, cells := 0, slots := 0, locals := 42 }
set_option maxHeartbeats 4000000 in
set_option maxRecDepth 100000 in
theorem cX11_lengthAtc {l : Launch} {dC : Nat → ClassId} {dI : Nat → Nat → Nat} {ks : Nat → ClassId} {ad : Nat → Nat → Nat} {σ : St} {a1 : Nat} (a2 : Int32) (ha1 : a1 < 8) {out : Int32} (hf : fX11_lengthAt σ a1 a2 = some out) : MRi l dC dI ks ad σ yX11_lengthAt cX11_lengthAt 2 (some .int) rX11_lengthAt [.ref (ad 10 a1), .int a2] out := by
  refine met_r (own := RX11) (by decide) rfl (Nat.le_of_ble_eq_true rfl) ?_
  intro p e s m args below meth c ls E hr hlk hP hK hl
  have hx := E.1
  have hb := E.2.1
  have hl : lv_has ls 2 [(0, .ref (ad 10 a1)), (1, .int a2)] := hl
  unfold fX11_lengthAt at hf
  refine lv_iconst (v := 0) hx hb dX11_lengthAt_0 (by decide) ?_
  refine lv_aload_n hx hb dX11_lengthAt_1 rfl (lv_at hl 0 rfl) ?_
  refine lv_iload_n hx hb dX11_lengthAt_2 rfl (lv_at hl 1 rfl) ?_
  obtain ⟨r1, er1, hf⟩ := bd_e hf
  refine gVr_i E hK hP (cX4_byteAtc ha1 _ er1) kV_X4_byteAt wd_1_188 rfl rfl (qs_0 ks ad σ ha1) rfl rfl rfl ⟨Nat.le_of_ble_eq_true rfl, Nat.le_of_ble_eq_true rfl⟩ ⟨Nat.zero_le _, Nat.zero_le _⟩ hl.1 (Nat.le_of_ble_eq_true rfl) rfl dX11_lengthAt_3 ?_
  obtain ⟨r2, er2, hf⟩ := bd_e hf
  refine gSr_i E hK hP (cX11_digitsBehindc _ er2) kS_X11_digitsBehind wd_1_196 rfl rfl rfl ⟨Nat.le_of_ble_eq_true rfl, Nat.le_of_ble_eq_true rfl⟩ ⟨Nat.zero_le _, Nat.zero_le _⟩ hl.1 (Nat.le_of_ble_eq_true rfl) rfl dX11_lengthAt_6 ?_
  refine gmax E hl.1 wd_2_137 wd_2_138 wd_1_15 wd_2_139 (Nat.le_of_ble_eq_true rfl) (Nat.le_of_ble_eq_true rfl) ⟨Nat.zero_le _, Nat.zero_le _⟩ dX11_lengthAt_9 ?_
  obtain ⟨v3, ev3, hf⟩ := nmv_e hf
  refine lv_nmi ev3 ?_
  refine lv_iconst (v := 2) hx hb dX11_lengthAt_12 (by decide) ?_
  refine lv_iadd hx hb dX11_lengthAt_13 ?_
  exact gret_i E hr hlk dX11_lengthAt_14 (som_e hf).symm
noncomputable def fX4_digitAt (σ : St) (d : Nat) (a1 : Int32) : Option (Int32) :=
  bd (fX4_byteAt σ d a1) fun r1 =>
  some (r1 - 48)
def rX4_digitAt : Room := { frames := 2, cells := 0, slots := 0, locals := 42 }
set_option maxHeartbeats 4000000 in
set_option maxRecDepth 100000 in
theorem cX4_digitAtc {l : Launch} {dC : Nat → ClassId} {dI : Nat → Nat → Nat} {ks : Nat → ClassId} {ad : Nat → Nat → Nat} {σ : St} {d : Nat} (hd : d < 8) (a1 : Int32)  {out : Int32} (hf : fX4_digitAt σ d a1 = some out) : MRi l dC dI ks ad σ yX4_digitAt cX4_digitAt 2 (some .int) rX4_digitAt [.ref (ad 10 d), .int a1] out := by
  refine met_r (own := RX4) (by decide) rfl (Nat.le_of_ble_eq_true rfl) ?_
  intro p e s m args below meth c ls E hr hlk hP hK hl
  have hx := E.1
  have hb := E.2.1
  have hl : lv_has ls 2 [(0, .ref (ad 10 d)), (1, .int a1)] := hl
  unfold fX4_digitAt at hf
  refine lv_aload_n hx hb dX4_digitAt_0 rfl (lv_at hl 0 rfl) ?_
  refine lv_iload_n hx hb dX4_digitAt_1 rfl (lv_at hl 1 rfl) ?_
  obtain ⟨r1, er1, hf⟩ := bd_e hf
  refine gVr_i E hK hP (cX4_byteAtc hd _ er1) kV_X4_byteAt wd_1_218 rfl rfl (qs_0 ks ad σ hd) rfl rfl rfl ⟨Nat.le_of_ble_eq_true rfl, Nat.le_of_ble_eq_true rfl⟩ ⟨Nat.zero_le _, Nat.zero_le _⟩ hl.1 (Nat.le_of_ble_eq_true rfl) rfl dX4_digitAt_2 ?_
  refine lv_bipush (v := 48) hx hb dX4_digitAt_5 (by decide) ?_
  refine lv_isub hx hb dX4_digitAt_7 ?_
  exact gret_i E hr hlk dX4_digitAt_8 (som_e hf).symm
noncomputable def fX4_twoDigitsAt (σ : St) (d : Nat) (a1 : Int32) : Option (Int32) :=
  bd (fX4_digitAt σ d a1) fun r1 =>
  bd (fX4_digitAt σ d (a1 + 1)) fun r2 =>
  some ((10 * r1) + r2)
def rX4_twoDigitsAt : Room := { frames := 3, cells := 0, slots := 0, locals := 63 }
set_option maxHeartbeats 4000000 in
set_option maxRecDepth 100000 in
theorem cX4_twoDigitsAtc {l : Launch} {dC : Nat → ClassId} {dI : Nat → Nat → Nat} {ks : Nat → ClassId} {ad : Nat → Nat → Nat} {σ : St} {d : Nat} (hd : d < 8) (a1 : Int32)  {out : Int32} (hf : fX4_twoDigitsAt σ d a1 = some out) : MRi l dC dI ks ad σ yX4_twoDigitsAt cX4_twoDigitsAt 2 (some .int) rX4_twoDigitsAt [.ref (ad 10 d), .int a1] out := by
  refine met_r (own := RX4) (by decide) rfl (Nat.le_of_ble_eq_true rfl) ?_
  intro p e s m args below meth c ls E hr hlk hP hK hl
  have hx := E.1
  have hb := E.2.1
  have hl : lv_has ls 2 [(0, .ref (ad 10 d)), (1, .int a1)] := hl
  unfold fX4_twoDigitsAt at hf
  refine lv_bipush (v := 10) hx hb dX4_twoDigitsAt_0 (by decide) ?_
  refine lv_aload_n hx hb dX4_twoDigitsAt_2 rfl (lv_at hl 0 rfl) ?_
  refine lv_iload_n hx hb dX4_twoDigitsAt_3 rfl (lv_at hl 1 rfl) ?_
  obtain ⟨r1, er1, hf⟩ := bd_e hf
  refine gVr_i E hK hP (cX4_digitAtc hd _ er1) kV_X4_digitAt wd_1_214 rfl rfl (qs_0 ks ad σ hd) rfl rfl rfl ⟨Nat.le_of_ble_eq_true rfl, Nat.le_of_ble_eq_true rfl⟩ ⟨Nat.zero_le _, Nat.zero_le _⟩ hl.1 (Nat.le_of_ble_eq_true rfl) rfl dX4_twoDigitsAt_4 ?_
  refine lv_imul hx hb dX4_twoDigitsAt_7 ?_
  refine lv_aload_n hx hb dX4_twoDigitsAt_8 rfl (lv_at hl 0 rfl) ?_
  refine lv_iload_n hx hb dX4_twoDigitsAt_9 rfl (lv_at hl 1 rfl) ?_
  refine lv_iconst (v := 1) hx hb dX4_twoDigitsAt_10 (by decide) ?_
  refine lv_iadd hx hb dX4_twoDigitsAt_11 ?_
  obtain ⟨r2, er2, hf⟩ := bd_e hf
  refine gVr_i E hK hP (cX4_digitAtc hd _ er2) kV_X4_digitAt wd_1_214 rfl rfl (qs_0 ks ad σ hd) rfl rfl rfl ⟨Nat.le_of_ble_eq_true rfl, Nat.le_of_ble_eq_true rfl⟩ ⟨Nat.zero_le _, Nat.zero_le _⟩ hl.1 (Nat.le_of_ble_eq_true rfl) rfl dX4_twoDigitsAt_12 ?_
  refine lv_iadd hx hb dX4_twoDigitsAt_15 ?_
  exact gret_i E hr hlk dX4_twoDigitsAt_16 (som_e hf).symm
noncomputable def fX11_isTriedOnSpare (σ : St) (a1 : Nat) (a2 : Int32) : Option (Int32 × St) :=
  bd (fX4_digitAt σ a1 (a2 + 1)) fun r1 =>
  bd (fX4_digitAt σ a1 (a2 + 2)) fun r2 =>
  bd (fX4_digitAt σ a1 (a2 + 3)) fun r3 =>
  bd (fX4_twoDigitsAt σ a1 (a2 + 4)) fun r4 =>
  bd (fX4_twoDigitsAt σ a1 (a2 + 6)) fun r5 =>
  bd (fX3_hasAll σ 2 r1 r2 r3) fun r6 =>
  if r6 = 0 then
  some (0, σ)
  else
  bd (fX11_isOut σ r4 0 60) fun r8 =>
  if r8 = 0 then
  bd (fX11_isOut σ r5 0 60) fun r10 =>
  if r10 = 0 then
  bd (fX3_isSplit σ 2 r1) fun r12 =>
  if r12 = 0 then
  ck (vp_in r1 6) <|
  ck (vp_in r3 6) <|
  bd (gR σ 0 2 r3.toNatClampNeg) fun j16 =>
  ck (j16 < gS σ 2 0 ∧ okc (gS σ 1 j16)) <|
  bd (fvwearBy σ j16 r5) fun r17 =>
  ck (vp_in r1 6) <|
  nmv (sI σ 4 2 r1.toNatClampNeg ((gI σ 4 2 r1.toNatClampNeg) + r17)) fun σ19 =>
  some (1, σ19)
  else
  some (0, σ)
  else
  some (0, σ)
  else
  some (0, σ)
def rX11_isTriedOnSpare : Room := { frames := 4, cells := 0, slots := 0, locals := 84 }
set_option maxHeartbeats 4000000 in
set_option maxRecDepth 100000 in
theorem cX11_isTriedOnSparec {l : Launch} {dC : Nat → ClassId} {dI : Nat → Nat → Nat} {ks : Nat → ClassId} {ad : Nat → Nat → Nat} {σ : St} {a1 : Nat} (a2 : Int32) (ha1 : a1 < 8) {out : Int32 × St} (hf : fX11_isTriedOnSpare σ a1 a2 = some out) : MWi l dC dI ks ad σ yX11_isTriedOnSpare cX11_isTriedOnSpare 8 (some .boolean) rX11_isTriedOnSpare [.ref (ad 0 0), .ref (ad 10 a1), .int a2] out := by
  intro sz
  refine met_w (Qc := fun A => va_Qi (fun r σ' => r = out.1 ∧ σ' = out.2) (gBw dC dI ks ad A) A) (own := RX11) (by decide) rfl (Nat.le_of_ble_eq_true rfl) ?_
  intro A p e s m args below meth c ls E hr hlk hA hP hD hS hK hl
  have hx := E.1
  have hb := E.2.1
  have hl : lv_has ls 8 [(0, .ref (ad 0 0)), (1, .ref (ad 10 a1)), (2, .int a2)] := hl
  unfold fX11_isTriedOnSpare at hf
  refine lv_aload_n hx hb dX11_isTriedOnSpare_0 rfl (lv_at hl 1 rfl) ?_
  refine lv_iload_n hx hb dX11_isTriedOnSpare_1 rfl (lv_at hl 2 rfl) ?_
  refine lv_iconst (v := 1) hx hb dX11_isTriedOnSpare_2 (by decide) ?_
  refine lv_iadd hx hb dX11_isTriedOnSpare_3 ?_
  obtain ⟨r1, er1, hf⟩ := bd_e hf
  refine gVr_i E hK hP (cX4_digitAtc ha1 _ er1) kV_X4_digitAt wd_1_219 rfl rfl (qs_0 ks ad σ ha1) rfl rfl rfl ⟨Nat.le_of_ble_eq_true rfl, Nat.le_of_ble_eq_true rfl⟩ ⟨Nat.zero_le _, Nat.zero_le _⟩ hl.1 (Nat.le_of_ble_eq_true rfl) rfl dX11_isTriedOnSpare_4 ?_
  refine lv_istore_n (lv' := [(3, .int r1), (0, .ref (ad 0 0)), (1, .ref (ad 10 a1)), (2, .int a2)]) hx hb dX11_isTriedOnSpare_7 rfl hl (by decide) rfl (fun ls hl => ?_)
  refine lv_aload_n hx hb dX11_isTriedOnSpare_8 rfl (lv_at hl 2 rfl) ?_
  refine lv_iload_n hx hb dX11_isTriedOnSpare_9 rfl (lv_at hl 3 rfl) ?_
  refine lv_iconst (v := 2) hx hb dX11_isTriedOnSpare_10 (by decide) ?_
  refine lv_iadd hx hb dX11_isTriedOnSpare_11 ?_
  obtain ⟨r2, er2, hf⟩ := bd_e hf
  refine gVr_i E hK hP (cX4_digitAtc ha1 _ er2) kV_X4_digitAt wd_1_219 rfl rfl (qs_0 ks ad σ ha1) rfl rfl rfl ⟨Nat.le_of_ble_eq_true rfl, Nat.le_of_ble_eq_true rfl⟩ ⟨Nat.zero_le _, Nat.zero_le _⟩ hl.1 (Nat.le_of_ble_eq_true rfl) rfl dX11_isTriedOnSpare_12 ?_
  refine lv_istore (lv' := [(4, .int r2), (3, .int r1), (0, .ref (ad 0 0)), (1, .ref (ad 10 a1)), (2, .int a2)]) hx hb dX11_isTriedOnSpare_15 hl (by decide) rfl (fun ls hl => ?_)
  refine lv_aload_n hx hb dX11_isTriedOnSpare_17 rfl (lv_at hl 3 rfl) ?_
  refine lv_iload_n hx hb dX11_isTriedOnSpare_18 rfl (lv_at hl 4 rfl) ?_
  refine lv_iconst (v := 3) hx hb dX11_isTriedOnSpare_19 (by decide) ?_
  refine lv_iadd hx hb dX11_isTriedOnSpare_20 ?_
  obtain ⟨r3, er3, hf⟩ := bd_e hf
  refine gVr_i E hK hP (cX4_digitAtc ha1 _ er3) kV_X4_digitAt wd_1_219 rfl rfl (qs_0 ks ad σ ha1) rfl rfl rfl ⟨Nat.le_of_ble_eq_true rfl, Nat.le_of_ble_eq_true rfl⟩ ⟨Nat.zero_le _, Nat.zero_le _⟩ hl.1 (Nat.le_of_ble_eq_true rfl) rfl dX11_isTriedOnSpare_21 ?_
  refine lv_istore (lv' := [(5, .int r3), (4, .int r2), (3, .int r1), (0, .ref (ad 0 0)), (1, .ref (ad 10 a1)), (2, .int a2)]) hx hb dX11_isTriedOnSpare_24 hl (by decide) rfl (fun ls hl => ?_)
  refine lv_aload_n hx hb dX11_isTriedOnSpare_26 rfl (lv_at hl 4 rfl) ?_
  refine lv_iload_n hx hb dX11_isTriedOnSpare_27 rfl (lv_at hl 5 rfl) ?_
  refine lv_iconst (v := 4) hx hb dX11_isTriedOnSpare_28 (by decide) ?_
  refine lv_iadd hx hb dX11_isTriedOnSpare_29 ?_
  obtain ⟨r4, er4, hf⟩ := bd_e hf
  refine gVr_i E hK hP (cX4_twoDigitsAtc ha1 _ er4) kV_X4_twoDigitsAt wd_1_210 rfl rfl (qs_0 ks ad σ ha1) rfl rfl rfl ⟨Nat.le_of_ble_eq_true rfl, Nat.le_of_ble_eq_true rfl⟩ ⟨Nat.zero_le _, Nat.zero_le _⟩ hl.1 (Nat.le_of_ble_eq_true rfl) rfl dX11_isTriedOnSpare_30 ?_
  refine lv_istore (lv' := [(6, .int r4), (5, .int r3), (4, .int r2), (3, .int r1), (0, .ref (ad 0 0)), (1, .ref (ad 10 a1)), (2, .int a2)]) hx hb dX11_isTriedOnSpare_33 hl (by decide) rfl (fun ls hl => ?_)
  refine lv_aload_n hx hb dX11_isTriedOnSpare_35 rfl (lv_at hl 5 rfl) ?_
  refine lv_iload_n hx hb dX11_isTriedOnSpare_36 rfl (lv_at hl 6 rfl) ?_
  refine lv_bipush (v := 6) hx hb dX11_isTriedOnSpare_37 (by decide) ?_
  refine lv_iadd hx hb dX11_isTriedOnSpare_39 ?_
  obtain ⟨r5, er5, hf⟩ := bd_e hf
  refine gVr_i E hK hP (cX4_twoDigitsAtc ha1 _ er5) kV_X4_twoDigitsAt wd_1_210 rfl rfl (qs_0 ks ad σ ha1) rfl rfl rfl ⟨Nat.le_of_ble_eq_true rfl, Nat.le_of_ble_eq_true rfl⟩ ⟨Nat.zero_le _, Nat.zero_le _⟩ hl.1 (Nat.le_of_ble_eq_true rfl) rfl dX11_isTriedOnSpare_40 ?_
  refine lv_istore (lv' := [(7, .int r5), (6, .int r4), (5, .int r3), (4, .int r2), (3, .int r1), (0, .ref (ad 0 0)), (1, .ref (ad 10 a1)), (2, .int a2)]) hx hb dX11_isTriedOnSpare_43 hl (by decide) rfl (fun ls hl => ?_)
  refine lv_aload_n hx hb dX11_isTriedOnSpare_45 rfl (lv_at hl 5 rfl) ?_
  refine gget E in_X11 hK hP (q_main ks ad σ) rfl (k := 2) (by decide) wd_1_147 rfl (v := .ref (ad 1 2)) rfl dX11_isTriedOnSpare_46 ?_
  refine lv_iload_n hx hb dX11_isTriedOnSpare_49 rfl (lv_at hl 4 rfl) ?_
  refine lv_iload hx hb dX11_isTriedOnSpare_50 (lv_at hl 3 rfl) ?_
  refine lv_iload hx hb dX11_isTriedOnSpare_52 (lv_at hl 2 rfl) ?_
  obtain ⟨r6, er6, hf⟩ := bd_e hf
  refine gVr_i E hK hP (cX3_hasAllc (by decide : (2 : Nat) < 3) _ _ _ er6) kV_X3_hasAll wd_2_86 rfl rfl (qh_0 ks ad σ (by decide : (2 : Nat) < 3)) rfl rfl rfl ⟨Nat.le_of_ble_eq_true rfl, Nat.le_of_ble_eq_true rfl⟩ ⟨Nat.zero_le _, Nat.zero_le _⟩ hl.1 (Nat.le_of_ble_eq_true rfl) rfl dX11_isTriedOnSpare_54 ?_
  refine lv_if_eq (tgt := 93) hx hb dX11_isTriedOnSpare_57 (by decide) (fun c7 => ?_) (fun c7 => ?_)
  · replace hf := pos_e c7 hf
    refine lv_iconst (v := 0) hx hb dX11_isTriedOnSpare_93 (by decide) ?_
    exact gretw_z rfl E hlk hP hD hS hr dX11_isTriedOnSpare_94 (som_e hf)
  · replace hf := neg_e c7 hf
    refine lv_iload hx hb dX11_isTriedOnSpare_60 (lv_at hl 1 rfl) ?_
    refine lv_iconst (v := 0) hx hb dX11_isTriedOnSpare_62 (by decide) ?_
    refine lv_bipush (v := 60) hx hb dX11_isTriedOnSpare_63 (by decide) ?_
    obtain ⟨r8, er8, hf⟩ := bd_e hf
    refine gSr_i E hK hP (cX11_isOutc _ _ _ er8) kS_X11_isOut wd_1_178 rfl rfl rfl ⟨Nat.le_of_ble_eq_true rfl, Nat.le_of_ble_eq_true rfl⟩ ⟨Nat.zero_le _, Nat.zero_le _⟩ hl.1 (Nat.le_of_ble_eq_true rfl) rfl dX11_isTriedOnSpare_65 ?_
    refine lv_if_ne (tgt := 93) hx hb dX11_isTriedOnSpare_68 (by decide) (fun c9 => ?_) (fun c9 => ?_)
    · replace hf := neg_e c9 hf
      refine lv_iconst (v := 0) hx hb dX11_isTriedOnSpare_93 (by decide) ?_
      exact gretw_z rfl E hlk hP hD hS hr dX11_isTriedOnSpare_94 (som_e hf)
    · replace hf := pos_e c9 hf
      refine lv_iload hx hb dX11_isTriedOnSpare_71 (lv_at hl 0 rfl) ?_
      refine lv_iconst (v := 0) hx hb dX11_isTriedOnSpare_73 (by decide) ?_
      refine lv_bipush (v := 60) hx hb dX11_isTriedOnSpare_74 (by decide) ?_
      obtain ⟨r10, er10, hf⟩ := bd_e hf
      refine gSr_i E hK hP (cX11_isOutc _ _ _ er10) kS_X11_isOut wd_1_178 rfl rfl rfl ⟨Nat.le_of_ble_eq_true rfl, Nat.le_of_ble_eq_true rfl⟩ ⟨Nat.zero_le _, Nat.zero_le _⟩ hl.1 (Nat.le_of_ble_eq_true rfl) rfl dX11_isTriedOnSpare_76 ?_
      refine lv_if_ne (tgt := 93) hx hb dX11_isTriedOnSpare_79 (by decide) (fun c11 => ?_) (fun c11 => ?_)
      · replace hf := neg_e c11 hf
        refine lv_iconst (v := 0) hx hb dX11_isTriedOnSpare_93 (by decide) ?_
        exact gretw_z rfl E hlk hP hD hS hr dX11_isTriedOnSpare_94 (som_e hf)
      · replace hf := pos_e c11 hf
        refine lv_aload_n hx hb dX11_isTriedOnSpare_82 rfl (lv_at hl 5 rfl) ?_
        refine gget E in_X11 hK hP (q_main ks ad σ) rfl (k := 2) (by decide) wd_1_147 rfl (v := .ref (ad 1 2)) rfl dX11_isTriedOnSpare_83 ?_
        refine lv_iload_n hx hb dX11_isTriedOnSpare_86 rfl (lv_at hl 4 rfl) ?_
        obtain ⟨r12, er12, hf⟩ := bd_e hf
        refine gVr_i E hK hP (cX3_isSplitc (by decide : (2 : Nat) < 3) _ er12) kV_X3_isSplit wd_2_102 rfl rfl (qh_0 ks ad σ (by decide : (2 : Nat) < 3)) rfl rfl rfl ⟨Nat.le_of_ble_eq_true rfl, Nat.le_of_ble_eq_true rfl⟩ ⟨Nat.zero_le _, Nat.zero_le _⟩ hl.1 (Nat.le_of_ble_eq_true rfl) rfl dX11_isTriedOnSpare_87 ?_
        refine lv_if_eq (tgt := 95) hx hb dX11_isTriedOnSpare_90 (by decide) (fun c13 => ?_) (fun c13 => ?_)
        · replace hf := pos_e c13 hf
          refine lv_aload_n hx hb dX11_isTriedOnSpare_95 rfl (lv_at hl 5 rfl) ?_
          refine gget E in_X11 hK hP (q_main ks ad σ) rfl (k := 2) (by decide) wd_1_147 rfl (v := .ref (ad 1 2)) rfl dX11_isTriedOnSpare_96 ?_
          refine gget E in_X3 hK hP (qh_0 ks ad σ (by decide : (2 : Nat) < 3)) rfl (k := 4) (by decide) wd_1_81 rfl (v := .ref (ad 5 2)) rfl dX11_isTriedOnSpare_99 ?_
          refine lv_iload_n hx hb dX11_isTriedOnSpare_102 rfl (lv_at hl 4 rfl) ?_
          refine lv_dup2_11 hx hb dX11_isTriedOnSpare_103 rfl rfl ?_
          obtain ⟨c14, hf⟩ := ck_e hf
          refine giald E hK hP (qh_4 ks ad σ (by decide : (2 : Nat) < 3)) c14 dX11_isTriedOnSpare_104 ?_
          refine lv_aload_n hx hb dX11_isTriedOnSpare_105 rfl (lv_at hl 5 rfl) ?_
          refine gget E in_X11 hK hP (q_main ks ad σ) rfl (k := 2) (by decide) wd_1_147 rfl (v := .ref (ad 1 2)) rfl dX11_isTriedOnSpare_106 ?_
          refine gget E in_X3 hK hP (qh_0 ks ad σ (by decide : (2 : Nat) < 3)) rfl (k := 9) (by decide) wd_1_91 rfl (v := .ref (ad 8 2)) rfl dX11_isTriedOnSpare_109 ?_
          refine lv_iload hx hb dX11_isTriedOnSpare_112 (lv_at hl 2 rfl) ?_
          obtain ⟨c15, hf⟩ := ck_e hf
          refine gaaldB (by decide : (2 : Nat) < 3) E hK hP c15 dX11_isTriedOnSpare_114 ?_
          obtain ⟨j16, ej16, hf⟩ := bd_e hf
          obtain ⟨hj16, hf⟩ := ck_e hf
          refine lv_nmo ej16 ?_
          refine lv_iload hx hb dX11_isTriedOnSpare_115 (lv_at hl 0 rfl) ?_
          obtain ⟨r17, er17, hf⟩ := bd_e hf
          refine vwearBy E hK hP hj16 er17 wd_2_106 ⟨Nat.le_of_ble_eq_true rfl, Nat.le_of_ble_eq_true rfl⟩ ⟨Nat.zero_le _, Nat.zero_le _⟩ hl.1 (Nat.le_of_ble_eq_true rfl) rfl dX11_isTriedOnSpare_117 ?_
          refine lv_iadd hx hb dX11_isTriedOnSpare_120 ?_
          obtain ⟨c18, hf⟩ := ck_e hf
          obtain ⟨σ19, eσ19, hf⟩ := nmv_e hf
          refine giast E hK hP hD hS (qh_4 ks ad σ (by decide : (2 : Nat) < 3)) c18 (σ' := σ19) (by rw [eσ19]; exact st_ha_4 ks ad σ (by decide : (2 : Nat) < 3) _) dX11_isTriedOnSpare_121 (fun H locs hP hD hS => ?_)
          refine lv_iconst (v := 1) hx hb dX11_isTriedOnSpare_122 (by decide) ?_
          exact gretw_z rfl E hlk hP hD hS hr dX11_isTriedOnSpare_123 (som_e hf)
        · replace hf := neg_e c13 hf
          refine lv_iconst (v := 0) hx hb dX11_isTriedOnSpare_93 (by decide) ?_
          exact gretw_z rfl E hlk hP hD hS hr dX11_isTriedOnSpare_94 (som_e hf)
noncomputable def fX12_isIn (σ : St) (a1 : Int32) (a2 : Int32) (a3 : Int32) : Option (Int32) :=
  if a1 < a2 then
  some 0
  else
  if a3 < a1 then
  some 0
  else
  some 1
def rX12_isIn : Room := { frames := 0, cells := 0, slots := 0, locals := 0 }
set_option maxHeartbeats 4000000 in
set_option maxRecDepth 100000 in
theorem cX12_isInc {l : Launch} {dC : Nat → ClassId} {dI : Nat → Nat → Nat} {ks : Nat → ClassId} {ad : Nat → Nat → Nat} {σ : St} (a1 : Int32) (a2 : Int32) (a3 : Int32)  {out : Int32} (hf : fX12_isIn σ a1 a2 a3 = some out) : MRi l dC dI ks ad σ yX12_isIn cX12_isIn 3 (some .boolean) rX12_isIn [.int a1, .int a2, .int a3] out := by
  refine met_r (own := RX12) (by decide) rfl (Nat.le_of_ble_eq_true rfl) ?_
  intro p e s m args below meth c ls E hr hlk hP hK hl
  have hx := E.1
  have hb := E.2.1
  have hl : lv_has ls 3 [(0, .int a1), (1, .int a2), (2, .int a3)] := hl
  unfold fX12_isIn at hf
  refine lv_iload_n hx hb dX12_isIn_0 rfl (lv_at hl 0 rfl) ?_
  refine lv_iload_n hx hb dX12_isIn_1 rfl (lv_at hl 1 rfl) ?_
  refine lv_icmp_lt (tgt := 14) hx hb dX12_isIn_2 (by decide) (fun c1 => ?_) (fun c1 => ?_)
  · replace hf := pos_e c1 hf
    refine lv_iconst (v := 0) hx hb dX12_isIn_14 (by decide) ?_
    exact gret_z rfl E hr hlk dX12_isIn_15 (som_e hf).symm
  · replace hf := neg_e c1 hf
    refine lv_iload_n hx hb dX12_isIn_5 rfl (lv_at hl 0 rfl) ?_
    refine lv_iload_n hx hb dX12_isIn_6 rfl (lv_at hl 2 rfl) ?_
    refine lv_icmp_gt (tgt := 14) hx hb dX12_isIn_7 (by decide) (fun c2 => ?_) (fun c2 => ?_)
    · replace hf := pos_e c2 hf
      refine lv_iconst (v := 0) hx hb dX12_isIn_14 (by decide) ?_
      exact gret_z rfl E hr hlk dX12_isIn_15 (som_e hf).symm
    · replace hf := neg_e c2 hf
      refine lv_iconst (v := 1) hx hb dX12_isIn_10 (by decide) ?_
      refine lv_goto (tgt := 15) hx hb dX12_isIn_11 (by decide) ?_
      exact gret_z rfl E hr hlk dX12_isIn_15 (som_e hf).symm
noncomputable def fX12_size (σ : St) (a1 : Int32) : Option (Int32) :=
  if 0 ≤ a1 then
  some a1
  else
  some (-a1)
def rX12_size : Room := { frames := 0, cells := 0, slots := 0, locals := 0 }
set_option maxHeartbeats 4000000 in
set_option maxRecDepth 100000 in
theorem cX12_sizec {l : Launch} {dC : Nat → ClassId} {dI : Nat → Nat → Nat} {ks : Nat → ClassId} {ad : Nat → Nat → Nat} {σ : St} (a1 : Int32)  {out : Int32} (hf : fX12_size σ a1 = some out) : MRi l dC dI ks ad σ yX12_size cX12_size 1 (some .int) rX12_size [.int a1] out := by
  refine met_r (own := RX12) (by decide) rfl (Nat.le_of_ble_eq_true rfl) ?_
  intro p e s m args below meth c ls E hr hlk hP hK hl
  have hx := E.1
  have hb := E.2.1
  have hl : lv_has ls 1 [(0, .int a1)] := hl
  unfold fX12_size at hf
  refine lv_iload_n hx hb dX12_size_0 rfl (lv_at hl 0 rfl) ?_
  refine lv_if_ge (tgt := 9) hx hb dX12_size_1 (by decide) (fun c1 => ?_) (fun c1 => ?_)
  · replace hf := pos_e c1 hf
    refine lv_iload_n hx hb dX12_size_9 rfl (lv_at hl 0 rfl) ?_
    exact gret_i E hr hlk dX12_size_10 (som_e hf).symm
  · replace hf := neg_e c1 hf
    refine lv_iload_n hx hb dX12_size_4 rfl (lv_at hl 0 rfl) ?_
    refine lv_ineg hx hb dX12_size_5 ?_
    refine lv_goto (tgt := 10) hx hb dX12_size_6 (by decide) ?_
    exact gret_i E hr hlk dX12_size_10 (som_e hf).symm
noncomputable def fX12_copies_L2B (a1 : Nat) (a2 : Nat) (K_2 : St → Option (St)) (rec_2 : Int32 → St → Option (St)) (x1 : Int32) (σ2 : St) : Option (St) :=
  if 47 ≤ x1 then
  K_2 σ2
  else
  ck (vp_in x1 47) <|
  ck (vp_in x1 47) <|
  nmv (sI σ2 12 a2 x1.toNatClampNeg (gI σ2 12 a1 x1.toNatClampNeg)) fun σ6 =>
  nmv (x1 + 1) fun v7 =>
  rec_2 v7 σ6
noncomputable def fX12_copies_L2 (a1 : Nat) (a2 : Nat) (K_2 : St → Option (St)) : Nat → Int32 → St → Option (St)
  | 0 => fun _ _ => none
  | n + 1 => fX12_copies_L2B a1 a2 K_2 (fX12_copies_L2 a1 a2 K_2 n)
noncomputable def fX12_copies (σ : St) (a1 : Nat) (a2 : Nat) : Option (St) :=
  fX12_copies_L2 a1 a2 (fun σ8 => some σ8) FU 0 σ
def rX12_copies : Room := { frames := 0, cells := 0, slots := 0, locals := 0 }
set_option maxHeartbeats 4000000 in
set_option maxRecDepth 100000 in
theorem cX12_copiesc {l : Launch} {dC : Nat → ClassId} {dI : Nat → Nat → Nat} {ks : Nat → ClassId} {ad : Nat → Nat → Nat} {σ : St} {a1 : Nat} {a2 : Nat} (ha1 : a1 < 3) (ha2 : a2 < 3) {out : St} (hf : fX12_copies σ a1 a2 = some out) : MWv l dC dI ks ad σ yX12_copies cX12_copies 3 none rX12_copies [.ref (ad 15 a1), .ref (ad 15 a2)] out := by
  intro sz
  refine met_w (Qc := fun A => va_Qv (fun σ' => σ' = out) (gBw dC dI ks ad A) A) (own := RX12) (by decide) rfl (Nat.le_of_ble_eq_true rfl) ?_
  intro A p e s m args below meth c ls E hr hlk hA hP hD hS hK hl
  have hx := E.1
  have hb := E.2.1
  have hl : lv_has ls 3 [(0, .ref (ad 15 a1)), (1, .ref (ad 15 a2))] := hl
  unfold fX12_copies at hf
  refine lv_iconst (v := 0) hx hb dX12_copies_0 (by decide) ?_
  refine lv_istore_n (lv' := [(2, .int 0), (0, .ref (ad 15 a1)), (1, .ref (ad 15 a2))]) hx hb dX12_copies_1 rfl hl (by decide) rfl (fun ls hl => ?_)
  have loop_2 : ∀ (K_2 : St → Option (St)) (hK_2 : (∀ (σ8 : St) (H : Heap) (locs : List Loc) (hP : va_P (dC, dI) vwCl (wG ks ad σ8) H) (hD : va_D A (wG ks ad σ8)) (hS : va_S A s.heap H locs) (hf : K_2 σ8 = some out) (ls : Array Slot), lv_has ls 3 [] → W p l e rX12_copies s m args below meth c H locs 0 0 (MQ below (va_Qv (fun σ' => σ' = out) (gBw dC dI ks ad A) A) args s 0 0 A) (F0 m 20 ls []))) (n_2 : Nat) (x1 : Int32) (σ2 : St) (H : Heap) (locs : List Loc) (hP : va_P (dC, dI) vwCl (wG ks ad σ2) H) (hD : va_D A (wG ks ad σ2)) (hS : va_S A s.heap H locs) (hf : fX12_copies_L2 a1 a2 K_2 n_2 x1 σ2 = some out) (ls : Array Slot), lv_has ls 3 [(0, .ref (ad 15 a1)), (1, .ref (ad 15 a2)), (2, .int x1)] → W p l e rX12_copies s m args below meth c H locs 0 0 (MQ below (va_Qv (fun σ' => σ' = out) (gBw dC dI ks ad A) A) args s 0 0 A) (F0 m 2 ls []) := by
    intro K_2 hK_2 n_2
    induction n_2 with
    | zero => intro x1 σ2 H locs hP hD hS hf; cases hf
    | succ n_2 ih_2 =>
      intro x1 σ2 H locs hP hD hS hf ls hl
      have hf : fX12_copies_L2B a1 a2 K_2 (fX12_copies_L2 a1 a2 K_2 n_2) x1 σ2 = some out := hf
      unfold fX12_copies_L2B at hf
      refine lv_iload_n hx hb dX12_copies_2 rfl (lv_at hl 2 rfl) ?_
      refine lv_bipush (v := 47) hx hb dX12_copies_3 (by decide) ?_
      refine lv_icmp_ge (tgt := 20) hx hb dX12_copies_5 (by decide) (fun c3 => ?_) (fun c3 => ?_)
      · replace hf := pos_e c3 hf
        exact hK_2 _ _ _ hP hD hS hf _ (lv_sub hl [] rfl)
      · replace hf := neg_e c3 hf
        refine lv_aload_n hx hb dX12_copies_8 rfl (lv_at hl 1 rfl) ?_
        refine lv_iload_n hx hb dX12_copies_9 rfl (lv_at hl 2 rfl) ?_
        refine lv_aload_n hx hb dX12_copies_10 rfl (lv_at hl 0 rfl) ?_
        refine lv_iload_n hx hb dX12_copies_11 rfl (lv_at hl 2 rfl) ?_
        obtain ⟨c4, hf⟩ := ck_e hf
        refine giald E hK hP (q_Mc ks ad σ2 ha1) c4 dX12_copies_12 ?_
        obtain ⟨c5, hf⟩ := ck_e hf
        obtain ⟨σ6, eσ6, hf⟩ := nmv_e hf
        refine giast E hK hP hD hS (q_Mc ks ad σ2 ha2) c5 (σ' := σ6) (by rw [eσ6]; exact st_Mc ks ad σ2 ha2 _) dX12_copies_13 (fun H locs hP hD hS => ?_)
        obtain ⟨v7, ev7, hf⟩ := nmv_e hf
        refine lv_iinc (v := v7) (lv' := [(2, .int v7), (0, .ref (ad 15 a1)), (1, .ref (ad 15 a2))]) hx hb dX12_copies_14 hl (k := 2) rfl (by rw [ev7]; rfl) (by decide) rfl (fun ls hl => ?_)
        refine lv_goto (tgt := 2) hx hb dX12_copies_17 (by decide) ?_
        exact ih_2 _ _ _ _ hP hD hS hf _ (lv_sub hl [1, 2, 0] rfl)
  refine loop_2 _ (fun σ8 H locs hP hD hS hf ls hl => ?_) _ _ _ _ _ hP hD hS hf _ (lv_sub hl [1, 2, 0] rfl)
  exact gretw_v E hlk hP hD hS hr dX12_copies_20 (som_e hf)
noncomputable def fX12_atBlade (σ : St) (a1 : Int32) (a2 : Int32) : Option (Int32) :=
  some ((3 + (4 * a1)) + a2)
def rX12_atBlade : Room := { frames := 0, cells := 0, slots := 0, locals := 0 }
set_option maxHeartbeats 4000000 in
set_option maxRecDepth 100000 in
theorem cX12_atBladec {l : Launch} {dC : Nat → ClassId} {dI : Nat → Nat → Nat} {ks : Nat → ClassId} {ad : Nat → Nat → Nat} {σ : St} (a1 : Int32) (a2 : Int32)  {out : Int32} (hf : fX12_atBlade σ a1 a2 = some out) : MRi l dC dI ks ad σ yX12_atBlade cX12_atBlade 2 (some .int) rX12_atBlade [.int a1, .int a2] out := by
  refine met_r (own := RX12) (by decide) rfl (Nat.le_of_ble_eq_true rfl) ?_
  intro p e s m args below meth c ls E hr hlk hP hK hl
  have hx := E.1
  have hb := E.2.1
  have hl : lv_has ls 2 [(0, .int a1), (1, .int a2)] := hl
  unfold fX12_atBlade at hf
  refine lv_iconst (v := 3) hx hb dX12_atBlade_0 (by decide) ?_
  refine lv_iconst (v := 4) hx hb dX12_atBlade_1 (by decide) ?_
  refine lv_iload_n hx hb dX12_atBlade_2 rfl (lv_at hl 0 rfl) ?_
  refine lv_imul hx hb dX12_atBlade_3 ?_
  refine lv_iadd hx hb dX12_atBlade_4 ?_
  refine lv_iload_n hx hb dX12_atBlade_5 rfl (lv_at hl 1 rfl) ?_
  refine lv_iadd hx hb dX12_atBlade_6 ?_
  exact gret_i E hr hlk dX12_atBlade_7 (som_e hf).symm
noncomputable def fX12_atThumbs (σ : St) (a1 : Int32) (a2 : Int32) : Option (Int32) :=
  some ((27 + (2 * a1)) + a2)
def rX12_atThumbs : Room := { frames := 0, cells := 0, slots := 0, locals := 0 }
set_option maxHeartbeats 4000000 in
set_option maxRecDepth 100000 in
theorem cX12_atThumbsc {l : Launch} {dC : Nat → ClassId} {dI : Nat → Nat → Nat} {ks : Nat → ClassId} {ad : Nat → Nat → Nat} {σ : St} (a1 : Int32) (a2 : Int32)  {out : Int32} (hf : fX12_atThumbs σ a1 a2 = some out) : MRi l dC dI ks ad σ yX12_atThumbs cX12_atThumbs 2 (some .int) rX12_atThumbs [.int a1, .int a2] out := by
  refine met_r (own := RX12) (by decide) rfl (Nat.le_of_ble_eq_true rfl) ?_
  intro p e s m args below meth c ls E hr hlk hP hK hl
  have hx := E.1
  have hb := E.2.1
  have hl : lv_has ls 2 [(0, .int a1), (1, .int a2)] := hl
  unfold fX12_atThumbs at hf
  refine lv_bipush (v := 27) hx hb dX12_atThumbs_0 (by decide) ?_
  refine lv_iconst (v := 2) hx hb dX12_atThumbs_2 (by decide) ?_
  refine lv_iload_n hx hb dX12_atThumbs_3 rfl (lv_at hl 0 rfl) ?_
  refine lv_imul hx hb dX12_atThumbs_4 ?_
  refine lv_iadd hx hb dX12_atThumbs_5 ?_
  refine lv_iload_n hx hb dX12_atThumbs_6 rfl (lv_at hl 1 rfl) ?_
  refine lv_iadd hx hb dX12_atThumbs_7 ?_
  exact gret_i E hr hlk dX12_atThumbs_8 (som_e hf).symm
noncomputable def fX12_atBlow (σ : St) (a1 : Int32) (a2 : Int32) : Option (Int32) :=
  some ((35 + (2 * a1)) + a2)
def rX12_atBlow : Room := { frames := 0, cells := 0, slots := 0, locals := 0 }
set_option maxHeartbeats 4000000 in
set_option maxRecDepth 100000 in
theorem cX12_atBlowc {l : Launch} {dC : Nat → ClassId} {dI : Nat → Nat → Nat} {ks : Nat → ClassId} {ad : Nat → Nat → Nat} {σ : St} (a1 : Int32) (a2 : Int32)  {out : Int32} (hf : fX12_atBlow σ a1 a2 = some out) : MRi l dC dI ks ad σ yX12_atBlow cX12_atBlow 2 (some .int) rX12_atBlow [.int a1, .int a2] out := by
  refine met_r (own := RX12) (by decide) rfl (Nat.le_of_ble_eq_true rfl) ?_
  intro p e s m args below meth c ls E hr hlk hP hK hl
  have hx := E.1
  have hb := E.2.1
  have hl : lv_has ls 2 [(0, .int a1), (1, .int a2)] := hl
  unfold fX12_atBlow at hf
  refine lv_bipush (v := 35) hx hb dX12_atBlow_0 (by decide) ?_
  refine lv_iconst (v := 2) hx hb dX12_atBlow_2 (by decide) ?_
  refine lv_iload_n hx hb dX12_atBlow_3 rfl (lv_at hl 0 rfl) ?_
  refine lv_imul hx hb dX12_atBlow_4 ?_
  refine lv_iadd hx hb dX12_atBlow_5 ?_
  refine lv_iload_n hx hb dX12_atBlow_6 rfl (lv_at hl 1 rfl) ?_
  refine lv_iadd hx hb dX12_atBlow_7 ?_
  exact gret_i E hr hlk dX12_atBlow_8 (som_e hf).symm
noncomputable def fX12_bladeOf (σ : St) (a1 : Int32) (a2 : Int32) : Option (Int32) :=
  bd (fX12_atBlade σ a1 a2) fun r1 =>
  ck (vp_in r1 47) <|
  some (gI σ 12 0 r1.toNatClampNeg)
def rX12_bladeOf : Room := { frames := 1, cells := 0, slots := 0, locals := 21 }
set_option maxHeartbeats 4000000 in
set_option maxRecDepth 100000 in
theorem cX12_bladeOfc {l : Launch} {dC : Nat → ClassId} {dI : Nat → Nat → Nat} {ks : Nat → ClassId} {ad : Nat → Nat → Nat} {σ : St} (a1 : Int32) (a2 : Int32)  {out : Int32} (hf : fX12_bladeOf σ a1 a2 = some out) : MRi l dC dI ks ad σ yX12_bladeOf cX12_bladeOf 3 (some .int) rX12_bladeOf [.ref (ad 14 0), .int a1, .int a2] out := by
  refine met_r (own := RX12) (by decide) rfl (Nat.le_of_ble_eq_true rfl) ?_
  intro p e s m args below meth c ls E hr hlk hP hK hl
  have hx := E.1
  have hb := E.2.1
  have hl : lv_has ls 3 [(0, .ref (ad 14 0)), (1, .int a1), (2, .int a2)] := hl
  unfold fX12_bladeOf at hf
  refine lv_aload_n hx hb dX12_bladeOf_0 rfl (lv_at hl 0 rfl) ?_
  refine gget E in_X12 hK hP (q_model ks ad σ) rfl (k := 0) (by decide) wd_5_60 rfl (v := .ref (ad 15 0)) rfl dX12_bladeOf_1 ?_
  refine lv_iload_n hx hb dX12_bladeOf_4 rfl (lv_at hl 1 rfl) ?_
  refine lv_iload_n hx hb dX12_bladeOf_5 rfl (lv_at hl 2 rfl) ?_
  obtain ⟨r1, er1, hf⟩ := bd_e hf
  refine gSr_i E hK hP (cX12_atBladec _ _ er1) kS_X12_atBlade wd_5_167 rfl rfl rfl ⟨Nat.le_of_ble_eq_true rfl, Nat.le_of_ble_eq_true rfl⟩ ⟨Nat.zero_le _, Nat.zero_le _⟩ hl.1 (Nat.le_of_ble_eq_true rfl) rfl dX12_bladeOf_6 ?_
  obtain ⟨c2, hf⟩ := ck_e hf
  refine giald E hK hP (q_M0 ks ad σ) c2 dX12_bladeOf_9 ?_
  exact gret_i E hr hlk dX12_bladeOf_10 (som_e hf).symm
noncomputable def fX12_kind (σ : St) (a1 : Int32) : Option (Int32) :=
  bd (fX12_atBlow σ a1 0) fun r1 =>
  ck (vp_in r1 47) <|
  some (gI σ 12 0 r1.toNatClampNeg)
def rX12_kind : Room := { frames := 1, cells := 0, slots := 0, locals := 21 }
set_option maxHeartbeats 4000000 in
set_option maxRecDepth 100000 in
theorem cX12_kindc {l : Launch} {dC : Nat → ClassId} {dI : Nat → Nat → Nat} {ks : Nat → ClassId} {ad : Nat → Nat → Nat} {σ : St} (a1 : Int32)  {out : Int32} (hf : fX12_kind σ a1 = some out) : MRi l dC dI ks ad σ yX12_kind cX12_kind 2 (some .int) rX12_kind [.ref (ad 14 0), .int a1] out := by
  refine met_r (own := RX12) (by decide) rfl (Nat.le_of_ble_eq_true rfl) ?_
  intro p e s m args below meth c ls E hr hlk hP hK hl
  have hx := E.1
  have hb := E.2.1
  have hl : lv_has ls 2 [(0, .ref (ad 14 0)), (1, .int a1)] := hl
  unfold fX12_kind at hf
  refine lv_aload_n hx hb dX12_kind_0 rfl (lv_at hl 0 rfl) ?_
  refine gget E in_X12 hK hP (q_model ks ad σ) rfl (k := 0) (by decide) wd_5_60 rfl (v := .ref (ad 15 0)) rfl dX12_kind_1 ?_
  refine lv_iload_n hx hb dX12_kind_4 rfl (lv_at hl 1 rfl) ?_
  refine lv_iconst (v := 0) hx hb dX12_kind_5 (by decide) ?_
  obtain ⟨r1, er1, hf⟩ := bd_e hf
  refine gSr_i E hK hP (cX12_atBlowc _ _ er1) kS_X12_atBlow wd_5_181 rfl rfl rfl ⟨Nat.le_of_ble_eq_true rfl, Nat.le_of_ble_eq_true rfl⟩ ⟨Nat.zero_le _, Nat.zero_le _⟩ hl.1 (Nat.le_of_ble_eq_true rfl) rfl dX12_kind_6 ?_
  obtain ⟨c2, hf⟩ := ck_e hf
  refine giald E hK hP (q_M0 ks ad σ) c2 dX12_kind_9 ?_
  exact gret_i E hr hlk dX12_kind_10 (som_e hf).symm
noncomputable def fX12_figure (σ : St) (a1 : Int32) : Option (Int32) :=
  bd (fX12_atBlow σ a1 1) fun r1 =>
  ck (vp_in r1 47) <|
  some (gI σ 12 0 r1.toNatClampNeg)
def rX12_figure : Room := { frames := 1, cells := 0, slots := 0, locals := 21 }
set_option maxHeartbeats 4000000 in
set_option maxRecDepth 100000 in
theorem cX12_figurec {l : Launch} {dC : Nat → ClassId} {dI : Nat → Nat → Nat} {ks : Nat → ClassId} {ad : Nat → Nat → Nat} {σ : St} (a1 : Int32)  {out : Int32} (hf : fX12_figure σ a1 = some out) : MRi l dC dI ks ad σ yX12_figure cX12_figure 2 (some .int) rX12_figure [.ref (ad 14 0), .int a1] out := by
  refine met_r (own := RX12) (by decide) rfl (Nat.le_of_ble_eq_true rfl) ?_
  intro p e s m args below meth c ls E hr hlk hP hK hl
  have hx := E.1
  have hb := E.2.1
  have hl : lv_has ls 2 [(0, .ref (ad 14 0)), (1, .int a1)] := hl
  unfold fX12_figure at hf
  refine lv_aload_n hx hb dX12_figure_0 rfl (lv_at hl 0 rfl) ?_
  refine gget E in_X12 hK hP (q_model ks ad σ) rfl (k := 0) (by decide) wd_5_60 rfl (v := .ref (ad 15 0)) rfl dX12_figure_1 ?_
  refine lv_iload_n hx hb dX12_figure_4 rfl (lv_at hl 1 rfl) ?_
  refine lv_iconst (v := 1) hx hb dX12_figure_5 (by decide) ?_
  obtain ⟨r1, er1, hf⟩ := bd_e hf
  refine gSr_i E hK hP (cX12_atBlowc _ _ er1) kS_X12_atBlow wd_5_181 rfl rfl rfl ⟨Nat.le_of_ble_eq_true rfl, Nat.le_of_ble_eq_true rfl⟩ ⟨Nat.zero_le _, Nat.zero_le _⟩ hl.1 (Nat.le_of_ble_eq_true rfl) rfl dX12_figure_6 ?_
  obtain ⟨c2, hf⟩ := ck_e hf
  refine giald E hK hP (q_M0 ks ad σ) c2 dX12_figure_9 ?_
  exact gret_i E hr hlk dX12_figure_10 (som_e hf).symm
noncomputable def fX12_isBlade (σ : St) (a1 : Int32) : Option (Int32) :=
  ck (vp_in 0 47) <|
  bd (fX12_isIn σ a1 0 ((gI σ 12 0 (0 : Int32).toNatClampNeg) - 1)) fun r2 =>
  ck (r2 = 0 ∨ r2 = 1) (some r2)
def rX12_isBlade : Room := { frames := 1, cells := 0, slots := 0, locals := 22 }
set_option maxHeartbeats 4000000 in
set_option maxRecDepth 100000 in
theorem cX12_isBladec {l : Launch} {dC : Nat → ClassId} {dI : Nat → Nat → Nat} {ks : Nat → ClassId} {ad : Nat → Nat → Nat} {σ : St} (a1 : Int32)  {out : Int32} (hf : fX12_isBlade σ a1 = some out) : MRi l dC dI ks ad σ yX12_isBlade cX12_isBlade 2 (some .boolean) rX12_isBlade [.ref (ad 14 0), .int a1] out := by
  refine met_r (own := RX12) (by decide) rfl (Nat.le_of_ble_eq_true rfl) ?_
  intro p e s m args below meth c ls E hr hlk hP hK hl
  have hx := E.1
  have hb := E.2.1
  have hl : lv_has ls 2 [(0, .ref (ad 14 0)), (1, .int a1)] := hl
  unfold fX12_isBlade at hf
  refine lv_iload_n hx hb dX12_isBlade_0 rfl (lv_at hl 1 rfl) ?_
  refine lv_iconst (v := 0) hx hb dX12_isBlade_1 (by decide) ?_
  refine lv_aload_n hx hb dX12_isBlade_2 rfl (lv_at hl 0 rfl) ?_
  refine gget E in_X12 hK hP (q_model ks ad σ) rfl (k := 0) (by decide) wd_5_60 rfl (v := .ref (ad 15 0)) rfl dX12_isBlade_3 ?_
  refine lv_iconst (v := 0) hx hb dX12_isBlade_6 (by decide) ?_
  obtain ⟨c1, hf⟩ := ck_e hf
  refine giald E hK hP (q_M0 ks ad σ) c1 dX12_isBlade_7 ?_
  refine lv_iconst (v := 1) hx hb dX12_isBlade_8 (by decide) ?_
  refine lv_isub hx hb dX12_isBlade_9 ?_
  obtain ⟨r2, er2, hf⟩ := bd_e hf
  refine gSr_i E hK hP (cX12_isInc _ _ _ er2) kS_X12_isIn wd_5_138 rfl rfl rfl ⟨Nat.le_of_ble_eq_true rfl, Nat.le_of_ble_eq_true rfl⟩ ⟨Nat.zero_le _, Nat.zero_le _⟩ hl.1 (Nat.le_of_ble_eq_true rfl) rfl dX12_isBlade_10 ?_
  obtain ⟨c3, hf⟩ := ck_e hf
  exact gret_z (nb_z c3) E hr hlk dX12_isBlade_13 (som_e hf).symm
