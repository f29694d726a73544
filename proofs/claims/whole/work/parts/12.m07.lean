noncomputable def fX12_ways_L25B (σ : St) (a1 : Int32) (a2 : Int32) (K_25 : Int32 → Option (Int32)) (rec_25 : Int32 → Int32 → Option (Int32)) (x5 : Int32) (x6 : Int32) : Option (Int32) :=
  ck (vp_in 0 47) <|
  if (gI σ 12 0 (0 : Int32).toNatClampNeg) ≤ x6 then
  K_25 x5
  else
  bd (fX12_waysBy σ x6 a1 a2) fun r9 =>
  nmv (x5 + r9) fun v10 =>
  nmv (x6 + 1) fun v11 =>
  rec_25 v10 v11
noncomputable def fX12_ways_L25 (σ : St) (a1 : Int32) (a2 : Int32) (K_25 : Int32 → Option (Int32)) : Nat → Int32 → Int32 → Option (Int32)
  | 0 => fun _ _ => none
  | n + 1 => fX12_ways_L25B σ a1 a2 K_25 (fX12_ways_L25 σ a1 a2 K_25 n)
noncomputable def fX12_ways (σ : St) (a1 : Int32) (a2 : Int32) : Option (Int32) :=
  bd (fX12_isThumbs σ a1) fun r1 =>
  if r1 = 0 then
  some (-1)
  else
  bd (fX12_isIn σ a2 0 99) fun r3 =>
  if r3 = 0 then
  some (-1)
  else
  fX12_ways_L25 σ a1 a2 (fun y12 => some y12) FU 0 0
def rX12_ways : Room := { frames := 7, cells := 0, slots := 0, locals := 161 }
set_option maxHeartbeats 4000000 in
set_option maxRecDepth 100000 in
theorem cX12_waysc {l : Launch} {dC : Nat → ClassId} {dI : Nat → Nat → Nat} {ks : Nat → ClassId} {ad : Nat → Nat → Nat} {σ : St} (a1 : Int32) (a2 : Int32)  {out : Int32} (hf : fX12_ways σ a1 a2 = some out) : MRi l dC dI ks ad σ yX12_ways cX12_ways 5 (some .int) rX12_ways [.ref (ad 14 0), .int a1, .int a2] out := by
  refine met_r (own := RX12) (by decide) rfl (Nat.le_of_ble_eq_true rfl) ?_
  intro p e s m args below meth c ls E hr hlk hP hK hl
  have hx := E.1
  have hb := E.2.1
  have hl : lv_has ls 5 [(0, .ref (ad 14 0)), (1, .int a1), (2, .int a2)] := hl
  unfold fX12_ways at hf
  refine lv_aload_n hx hb dX12_ways_0 rfl (lv_at hl 0 rfl) ?_
  refine lv_iload_n hx hb dX12_ways_1 rfl (lv_at hl 1 rfl) ?_
  obtain ⟨r1, er1, hf⟩ := bd_e hf
  refine gVr_i E hK hP (cX12_isThumbsc _ er1) kV_X12_isThumbs wd_5_192 rfl rfl (q_model ks ad σ) rfl rfl rfl ⟨Nat.le_of_ble_eq_true rfl, Nat.le_of_ble_eq_true rfl⟩ ⟨Nat.zero_le _, Nat.zero_le _⟩ hl.1 (Nat.le_of_ble_eq_true rfl) rfl dX12_ways_2 ?_
  refine lv_if_eq (tgt := 18) hx hb dX12_ways_5 (by decide) (fun c2 => ?_) (fun c2 => ?_)
  · replace hf := pos_e c2 hf
    refine lv_iconst (v := -1) hx hb dX12_ways_18 (by decide) ?_
    exact gret_i E hr hlk dX12_ways_19 (som_e hf).symm
  · replace hf := neg_e c2 hf
    refine lv_iload_n hx hb dX12_ways_8 rfl (lv_at hl 2 rfl) ?_
    refine lv_iconst (v := 0) hx hb dX12_ways_9 (by decide) ?_
    refine lv_bipush (v := 99) hx hb dX12_ways_10 (by decide) ?_
    obtain ⟨r3, er3, hf⟩ := bd_e hf
    refine gSr_i E hK hP (cX12_isInc _ _ _ er3) kS_X12_isIn wd_5_138 rfl rfl rfl ⟨Nat.le_of_ble_eq_true rfl, Nat.le_of_ble_eq_true rfl⟩ ⟨Nat.zero_le _, Nat.zero_le _⟩ hl.1 (Nat.le_of_ble_eq_true rfl) rfl dX12_ways_12 ?_
    refine lv_if_ne (tgt := 20) hx hb dX12_ways_15 (by decide) (fun c4 => ?_) (fun c4 => ?_)
    · replace hf := neg_e c4 hf
      refine lv_iconst (v := 0) hx hb dX12_ways_20 (by decide) ?_
      refine lv_istore_n (lv' := [(3, .int 0), (0, .ref (ad 14 0)), (1, .int a1), (2, .int a2)]) hx hb dX12_ways_21 rfl hl (by decide) rfl (fun ls hl => ?_)
      refine lv_iconst (v := 0) hx hb dX12_ways_22 (by decide) ?_
      refine lv_istore (lv' := [(4, .int 0), (3, .int 0), (0, .ref (ad 14 0)), (1, .int a1), (2, .int a2)]) hx hb dX12_ways_23 hl (by decide) rfl (fun ls hl => ?_)
      have loop_25 : ∀ (K_25 : Int32 → Option (Int32)) (hK_25 : (∀ (y12 : Int32) (hf : K_25 y12 = some out) (ls : Array Slot), lv_has ls 5 [(3, .int y12)] → W p l e rX12_ways s m args below meth c s.heap [] 0 0 (MQ below (vp_Si (fun r => r = out)) args s 0 0 (fun _ => False)) (F0 m 53 ls []))) (n_25 : Nat) (x5 : Int32) (x6 : Int32) (hf : fX12_ways_L25 σ a1 a2 K_25 n_25 x5 x6 = some out) (ls : Array Slot), lv_has ls 5 [(0, .ref (ad 14 0)), (1, .int a1), (2, .int a2), (3, .int x5), (4, .int x6)] → W p l e rX12_ways s m args below meth c s.heap [] 0 0 (MQ below (vp_Si (fun r => r = out)) args s 0 0 (fun _ => False)) (F0 m 25 ls []) := by
        intro K_25 hK_25 n_25
        induction n_25 with
        | zero => intro x5 x6 hf; cases hf
        | succ n_25 ih_25 =>
          intro x5 x6 hf ls hl
          have hf : fX12_ways_L25B σ a1 a2 K_25 (fX12_ways_L25 σ a1 a2 K_25 n_25) x5 x6 = some out := hf
          unfold fX12_ways_L25B at hf
          refine lv_iload hx hb dX12_ways_25 (lv_at hl 4 rfl) ?_
          refine lv_aload_n hx hb dX12_ways_27 rfl (lv_at hl 0 rfl) ?_
          refine gget E in_X12 hK hP (q_model ks ad σ) rfl (k := 0) (by decide) wd_5_60 rfl (v := .ref (ad 15 0)) rfl dX12_ways_28 ?_
          refine lv_iconst (v := 0) hx hb dX12_ways_31 (by decide) ?_
          obtain ⟨c7, hf⟩ := ck_e hf
          refine giald E hK hP (q_M0 ks ad σ) c7 dX12_ways_32 ?_
          refine lv_icmp_ge (tgt := 53) hx hb dX12_ways_33 (by decide) (fun c8 => ?_) (fun c8 => ?_)
          · replace hf := pos_e c8 hf
            exact hK_25 _ hf _ (lv_sub hl [3] rfl)
          · replace hf := neg_e c8 hf
            refine lv_iload_n hx hb dX12_ways_36 rfl (lv_at hl 3 rfl) ?_
            refine lv_aload_n hx hb dX12_ways_37 rfl (lv_at hl 0 rfl) ?_
            refine lv_iload hx hb dX12_ways_38 (lv_at hl 4 rfl) ?_
            refine lv_iload_n hx hb dX12_ways_40 rfl (lv_at hl 1 rfl) ?_
            refine lv_iload_n hx hb dX12_ways_41 rfl (lv_at hl 2 rfl) ?_
            obtain ⟨r9, er9, hf⟩ := bd_e hf
            refine gVr_i E hK hP (cX12_waysByc _ _ _ er9) kV_X12_waysBy wd_6_123 rfl rfl (q_model ks ad σ) rfl rfl rfl ⟨Nat.le_of_ble_eq_true rfl, Nat.le_of_ble_eq_true rfl⟩ ⟨Nat.zero_le _, Nat.zero_le _⟩ hl.1 (Nat.le_of_ble_eq_true rfl) rfl dX12_ways_42 ?_
            refine lv_iadd hx hb dX12_ways_45 ?_
            obtain ⟨v10, ev10, hf⟩ := nmv_e hf
            refine lv_nmi ev10 ?_
            refine lv_istore_n (lv' := [(3, .int v10), (0, .ref (ad 14 0)), (1, .int a1), (2, .int a2), (4, .int x6)]) hx hb dX12_ways_46 rfl hl (by decide) rfl (fun ls hl => ?_)
            obtain ⟨v11, ev11, hf⟩ := nmv_e hf
            refine lv_iinc (v := v11) (lv' := [(4, .int v11), (3, .int v10), (0, .ref (ad 14 0)), (1, .int a1), (2, .int a2)]) hx hb dX12_ways_47 hl (k := 4) rfl (by rw [ev11]; rfl) (by decide) rfl (fun ls hl => ?_)
            refine lv_goto (tgt := 25) hx hb dX12_ways_50 (by decide) ?_
            exact ih_25 _ _ hf _ (lv_sub hl [2, 3, 4, 1, 0] rfl)
      refine loop_25 _ (fun y12 hf ls hl => ?_) _ _ _ hf _ (lv_sub hl [2, 3, 4, 1, 0] rfl)
      refine lv_iload_n hx hb dX12_ways_53 rfl (lv_at hl 0 rfl) ?_
      exact gret_i E hr hlk dX12_ways_54 (som_e hf).symm
    · replace hf := pos_e c4 hf
      refine lv_iconst (v := -1) hx hb dX12_ways_18 (by decide) ?_
      exact gret_i E hr hlk dX12_ways_19 (som_e hf).symm
noncomputable def fX12_tune_J178 (x13 : Int32) (rec_117 : Int32 → Option (Int32)) : Option (Int32) :=
  nmv (x13 + 1) fun v16 =>
  rec_117 v16
noncomputable def fX12_tune_L117B (r7 : Int32) (r8 : Int32) (r9 : Int32) (x11 : Int32) (K_117 : Option (Int32)) (rec_117 : Int32 → Option (Int32)) (x13 : Int32) : Option (Int32) :=
  if 6 ≤ x13 then
  K_117
  else
  nmv ((r9 &&& (((1 : Int32) <<< (x11 &&& 31)) ^^^ (-1 : Int32))) &&& (((1 : Int32) <<< (x13 &&& 31)) ^^^ (-1 : Int32))) fun v15 =>
  if x11 = x13 then
  fX12_tune_J178 x13 rec_117
  else
  if ((r7 >>> (x11 &&& 31)) &&& (1 : Int32)) = 1 then
  if ((r8 >>> (x13 &&& 31)) &&& (1 : Int32)) = 1 then
  if v15 = 0 then
  fX12_tune_J178 x13 rec_117
  else
  some 1
  else
  fX12_tune_J178 x13 rec_117
  else
  fX12_tune_J178 x13 rec_117
noncomputable def fX12_tune_L117 (r7 : Int32) (r8 : Int32) (r9 : Int32) (x11 : Int32) (K_117 : Option (Int32)) : Nat → Int32 → Option (Int32)
  | 0 => fun _ => none
  | n + 1 => fX12_tune_L117B r7 r8 r9 x11 K_117 (fX12_tune_L117 r7 r8 r9 x11 K_117 n)
noncomputable def fX12_tune_L107B (r7 : Int32) (r8 : Int32) (r9 : Int32) (K_107 : Option (Int32)) (rec_107 : Int32 → Option (Int32)) (x11 : Int32) : Option (Int32) :=
  if 6 ≤ x11 then
  K_107
  else
  fX12_tune_L117 r7 r8 r9 x11 (nmv (x11 + 1) fun v21 =>
  rec_107 v21) FU 0
noncomputable def fX12_tune_L107 (r7 : Int32) (r8 : Int32) (r9 : Int32) (K_107 : Option (Int32)) : Nat → Int32 → Option (Int32)
  | 0 => fun _ => none
  | n + 1 => fX12_tune_L107B r7 r8 r9 K_107 (fX12_tune_L107 r7 r8 r9 K_107 n)
noncomputable def fX12_tune_J91 (r9 : Int32) (z22 : Int32) (z23 : Int32) : Option (Int32) :=
  if r9 ≤ 0 then
  some ((z22 + z23) + 0)
  else
  some ((z22 + z23) + 1)
noncomputable def fX12_tune_J81 (r8 : Int32) (r9 : Int32) (z22 : Int32) : Option (Int32) :=
  if r8 ≤ 0 then
  fX12_tune_J91 r9 z22 0
  else
  fX12_tune_J91 r9 z22 1
noncomputable def fX12_tune (σ : St) (a1 : Int32) (a2 : Int32) (a3 : Int32) : Option (Int32) :=
  bd (fX12_isThumbs σ a1) fun r1 =>
  if r1 = 0 then
  some (-1)
  else
  bd (fX12_isIn σ a2 0 999999) fun r3 =>
  if r3 = 0 then
  some (-1)
  else
  bd (fX12_isIn σ a3 0 1) fun r5 =>
  if r5 = 0 then
  some (-1)
  else
  bd (fX12_bladesFor σ a1 (a2 / 10000)) fun r7 =>
  bd (fX12_bladesFor σ a1 ((a2 / 100) - (a2 / 100) / 100 * 100)) fun r8 =>
  bd (fX12_bladesFor σ a1 (a2 - a2 / 100 * 100)) fun r9 =>
  if a3 = 1 then
  if r7 ≤ 0 then
  fX12_tune_J81 r8 r9 0
  else
  fX12_tune_J81 r8 r9 1
  else
  fX12_tune_L107 r7 r8 r9 (some 0) FU 0
def rX12_tune : Room := { frames := 8, cells := 0, slots := 0, locals := 185 }
set_option maxHeartbeats 4000000 in
set_option maxRecDepth 100000 in
theorem cX12_tunec {l : Launch} {dC : Nat → ClassId} {dI : Nat → Nat → Nat} {ks : Nat → ClassId} {ad : Nat → Nat → Nat} {σ : St} (a1 : Int32) (a2 : Int32) (a3 : Int32)  {out : Int32} (hf : fX12_tune σ a1 a2 a3 = some out) : MRi l dC dI ks ad σ yX12_tune cX12_tune 10 (some .int) rX12_tune [.ref (ad 14 0), .int a1, .int a2, .int a3] out := by
  refine met_r (own := RX12) (by decide) rfl (Nat.le_of_ble_eq_true rfl) ?_
  intro p e s m args below meth c ls E hr hlk hP hK hl
  have hx := E.1
  have hb := E.2.1
  have hl : lv_has ls 10 [(0, .ref (ad 14 0)), (1, .int a1), (2, .int a2), (3, .int a3)] := hl
  unfold fX12_tune at hf
  refine lv_aload_n hx hb dX12_tune_0 rfl (lv_at hl 0 rfl) ?_
  refine lv_iload_n hx hb dX12_tune_1 rfl (lv_at hl 1 rfl) ?_
  obtain ⟨r1, er1, hf⟩ := bd_e hf
  refine gVr_i E hK hP (cX12_isThumbsc _ er1) kV_X12_isThumbs wd_5_192 rfl rfl (q_model ks ad σ) rfl rfl rfl ⟨Nat.le_of_ble_eq_true rfl, Nat.le_of_ble_eq_true rfl⟩ ⟨Nat.zero_le _, Nat.zero_le _⟩ hl.1 (Nat.le_of_ble_eq_true rfl) rfl dX12_tune_2 ?_
  refine lv_if_eq (tgt := 27) hx hb dX12_tune_5 (by decide) (fun c2 => ?_) (fun c2 => ?_)
  · replace hf := pos_e c2 hf
    refine lv_iconst (v := -1) hx hb dX12_tune_27 (by decide) ?_
    exact gret_i E hr hlk dX12_tune_28 (som_e hf).symm
  · replace hf := neg_e c2 hf
    refine lv_iload_n hx hb dX12_tune_8 rfl (lv_at hl 2 rfl) ?_
    refine lv_iconst (v := 0) hx hb dX12_tune_9 (by decide) ?_
    refine lv_ldc (v := 999999) hx hb E.2.2.2.1 (E.2.2.2.2 _ wd_6_135) dX12_tune_10 ?_
    obtain ⟨r3, er3, hf⟩ := bd_e hf
    refine gSr_i E hK hP (cX12_isInc _ _ _ er3) kS_X12_isIn wd_5_138 rfl rfl rfl ⟨Nat.le_of_ble_eq_true rfl, Nat.le_of_ble_eq_true rfl⟩ ⟨Nat.zero_le _, Nat.zero_le _⟩ hl.1 (Nat.le_of_ble_eq_true rfl) rfl dX12_tune_12 ?_
    refine lv_if_eq (tgt := 27) hx hb dX12_tune_15 (by decide) (fun c4 => ?_) (fun c4 => ?_)
    · replace hf := pos_e c4 hf
      refine lv_iconst (v := -1) hx hb dX12_tune_27 (by decide) ?_
      exact gret_i E hr hlk dX12_tune_28 (som_e hf).symm
    · replace hf := neg_e c4 hf
      refine lv_iload_n hx hb dX12_tune_18 rfl (lv_at hl 3 rfl) ?_
      refine lv_iconst (v := 0) hx hb dX12_tune_19 (by decide) ?_
      refine lv_iconst (v := 1) hx hb dX12_tune_20 (by decide) ?_
      obtain ⟨r5, er5, hf⟩ := bd_e hf
      refine gSr_i E hK hP (cX12_isInc _ _ _ er5) kS_X12_isIn wd_5_138 rfl rfl rfl ⟨Nat.le_of_ble_eq_true rfl, Nat.le_of_ble_eq_true rfl⟩ ⟨Nat.zero_le _, Nat.zero_le _⟩ hl.1 (Nat.le_of_ble_eq_true rfl) rfl dX12_tune_21 ?_
      refine lv_if_ne (tgt := 29) hx hb dX12_tune_24 (by decide) (fun c6 => ?_) (fun c6 => ?_)
      · replace hf := neg_e c6 hf
        refine lv_aload_n hx hb dX12_tune_29 rfl (lv_at hl 0 rfl) ?_
        refine lv_iload_n hx hb dX12_tune_30 rfl (lv_at hl 1 rfl) ?_
        refine lv_iload_n hx hb dX12_tune_31 rfl (lv_at hl 2 rfl) ?_
        refine lv_sipush (v := 10000) hx hb dX12_tune_32 (by decide) ?_
        refine lv_idiv hx hb dX12_tune_35 (by decide) ?_
        obtain ⟨r7, er7, hf⟩ := bd_e hf
        refine gVr_i E hK hP (cX12_bladesForc _ _ er7) kV_X12_bladesFor wd_6_136 rfl rfl (q_model ks ad σ) rfl rfl rfl ⟨Nat.le_of_ble_eq_true rfl, Nat.le_of_ble_eq_true rfl⟩ ⟨Nat.zero_le _, Nat.zero_le _⟩ hl.1 (Nat.le_of_ble_eq_true rfl) rfl dX12_tune_36 ?_
        refine lv_istore (lv' := [(4, .int r7), (0, .ref (ad 14 0)), (1, .int a1), (2, .int a2), (3, .int a3)]) hx hb dX12_tune_39 hl (by decide) rfl (fun ls hl => ?_)
        refine lv_aload_n hx hb dX12_tune_41 rfl (lv_at hl 1 rfl) ?_
        refine lv_iload_n hx hb dX12_tune_42 rfl (lv_at hl 2 rfl) ?_
        refine lv_iload_n hx hb dX12_tune_43 rfl (lv_at hl 3 rfl) ?_
        refine lv_bipush (v := 100) hx hb dX12_tune_44 (by decide) ?_
        refine lv_idiv hx hb dX12_tune_46 (by decide) ?_
        refine lv_bipush (v := 100) hx hb dX12_tune_47 (by decide) ?_
        refine lv_irem hx hb dX12_tune_49 (by decide) ?_
        obtain ⟨r8, er8, hf⟩ := bd_e hf
        refine gVr_i E hK hP (cX12_bladesForc _ _ er8) kV_X12_bladesFor wd_6_136 rfl rfl (q_model ks ad σ) rfl rfl rfl ⟨Nat.le_of_ble_eq_true rfl, Nat.le_of_ble_eq_true rfl⟩ ⟨Nat.zero_le _, Nat.zero_le _⟩ hl.1 (Nat.le_of_ble_eq_true rfl) rfl dX12_tune_50 ?_
        refine lv_istore (lv' := [(5, .int r8), (4, .int r7), (0, .ref (ad 14 0)), (1, .int a1), (2, .int a2), (3, .int a3)]) hx hb dX12_tune_53 hl (by decide) rfl (fun ls hl => ?_)
        refine lv_aload_n hx hb dX12_tune_55 rfl (lv_at hl 2 rfl) ?_
        refine lv_iload_n hx hb dX12_tune_56 rfl (lv_at hl 3 rfl) ?_
        refine lv_iload_n hx hb dX12_tune_57 rfl (lv_at hl 4 rfl) ?_
        refine lv_bipush (v := 100) hx hb dX12_tune_58 (by decide) ?_
        refine lv_irem hx hb dX12_tune_60 (by decide) ?_
        obtain ⟨r9, er9, hf⟩ := bd_e hf
        refine gVr_i E hK hP (cX12_bladesForc _ _ er9) kV_X12_bladesFor wd_6_136 rfl rfl (q_model ks ad σ) rfl rfl rfl ⟨Nat.le_of_ble_eq_true rfl, Nat.le_of_ble_eq_true rfl⟩ ⟨Nat.zero_le _, Nat.zero_le _⟩ hl.1 (Nat.le_of_ble_eq_true rfl) rfl dX12_tune_61 ?_
        refine lv_istore (lv' := [(6, .int r9), (5, .int r8), (4, .int r7), (0, .ref (ad 14 0)), (1, .int a1), (2, .int a2), (3, .int a3)]) hx hb dX12_tune_64 hl (by decide) rfl (fun ls hl => ?_)
        refine lv_iload_n hx hb dX12_tune_66 rfl (lv_at hl 6 rfl) ?_
        refine lv_iconst (v := 1) hx hb dX12_tune_67 (by decide) ?_
        refine lv_icmp_ne (tgt := 104) hx hb dX12_tune_68 (by decide) (fun c10 => ?_) (fun c10 => ?_)
        · replace hf := neg_e c10 hf
          refine lv_iconst (v := 0) hx hb dX12_tune_104 (by decide) ?_
          refine lv_istore (lv' := [(7, .int 0), (6, .int r9), (5, .int r8), (4, .int r7), (0, .ref (ad 14 0)), (1, .int a1), (2, .int a2), (3, .int a3)]) hx hb dX12_tune_105 hl (by decide) rfl (fun ls hl => ?_)
          have loop_107 : ∀ (K_107 : Option (Int32)) (hK_107 : (∀ (hf : K_107 = some out) (ls : Array Slot), lv_has ls 10 [] → W p l e rX12_tune s m args below meth c s.heap [] 0 0 (MQ below (vp_Si (fun r => r = out)) args s 0 0 (fun _ => False)) (F0 m 190 ls []))) (n_107 : Nat) (x11 : Int32) (hf : fX12_tune_L107 r7 r8 r9 K_107 n_107 x11 = some out) (ls : Array Slot), lv_has ls 10 [(4, .int r7), (5, .int r8), (6, .int r9), (7, .int x11)] → W p l e rX12_tune s m args below meth c s.heap [] 0 0 (MQ below (vp_Si (fun r => r = out)) args s 0 0 (fun _ => False)) (F0 m 107 ls []) := by
            intro K_107 hK_107 n_107
            induction n_107 with
            | zero => intro x11 hf; cases hf
            | succ n_107 ih_107 =>
              intro x11 hf ls hl
              have hf : fX12_tune_L107B r7 r8 r9 K_107 (fX12_tune_L107 r7 r8 r9 K_107 n_107) x11 = some out := hf
              unfold fX12_tune_L107B at hf
              refine lv_iload hx hb dX12_tune_107 (lv_at hl 3 rfl) ?_
              refine lv_bipush (v := 6) hx hb dX12_tune_109 (by decide) ?_
              refine lv_icmp_ge (tgt := 190) hx hb dX12_tune_111 (by decide) (fun c12 => ?_) (fun c12 => ?_)
              · replace hf := pos_e c12 hf
                exact hK_107 hf _ (lv_sub hl [] rfl)
              · replace hf := neg_e c12 hf
                refine lv_iconst (v := 0) hx hb dX12_tune_114 (by decide) ?_
                refine lv_istore (lv' := [(8, .int 0), (4, .int r7), (5, .int r8), (6, .int r9), (7, .int x11)]) hx hb dX12_tune_115 hl (by decide) rfl (fun ls hl => ?_)
                have loop_117 : ∀ (K_117 : Option (Int32)) (hK_117 : (∀ (hf : K_117 = some out) (ls : Array Slot), lv_has ls 10 [(4, .int r7), (5, .int r8), (6, .int r9), (7, .int x11)] → W p l e rX12_tune s m args below meth c s.heap [] 0 0 (MQ below (vp_Si (fun r => r = out)) args s 0 0 (fun _ => False)) (F0 m 184 ls []))) (n_117 : Nat) (x13 : Int32) (hf : fX12_tune_L117 r7 r8 r9 x11 K_117 n_117 x13 = some out) (ls : Array Slot), lv_has ls 10 [(4, .int r7), (5, .int r8), (6, .int r9), (7, .int x11), (8, .int x13)] → W p l e rX12_tune s m args below meth c s.heap [] 0 0 (MQ below (vp_Si (fun r => r = out)) args s 0 0 (fun _ => False)) (F0 m 117 ls []) := by
                  intro K_117 hK_117 n_117
                  induction n_117 with
                  | zero => intro x13 hf; cases hf
                  | succ n_117 ih_117 =>
                    intro x13 hf ls hl
                    have hf : fX12_tune_L117B r7 r8 r9 x11 K_117 (fX12_tune_L117 r7 r8 r9 x11 K_117 n_117) x13 = some out := hf
                    unfold fX12_tune_L117B at hf
                    refine lv_iload hx hb dX12_tune_117 (lv_at hl 4 rfl) ?_
                    refine lv_bipush (v := 6) hx hb dX12_tune_119 (by decide) ?_
                    refine lv_icmp_ge (tgt := 184) hx hb dX12_tune_121 (by decide) (fun c14 => ?_) (fun c14 => ?_)
                    · replace hf := pos_e c14 hf
                      exact hK_117 hf _ (lv_sub hl [0, 1, 2, 3] rfl)
                    · replace hf := neg_e c14 hf
                      refine lv_iload hx hb dX12_tune_124 (lv_at hl 2 rfl) ?_
                      refine lv_iconst (v := 1) hx hb dX12_tune_126 (by decide) ?_
                      refine lv_iload hx hb dX12_tune_127 (lv_at hl 3 rfl) ?_
                      refine lv_ishl hx hb dX12_tune_129 ?_
                      refine lv_iconst (v := -1) hx hb dX12_tune_130 (by decide) ?_
                      refine lv_ixor hx hb dX12_tune_131 ?_
                      refine lv_iand hx hb dX12_tune_132 ?_
                      refine lv_iconst (v := 1) hx hb dX12_tune_133 (by decide) ?_
                      refine lv_iload hx hb dX12_tune_134 (lv_at hl 4 rfl) ?_
                      refine lv_ishl hx hb dX12_tune_136 ?_
                      refine lv_iconst (v := -1) hx hb dX12_tune_137 (by decide) ?_
                      refine lv_ixor hx hb dX12_tune_138 ?_
                      refine lv_iand hx hb dX12_tune_139 ?_
                      obtain ⟨v15, ev15, hf⟩ := nmv_e hf
                      refine lv_nmi ev15 ?_
                      refine lv_istore (lv' := [(9, .int v15), (4, .int r7), (5, .int r8), (6, .int r9), (7, .int x11), (8, .int x13)]) hx hb dX12_tune_140 hl (by decide) rfl (fun ls hl => ?_)
                      refine lv_iload hx hb dX12_tune_142 (lv_at hl 4 rfl) ?_
                      refine lv_iload hx hb dX12_tune_144 (lv_at hl 5 rfl) ?_
                      have hJ_178 : ∀ (hf : fX12_tune_J178 x13 (fX12_tune_L117 r7 r8 r9 x11 K_117 n_117) = some out) (ls : Array Slot), lv_has ls 10 [(4, .int r7), (5, .int r8), (6, .int r9), (7, .int x11), (8, .int x13)] → W p l e rX12_tune s m args below meth c s.heap [] 0 0 (MQ below (vp_Si (fun r => r = out)) args s 0 0 (fun _ => False)) (F0 m 178 ls []) := by
                        intro hf ls hl
                        unfold fX12_tune_J178 at hf
                        obtain ⟨v16, ev16, hf⟩ := nmv_e hf
                        refine lv_iinc (v := v16) (lv' := [(8, .int v16), (4, .int r7), (5, .int r8), (6, .int r9), (7, .int x11)]) hx hb dX12_tune_178 hl (k := 4) rfl (by rw [ev16]; rfl) (by decide) rfl (fun ls hl => ?_)
                        refine lv_goto (tgt := 117) hx hb dX12_tune_181 (by decide) ?_
                        exact ih_117 _ hf _ (lv_sub hl [1, 2, 3, 4, 0] rfl)
                      refine lv_icmp_eq (tgt := 178) hx hb dX12_tune_146 (by decide) (fun c17 => ?_) (fun c17 => ?_)
                      · replace hf := pos_e c17 hf
                        exact hJ_178 hf _ (lv_sub hl [1, 2, 3, 4, 5] rfl)
                      · replace hf := neg_e c17 hf
                        refine lv_iload hx hb dX12_tune_149 (lv_at hl 1 rfl) ?_
                        refine lv_iload hx hb dX12_tune_151 (lv_at hl 4 rfl) ?_
                        refine lv_ishr hx hb dX12_tune_153 ?_
                        refine lv_iconst (v := 1) hx hb dX12_tune_154 (by decide) ?_
                        refine lv_iand hx hb dX12_tune_155 ?_
                        refine lv_iconst (v := 1) hx hb dX12_tune_156 (by decide) ?_
                        refine lv_icmp_ne (tgt := 178) hx hb dX12_tune_157 (by decide) (fun c18 => ?_) (fun c18 => ?_)
                        · replace hf := neg_e c18 hf
                          exact hJ_178 hf _ (lv_sub hl [1, 2, 3, 4, 5] rfl)
                        · replace hf := pos_e c18 hf
                          refine lv_iload hx hb dX12_tune_160 (lv_at hl 2 rfl) ?_
                          refine lv_iload hx hb dX12_tune_162 (lv_at hl 5 rfl) ?_
                          refine lv_ishr hx hb dX12_tune_164 ?_
                          refine lv_iconst (v := 1) hx hb dX12_tune_165 (by decide) ?_
                          refine lv_iand hx hb dX12_tune_166 ?_
                          refine lv_iconst (v := 1) hx hb dX12_tune_167 (by decide) ?_
                          refine lv_icmp_ne (tgt := 178) hx hb dX12_tune_168 (by decide) (fun c19 => ?_) (fun c19 => ?_)
                          · replace hf := neg_e c19 hf
                            exact hJ_178 hf _ (lv_sub hl [1, 2, 3, 4, 5] rfl)
                          · replace hf := pos_e c19 hf
                            refine lv_iload hx hb dX12_tune_171 (lv_at hl 0 rfl) ?_
                            refine lv_if_eq (tgt := 178) hx hb dX12_tune_173 (by decide) (fun c20 => ?_) (fun c20 => ?_)
                            · replace hf := pos_e c20 hf
                              exact hJ_178 hf _ (lv_sub hl [1, 2, 3, 4, 5] rfl)
                            · replace hf := neg_e c20 hf
                              refine lv_iconst (v := 1) hx hb dX12_tune_176 (by decide) ?_
                              exact gret_i E hr hlk dX12_tune_177 (som_e hf).symm
                refine loop_117 _ (fun hf ls hl => ?_) _ _ hf _ (lv_sub hl [1, 2, 3, 4, 0] rfl)
                obtain ⟨v21, ev21, hf⟩ := nmv_e hf
                refine lv_iinc (v := v21) (lv' := [(7, .int v21), (4, .int r7), (5, .int r8), (6, .int r9)]) hx hb dX12_tune_184 hl (k := 3) rfl (by rw [ev21]; rfl) (by decide) rfl (fun ls hl => ?_)
                refine lv_goto (tgt := 107) hx hb dX12_tune_187 (by decide) ?_
                exact ih_107 _ hf _ (lv_sub hl [1, 2, 3, 0] rfl)
          refine loop_107 _ (fun hf ls hl => ?_) _ _ hf _ (lv_sub hl [3, 2, 1, 0] rfl)
          refine lv_iconst (v := 0) hx hb dX12_tune_190 (by decide) ?_
          exact gret_i E hr hlk dX12_tune_191 (som_e hf).symm
        · replace hf := pos_e c10 hf
          refine lv_iload hx hb dX12_tune_71 (lv_at hl 2 rfl) ?_
          have hJ_81 : ∀ (z22 : Int32) (hf : fX12_tune_J81 r8 r9 z22 = some out) (ls : Array Slot), lv_has ls 10 [(5, .int r8), (6, .int r9)] → W p l e rX12_tune s m args below meth c s.heap [] 0 0 (MQ below (vp_Si (fun r => r = out)) args s 0 0 (fun _ => False)) (F0 m 81 ls [.int z22]) := by
            intro z22 hf ls hl
            unfold fX12_tune_J81 at hf
            refine lv_iload hx hb dX12_tune_81 (lv_at hl 0 rfl) ?_
            have hJ_91 : ∀ (z23 : Int32) (hf : fX12_tune_J91 r9 z22 z23 = some out) (ls : Array Slot), lv_has ls 10 [(6, .int r9)] → W p l e rX12_tune s m args below meth c s.heap [] 0 0 (MQ below (vp_Si (fun r => r = out)) args s 0 0 (fun _ => False)) (F0 m 91 ls [.int z23, .int z22]) := by
              intro z23 hf ls hl
              unfold fX12_tune_J91 at hf
              refine lv_iadd hx hb dX12_tune_91 ?_
              refine lv_iload hx hb dX12_tune_92 (lv_at hl 0 rfl) ?_
              refine lv_if_le (tgt := 101) hx hb dX12_tune_94 (by decide) (fun c24 => ?_) (fun c24 => ?_)
              · replace hf := pos_e c24 hf
                refine lv_iconst (v := 0) hx hb dX12_tune_101 (by decide) ?_
                refine lv_iadd hx hb dX12_tune_102 ?_
                exact gret_i E hr hlk dX12_tune_103 (som_e hf).symm
              · replace hf := neg_e c24 hf
                refine lv_iconst (v := 1) hx hb dX12_tune_97 (by decide) ?_
                refine lv_goto (tgt := 102) hx hb dX12_tune_98 (by decide) ?_
                refine lv_iadd hx hb dX12_tune_102 ?_
                exact gret_i E hr hlk dX12_tune_103 (som_e hf).symm
            refine lv_if_le (tgt := 90) hx hb dX12_tune_83 (by decide) (fun c25 => ?_) (fun c25 => ?_)
            · replace hf := pos_e c25 hf
              refine lv_iconst (v := 0) hx hb dX12_tune_90 (by decide) ?_
              exact hJ_91 _ hf _ (lv_sub hl [1] rfl)
            · replace hf := neg_e c25 hf
              refine lv_iconst (v := 1) hx hb dX12_tune_86 (by decide) ?_
              refine lv_goto (tgt := 91) hx hb dX12_tune_87 (by decide) ?_
              exact hJ_91 _ hf _ (lv_sub hl [1] rfl)
          refine lv_if_le (tgt := 80) hx hb dX12_tune_73 (by decide) (fun c26 => ?_) (fun c26 => ?_)
          · replace hf := pos_e c26 hf
            refine lv_iconst (v := 0) hx hb dX12_tune_80 (by decide) ?_
            exact hJ_81 _ hf _ (lv_sub hl [1, 0] rfl)
          · replace hf := neg_e c26 hf
            refine lv_iconst (v := 1) hx hb dX12_tune_76 (by decide) ?_
            refine lv_goto (tgt := 81) hx hb dX12_tune_77 (by decide) ?_
            exact hJ_81 _ hf _ (lv_sub hl [1, 0] rfl)
      · replace hf := pos_e c6 hf
        refine lv_iconst (v := -1) hx hb dX12_tune_27 (by decide) ?_
        exact gret_i E hr hlk dX12_tune_28 (som_e hf).symm
noncomputable def fX12_lastsOf_L11B (σ : St) (a1 : Int32) (a2 : Int32) (a3 : Int32) (K_11 : Option (Int32)) (rec_11 : Int32 → Int32 → Option (Int32)) (x2 : Int32) (x3 : Int32) : Option (Int32) :=
  if 99 ≤ x3 then
  K_11
  else
  bd (fX12_wears σ a2 a3) fun r5 =>
  nmv (x2 + r5) fun v6 =>
  bd (fX12_bladeOf σ a1 1) fun r7 =>
  bd (fX12_bladeOf σ a1 2) fun r8 =>
  if v6 ≤ (r7 + r8) then
  nmv (x3 + 1) fun v10 =>
  rec_11 v6 v10
  else
  some x3
noncomputable def fX12_lastsOf_L11 (σ : St) (a1 : Int32) (a2 : Int32) (a3 : Int32) (K_11 : Option (Int32)) : Nat → Int32 → Int32 → Option (Int32)
  | 0 => fun _ _ => none
  | n + 1 => fX12_lastsOf_L11B σ a1 a2 a3 K_11 (fX12_lastsOf_L11 σ a1 a2 a3 K_11 n)
noncomputable def fX12_lastsOf (σ : St) (a1 : Int32) (a2 : Int32) (a3 : Int32) : Option (Int32) :=
  bd (fX12_bladeOf σ a1 3) fun r1 =>
  fX12_lastsOf_L11 σ a1 a2 a3 (some 99) FU r1 1
def rX12_lastsOf : Room := { frames := 3, cells := 0, slots := 0, locals := 65 }
set_option maxHeartbeats 4000000 in
set_option maxRecDepth 100000 in
theorem cX12_lastsOfc {l : Launch} {dC : Nat → ClassId} {dI : Nat → Nat → Nat} {ks : Nat → ClassId} {ad : Nat → Nat → Nat} {σ : St} (a1 : Int32) (a2 : Int32) (a3 : Int32)  {out : Int32} (hf : fX12_lastsOf σ a1 a2 a3 = some out) : MRi l dC dI ks ad σ yX12_lastsOf cX12_lastsOf 6 (some .int) rX12_lastsOf [.ref (ad 14 0), .int a1, .int a2, .int a3] out := by
  refine met_r (own := RX12) (by decide) rfl (Nat.le_of_ble_eq_true rfl) ?_
  intro p e s m args below meth c ls E hr hlk hP hK hl
  have hx := E.1
  have hb := E.2.1
  have hl : lv_has ls 6 [(0, .ref (ad 14 0)), (1, .int a1), (2, .int a2), (3, .int a3)] := hl
  unfold fX12_lastsOf at hf
  refine lv_aload_n hx hb dX12_lastsOf_0 rfl (lv_at hl 0 rfl) ?_
  refine lv_iload_n hx hb dX12_lastsOf_1 rfl (lv_at hl 1 rfl) ?_
  refine lv_iconst (v := 3) hx hb dX12_lastsOf_2 (by decide) ?_
  obtain ⟨r1, er1, hf⟩ := bd_e hf
  refine gVr_i E hK hP (cX12_bladeOfc _ _ er1) kV_X12_bladeOf wd_5_204 rfl rfl (q_model ks ad σ) rfl rfl rfl ⟨Nat.le_of_ble_eq_true rfl, Nat.le_of_ble_eq_true rfl⟩ ⟨Nat.zero_le _, Nat.zero_le _⟩ hl.1 (Nat.le_of_ble_eq_true rfl) rfl dX12_lastsOf_3 ?_
  refine lv_istore (lv' := [(4, .int r1), (0, .ref (ad 14 0)), (1, .int a1), (2, .int a2), (3, .int a3)]) hx hb dX12_lastsOf_6 hl (by decide) rfl (fun ls hl => ?_)
  refine lv_iconst (v := 1) hx hb dX12_lastsOf_8 (by decide) ?_
  refine lv_istore (lv' := [(5, .int 1), (4, .int r1), (0, .ref (ad 14 0)), (1, .int a1), (2, .int a2), (3, .int a3)]) hx hb dX12_lastsOf_9 hl (by decide) rfl (fun ls hl => ?_)
  have loop_11 : ∀ (K_11 : Option (Int32)) (hK_11 : (∀ (hf : K_11 = some out) (ls : Array Slot), lv_has ls 6 [] → W p l e rX12_lastsOf s m args below meth c s.heap [] 0 0 (MQ below (vp_Si (fun r => r = out)) args s 0 0 (fun _ => False)) (F0 m 56 ls []))) (n_11 : Nat) (x2 : Int32) (x3 : Int32) (hf : fX12_lastsOf_L11 σ a1 a2 a3 K_11 n_11 x2 x3 = some out) (ls : Array Slot), lv_has ls 6 [(0, .ref (ad 14 0)), (1, .int a1), (2, .int a2), (3, .int a3), (4, .int x2), (5, .int x3)] → W p l e rX12_lastsOf s m args below meth c s.heap [] 0 0 (MQ below (vp_Si (fun r => r = out)) args s 0 0 (fun _ => False)) (F0 m 11 ls []) := by
    intro K_11 hK_11 n_11
    induction n_11 with
    | zero => intro x2 x3 hf; cases hf
    | succ n_11 ih_11 =>
      intro x2 x3 hf ls hl
      have hf : fX12_lastsOf_L11B σ a1 a2 a3 K_11 (fX12_lastsOf_L11 σ a1 a2 a3 K_11 n_11) x2 x3 = some out := hf
      unfold fX12_lastsOf_L11B at hf
      refine lv_iload hx hb dX12_lastsOf_11 (lv_at hl 5 rfl) ?_
      refine lv_bipush (v := 99) hx hb dX12_lastsOf_13 (by decide) ?_
      refine lv_icmp_ge (tgt := 56) hx hb dX12_lastsOf_15 (by decide) (fun c4 => ?_) (fun c4 => ?_)
      · replace hf := pos_e c4 hf
        exact hK_11 hf _ (lv_sub hl [] rfl)
      · replace hf := neg_e c4 hf
        refine lv_iload hx hb dX12_lastsOf_18 (lv_at hl 4 rfl) ?_
        refine lv_aload_n hx hb dX12_lastsOf_20 rfl (lv_at hl 0 rfl) ?_
        refine lv_iload_n hx hb dX12_lastsOf_21 rfl (lv_at hl 2 rfl) ?_
        refine lv_iload_n hx hb dX12_lastsOf_22 rfl (lv_at hl 3 rfl) ?_
        obtain ⟨r5, er5, hf⟩ := bd_e hf
        refine gVr_i E hK hP (cX12_wearsc _ _ er5) kV_X12_wears wd_5_208 rfl rfl (q_model ks ad σ) rfl rfl rfl ⟨Nat.le_of_ble_eq_true rfl, Nat.le_of_ble_eq_true rfl⟩ ⟨Nat.zero_le _, Nat.zero_le _⟩ hl.1 (Nat.le_of_ble_eq_true rfl) rfl dX12_lastsOf_23 ?_
        refine lv_iadd hx hb dX12_lastsOf_26 ?_
        obtain ⟨v6, ev6, hf⟩ := nmv_e hf
        refine lv_nmi ev6 ?_
        refine lv_istore (lv' := [(4, .int v6), (0, .ref (ad 14 0)), (1, .int a1), (2, .int a2), (3, .int a3), (5, .int x3)]) hx hb dX12_lastsOf_27 hl (by decide) rfl (fun ls hl => ?_)
        refine lv_iload hx hb dX12_lastsOf_29 (lv_at hl 0 rfl) ?_
        refine lv_aload_n hx hb dX12_lastsOf_31 rfl (lv_at hl 1 rfl) ?_
        refine lv_iload_n hx hb dX12_lastsOf_32 rfl (lv_at hl 2 rfl) ?_
        refine lv_iconst (v := 1) hx hb dX12_lastsOf_33 (by decide) ?_
        obtain ⟨r7, er7, hf⟩ := bd_e hf
        refine gVr_i E hK hP (cX12_bladeOfc _ _ er7) kV_X12_bladeOf wd_5_204 rfl rfl (q_model ks ad σ) rfl rfl rfl ⟨Nat.le_of_ble_eq_true rfl, Nat.le_of_ble_eq_true rfl⟩ ⟨Nat.zero_le _, Nat.zero_le _⟩ hl.1 (Nat.le_of_ble_eq_true rfl) rfl dX12_lastsOf_34 ?_
        refine lv_aload_n hx hb dX12_lastsOf_37 rfl (lv_at hl 1 rfl) ?_
        refine lv_iload_n hx hb dX12_lastsOf_38 rfl (lv_at hl 2 rfl) ?_
        refine lv_iconst (v := 2) hx hb dX12_lastsOf_39 (by decide) ?_
        obtain ⟨r8, er8, hf⟩ := bd_e hf
        refine gVr_i E hK hP (cX12_bladeOfc _ _ er8) kV_X12_bladeOf wd_5_204 rfl rfl (q_model ks ad σ) rfl rfl rfl ⟨Nat.le_of_ble_eq_true rfl, Nat.le_of_ble_eq_true rfl⟩ ⟨Nat.zero_le _, Nat.zero_le _⟩ hl.1 (Nat.le_of_ble_eq_true rfl) rfl dX12_lastsOf_40 ?_
        refine lv_iadd hx hb dX12_lastsOf_43 ?_
        refine lv_icmp_le (tgt := 50) hx hb dX12_lastsOf_44 (by decide) (fun c9 => ?_) (fun c9 => ?_)
        · replace hf := pos_e c9 hf
          obtain ⟨v10, ev10, hf⟩ := nmv_e hf
          refine lv_iinc (v := v10) (lv' := [(5, .int v10), (4, .int v6), (0, .ref (ad 14 0)), (1, .int a1), (2, .int a2), (3, .int a3)]) hx hb dX12_lastsOf_50 hl (k := 5) rfl (by rw [ev10]; rfl) (by decide) rfl (fun ls hl => ?_)
          refine lv_goto (tgt := 11) hx hb dX12_lastsOf_53 (by decide) ?_
          exact ih_11 _ _ hf _ (lv_sub hl [2, 3, 4, 5, 1, 0] rfl)
        · replace hf := neg_e c9 hf
          refine lv_iload hx hb dX12_lastsOf_47 (lv_at hl 5 rfl) ?_
          exact gret_i E hr hlk dX12_lastsOf_49 (som_e hf).symm
  refine loop_11 _ (fun hf ls hl => ?_) _ _ _ hf _ (lv_sub hl [2, 3, 4, 5, 1, 0] rfl)
  refine lv_bipush (v := 99) hx hb dX12_lastsOf_56 (by decide) ?_
  exact gret_i E hr hlk dX12_lastsOf_58 (som_e hf).symm
noncomputable def fX12_lasts (σ : St) (a1 : Int32) (a2 : Int32) (a3 : Int32) : Option (Int32) :=
  bd (fX12_isBlade σ a1) fun r1 =>
  if r1 = 0 then
  some (-1)
  else
  bd (fX12_isBlow σ a2) fun r3 =>
  if r3 = 0 then
  some (-1)
  else
  bd (fX12_isForce σ a3) fun r5 =>
  if r5 = 0 then
  some (-1)
  else
  bd (fX12_isSplit σ a1) fun r7 =>
  if r7 = 0 then
  bd (fX12_lastsOf σ a1 a2 a3) fun r9 =>
  some r9
  else
  some (-3)
def rX12_lasts : Room := { frames := 4, cells := 0, slots := 0, locals := 90 }
set_option maxHeartbeats 4000000 in
set_option maxRecDepth 100000 in
theorem cX12_lastsc {l : Launch} {dC : Nat → ClassId} {dI : Nat → Nat → Nat} {ks : Nat → ClassId} {ad : Nat → Nat → Nat} {σ : St} (a1 : Int32) (a2 : Int32) (a3 : Int32)  {out : Int32} (hf : fX12_lasts σ a1 a2 a3 = some out) : MRi l dC dI ks ad σ yX12_lasts cX12_lasts 4 (some .int) rX12_lasts [.ref (ad 14 0), .int a1, .int a2, .int a3] out := by
  refine met_r (own := RX12) (by decide) rfl (Nat.le_of_ble_eq_true rfl) ?_
  intro p e s m args below meth c ls E hr hlk hP hK hl
  have hx := E.1
  have hb := E.2.1
  have hl : lv_has ls 4 [(0, .ref (ad 14 0)), (1, .int a1), (2, .int a2), (3, .int a3)] := hl
  unfold fX12_lasts at hf
  refine lv_aload_n hx hb dX12_lasts_0 rfl (lv_at hl 0 rfl) ?_
  refine lv_iload_n hx hb dX12_lasts_1 rfl (lv_at hl 1 rfl) ?_
  obtain ⟨r1, er1, hf⟩ := bd_e hf
  refine gVr_i E hK hP (cX12_isBladec _ er1) kV_X12_isBlade wd_5_188 rfl rfl (q_model ks ad σ) rfl rfl rfl ⟨Nat.le_of_ble_eq_true rfl, Nat.le_of_ble_eq_true rfl⟩ ⟨Nat.zero_le _, Nat.zero_le _⟩ hl.1 (Nat.le_of_ble_eq_true rfl) rfl dX12_lasts_2 ?_
  refine lv_if_eq (tgt := 23) hx hb dX12_lasts_5 (by decide) (fun c2 => ?_) (fun c2 => ?_)
  · replace hf := pos_e c2 hf
    refine lv_iconst (v := -1) hx hb dX12_lasts_23 (by decide) ?_
    exact gret_i E hr hlk dX12_lasts_24 (som_e hf).symm
  · replace hf := neg_e c2 hf
    refine lv_aload_n hx hb dX12_lasts_8 rfl (lv_at hl 0 rfl) ?_
    refine lv_iload_n hx hb dX12_lasts_9 rfl (lv_at hl 2 rfl) ?_
    obtain ⟨r3, er3, hf⟩ := bd_e hf
    refine gVr_i E hK hP (cX12_isBlowc _ er3) kV_X12_isBlow wd_5_196 rfl rfl (q_model ks ad σ) rfl rfl rfl ⟨Nat.le_of_ble_eq_true rfl, Nat.le_of_ble_eq_true rfl⟩ ⟨Nat.zero_le _, Nat.zero_le _⟩ hl.1 (Nat.le_of_ble_eq_true rfl) rfl dX12_lasts_10 ?_
    refine lv_if_eq (tgt := 23) hx hb dX12_lasts_13 (by decide) (fun c4 => ?_) (fun c4 => ?_)
    · replace hf := pos_e c4 hf
      refine lv_iconst (v := -1) hx hb dX12_lasts_23 (by decide) ?_
      exact gret_i E hr hlk dX12_lasts_24 (som_e hf).symm
    · replace hf := neg_e c4 hf
      refine lv_iload_n hx hb dX12_lasts_16 rfl (lv_at hl 3 rfl) ?_
      obtain ⟨r5, er5, hf⟩ := bd_e hf
      refine gSr_i E hK hP (cX12_isForcec _ er5) kS_X12_isForce wd_6_8 rfl rfl rfl ⟨Nat.le_of_ble_eq_true rfl, Nat.le_of_ble_eq_true rfl⟩ ⟨Nat.zero_le _, Nat.zero_le _⟩ hl.1 (Nat.le_of_ble_eq_true rfl) rfl dX12_lasts_17 ?_
      refine lv_if_ne (tgt := 25) hx hb dX12_lasts_20 (by decide) (fun c6 => ?_) (fun c6 => ?_)
      · replace hf := neg_e c6 hf
        refine lv_aload_n hx hb dX12_lasts_25 rfl (lv_at hl 0 rfl) ?_
        refine lv_iload_n hx hb dX12_lasts_26 rfl (lv_at hl 1 rfl) ?_
        obtain ⟨r7, er7, hf⟩ := bd_e hf
        refine gVr_i E hK hP (cX12_isSplitc _ er7) kV_X12_isSplit wd_5_200 rfl rfl (q_model ks ad σ) rfl rfl rfl ⟨Nat.le_of_ble_eq_true rfl, Nat.le_of_ble_eq_true rfl⟩ ⟨Nat.zero_le _, Nat.zero_le _⟩ hl.1 (Nat.le_of_ble_eq_true rfl) rfl dX12_lasts_27 ?_
        refine lv_if_eq (tgt := 38) hx hb dX12_lasts_30 (by decide) (fun c8 => ?_) (fun c8 => ?_)
        · replace hf := pos_e c8 hf
          refine lv_aload_n hx hb dX12_lasts_38 rfl (lv_at hl 0 rfl) ?_
          refine lv_iload_n hx hb dX12_lasts_39 rfl (lv_at hl 1 rfl) ?_
          refine lv_iload_n hx hb dX12_lasts_40 rfl (lv_at hl 2 rfl) ?_
          refine lv_iload_n hx hb dX12_lasts_41 rfl (lv_at hl 3 rfl) ?_
          obtain ⟨r9, er9, hf⟩ := bd_e hf
          refine gVr_i E hK hP (cX12_lastsOfc _ _ _ er9) kV_X12_lastsOf wd_6_144 rfl rfl (q_model ks ad σ) rfl rfl rfl ⟨Nat.le_of_ble_eq_true rfl, Nat.le_of_ble_eq_true rfl⟩ ⟨Nat.zero_le _, Nat.zero_le _⟩ hl.1 (Nat.le_of_ble_eq_true rfl) rfl dX12_lasts_42 ?_
          exact gret_i E hr hlk dX12_lasts_45 (som_e hf).symm
        · replace hf := neg_e c8 hf
          refine lv_bipush (v := -3) hx hb dX12_lasts_33 (by decide) ?_
          refine lv_goto (tgt := 45) hx hb dX12_lasts_35 (by decide) ?_
          exact gret_i E hr hlk dX12_lasts_45 (som_e hf).symm
      · replace hf := pos_e c6 hf
        refine lv_iconst (v := -1) hx hb dX12_lasts_23 (by decide) ?_
        exact gret_i E hr hlk dX12_lasts_24 (som_e hf).symm
noncomputable def fX12_bestForce_J90 (x7 : Int32) (rec_37 : Int32 → Int32 → St → Option (Int32 × St)) (z12 : Int32) (σ13 : St) : Option (Int32 × St) :=
  nmv (x7 + 1) fun v14 =>
  rec_37 z12 v14 σ13
noncomputable def fX12_bestForce_J86 (x7 : Int32) (rec_37 : Int32 → Int32 → St → Option (Int32 × St)) (σ16 : St) : Option (Int32 × St) :=
  fX12_bestForce_J90 x7 rec_37 x7 σ16
noncomputable def fX12_bestForce_L37B (a1 : Int32) (a2 : Int32) (a3 : Int32) (K_37 : Int32 → St → Option (Int32 × St)) (rec_37 : Int32 → Int32 → St → Option (Int32 × St)) (x6 : Int32) (x7 : Int32) (σ8 : St) : Option (Int32 × St) :=
  if 60 < x7 then
  K_37 x6 σ8
  else
  if (gI σ8 11 0 9) ≤ 0 then
  K_37 x6 σ8
  else
  bd (fX12_isHard σ8 a2 a3 x7) fun r11 =>
  if r11 = 0 then
  fX12_bestForce_J90 x7 rec_37 x6 σ8
  else
  if x6 < 0 then
  fX12_bestForce_J86 x7 rec_37 σ8
  else
  bd (fX12_lastsOf σ8 a1 a3 x7) fun r18 =>
  bd (fX12_lastsOf σ8 a1 a3 x6) fun r19 =>
  if r18 ≤ r19 then
  fX12_bestForce_J90 x7 rec_37 x6 σ8
  else
  fX12_bestForce_J86 x7 rec_37 σ8
noncomputable def fX12_bestForce_L37 (a1 : Int32) (a2 : Int32) (a3 : Int32) (K_37 : Int32 → St → Option (Int32 × St)) : Nat → Int32 → Int32 → St → Option (Int32 × St)
  | 0 => fun _ _ _ => none
  | n + 1 => fX12_bestForce_L37B a1 a2 a3 K_37 (fX12_bestForce_L37 a1 a2 a3 K_37 n)
noncomputable def fX12_bestForce (σ : St) (a1 : Int32) (a2 : Int32) (a3 : Int32) : Option (Int32 × St) :=
  bd (fX12_areAll σ a1 a2 a3) fun r1 =>
  if r1 = 0 then
  some ((-1), σ)
  else
  bd (fX12_isSplit σ a1) fun r3 =>
  if r3 = 0 then
  bd (fX12_looks σ a1 a2 a3) fun r5 =>
  fX12_bestForce_L37 a1 a2 a3 (fun y21 σ22 => some (y21, σ22)) FU (-4) 0 r5
  else
  some ((-3), σ)
def rX12_bestForce : Room := { frames := 6, cells := 0, slots := 0, locals := 141 }
set_option maxHeartbeats 4000000 in
set_option maxRecDepth 100000 in
theorem cX12_bestForcec {l : Launch} {dC : Nat → ClassId} {dI : Nat → Nat → Nat} {ks : Nat → ClassId} {ad : Nat → Nat → Nat} {σ : St} (a1 : Int32) (a2 : Int32) (a3 : Int32)  {out : Int32 × St} (hf : fX12_bestForce σ a1 a2 a3 = some out) : MWi l dC dI ks ad σ yX12_bestForce cX12_bestForce 6 (some .int) rX12_bestForce [.ref (ad 14 0), .int a1, .int a2, .int a3] out := by
  intro sz
  refine met_w (Qc := fun A => va_Qi (fun r σ' => r = out.1 ∧ σ' = out.2) (gBw dC dI ks ad A) A) (own := RX12) (by decide) rfl (Nat.le_of_ble_eq_true rfl) ?_
  intro A p e s m args below meth c ls E hr hlk hA hP hD hS hK hl
  have hx := E.1
  have hb := E.2.1
  have hl : lv_has ls 6 [(0, .ref (ad 14 0)), (1, .int a1), (2, .int a2), (3, .int a3)] := hl
  unfold fX12_bestForce at hf
  refine lv_aload_n hx hb dX12_bestForce_0 rfl (lv_at hl 0 rfl) ?_
  refine lv_iload_n hx hb dX12_bestForce_1 rfl (lv_at hl 1 rfl) ?_
  refine lv_iload_n hx hb dX12_bestForce_2 rfl (lv_at hl 2 rfl) ?_
  refine lv_iload_n hx hb dX12_bestForce_3 rfl (lv_at hl 3 rfl) ?_
  obtain ⟨r1, er1, hf⟩ := bd_e hf
  refine gVr_i E hK hP (cX12_areAllc _ _ _ er1) kV_X12_areAll wd_5_184 rfl rfl (q_model ks ad σ) rfl rfl rfl ⟨Nat.le_of_ble_eq_true rfl, Nat.le_of_ble_eq_true rfl⟩ ⟨Nat.zero_le _, Nat.zero_le _⟩ hl.1 (Nat.le_of_ble_eq_true rfl) rfl dX12_bestForce_4 ?_
  refine lv_if_ne (tgt := 12) hx hb dX12_bestForce_7 (by decide) (fun c2 => ?_) (fun c2 => ?_)
  · replace hf := neg_e c2 hf
    refine lv_aload_n hx hb dX12_bestForce_12 rfl (lv_at hl 0 rfl) ?_
    refine lv_iload_n hx hb dX12_bestForce_13 rfl (lv_at hl 1 rfl) ?_
    obtain ⟨r3, er3, hf⟩ := bd_e hf
    refine gVr_i E hK hP (cX12_isSplitc _ er3) kV_X12_isSplit wd_5_200 rfl rfl (q_model ks ad σ) rfl rfl rfl ⟨Nat.le_of_ble_eq_true rfl, Nat.le_of_ble_eq_true rfl⟩ ⟨Nat.zero_le _, Nat.zero_le _⟩ hl.1 (Nat.le_of_ble_eq_true rfl) rfl dX12_bestForce_14 ?_
    refine lv_if_eq (tgt := 23) hx hb dX12_bestForce_17 (by decide) (fun c4 => ?_) (fun c4 => ?_)
    · replace hf := pos_e c4 hf
      refine lv_aload_n hx hb dX12_bestForce_23 rfl (lv_at hl 0 rfl) ?_
      refine lv_iload_n hx hb dX12_bestForce_24 rfl (lv_at hl 1 rfl) ?_
      refine lv_iload_n hx hb dX12_bestForce_25 rfl (lv_at hl 2 rfl) ?_
      refine lv_iload_n hx hb dX12_bestForce_26 rfl (lv_at hl 3 rfl) ?_
      obtain ⟨r5, er5, hf⟩ := bd_e hf
      refine gVw_v E hK hP hD hS hA (cX12_looksc _ _ _ er5) kV_X12_looks wd_6_87 rfl rfl (q_model ks ad σ) rfl rfl rfl ⟨Nat.le_of_ble_eq_true rfl, Nat.le_of_ble_eq_true rfl⟩ ⟨Nat.zero_le _, Nat.zero_le _⟩ hl.1 (Nat.le_of_ble_eq_true rfl) rfl dX12_bestForce_27 (fun H locs hP hD hS => ?_)
      refine lv_bipush (v := -4) hx hb dX12_bestForce_30 (by decide) ?_
      refine lv_istore (lv' := [(4, .int (-4)), (0, .ref (ad 14 0)), (1, .int a1), (2, .int a2), (3, .int a3)]) hx hb dX12_bestForce_32 hl (by decide) rfl (fun ls hl => ?_)
      refine lv_iconst (v := 0) hx hb dX12_bestForce_34 (by decide) ?_
      refine lv_istore (lv' := [(5, .int 0), (4, .int (-4)), (0, .ref (ad 14 0)), (1, .int a1), (2, .int a2), (3, .int a3)]) hx hb dX12_bestForce_35 hl (by decide) rfl (fun ls hl => ?_)
      have loop_37 : ∀ (K_37 : Int32 → St → Option (Int32 × St)) (hK_37 : (∀ (y21 : Int32) (σ22 : St) (H : Heap) (locs : List Loc) (hP : va_P (dC, dI) vwCl (wG ks ad σ22) H) (hD : va_D A (wG ks ad σ22)) (hS : va_S A s.heap H locs) (hf : K_37 y21 σ22 = some out) (ls : Array Slot), lv_has ls 6 [(4, .int y21)] → W p l e rX12_bestForce s m args below meth c H locs 0 0 (MQ below (va_Qi (fun r σ' => r = out.1 ∧ σ' = out.2) (gBw dC dI ks ad A) A) args s 0 0 A) (F0 m 96 ls []))) (n_37 : Nat) (x6 : Int32) (x7 : Int32) (σ8 : St) (H : Heap) (locs : List Loc) (hP : va_P (dC, dI) vwCl (wG ks ad σ8) H) (hD : va_D A (wG ks ad σ8)) (hS : va_S A s.heap H locs) (hf : fX12_bestForce_L37 a1 a2 a3 K_37 n_37 x6 x7 σ8 = some out) (ls : Array Slot), lv_has ls 6 [(0, .ref (ad 14 0)), (1, .int a1), (2, .int a2), (3, .int a3), (4, .int x6), (5, .int x7)] → W p l e rX12_bestForce s m args below meth c H locs 0 0 (MQ below (va_Qi (fun r σ' => r = out.1 ∧ σ' = out.2) (gBw dC dI ks ad A) A) args s 0 0 A) (F0 m 37 ls []) := by
        intro K_37 hK_37 n_37
        induction n_37 with
        | zero => intro x6 x7 σ8 H locs hP hD hS hf; cases hf
        | succ n_37 ih_37 =>
          intro x6 x7 σ8 H locs hP hD hS hf ls hl
          have hf : fX12_bestForce_L37B a1 a2 a3 K_37 (fX12_bestForce_L37 a1 a2 a3 K_37 n_37) x6 x7 σ8 = some out := hf
          unfold fX12_bestForce_L37B at hf
          refine lv_iload hx hb dX12_bestForce_37 (lv_at hl 5 rfl) ?_
          refine lv_bipush (v := 60) hx hb dX12_bestForce_39 (by decide) ?_
          refine lv_icmp_gt (tgt := 96) hx hb dX12_bestForce_41 (by decide) (fun c9 => ?_) (fun c9 => ?_)
          · replace hf := pos_e c9 hf
            exact hK_37 _ _ _ _ hP hD hS hf _ (lv_sub hl [4] rfl)
          · replace hf := neg_e c9 hf
            refine lv_aload_n hx hb dX12_bestForce_44 rfl (lv_at hl 0 rfl) ?_
            refine gget E in_X12 hK hP (q_model ks ad σ8) rfl (k := 9) (by decide) wd_5_69 rfl (v := .int (gI σ8 11 0 9)) rfl dX12_bestForce_45 ?_
            refine lv_if_le (tgt := 96) hx hb dX12_bestForce_48 (by decide) (fun c10 => ?_) (fun c10 => ?_)
            · replace hf := pos_e c10 hf
              exact hK_37 _ _ _ _ hP hD hS hf _ (lv_sub hl [4] rfl)
            · replace hf := neg_e c10 hf
              refine lv_aload_n hx hb dX12_bestForce_51 rfl (lv_at hl 0 rfl) ?_
              refine lv_iload_n hx hb dX12_bestForce_52 rfl (lv_at hl 2 rfl) ?_
              refine lv_iload_n hx hb dX12_bestForce_53 rfl (lv_at hl 3 rfl) ?_
              refine lv_iload hx hb dX12_bestForce_54 (lv_at hl 5 rfl) ?_
              obtain ⟨r11, er11, hf⟩ := bd_e hf
              refine gVr_i E hK hP (cX12_isHardc _ _ _ er11) kV_X12_isHard wd_6_66 rfl rfl (q_model ks ad σ8) rfl rfl rfl ⟨Nat.le_of_ble_eq_true rfl, Nat.le_of_ble_eq_true rfl⟩ ⟨Nat.zero_le _, Nat.zero_le _⟩ hl.1 (Nat.le_of_ble_eq_true rfl) rfl dX12_bestForce_56 ?_
              have hJ_90 : ∀ (z12 : Int32) (σ13 : St) (H : Heap) (locs : List Loc) (hP : va_P (dC, dI) vwCl (wG ks ad σ13) H) (hD : va_D A (wG ks ad σ13)) (hS : va_S A s.heap H locs) (hf : fX12_bestForce_J90 x7 (fX12_bestForce_L37 a1 a2 a3 K_37 n_37) z12 σ13 = some out) (ls : Array Slot), lv_has ls 6 [(0, .ref (ad 14 0)), (1, .int a1), (2, .int a2), (3, .int a3), (4, .int z12), (5, .int x7)] → W p l e rX12_bestForce s m args below meth c H locs 0 0 (MQ below (va_Qi (fun r σ' => r = out.1 ∧ σ' = out.2) (gBw dC dI ks ad A) A) args s 0 0 A) (F0 m 90 ls []) := by
                intro z12 σ13 H locs hP hD hS hf ls hl
                unfold fX12_bestForce_J90 at hf
                obtain ⟨v14, ev14, hf⟩ := nmv_e hf
                refine lv_iinc (v := v14) (lv' := [(5, .int v14), (0, .ref (ad 14 0)), (1, .int a1), (2, .int a2), (3, .int a3), (4, .int z12)]) hx hb dX12_bestForce_90 hl (k := 5) rfl (by rw [ev14]; rfl) (by decide) rfl (fun ls hl => ?_)
                refine lv_goto (tgt := 37) hx hb dX12_bestForce_93 (by decide) ?_
                exact ih_37 _ _ _ _ _ hP hD hS hf _ (lv_sub hl [1, 2, 3, 4, 5, 0] rfl)
              refine lv_if_eq (tgt := 90) hx hb dX12_bestForce_59 (by decide) (fun c15 => ?_) (fun c15 => ?_)
              · replace hf := pos_e c15 hf
                exact hJ_90 _ _ _ _ hP hD hS hf _ (lv_sub hl [0, 1, 2, 3, 4, 5] rfl)
              · replace hf := neg_e c15 hf
                refine lv_iload hx hb dX12_bestForce_62 (lv_at hl 4 rfl) ?_
                have hJ_86 : ∀ (σ16 : St) (H : Heap) (locs : List Loc) (hP : va_P (dC, dI) vwCl (wG ks ad σ16) H) (hD : va_D A (wG ks ad σ16)) (hS : va_S A s.heap H locs) (hf : fX12_bestForce_J86 x7 (fX12_bestForce_L37 a1 a2 a3 K_37 n_37) σ16 = some out) (ls : Array Slot), lv_has ls 6 [(0, .ref (ad 14 0)), (1, .int a1), (2, .int a2), (3, .int a3), (5, .int x7)] → W p l e rX12_bestForce s m args below meth c H locs 0 0 (MQ below (va_Qi (fun r σ' => r = out.1 ∧ σ' = out.2) (gBw dC dI ks ad A) A) args s 0 0 A) (F0 m 86 ls []) := by
                  intro σ16 H locs hP hD hS hf ls hl
                  unfold fX12_bestForce_J86 at hf
                  refine lv_iload hx hb dX12_bestForce_86 (lv_at hl 4 rfl) ?_
                  refine lv_istore (lv' := [(4, .int x7), (0, .ref (ad 14 0)), (1, .int a1), (2, .int a2), (3, .int a3), (5, .int x7)]) hx hb dX12_bestForce_88 hl (by decide) rfl (fun ls hl => ?_)
                  exact hJ_90 _ _ _ _ hP hD hS hf _ (lv_sub hl [1, 2, 3, 4, 0, 5] rfl)
                refine lv_if_lt (tgt := 86) hx hb dX12_bestForce_64 (by decide) (fun c17 => ?_) (fun c17 => ?_)
                · replace hf := pos_e c17 hf
                  exact hJ_86 _ _ _ hP hD hS hf _ (lv_sub hl [0, 1, 2, 3, 5] rfl)
                · replace hf := neg_e c17 hf
                  refine lv_aload_n hx hb dX12_bestForce_67 rfl (lv_at hl 0 rfl) ?_
                  refine lv_iload_n hx hb dX12_bestForce_68 rfl (lv_at hl 1 rfl) ?_
                  refine lv_iload_n hx hb dX12_bestForce_69 rfl (lv_at hl 3 rfl) ?_
                  refine lv_iload hx hb dX12_bestForce_70 (lv_at hl 5 rfl) ?_
                  obtain ⟨r18, er18, hf⟩ := bd_e hf
                  refine gVr_i E hK hP (cX12_lastsOfc _ _ _ er18) kV_X12_lastsOf wd_6_144 rfl rfl (q_model ks ad σ8) rfl rfl rfl ⟨Nat.le_of_ble_eq_true rfl, Nat.le_of_ble_eq_true rfl⟩ ⟨Nat.zero_le _, Nat.zero_le _⟩ hl.1 (Nat.le_of_ble_eq_true rfl) rfl dX12_bestForce_72 ?_
                  refine lv_aload_n hx hb dX12_bestForce_75 rfl (lv_at hl 0 rfl) ?_
                  refine lv_iload_n hx hb dX12_bestForce_76 rfl (lv_at hl 1 rfl) ?_
                  refine lv_iload_n hx hb dX12_bestForce_77 rfl (lv_at hl 3 rfl) ?_
                  refine lv_iload hx hb dX12_bestForce_78 (lv_at hl 4 rfl) ?_
                  obtain ⟨r19, er19, hf⟩ := bd_e hf
                  refine gVr_i E hK hP (cX12_lastsOfc _ _ _ er19) kV_X12_lastsOf wd_6_144 rfl rfl (q_model ks ad σ8) rfl rfl rfl ⟨Nat.le_of_ble_eq_true rfl, Nat.le_of_ble_eq_true rfl⟩ ⟨Nat.zero_le _, Nat.zero_le _⟩ hl.1 (Nat.le_of_ble_eq_true rfl) rfl dX12_bestForce_80 ?_
                  refine lv_icmp_le (tgt := 90) hx hb dX12_bestForce_83 (by decide) (fun c20 => ?_) (fun c20 => ?_)
                  · replace hf := pos_e c20 hf
                    exact hJ_90 _ _ _ _ hP hD hS hf _ (lv_sub hl [0, 1, 2, 3, 4, 5] rfl)
                  · replace hf := neg_e c20 hf
                    exact hJ_86 _ _ _ hP hD hS hf _ (lv_sub hl [0, 1, 2, 3, 5] rfl)
      refine loop_37 _ (fun y21 σ22 H locs hP hD hS hf ls hl => ?_) _ _ _ _ _ _ hP hD hS hf _ (lv_sub hl [2, 3, 4, 5, 1, 0] rfl)
      refine lv_iload hx hb dX12_bestForce_96 (lv_at hl 0 rfl) ?_
      exact gretw_i E hlk hP hD hS hr dX12_bestForce_98 (som_e hf)
    · replace hf := neg_e c4 hf
      refine lv_bipush (v := -3) hx hb dX12_bestForce_20 (by decide) ?_
      exact gretw_i E hlk hP hD hS hr dX12_bestForce_22 (som_e hf)
  · replace hf := pos_e c2 hf
    refine lv_iconst (v := -1) hx hb dX12_bestForce_10 (by decide) ?_
    exact gretw_i E hlk hP hD hS hr dX12_bestForce_11 (som_e hf)
noncomputable def fX12_clash_J120 (x15 : Int32) (rec_53 : Int32 → Int32 → Int32 → Option (Int32)) (z22 : Int32) (z23 : Int32) : Option (Int32) :=
  nmv (x15 + 1) fun v24 =>
  rec_53 z22 z23 v24
noncomputable def fX12_clash_J115 (x13 : Int32) (x15 : Int32) (rec_53 : Int32 → Int32 → Int32 → Option (Int32)) (z26 : Int32) : Option (Int32) :=
  nmv (x13 + 1) fun v27 =>
  fX12_clash_J120 x15 rec_53 v27 z26
noncomputable def fX12_clash_L53B (σ : St) (a1 : Int32) (a2 : Int32) (x9 : Int32) (K_53 : Int32 → Int32 → Option (Int32)) (rec_53 : Int32 → Int32 → Int32 → Option (Int32)) (x13 : Int32) (x14 : Int32) (x15 : Int32) : Option (Int32) :=
  ck (vp_in 0 47) <|
  if (gI σ 12 0 (0 : Int32).toNatClampNeg) ≤ x15 then
  K_53 x13 x14
  else
  bd (fX12_pitchOf σ x9 a1 a2 0) fun r18 =>
  bd (fX12_pitchOf σ x15 a1 a2 0) fun r19 =>
  bd (fX12_size σ (r18 - r19)) fun r20 =>
  bd (fX12_isIn σ r20 1 2) fun r21 =>
  if r21 = 0 then
  fX12_clash_J120 x15 rec_53 x13 x14
  else
  if x13 = 0 then
  fX12_clash_J115 x13 x15 rec_53 ((10 * x9) + x15)
  else
  fX12_clash_J115 x13 x15 rec_53 x14
noncomputable def fX12_clash_L53 (σ : St) (a1 : Int32) (a2 : Int32) (x9 : Int32) (K_53 : Int32 → Int32 → Option (Int32)) : Nat → Int32 → Int32 → Int32 → Option (Int32)
  | 0 => fun _ _ _ => none
  | n + 1 => fX12_clash_L53B σ a1 a2 x9 K_53 (fX12_clash_L53 σ a1 a2 x9 K_53 n)
noncomputable def fX12_clash_L36B (σ : St) (a1 : Int32) (a2 : Int32) (K_36 : Int32 → Int32 → Option (Int32)) (rec_36 : Int32 → Int32 → Int32 → Option (Int32)) (x7 : Int32) (x8 : Int32) (x9 : Int32) : Option (Int32) :=
  ck (vp_in 0 47) <|
  if (gI σ 12 0 (0 : Int32).toNatClampNeg) ≤ x9 then
  K_36 x7 x8
  else
  nmv (x9 + 1) fun v12 =>
  fX12_clash_L53 σ a1 a2 x9 (fun y29 y30 => nmv (x9 + 1) fun v31 =>
  rec_36 y29 y30 v31) FU x7 x8 v12
noncomputable def fX12_clash_L36 (σ : St) (a1 : Int32) (a2 : Int32) (K_36 : Int32 → Int32 → Option (Int32)) : Nat → Int32 → Int32 → Int32 → Option (Int32)
  | 0 => fun _ _ _ => none
  | n + 1 => fX12_clash_L36B σ a1 a2 K_36 (fX12_clash_L36 σ a1 a2 K_36 n)
noncomputable def fX12_clash (σ : St) (a1 : Int32) (a2 : Int32) (a3 : Int32) : Option (Int32) :=
  bd (fX12_isBlow σ a1) fun r1 =>
  if r1 = 0 then
  some (-1)
  else
  bd (fX12_isForce σ a2) fun r3 =>
  if r3 = 0 then
  some (-1)
  else
  bd (fX12_isIn σ a3 0 1) fun r5 =>
  if r5 = 0 then
  some (-1)
  else
  fX12_clash_L36 σ a1 a2 (fun y32 y33 => if a3 = 0 then
  some y32
  else
  some y33) FU 0 (-4) 0
def rX12_clash : Room := { frames := 3, cells := 0, slots := 0, locals := 68 }
set_option maxHeartbeats 4000000 in
set_option maxRecDepth 100000 in
theorem cX12_clashc {l : Launch} {dC : Nat → ClassId} {dI : Nat → Nat → Nat} {ks : Nat → ClassId} {ad : Nat → Nat → Nat} {σ : St} (a1 : Int32) (a2 : Int32) (a3 : Int32)  {out : Int32} (hf : fX12_clash σ a1 a2 a3 = some out) : MRi l dC dI ks ad σ yX12_clash cX12_clash 8 (some .int) rX12_clash [.ref (ad 14 0), .int a1, .int a2, .int a3] out := by
  refine met_r (own := RX12) (by decide) rfl (Nat.le_of_ble_eq_true rfl) ?_
  intro p e s m args below meth c ls E hr hlk hP hK hl
  have hx := E.1
  have hb := E.2.1
  have hl : lv_has ls 8 [(0, .ref (ad 14 0)), (1, .int a1), (2, .int a2), (3, .int a3)] := hl
  unfold fX12_clash at hf
  refine lv_aload_n hx hb dX12_clash_0 rfl (lv_at hl 0 rfl) ?_
  refine lv_iload_n hx hb dX12_clash_1 rfl (lv_at hl 1 rfl) ?_
  obtain ⟨r1, er1, hf⟩ := bd_e hf
  refine gVr_i E hK hP (cX12_isBlowc _ er1) kV_X12_isBlow wd_5_196 rfl rfl (q_model ks ad σ) rfl rfl rfl ⟨Nat.le_of_ble_eq_true rfl, Nat.le_of_ble_eq_true rfl⟩ ⟨Nat.zero_le _, Nat.zero_le _⟩ hl.1 (Nat.le_of_ble_eq_true rfl) rfl dX12_clash_2 ?_
  refine lv_if_eq (tgt := 24) hx hb dX12_clash_5 (by decide) (fun c2 => ?_) (fun c2 => ?_)
  · replace hf := pos_e c2 hf
    refine lv_iconst (v := -1) hx hb dX12_clash_24 (by decide) ?_
    exact gret_i E hr hlk dX12_clash_25 (som_e hf).symm
  · replace hf := neg_e c2 hf
    refine lv_iload_n hx hb dX12_clash_8 rfl (lv_at hl 2 rfl) ?_
    obtain ⟨r3, er3, hf⟩ := bd_e hf
    refine gSr_i E hK hP (cX12_isForcec _ er3) kS_X12_isForce wd_6_8 rfl rfl rfl ⟨Nat.le_of_ble_eq_true rfl, Nat.le_of_ble_eq_true rfl⟩ ⟨Nat.zero_le _, Nat.zero_le _⟩ hl.1 (Nat.le_of_ble_eq_true rfl) rfl dX12_clash_9 ?_
    refine lv_if_eq (tgt := 24) hx hb dX12_clash_12 (by decide) (fun c4 => ?_) (fun c4 => ?_)
    · replace hf := pos_e c4 hf
      refine lv_iconst (v := -1) hx hb dX12_clash_24 (by decide) ?_
      exact gret_i E hr hlk dX12_clash_25 (som_e hf).symm
    · replace hf := neg_e c4 hf
      refine lv_iload_n hx hb dX12_clash_15 rfl (lv_at hl 3 rfl) ?_
      refine lv_iconst (v := 0) hx hb dX12_clash_16 (by decide) ?_
      refine lv_iconst (v := 1) hx hb dX12_clash_17 (by decide) ?_
      obtain ⟨r5, er5, hf⟩ := bd_e hf
      refine gSr_i E hK hP (cX12_isInc _ _ _ er5) kS_X12_isIn wd_5_138 rfl rfl rfl ⟨Nat.le_of_ble_eq_true rfl, Nat.le_of_ble_eq_true rfl⟩ ⟨Nat.zero_le _, Nat.zero_le _⟩ hl.1 (Nat.le_of_ble_eq_true rfl) rfl dX12_clash_18 ?_
      refine lv_if_ne (tgt := 26) hx hb dX12_clash_21 (by decide) (fun c6 => ?_) (fun c6 => ?_)
      · replace hf := neg_e c6 hf
        refine lv_iconst (v := 0) hx hb dX12_clash_26 (by decide) ?_
        refine lv_istore (lv' := [(4, .int 0), (0, .ref (ad 14 0)), (1, .int a1), (2, .int a2), (3, .int a3)]) hx hb dX12_clash_27 hl (by decide) rfl (fun ls hl => ?_)
        refine lv_bipush (v := -4) hx hb dX12_clash_29 (by decide) ?_
        refine lv_istore (lv' := [(5, .int (-4)), (4, .int 0), (0, .ref (ad 14 0)), (1, .int a1), (2, .int a2), (3, .int a3)]) hx hb dX12_clash_31 hl (by decide) rfl (fun ls hl => ?_)
        refine lv_iconst (v := 0) hx hb dX12_clash_33 (by decide) ?_
        refine lv_istore (lv' := [(6, .int 0), (5, .int (-4)), (4, .int 0), (0, .ref (ad 14 0)), (1, .int a1), (2, .int a2), (3, .int a3)]) hx hb dX12_clash_34 hl (by decide) rfl (fun ls hl => ?_)
        have loop_36 : ∀ (K_36 : Int32 → Int32 → Option (Int32)) (hK_36 : (∀ (y32 : Int32) (y33 : Int32) (hf : K_36 y32 y33 = some out) (ls : Array Slot), lv_has ls 8 [(3, .int a3), (4, .int y32), (5, .int y33)] → W p l e rX12_clash s m args below meth c s.heap [] 0 0 (MQ below (vp_Si (fun r => r = out)) args s 0 0 (fun _ => False)) (F0 m 132 ls []))) (n_36 : Nat) (x7 : Int32) (x8 : Int32) (x9 : Int32) (hf : fX12_clash_L36 σ a1 a2 K_36 n_36 x7 x8 x9 = some out) (ls : Array Slot), lv_has ls 8 [(0, .ref (ad 14 0)), (1, .int a1), (2, .int a2), (3, .int a3), (4, .int x7), (5, .int x8), (6, .int x9)] → W p l e rX12_clash s m args below meth c s.heap [] 0 0 (MQ below (vp_Si (fun r => r = out)) args s 0 0 (fun _ => False)) (F0 m 36 ls []) := by
          intro K_36 hK_36 n_36
          induction n_36 with
          | zero => intro x7 x8 x9 hf; cases hf
          | succ n_36 ih_36 =>
            intro x7 x8 x9 hf ls hl
            have hf : fX12_clash_L36B σ a1 a2 K_36 (fX12_clash_L36 σ a1 a2 K_36 n_36) x7 x8 x9 = some out := hf
            unfold fX12_clash_L36B at hf
            refine lv_iload hx hb dX12_clash_36 (lv_at hl 6 rfl) ?_
            refine lv_aload_n hx hb dX12_clash_38 rfl (lv_at hl 0 rfl) ?_
            refine gget E in_X12 hK hP (q_model ks ad σ) rfl (k := 0) (by decide) wd_5_60 rfl (v := .ref (ad 15 0)) rfl dX12_clash_39 ?_
            refine lv_iconst (v := 0) hx hb dX12_clash_42 (by decide) ?_
            obtain ⟨c10, hf⟩ := ck_e hf
            refine giald E hK hP (q_M0 ks ad σ) c10 dX12_clash_43 ?_
            refine lv_icmp_ge (tgt := 132) hx hb dX12_clash_44 (by decide) (fun c11 => ?_) (fun c11 => ?_)
            · replace hf := pos_e c11 hf
              exact hK_36 _ _ hf _ (lv_sub hl [3, 4, 5] rfl)
            · replace hf := neg_e c11 hf
              refine lv_iload hx hb dX12_clash_47 (lv_at hl 6 rfl) ?_
              refine lv_iconst (v := 1) hx hb dX12_clash_49 (by decide) ?_
              refine lv_iadd hx hb dX12_clash_50 ?_
              obtain ⟨v12, ev12, hf⟩ := nmv_e hf
              refine lv_nmi ev12 ?_
              refine lv_istore (lv' := [(7, .int v12), (0, .ref (ad 14 0)), (1, .int a1), (2, .int a2), (3, .int a3), (4, .int x7), (5, .int x8), (6, .int x9)]) hx hb dX12_clash_51 hl (by decide) rfl (fun ls hl => ?_)
              have loop_53 : ∀ (K_53 : Int32 → Int32 → Option (Int32)) (hK_53 : (∀ (y29 : Int32) (y30 : Int32) (hf : K_53 y29 y30 = some out) (ls : Array Slot), lv_has ls 8 [(0, .ref (ad 14 0)), (1, .int a1), (2, .int a2), (3, .int a3), (4, .int y29), (5, .int y30), (6, .int x9)] → W p l e rX12_clash s m args below meth c s.heap [] 0 0 (MQ below (vp_Si (fun r => r = out)) args s 0 0 (fun _ => False)) (F0 m 126 ls []))) (n_53 : Nat) (x13 : Int32) (x14 : Int32) (x15 : Int32) (hf : fX12_clash_L53 σ a1 a2 x9 K_53 n_53 x13 x14 x15 = some out) (ls : Array Slot), lv_has ls 8 [(0, .ref (ad 14 0)), (1, .int a1), (2, .int a2), (3, .int a3), (4, .int x13), (5, .int x14), (6, .int x9), (7, .int x15)] → W p l e rX12_clash s m args below meth c s.heap [] 0 0 (MQ below (vp_Si (fun r => r = out)) args s 0 0 (fun _ => False)) (F0 m 53 ls []) := by
                intro K_53 hK_53 n_53
                induction n_53 with
                | zero => intro x13 x14 x15 hf; cases hf
                | succ n_53 ih_53 =>
                  intro x13 x14 x15 hf ls hl
                  have hf : fX12_clash_L53B σ a1 a2 x9 K_53 (fX12_clash_L53 σ a1 a2 x9 K_53 n_53) x13 x14 x15 = some out := hf
                  unfold fX12_clash_L53B at hf
                  refine lv_iload hx hb dX12_clash_53 (lv_at hl 7 rfl) ?_
                  refine lv_aload_n hx hb dX12_clash_55 rfl (lv_at hl 0 rfl) ?_
                  refine gget E in_X12 hK hP (q_model ks ad σ) rfl (k := 0) (by decide) wd_5_60 rfl (v := .ref (ad 15 0)) rfl dX12_clash_56 ?_
                  refine lv_iconst (v := 0) hx hb dX12_clash_59 (by decide) ?_
                  obtain ⟨c16, hf⟩ := ck_e hf
                  refine giald E hK hP (q_M0 ks ad σ) c16 dX12_clash_60 ?_
                  refine lv_icmp_ge (tgt := 126) hx hb dX12_clash_61 (by decide) (fun c17 => ?_) (fun c17 => ?_)
                  · replace hf := pos_e c17 hf
                    exact hK_53 _ _ hf _ (lv_sub hl [0, 1, 2, 3, 4, 5, 6] rfl)
                  · replace hf := neg_e c17 hf
                    refine lv_aload_n hx hb dX12_clash_64 rfl (lv_at hl 0 rfl) ?_
                    refine lv_iload hx hb dX12_clash_65 (lv_at hl 6 rfl) ?_
                    refine lv_iload_n hx hb dX12_clash_67 rfl (lv_at hl 1 rfl) ?_
                    refine lv_iload_n hx hb dX12_clash_68 rfl (lv_at hl 2 rfl) ?_
                    refine lv_iconst (v := 0) hx hb dX12_clash_69 (by decide) ?_
                    obtain ⟨r18, er18, hf⟩ := bd_e hf
                    refine gVr_i E hK hP (cX12_pitchOfc _ _ _ _ er18) kV_X12_pitchOf wd_6_74 rfl rfl (q_model ks ad σ) rfl rfl rfl ⟨Nat.le_of_ble_eq_true rfl, Nat.le_of_ble_eq_true rfl⟩ ⟨Nat.zero_le _, Nat.zero_le _⟩ hl.1 (Nat.le_of_ble_eq_true rfl) rfl dX12_clash_70 ?_
                    refine lv_aload_n hx hb dX12_clash_73 rfl (lv_at hl 0 rfl) ?_
                    refine lv_iload hx hb dX12_clash_74 (lv_at hl 7 rfl) ?_
                    refine lv_iload_n hx hb dX12_clash_76 rfl (lv_at hl 1 rfl) ?_
                    refine lv_iload_n hx hb dX12_clash_77 rfl (lv_at hl 2 rfl) ?_
                    refine lv_iconst (v := 0) hx hb dX12_clash_78 (by decide) ?_
                    obtain ⟨r19, er19, hf⟩ := bd_e hf
                    refine gVr_i E hK hP (cX12_pitchOfc _ _ _ _ er19) kV_X12_pitchOf wd_6_74 rfl rfl (q_model ks ad σ) rfl rfl rfl ⟨Nat.le_of_ble_eq_true rfl, Nat.le_of_ble_eq_true rfl⟩ ⟨Nat.zero_le _, Nat.zero_le _⟩ hl.1 (Nat.le_of_ble_eq_true rfl) rfl dX12_clash_79 ?_
                    refine lv_isub hx hb dX12_clash_82 ?_
                    obtain ⟨r20, er20, hf⟩ := bd_e hf
                    refine gSr_i E hK hP (cX12_sizec _ er20) kS_X12_size wd_6_112 rfl rfl rfl ⟨Nat.le_of_ble_eq_true rfl, Nat.le_of_ble_eq_true rfl⟩ ⟨Nat.zero_le _, Nat.zero_le _⟩ hl.1 (Nat.le_of_ble_eq_true rfl) rfl dX12_clash_83 ?_
                    refine lv_iconst (v := 1) hx hb dX12_clash_86 (by decide) ?_
                    refine lv_iconst (v := 2) hx hb dX12_clash_87 (by decide) ?_
                    obtain ⟨r21, er21, hf⟩ := bd_e hf
                    refine gSr_i E hK hP (cX12_isInc _ _ _ er21) kS_X12_isIn wd_5_138 rfl rfl rfl ⟨Nat.le_of_ble_eq_true rfl, Nat.le_of_ble_eq_true rfl⟩ ⟨Nat.zero_le _, Nat.zero_le _⟩ hl.1 (Nat.le_of_ble_eq_true rfl) rfl dX12_clash_88 ?_
                    have hJ_120 : ∀ (z22 : Int32) (z23 : Int32) (hf : fX12_clash_J120 x15 (fX12_clash_L53 σ a1 a2 x9 K_53 n_53) z22 z23 = some out) (ls : Array Slot), lv_has ls 8 [(0, .ref (ad 14 0)), (1, .int a1), (2, .int a2), (3, .int a3), (4, .int z22), (5, .int z23), (6, .int x9), (7, .int x15)] → W p l e rX12_clash s m args below meth c s.heap [] 0 0 (MQ below (vp_Si (fun r => r = out)) args s 0 0 (fun _ => False)) (F0 m 120 ls []) := by
                      intro z22 z23 hf ls hl
                      unfold fX12_clash_J120 at hf
                      obtain ⟨v24, ev24, hf⟩ := nmv_e hf
                      refine lv_iinc (v := v24) (lv' := [(7, .int v24), (0, .ref (ad 14 0)), (1, .int a1), (2, .int a2), (3, .int a3), (4, .int z22), (5, .int z23), (6, .int x9)]) hx hb dX12_clash_120 hl (k := 7) rfl (by rw [ev24]; rfl) (by decide) rfl (fun ls hl => ?_)
                      refine lv_goto (tgt := 53) hx hb dX12_clash_123 (by decide) ?_
                      exact ih_53 _ _ _ hf _ (lv_sub hl [1, 2, 3, 4, 5, 6, 7, 0] rfl)
                    refine lv_if_ne (tgt := 97) hx hb dX12_clash_91 (by decide) (fun c25 => ?_) (fun c25 => ?_)
                    · replace hf := neg_e c25 hf
                      refine lv_iload hx hb dX12_clash_97 (lv_at hl 4 rfl) ?_
                      have hJ_115 : ∀ (z26 : Int32) (hf : fX12_clash_J115 x13 x15 (fX12_clash_L53 σ a1 a2 x9 K_53 n_53) z26 = some out) (ls : Array Slot), lv_has ls 8 [(0, .ref (ad 14 0)), (1, .int a1), (2, .int a2), (3, .int a3), (4, .int x13), (6, .int x9), (7, .int x15)] → W p l e rX12_clash s m args below meth c s.heap [] 0 0 (MQ below (vp_Si (fun r => r = out)) args s 0 0 (fun _ => False)) (F0 m 115 ls [.int z26]) := by
                        intro z26 hf ls hl
                        unfold fX12_clash_J115 at hf
                        refine lv_istore (lv' := [(5, .int z26), (0, .ref (ad 14 0)), (1, .int a1), (2, .int a2), (3, .int a3), (4, .int x13), (6, .int x9), (7, .int x15)]) hx hb dX12_clash_115 hl (by decide) rfl (fun ls hl => ?_)
                        obtain ⟨v27, ev27, hf⟩ := nmv_e hf
                        refine lv_iinc (v := v27) (lv' := [(4, .int v27), (5, .int z26), (0, .ref (ad 14 0)), (1, .int a1), (2, .int a2), (3, .int a3), (6, .int x9), (7, .int x15)]) hx hb dX12_clash_117 hl (k := 5) rfl (by rw [ev27]; rfl) (by decide) rfl (fun ls hl => ?_)
                        exact hJ_120 _ _ hf _ (lv_sub hl [2, 3, 4, 5, 0, 1, 6, 7] rfl)
                      refine lv_if_ne (tgt := 113) hx hb dX12_clash_99 (by decide) (fun c28 => ?_) (fun c28 => ?_)
                      · replace hf := neg_e c28 hf
                        refine lv_iload hx hb dX12_clash_113 (lv_at hl 5 rfl) ?_
                        exact hJ_115 _ hf _ (lv_sub hl [0, 1, 2, 3, 4, 6, 7] rfl)
                      · replace hf := pos_e c28 hf
                        refine lv_bipush (v := 10) hx hb dX12_clash_102 (by decide) ?_
                        refine lv_iload hx hb dX12_clash_104 (lv_at hl 6 rfl) ?_
                        refine lv_imul hx hb dX12_clash_106 ?_
                        refine lv_iload hx hb dX12_clash_107 (lv_at hl 7 rfl) ?_
                        refine lv_iadd hx hb dX12_clash_109 ?_
                        refine lv_goto (tgt := 115) hx hb dX12_clash_110 (by decide) ?_
                        exact hJ_115 _ hf _ (lv_sub hl [0, 1, 2, 3, 4, 6, 7] rfl)
                    · replace hf := pos_e c25 hf
                      refine lv_goto (tgt := 120) hx hb dX12_clash_94 (by decide) ?_
                      exact hJ_120 _ _ hf _ (lv_sub hl [0, 1, 2, 3, 4, 5, 6, 7] rfl)
              refine loop_53 _ (fun y29 y30 hf ls hl => ?_) _ _ _ _ hf _ (lv_sub hl [1, 2, 3, 4, 5, 6, 7, 0] rfl)
              obtain ⟨v31, ev31, hf⟩ := nmv_e hf
              refine lv_iinc (v := v31) (lv' := [(6, .int v31), (0, .ref (ad 14 0)), (1, .int a1), (2, .int a2), (3, .int a3), (4, .int y29), (5, .int y30)]) hx hb dX12_clash_126 hl (k := 6) rfl (by rw [ev31]; rfl) (by decide) rfl (fun ls hl => ?_)
              refine lv_goto (tgt := 36) hx hb dX12_clash_129 (by decide) ?_
              exact ih_36 _ _ _ hf _ (lv_sub hl [1, 2, 3, 4, 5, 6, 0] rfl)
        refine loop_36 _ (fun y32 y33 hf ls hl => ?_) _ _ _ _ hf _ (lv_sub hl [3, 4, 5, 6, 2, 1, 0] rfl)
        refine lv_iload_n hx hb dX12_clash_132 rfl (lv_at hl 0 rfl) ?_
        refine lv_if_ne (tgt := 141) hx hb dX12_clash_133 (by decide) (fun c34 => ?_) (fun c34 => ?_)
        · replace hf := neg_e c34 hf
          refine lv_iload hx hb dX12_clash_141 (lv_at hl 2 rfl) ?_
          exact gret_i E hr hlk dX12_clash_143 (som_e hf).symm
        · replace hf := pos_e c34 hf
          refine lv_iload hx hb dX12_clash_136 (lv_at hl 1 rfl) ?_
          refine lv_goto (tgt := 143) hx hb dX12_clash_138 (by decide) ?_
          exact gret_i E hr hlk dX12_clash_143 (som_e hf).symm
      · replace hf := pos_e c6 hf
        refine lv_iconst (v := -1) hx hb dX12_clash_24 (by decide) ?_
        exact gret_i E hr hlk dX12_clash_25 (som_e hf).symm
noncomputable def fX12_heard_J74 (a1 : Int32) (v8 : Int32) (z9 : Int32) : Option (Int32) :=
  nmv (v8 ||| z9) fun v10 =>
  if (a1 - a1 / 7 * 7) = 3 then
  some (v10 ||| (8 : Int32))
  else
  some (v10 ||| (0 : Int32))
noncomputable def fX12_heard_J73 (a1 : Int32) (v8 : Int32) : Option (Int32) :=
  fX12_heard_J74 a1 v8 0
noncomputable def fX12_heard_J54 (a1 : Int32) (a2 : Int32) (z5 : Int32) (z7 : Int32) : Option (Int32) :=
  nmv (z5 ||| z7) fun v8 =>
  if a1 ≤ 60 then
  fX12_heard_J73 a1 v8
  else
  if a2 ≤ 20 then
  fX12_heard_J73 a1 v8
  else
  fX12_heard_J74 a1 v8 4
noncomputable def fX12_heard_J53 (a1 : Int32) (a2 : Int32) (z5 : Int32) : Option (Int32) :=
  fX12_heard_J54 a1 a2 z5 0
noncomputable def fX12_heard_J30 (σ : St) (a1 : Int32) (a2 : Int32) (z5 : Int32) : Option (Int32) :=
  bd (fX12_isIn σ a1 50 70) fun r6 =>
  if r6 = 0 then
  fX12_heard_J53 a1 a2 z5
  else
  if 20 < a2 then
  fX12_heard_J53 a1 a2 z5
  else
  fX12_heard_J54 a1 a2 z5 2
noncomputable def fX12_heard (σ : St) (a1 : Int32) (a2 : Int32) : Option (Int32) :=
  bd (fX12_isIn σ a1 0 99) fun r1 =>
  if r1 = 0 then
  some (-1)
  else
  bd (fX12_isForce σ a2) fun r3 =>
  if r3 = 0 then
  some (-1)
  else
  if a1 ≤ 70 then
  fX12_heard_J30 σ a1 a2 0
  else
  fX12_heard_J30 σ a1 a2 1
def rX12_heard : Room := { frames := 2, cells := 0, slots := 0, locals := 42 }
set_option maxHeartbeats 4000000 in
set_option maxRecDepth 100000 in
theorem cX12_heardc {l : Launch} {dC : Nat → ClassId} {dI : Nat → Nat → Nat} {ks : Nat → ClassId} {ad : Nat → Nat → Nat} {σ : St} (a1 : Int32) (a2 : Int32)  {out : Int32} (hf : fX12_heard σ a1 a2 = some out) : MRi l dC dI ks ad σ yX12_heard cX12_heard 4 (some .int) rX12_heard [.ref (ad 14 0), .int a1, .int a2] out := by
  refine met_r (own := RX12) (by decide) rfl (Nat.le_of_ble_eq_true rfl) ?_
  intro p e s m args below meth c ls E hr hlk hP hK hl
  have hx := E.1
  have hb := E.2.1
  have hl : lv_has ls 4 [(0, .ref (ad 14 0)), (1, .int a1), (2, .int a2)] := hl
  unfold fX12_heard at hf
  refine lv_iload_n hx hb dX12_heard_0 rfl (lv_at hl 1 rfl) ?_
  refine lv_iconst (v := 0) hx hb dX12_heard_1 (by decide) ?_
  refine lv_bipush (v := 99) hx hb dX12_heard_2 (by decide) ?_
  obtain ⟨r1, er1, hf⟩ := bd_e hf
  refine gSr_i E hK hP (cX12_isInc _ _ _ er1) kS_X12_isIn wd_5_138 rfl rfl rfl ⟨Nat.le_of_ble_eq_true rfl, Nat.le_of_ble_eq_true rfl⟩ ⟨Nat.zero_le _, Nat.zero_le _⟩ hl.1 (Nat.le_of_ble_eq_true rfl) rfl dX12_heard_4 ?_
  refine lv_if_eq (tgt := 17) hx hb dX12_heard_7 (by decide) (fun c2 => ?_) (fun c2 => ?_)
  · replace hf := pos_e c2 hf
    refine lv_iconst (v := -1) hx hb dX12_heard_17 (by decide) ?_
    exact gret_i E hr hlk dX12_heard_18 (som_e hf).symm
  · replace hf := neg_e c2 hf
    refine lv_iload_n hx hb dX12_heard_10 rfl (lv_at hl 2 rfl) ?_
    obtain ⟨r3, er3, hf⟩ := bd_e hf
    refine gSr_i E hK hP (cX12_isForcec _ er3) kS_X12_isForce wd_6_8 rfl rfl rfl ⟨Nat.le_of_ble_eq_true rfl, Nat.le_of_ble_eq_true rfl⟩ ⟨Nat.zero_le _, Nat.zero_le _⟩ hl.1 (Nat.le_of_ble_eq_true rfl) rfl dX12_heard_11 ?_
    refine lv_if_ne (tgt := 19) hx hb dX12_heard_14 (by decide) (fun c4 => ?_) (fun c4 => ?_)
    · replace hf := neg_e c4 hf
      refine lv_iload_n hx hb dX12_heard_19 rfl (lv_at hl 1 rfl) ?_
      refine lv_bipush (v := 70) hx hb dX12_heard_20 (by decide) ?_
      have hJ_30 : ∀ (z5 : Int32) (hf : fX12_heard_J30 σ a1 a2 z5 = some out) (ls : Array Slot), lv_has ls 4 [(1, .int a1), (2, .int a2)] → W p l e rX12_heard s m args below meth c s.heap [] 0 0 (MQ below (vp_Si (fun r => r = out)) args s 0 0 (fun _ => False)) (F0 m 30 ls [.int z5]) := by
        intro z5 hf ls hl
        unfold fX12_heard_J30 at hf
        refine lv_istore_n (lv' := [(3, .int z5), (1, .int a1), (2, .int a2)]) hx hb dX12_heard_30 rfl hl (by decide) rfl (fun ls hl => ?_)
        refine lv_iload_n hx hb dX12_heard_31 rfl (lv_at hl 0 rfl) ?_
        refine lv_iload_n hx hb dX12_heard_32 rfl (lv_at hl 1 rfl) ?_
        refine lv_bipush (v := 50) hx hb dX12_heard_33 (by decide) ?_
        refine lv_bipush (v := 70) hx hb dX12_heard_35 (by decide) ?_
        obtain ⟨r6, er6, hf⟩ := bd_e hf
        refine gSr_i E hK hP (cX12_isInc _ _ _ er6) kS_X12_isIn wd_5_138 rfl rfl rfl ⟨Nat.le_of_ble_eq_true rfl, Nat.le_of_ble_eq_true rfl⟩ ⟨Nat.zero_le _, Nat.zero_le _⟩ hl.1 (Nat.le_of_ble_eq_true rfl) rfl dX12_heard_37 ?_
        have hJ_54 : ∀ (z7 : Int32) (hf : fX12_heard_J54 a1 a2 z5 z7 = some out) (ls : Array Slot), lv_has ls 4 [(1, .int a1), (2, .int a2)] → W p l e rX12_heard s m args below meth c s.heap [] 0 0 (MQ below (vp_Si (fun r => r = out)) args s 0 0 (fun _ => False)) (F0 m 54 ls [.int z7, .int z5]) := by
          intro z7 hf ls hl
          unfold fX12_heard_J54 at hf
          refine lv_ior hx hb dX12_heard_54 ?_
          obtain ⟨v8, ev8, hf⟩ := nmv_e hf
          refine lv_nmi ev8 ?_
          refine lv_istore_n (lv' := [(3, .int v8), (1, .int a1), (2, .int a2)]) hx hb dX12_heard_55 rfl hl (by decide) rfl (fun ls hl => ?_)
          refine lv_iload_n hx hb dX12_heard_56 rfl (lv_at hl 0 rfl) ?_
          refine lv_iload_n hx hb dX12_heard_57 rfl (lv_at hl 1 rfl) ?_
          refine lv_bipush (v := 60) hx hb dX12_heard_58 (by decide) ?_
          have hJ_74 : ∀ (z9 : Int32) (hf : fX12_heard_J74 a1 v8 z9 = some out) (ls : Array Slot), lv_has ls 4 [(1, .int a1)] → W p l e rX12_heard s m args below meth c s.heap [] 0 0 (MQ below (vp_Si (fun r => r = out)) args s 0 0 (fun _ => False)) (F0 m 74 ls [.int z9, .int v8]) := by
            intro z9 hf ls hl
            unfold fX12_heard_J74 at hf
            refine lv_ior hx hb dX12_heard_74 ?_
            obtain ⟨v10, ev10, hf⟩ := nmv_e hf
            refine lv_nmi ev10 ?_
            refine lv_istore_n (lv' := [(3, .int v10), (1, .int a1)]) hx hb dX12_heard_75 rfl hl (by decide) rfl (fun ls hl => ?_)
            refine lv_iload_n hx hb dX12_heard_76 rfl (lv_at hl 0 rfl) ?_
            refine lv_iload_n hx hb dX12_heard_77 rfl (lv_at hl 1 rfl) ?_
            refine lv_bipush (v := 7) hx hb dX12_heard_78 (by decide) ?_
            refine lv_irem hx hb dX12_heard_80 (by decide) ?_
            refine lv_iconst (v := 3) hx hb dX12_heard_81 (by decide) ?_
            refine lv_icmp_ne (tgt := 90) hx hb dX12_heard_82 (by decide) (fun c11 => ?_) (fun c11 => ?_)
            · replace hf := neg_e c11 hf
              refine lv_iconst (v := 0) hx hb dX12_heard_90 (by decide) ?_
              refine lv_ior hx hb dX12_heard_91 ?_
              exact gret_i E hr hlk dX12_heard_92 (som_e hf).symm
            · replace hf := pos_e c11 hf
              refine lv_bipush (v := 8) hx hb dX12_heard_85 (by decide) ?_
              refine lv_goto (tgt := 91) hx hb dX12_heard_87 (by decide) ?_
              refine lv_ior hx hb dX12_heard_91 ?_
              exact gret_i E hr hlk dX12_heard_92 (som_e hf).symm
          have hJ_73 : ∀ (hf : fX12_heard_J73 a1 v8 = some out) (ls : Array Slot), lv_has ls 4 [(1, .int a1)] → W p l e rX12_heard s m args below meth c s.heap [] 0 0 (MQ below (vp_Si (fun r => r = out)) args s 0 0 (fun _ => False)) (F0 m 73 ls [.int v8]) := by
            intro hf ls hl
            unfold fX12_heard_J73 at hf
            refine lv_iconst (v := 0) hx hb dX12_heard_73 (by decide) ?_
            exact hJ_74 _ hf _ (lv_sub hl [0] rfl)
          refine lv_icmp_le (tgt := 73) hx hb dX12_heard_60 (by decide) (fun c12 => ?_) (fun c12 => ?_)
          · replace hf := pos_e c12 hf
            exact hJ_73 hf _ (lv_sub hl [1] rfl)
          · replace hf := neg_e c12 hf
            refine lv_iload_n hx hb dX12_heard_63 rfl (lv_at hl 2 rfl) ?_
            refine lv_bipush (v := 20) hx hb dX12_heard_64 (by decide) ?_
            refine lv_icmp_le (tgt := 73) hx hb dX12_heard_66 (by decide) (fun c13 => ?_) (fun c13 => ?_)
            · replace hf := pos_e c13 hf
              exact hJ_73 hf _ (lv_sub hl [1] rfl)
            · replace hf := neg_e c13 hf
              refine lv_iconst (v := 4) hx hb dX12_heard_69 (by decide) ?_
              refine lv_goto (tgt := 74) hx hb dX12_heard_70 (by decide) ?_
              exact hJ_74 _ hf _ (lv_sub hl [1] rfl)
        have hJ_53 : ∀ (hf : fX12_heard_J53 a1 a2 z5 = some out) (ls : Array Slot), lv_has ls 4 [(1, .int a1), (2, .int a2)] → W p l e rX12_heard s m args below meth c s.heap [] 0 0 (MQ below (vp_Si (fun r => r = out)) args s 0 0 (fun _ => False)) (F0 m 53 ls [.int z5]) := by
          intro hf ls hl
          unfold fX12_heard_J53 at hf
          refine lv_iconst (v := 0) hx hb dX12_heard_53 (by decide) ?_
          exact hJ_54 _ hf _ (lv_sub hl [0, 1] rfl)
        refine lv_if_eq (tgt := 53) hx hb dX12_heard_40 (by decide) (fun c14 => ?_) (fun c14 => ?_)
        · replace hf := pos_e c14 hf
          exact hJ_53 hf _ (lv_sub hl [1, 2] rfl)
        · replace hf := neg_e c14 hf
          refine lv_iload_n hx hb dX12_heard_43 rfl (lv_at hl 2 rfl) ?_
          refine lv_bipush (v := 20) hx hb dX12_heard_44 (by decide) ?_
          refine lv_icmp_gt (tgt := 53) hx hb dX12_heard_46 (by decide) (fun c15 => ?_) (fun c15 => ?_)
          · replace hf := pos_e c15 hf
            exact hJ_53 hf _ (lv_sub hl [1, 2] rfl)
          · replace hf := neg_e c15 hf
            refine lv_iconst (v := 2) hx hb dX12_heard_49 (by decide) ?_
            refine lv_goto (tgt := 54) hx hb dX12_heard_50 (by decide) ?_
            exact hJ_54 _ hf _ (lv_sub hl [1, 2] rfl)
      refine lv_icmp_le (tgt := 29) hx hb dX12_heard_22 (by decide) (fun c16 => ?_) (fun c16 => ?_)
      · replace hf := pos_e c16 hf
        refine lv_iconst (v := 0) hx hb dX12_heard_29 (by decide) ?_
        exact hJ_30 _ hf _ (lv_sub hl [1, 2] rfl)
      · replace hf := neg_e c16 hf
        refine lv_iconst (v := 1) hx hb dX12_heard_25 (by decide) ?_
        refine lv_goto (tgt := 30) hx hb dX12_heard_26 (by decide) ?_
        exact hJ_30 _ hf _ (lv_sub hl [1, 2] rfl)
    · replace hf := pos_e c4 hf
      refine lv_iconst (v := -1) hx hb dX12_heard_17 (by decide) ?_
      exact gret_i E hr hlk dX12_heard_18 (som_e hf).symm
noncomputable def fX12_gcd_L6B (K_6 : Int64 → Option (Int64)) (rec_6 : Int64 → Int64 → Option (Int64)) (x1 : Int64) (x2 : Int64) : Option (Int64) :=
  if (lg_cmp x2 0) = 0 then
  K_6 x1
  else
  ck (¬ x2 = 0) <|
  nmv (x1 - x1 / x2 * x2) fun v5 =>
  rec_6 x2 v5
noncomputable def fX12_gcd_L6 (K_6 : Int64 → Option (Int64)) : Nat → Int64 → Int64 → Option (Int64)
  | 0 => fun _ _ => none
  | n + 1 => fX12_gcd_L6B K_6 (fX12_gcd_L6 K_6 n)
noncomputable def fX12_gcd (σ : St) (a1 : Int64) (a2 : Int64) : Option (Int64) :=
  fX12_gcd_L6 (fun y6 => some y6) FU a1 a2
def rX12_gcd : Room := { frames := 0, cells := 0, slots := 0, locals := 0 }
set_option maxHeartbeats 4000000 in
set_option maxRecDepth 100000 in
theorem cX12_gcdc {l : Launch} {dC : Nat → ClassId} {dI : Nat → Nat → Nat} {ks : Nat → ClassId} {ad : Nat → Nat → Nat} {σ : St} (a1 : Int64) (a2 : Int64)  {out : Int64} (hf : fX12_gcd σ a1 a2 = some out) : MRl l dC dI ks ad σ yX12_gcd cX12_gcd 10 (some .long) rX12_gcd [.long a1, .long a2] out := by
  refine met_r (own := RX12) (by decide) rfl (Nat.le_of_ble_eq_true rfl) ?_
  intro p e s m args below meth c ls E hr hlk hP hK hl
  have hx := E.1
  have hb := E.2.1
  have hl : lv_has ls 10 [(0, .long a1), (2, .long a2)] := hl
  unfold fX12_gcd at hf
  refine lv_lload_n hx hb dX12_gcd_0 rfl (lv_at hl 0 rfl) ?_
  refine lv_lstore (lv' := [(4, .long a1), (0, .long a1), (2, .long a2)]) hx hb dX12_gcd_1 hl (by decide) rfl (fun ls hl => ?_)
  refine lv_lload_n hx hb dX12_gcd_3 rfl (lv_at hl 2 rfl) ?_
  refine lv_lstore (lv' := [(6, .long a2), (4, .long a1), (0, .long a1), (2, .long a2)]) hx hb dX12_gcd_4 hl (by decide) rfl (fun ls hl => ?_)
  have loop_6 : ∀ (K_6 : Int64 → Option (Int64)) (hK_6 : (∀ (y6 : Int64) (hf : K_6 y6 = some out) (ls : Array Slot), lv_has ls 10 [(4, .long y6)] → W p l e rX12_gcd s m args below meth c s.heap [] 0 0 (MQ below (vp_Sl (fun r => r = out)) args s 0 0 (fun _ => False)) (F0 m 31 ls []))) (n_6 : Nat) (x1 : Int64) (x2 : Int64) (hf : fX12_gcd_L6 K_6 n_6 x1 x2 = some out) (ls : Array Slot), lv_has ls 10 [(4, .long x1), (6, .long x2)] → W p l e rX12_gcd s m args below meth c s.heap [] 0 0 (MQ below (vp_Sl (fun r => r = out)) args s 0 0 (fun _ => False)) (F0 m 6 ls []) := by
    intro K_6 hK_6 n_6
    induction n_6 with
    | zero => intro x1 x2 hf; cases hf
    | succ n_6 ih_6 =>
      intro x1 x2 hf ls hl
      have hf : fX12_gcd_L6B K_6 (fX12_gcd_L6 K_6 n_6) x1 x2 = some out := hf
      unfold fX12_gcd_L6B at hf
      refine lv_lload hx hb dX12_gcd_6 (lv_at hl 1 rfl) ?_
      refine lv_lconst (v := 0) hx hb dX12_gcd_8 (by decide) ?_
      refine W.lcmp hx hb dX12_gcd_9 ?_
      refine lv_if_eq (tgt := 31) hx hb dX12_gcd_10 (by decide) (fun c3 => ?_) (fun c3 => ?_)
      · replace hf := pos_e c3 hf
        exact hK_6 _ hf _ (lv_sub hl [0] rfl)
      · replace hf := neg_e c3 hf
        refine lv_lload hx hb dX12_gcd_13 (lv_at hl 0 rfl) ?_
        refine lv_lload hx hb dX12_gcd_15 (lv_at hl 1 rfl) ?_
        obtain ⟨c4, hf⟩ := ck_e hf
        refine lv_lrem hx hb dX12_gcd_17 c4 ?_
        obtain ⟨v5, ev5, hf⟩ := nmv_e hf
        refine lv_nml ev5 ?_
        refine lv_lstore (lv' := [(8, .long v5), (4, .long x1), (6, .long x2)]) hx hb dX12_gcd_18 hl (by decide) rfl (fun ls hl => ?_)
        refine lv_lload hx hb dX12_gcd_20 (lv_at hl 2 rfl) ?_
        refine lv_lstore (lv' := [(4, .long x2), (8, .long v5), (6, .long x2)]) hx hb dX12_gcd_22 hl (by decide) rfl (fun ls hl => ?_)
        refine lv_lload hx hb dX12_gcd_24 (lv_at hl 1 rfl) ?_
        refine lv_lstore (lv' := [(6, .long v5), (4, .long x2), (8, .long v5)]) hx hb dX12_gcd_26 hl (by decide) rfl (fun ls hl => ?_)
        refine lv_goto (tgt := 6) hx hb dX12_gcd_28 (by decide) ?_
        exact ih_6 _ _ hf _ (lv_sub hl [1, 0] rfl)
  refine loop_6 _ (fun y6 hf ls hl => ?_) _ _ _ hf _ (lv_sub hl [1, 0] rfl)
  refine lv_lload hx hb dX12_gcd_31 (lv_at hl 0 rfl) ?_
  exact gret_l E hr hlk dX12_gcd_33 (som_e hf).symm
noncomputable def fX12_partOf (σ : St) (a1 : Int64) (a2 : Int64) (a3 : Int32) : Option (Int64) :=
  if (lg_cmp a1 0) = 0 then
  some a3.toInt64
  else
  if a3 = 0 then
  bd (fX12_gcd σ a1 a2) fun r5 =>
  ck (¬ r5 = 0) <|
  some (a1 / r5)
  else
  bd (fX12_gcd σ a1 a2) fun r3 =>
  ck (¬ r3 = 0) <|
  some (a2 / r3)
def rX12_partOf : Room := { frames := 1, cells := 0, slots := 0, locals := 29 }
set_option maxHeartbeats 4000000 in
set_option maxRecDepth 100000 in
theorem cX12_partOfc {l : Launch} {dC : Nat → ClassId} {dI : Nat → Nat → Nat} {ks : Nat → ClassId} {ad : Nat → Nat → Nat} {σ : St} (a1 : Int64) (a2 : Int64) (a3 : Int32)  {out : Int64} (hf : fX12_partOf σ a1 a2 a3 = some out) : MRl l dC dI ks ad σ yX12_partOf cX12_partOf 5 (some .long) rX12_partOf [.long a1, .long a2, .int a3] out := by
  refine met_r (own := RX12) (by decide) rfl (Nat.le_of_ble_eq_true rfl) ?_
  intro p e s m args below meth c ls E hr hlk hP hK hl
  have hx := E.1
  have hb := E.2.1
  have hl : lv_has ls 5 [(0, .long a1), (2, .long a2), (4, .int a3)] := hl
  unfold fX12_partOf at hf
  refine lv_lload_n hx hb dX12_partOf_0 rfl (lv_at hl 0 rfl) ?_
  refine lv_lconst (v := 0) hx hb dX12_partOf_1 (by decide) ?_
  refine W.lcmp hx hb dX12_partOf_2 ?_
  refine lv_if_ne (tgt := 10) hx hb dX12_partOf_3 (by decide) (fun c1 => ?_) (fun c1 => ?_)
  · replace hf := neg_e c1 hf
    refine lv_iload hx hb dX12_partOf_10 (lv_at hl 2 rfl) ?_
    refine lv_if_ne (tgt := 19) hx hb dX12_partOf_12 (by decide) (fun c2 => ?_) (fun c2 => ?_)
    · replace hf := neg_e c2 hf
      refine lv_lload_n hx hb dX12_partOf_19 rfl (lv_at hl 1 rfl) ?_
      refine lv_lload_n hx hb dX12_partOf_20 rfl (lv_at hl 0 rfl) ?_
      refine lv_lload_n hx hb dX12_partOf_21 rfl (lv_at hl 1 rfl) ?_
      obtain ⟨r3, er3, hf⟩ := bd_e hf
      refine gSr_l E hK hP (cX12_gcdc _ _ er3) kS_X12_gcd wd_6_179 rfl rfl rfl ⟨Nat.le_of_ble_eq_true rfl, Nat.le_of_ble_eq_true rfl⟩ ⟨Nat.zero_le _, Nat.zero_le _⟩ hl.1 (Nat.le_of_ble_eq_true rfl) rfl dX12_partOf_22 ?_
      obtain ⟨c4, hf⟩ := ck_e hf
      refine lv_ldiv hx hb dX12_partOf_25 c4 ?_
      exact gret_l E hr hlk dX12_partOf_26 (som_e hf).symm
    · replace hf := pos_e c2 hf
      refine lv_lload_n hx hb dX12_partOf_15 rfl (lv_at hl 0 rfl) ?_
      refine lv_goto (tgt := 20) hx hb dX12_partOf_16 (by decide) ?_
      refine lv_lload_n hx hb dX12_partOf_20 rfl (lv_at hl 0 rfl) ?_
      refine lv_lload_n hx hb dX12_partOf_21 rfl (lv_at hl 1 rfl) ?_
      obtain ⟨r5, er5, hf⟩ := bd_e hf
      refine gSr_l E hK hP (cX12_gcdc _ _ er5) kS_X12_gcd wd_6_179 rfl rfl rfl ⟨Nat.le_of_ble_eq_true rfl, Nat.le_of_ble_eq_true rfl⟩ ⟨Nat.zero_le _, Nat.zero_le _⟩ hl.1 (Nat.le_of_ble_eq_true rfl) rfl dX12_partOf_22 ?_
      obtain ⟨c6, hf⟩ := ck_e hf
      refine lv_ldiv hx hb dX12_partOf_25 c6 ?_
      exact gret_l E hr hlk dX12_partOf_26 (som_e hf).symm
  · replace hf := pos_e c1 hf
    refine lv_iload hx hb dX12_partOf_6 (lv_at hl 2 rfl) ?_
    refine lv_i2l hx hb dX12_partOf_8 rfl ?_
    exact gret_l E hr hlk dX12_partOf_9 (som_e hf).symm
noncomputable def fX12_nearParts_J39 (x3 : Int32) (rec_15 : Int32 → St → Option (Int64 × St)) (z6 : Int64) (σ7 : St) : Option (Int64 × St) :=
  ck (vp_in x3 13) <|
  nmv (sL σ7 12 x3.toNatClampNeg z6) fun σ9 =>
  nmv (x3 + 1) fun v10 =>
  rec_15 v10 σ9
noncomputable def fX12_nearParts_L15B (a1 : Int32) (K_15 : St → Option (Int64 × St)) (rec_15 : Int32 → St → Option (Int64 × St)) (x3 : Int32) (σ4 : St) : Option (Int64 × St) :=
  if 13 ≤ x3 then
  K_15 σ4
  else
  if x3 = a1 then
  fX12_nearParts_J39 x3 rec_15 1 σ4
  else
  fX12_nearParts_J39 x3 rec_15 0 σ4
noncomputable def fX12_nearParts_L15 (a1 : Int32) (K_15 : St → Option (Int64 × St)) : Nat → Int32 → St → Option (Int64 × St)
  | 0 => fun _ _ => none
  | n + 1 => fX12_nearParts_L15B a1 K_15 (fX12_nearParts_L15 a1 K_15 n)
noncomputable def fX12_nearParts_L58B (K_58 : St → Option (Int64 × St)) (rec_58 : Int32 → St → Option (Int64 × St)) (x16 : Int32) (σ17 : St) : Option (Int64 × St) :=
  if 13 ≤ x16 then
  K_58 σ17
  else
  ck (vp_in x16 13) <|
  nmv (sL σ17 13 x16.toNatClampNeg 0) fun σ20 =>
  nmv (x16 + 1) fun v21 =>
  rec_58 v21 σ20
noncomputable def fX12_nearParts_L58 (K_58 : St → Option (Int64 × St)) : Nat → Int32 → St → Option (Int64 × St)
  | 0 => fun _ _ => none
  | n + 1 => fX12_nearParts_L58B K_58 (fX12_nearParts_L58 K_58 n)
noncomputable def fX12_nearParts_J121 (v1 : Int32) (v2 : Int32) (x26 : Int32) (rec_98 : Int32 → St → Option (Int64 × St)) (z29 : Int32) (σ30 : St) : Option (Int64 × St) :=
  ck (vp_in (x26 - 1) 13) <|
  ck (vp_in x26 13) <|
  ck (vp_in (x26 - 1) 13) <|
  nmv (sL σ30 13 (x26 - 1).toNatClampNeg ((gL σ30 13 (x26 - 1).toNatClampNeg) + (v1.toInt64 * (gL σ30 12 x26.toNatClampNeg)))) fun σ34 =>
  ck (vp_in z29 13) <|
  ck (vp_in x26 13) <|
  ck (vp_in z29 13) <|
  nmv (sL σ34 13 z29.toNatClampNeg ((gL σ34 13 z29.toNatClampNeg) + (v2.toInt64 * (gL σ34 12 x26.toNatClampNeg)))) fun σ38 =>
  ck (vp_in x26 13) <|
  ck (vp_in x26 13) <|
  ck (vp_in x26 13) <|
  nmv (sL σ38 13 x26.toNatClampNeg ((gL σ38 13 x26.toNatClampNeg) + ((((10 - v1) - v2).toInt64) * (gL σ38 12 x26.toNatClampNeg)))) fun σ42 =>
  nmv (x26 + 1) fun v43 =>
  rec_98 v43 σ42
noncomputable def fX12_nearParts_L98B (v1 : Int32) (v2 : Int32) (K_98 : St → Option (Int64 × St)) (rec_98 : Int32 → St → Option (Int64 × St)) (x26 : Int32) (σ27 : St) : Option (Int64 × St) :=
  if 13 ≤ x26 then
  K_98 σ27
  else
  if x26 = 12 then
  fX12_nearParts_J121 v1 v2 x26 rec_98 12 σ27
  else
  fX12_nearParts_J121 v1 v2 x26 rec_98 (x26 + 1) σ27
noncomputable def fX12_nearParts_L98 (v1 : Int32) (v2 : Int32) (K_98 : St → Option (Int64 × St)) : Nat → Int32 → St → Option (Int64 × St)
  | 0 => fun _ _ => none
  | n + 1 => fX12_nearParts_L98B v1 v2 K_98 (fX12_nearParts_L98 v1 v2 K_98 n)
noncomputable def fX12_nearParts_L203B (K_203 : St → Option (Int64 × St)) (rec_203 : Int32 → St → Option (Int64 × St)) (x46 : Int32) (σ47 : St) : Option (Int64 × St) :=
  if 13 ≤ x46 then
  K_203 σ47
  else
  ck (vp_in x46 13) <|
  ck (vp_in x46 13) <|
  nmv (sL σ47 12 x46.toNatClampNeg (gL σ47 13 x46.toNatClampNeg)) fun σ51 =>
  nmv (x46 + 1) fun v52 =>
  rec_203 v52 σ51
noncomputable def fX12_nearParts_L203 (K_203 : St → Option (Int64 × St)) : Nat → Int32 → St → Option (Int64 × St)
  | 0 => fun _ _ => none
  | n + 1 => fX12_nearParts_L203B K_203 (fX12_nearParts_L203 K_203 n)
noncomputable def fX12_nearParts_L49B (a3 : Int32) (v1 : Int32) (v2 : Int32) (K_49 : St → Option (Int64 × St)) (rec_49 : Int32 → St → Option (Int64 × St)) (x13 : Int32) (σ14 : St) : Option (Int64 × St) :=
  if a3 ≤ x13 then
  K_49 σ14
  else
  fX12_nearParts_L58 (fun σ22 => ck (vp_in 0 13) <|
  ck (vp_in 0 13) <|
  nmv (sL σ22 13 (0 : Int32).toNatClampNeg (10 * (gL σ22 12 (0 : Int32).toNatClampNeg))) fun σ25 =>
  fX12_nearParts_L98 v1 v2 (fun σ45 => fX12_nearParts_L203 (fun σ53 => nmv (x13 + 1) fun v54 =>
  rec_49 v54 σ53) FU 0 σ45) FU 1 σ25) FU 0 σ14
noncomputable def fX12_nearParts_L49 (a3 : Int32) (v1 : Int32) (v2 : Int32) (K_49 : St → Option (Int64 × St)) : Nat → Int32 → St → Option (Int64 × St)
  | 0 => fun _ _ => none
  | n + 1 => fX12_nearParts_L49B a3 v1 v2 K_49 (fX12_nearParts_L49 a3 v1 v2 K_49 n)
noncomputable def fX12_nearParts (σ : St) (a1 : Int32) (a2 : Int32) (a3 : Int32) : Option (Int64 × St) :=
  nmv (a2 / 100) fun v1 =>
  nmv (a2 - a2 / 100 * 100) fun v2 =>
  fX12_nearParts_L15 a1 (fun σ12 => fX12_nearParts_L49 a3 v1 v2 (fun σ55 => ck (vp_in 0 13) <|
  some (gL σ55 12 (0 : Int32).toNatClampNeg, σ55)) FU 0 σ12) FU 0 σ
def rX12_nearParts : Room := { frames := 0, cells := 0, slots := 0, locals := 0 }
set_option maxHeartbeats 4000000 in
set_option maxRecDepth 100000 in
theorem cX12_nearPartsc {l : Launch} {dC : Nat → ClassId} {dI : Nat → Nat → Nat} {ks : Nat → ClassId} {ad : Nat → Nat → Nat} {σ : St} (a1 : Int32) (a2 : Int32) (a3 : Int32)  {out : Int64 × St} (hf : fX12_nearParts σ a1 a2 a3 = some out) : MWl l dC dI ks ad σ yX12_nearParts cX12_nearParts 9 (some .long) rX12_nearParts [.ref (ad 14 0), .int a1, .int a2, .int a3] out := by
  intro sz
  refine met_w (Qc := fun A => va_Ql (fun r σ' => r = out.1 ∧ σ' = out.2) (gBw dC dI ks ad A) A) (own := RX12) (by decide) rfl (Nat.le_of_ble_eq_true rfl) ?_
  intro A p e s m args below meth c ls E hr hlk hA hP hD hS hK hl
  have hx := E.1
  have hb := E.2.1
  have hl : lv_has ls 9 [(0, .ref (ad 14 0)), (1, .int a1), (2, .int a2), (3, .int a3)] := hl
  unfold fX12_nearParts at hf
  refine lv_iload_n hx hb dX12_nearParts_0 rfl (lv_at hl 2 rfl) ?_
  refine lv_bipush (v := 100) hx hb dX12_nearParts_1 (by decide) ?_
  refine lv_idiv hx hb dX12_nearParts_3 (by decide) ?_
  obtain ⟨v1, ev1, hf⟩ := nmv_e hf
  refine lv_nmi ev1 ?_
  refine lv_istore (lv' := [(4, .int v1), (0, .ref (ad 14 0)), (1, .int a1), (2, .int a2), (3, .int a3)]) hx hb dX12_nearParts_4 hl (by decide) rfl (fun ls hl => ?_)
  refine lv_iload_n hx hb dX12_nearParts_6 rfl (lv_at hl 3 rfl) ?_
  refine lv_bipush (v := 100) hx hb dX12_nearParts_7 (by decide) ?_
  refine lv_irem hx hb dX12_nearParts_9 (by decide) ?_
  obtain ⟨v2, ev2, hf⟩ := nmv_e hf
  refine lv_nmi ev2 ?_
  refine lv_istore (lv' := [(5, .int v2), (4, .int v1), (0, .ref (ad 14 0)), (1, .int a1), (2, .int a2), (3, .int a3)]) hx hb dX12_nearParts_10 hl (by decide) rfl (fun ls hl => ?_)
  refine lv_iconst (v := 0) hx hb dX12_nearParts_12 (by decide) ?_
  refine lv_istore (lv' := [(6, .int 0), (5, .int v2), (4, .int v1), (0, .ref (ad 14 0)), (1, .int a1), (2, .int a2), (3, .int a3)]) hx hb dX12_nearParts_13 hl (by decide) rfl (fun ls hl => ?_)
  have loop_15 : ∀ (K_15 : St → Option (Int64 × St)) (hK_15 : (∀ (σ12 : St) (H : Heap) (locs : List Loc) (hP : va_P (dC, dI) vwCl (wG ks ad σ12) H) (hD : va_D A (wG ks ad σ12)) (hS : va_S A s.heap H locs) (hf : K_15 σ12 = some out) (ls : Array Slot), lv_has ls 9 [(0, .ref (ad 14 0)), (3, .int a3), (4, .int v1), (5, .int v2)] → W p l e rX12_nearParts s m args below meth c H locs 0 0 (MQ below (va_Ql (fun r σ' => r = out.1 ∧ σ' = out.2) (gBw dC dI ks ad A) A) args s 0 0 A) (F0 m 46 ls []))) (n_15 : Nat) (x3 : Int32) (σ4 : St) (H : Heap) (locs : List Loc) (hP : va_P (dC, dI) vwCl (wG ks ad σ4) H) (hD : va_D A (wG ks ad σ4)) (hS : va_S A s.heap H locs) (hf : fX12_nearParts_L15 a1 K_15 n_15 x3 σ4 = some out) (ls : Array Slot), lv_has ls 9 [(0, .ref (ad 14 0)), (1, .int a1), (3, .int a3), (4, .int v1), (5, .int v2), (6, .int x3)] → W p l e rX12_nearParts s m args below meth c H locs 0 0 (MQ below (va_Ql (fun r σ' => r = out.1 ∧ σ' = out.2) (gBw dC dI ks ad A) A) args s 0 0 A) (F0 m 15 ls []) := by
    intro K_15 hK_15 n_15
    induction n_15 with
    | zero => intro x3 σ4 H locs hP hD hS hf; cases hf
    | succ n_15 ih_15 =>
      intro x3 σ4 H locs hP hD hS hf ls hl
      have hf : fX12_nearParts_L15B a1 K_15 (fX12_nearParts_L15 a1 K_15 n_15) x3 σ4 = some out := hf
      unfold fX12_nearParts_L15B at hf
      refine lv_iload hx hb dX12_nearParts_15 (lv_at hl 5 rfl) ?_
      refine lv_bipush (v := 13) hx hb dX12_nearParts_17 (by decide) ?_
      refine lv_icmp_ge (tgt := 46) hx hb dX12_nearParts_19 (by decide) (fun c5 => ?_) (fun c5 => ?_)
      · replace hf := pos_e c5 hf
        exact hK_15 _ _ _ hP hD hS hf _ (lv_sub hl [0, 2, 3, 4] rfl)
      · replace hf := neg_e c5 hf
        refine lv_aload_n hx hb dX12_nearParts_22 rfl (lv_at hl 0 rfl) ?_
        refine gget E in_X12 hK hP (q_model ks ad σ4) rfl (k := 12) (by decide) wd_5_72 rfl (v := .ref (ad 13 12)) rfl dX12_nearParts_23 ?_
        refine lv_iload hx hb dX12_nearParts_26 (lv_at hl 5 rfl) ?_
        refine lv_iload hx hb dX12_nearParts_28 (lv_at hl 5 rfl) ?_
        refine lv_iload_n hx hb dX12_nearParts_30 rfl (lv_at hl 1 rfl) ?_
        have hJ_39 : ∀ (z6 : Int64) (σ7 : St) (H : Heap) (locs : List Loc) (hP : va_P (dC, dI) vwCl (wG ks ad σ7) H) (hD : va_D A (wG ks ad σ7)) (hS : va_S A s.heap H locs) (hf : fX12_nearParts_J39 x3 (fX12_nearParts_L15 a1 K_15 n_15) z6 σ7 = some out) (ls : Array Slot), lv_has ls 9 [(0, .ref (ad 14 0)), (1, .int a1), (3, .int a3), (4, .int v1), (5, .int v2), (6, .int x3)] → W p l e rX12_nearParts s m args below meth c H locs 0 0 (MQ below (va_Ql (fun r σ' => r = out.1 ∧ σ' = out.2) (gBw dC dI ks ad A) A) args s 0 0 A) (F0 m 39 ls [.long z6, .int x3, .ref (ad 13 12)]) := by
          intro z6 σ7 H locs hP hD hS hf ls hl
          unfold fX12_nearParts_J39 at hf
          obtain ⟨c8, hf⟩ := ck_e hf
          obtain ⟨σ9, eσ9, hf⟩ := nmv_e hf
          refine glast E hK hP hD hS (q_L12 ks ad σ7) c8 (σ' := σ9) (by rw [eσ9]; exact st_L12 ks ad σ7 _) dX12_nearParts_39 (fun H locs hP hD hS => ?_)
          obtain ⟨v10, ev10, hf⟩ := nmv_e hf
          refine lv_iinc (v := v10) (lv' := [(6, .int v10), (0, .ref (ad 14 0)), (1, .int a1), (3, .int a3), (4, .int v1), (5, .int v2)]) hx hb dX12_nearParts_40 hl (k := 5) rfl (by rw [ev10]; rfl) (by decide) rfl (fun ls hl => ?_)
          refine lv_goto (tgt := 15) hx hb dX12_nearParts_43 (by decide) ?_
          exact ih_15 _ _ _ _ hP hD hS hf _ (lv_sub hl [1, 2, 3, 4, 5, 0] rfl)
        refine lv_icmp_ne (tgt := 38) hx hb dX12_nearParts_31 (by decide) (fun c11 => ?_) (fun c11 => ?_)
        · replace hf := neg_e c11 hf
          refine lv_lconst (v := 0) hx hb dX12_nearParts_38 (by decide) ?_
          exact hJ_39 _ _ _ _ hP hD hS hf _ (lv_sub hl [0, 1, 2, 3, 4, 5] rfl)
        · replace hf := pos_e c11 hf
          refine lv_lconst (v := 1) hx hb dX12_nearParts_34 (by decide) ?_
          refine lv_goto (tgt := 39) hx hb dX12_nearParts_35 (by decide) ?_
          exact hJ_39 _ _ _ _ hP hD hS hf _ (lv_sub hl [0, 1, 2, 3, 4, 5] rfl)
  refine loop_15 _ (fun σ12 H locs hP hD hS hf ls hl => ?_) _ _ _ _ _ hP hD hS hf _ (lv_sub hl [3, 4, 6, 2, 1, 0] rfl)
  refine lv_iconst (v := 0) hx hb dX12_nearParts_46 (by decide) ?_
  refine lv_istore (lv' := [(6, .int 0), (0, .ref (ad 14 0)), (3, .int a3), (4, .int v1), (5, .int v2)]) hx hb dX12_nearParts_47 hl (by decide) rfl (fun ls hl => ?_)
  have loop_49 : ∀ (K_49 : St → Option (Int64 × St)) (hK_49 : (∀ (σ55 : St) (H : Heap) (locs : List Loc) (hP : va_P (dC, dI) vwCl (wG ks ad σ55) H) (hD : va_D A (wG ks ad σ55)) (hS : va_S A s.heap H locs) (hf : K_49 σ55 = some out) (ls : Array Slot), lv_has ls 9 [(0, .ref (ad 14 0))] → W p l e rX12_nearParts s m args below meth c H locs 0 0 (MQ below (va_Ql (fun r σ' => r = out.1 ∧ σ' = out.2) (gBw dC dI ks ad A) A) args s 0 0 A) (F0 m 236 ls []))) (n_49 : Nat) (x13 : Int32) (σ14 : St) (H : Heap) (locs : List Loc) (hP : va_P (dC, dI) vwCl (wG ks ad σ14) H) (hD : va_D A (wG ks ad σ14)) (hS : va_S A s.heap H locs) (hf : fX12_nearParts_L49 a3 v1 v2 K_49 n_49 x13 σ14 = some out) (ls : Array Slot), lv_has ls 9 [(0, .ref (ad 14 0)), (3, .int a3), (4, .int v1), (5, .int v2), (6, .int x13)] → W p l e rX12_nearParts s m args below meth c H locs 0 0 (MQ below (va_Ql (fun r σ' => r = out.1 ∧ σ' = out.2) (gBw dC dI ks ad A) A) args s 0 0 A) (F0 m 49 ls []) := by
    intro K_49 hK_49 n_49
    induction n_49 with
    | zero => intro x13 σ14 H locs hP hD hS hf; cases hf
    | succ n_49 ih_49 =>
      intro x13 σ14 H locs hP hD hS hf ls hl
      have hf : fX12_nearParts_L49B a3 v1 v2 K_49 (fX12_nearParts_L49 a3 v1 v2 K_49 n_49) x13 σ14 = some out := hf
      unfold fX12_nearParts_L49B at hf
      refine lv_iload hx hb dX12_nearParts_49 (lv_at hl 4 rfl) ?_
      refine lv_iload_n hx hb dX12_nearParts_51 rfl (lv_at hl 1 rfl) ?_
      refine lv_icmp_ge (tgt := 236) hx hb dX12_nearParts_52 (by decide) (fun c15 => ?_) (fun c15 => ?_)
      · replace hf := pos_e c15 hf
        exact hK_49 _ _ _ hP hD hS hf _ (lv_sub hl [0] rfl)
      · replace hf := neg_e c15 hf
        refine lv_iconst (v := 0) hx hb dX12_nearParts_55 (by decide) ?_
        refine lv_istore (lv' := [(7, .int 0), (0, .ref (ad 14 0)), (3, .int a3), (4, .int v1), (5, .int v2), (6, .int x13)]) hx hb dX12_nearParts_56 hl (by decide) rfl (fun ls hl => ?_)
        have loop_58 : ∀ (K_58 : St → Option (Int64 × St)) (hK_58 : (∀ (σ22 : St) (H : Heap) (locs : List Loc) (hP : va_P (dC, dI) vwCl (wG ks ad σ22) H) (hD : va_D A (wG ks ad σ22)) (hS : va_S A s.heap H locs) (hf : K_58 σ22 = some out) (ls : Array Slot), lv_has ls 9 [(0, .ref (ad 14 0)), (3, .int a3), (4, .int v1), (5, .int v2), (6, .int x13)] → W p l e rX12_nearParts s m args below meth c H locs 0 0 (MQ below (va_Ql (fun r σ' => r = out.1 ∧ σ' = out.2) (gBw dC dI ks ad A) A) args s 0 0 A) (F0 m 79 ls []))) (n_58 : Nat) (x16 : Int32) (σ17 : St) (H : Heap) (locs : List Loc) (hP : va_P (dC, dI) vwCl (wG ks ad σ17) H) (hD : va_D A (wG ks ad σ17)) (hS : va_S A s.heap H locs) (hf : fX12_nearParts_L58 K_58 n_58 x16 σ17 = some out) (ls : Array Slot), lv_has ls 9 [(0, .ref (ad 14 0)), (3, .int a3), (4, .int v1), (5, .int v2), (6, .int x13), (7, .int x16)] → W p l e rX12_nearParts s m args below meth c H locs 0 0 (MQ below (va_Ql (fun r σ' => r = out.1 ∧ σ' = out.2) (gBw dC dI ks ad A) A) args s 0 0 A) (F0 m 58 ls []) := by
          intro K_58 hK_58 n_58
          induction n_58 with
          | zero => intro x16 σ17 H locs hP hD hS hf; cases hf
          | succ n_58 ih_58 =>
            intro x16 σ17 H locs hP hD hS hf ls hl
            have hf : fX12_nearParts_L58B K_58 (fX12_nearParts_L58 K_58 n_58) x16 σ17 = some out := hf
            unfold fX12_nearParts_L58B at hf
            refine lv_iload hx hb dX12_nearParts_58 (lv_at hl 5 rfl) ?_
            refine lv_bipush (v := 13) hx hb dX12_nearParts_60 (by decide) ?_
            refine lv_icmp_ge (tgt := 79) hx hb dX12_nearParts_62 (by decide) (fun c18 => ?_) (fun c18 => ?_)
            · replace hf := pos_e c18 hf
              exact hK_58 _ _ _ hP hD hS hf _ (lv_sub hl [0, 1, 2, 3, 4] rfl)
            · replace hf := neg_e c18 hf
              refine lv_aload_n hx hb dX12_nearParts_65 rfl (lv_at hl 0 rfl) ?_
              refine gget E in_X12 hK hP (q_model ks ad σ17) rfl (k := 13) (by decide) wd_5_73 rfl (v := .ref (ad 13 13)) rfl dX12_nearParts_66 ?_
              refine lv_iload hx hb dX12_nearParts_69 (lv_at hl 5 rfl) ?_
              refine lv_lconst (v := 0) hx hb dX12_nearParts_71 (by decide) ?_
              obtain ⟨c19, hf⟩ := ck_e hf
              obtain ⟨σ20, eσ20, hf⟩ := nmv_e hf
              refine glast E hK hP hD hS (q_L13 ks ad σ17) c19 (σ' := σ20) (by rw [eσ20]; exact st_L13 ks ad σ17 _) dX12_nearParts_72 (fun H locs hP hD hS => ?_)
              obtain ⟨v21, ev21, hf⟩ := nmv_e hf
              refine lv_iinc (v := v21) (lv' := [(7, .int v21), (0, .ref (ad 14 0)), (3, .int a3), (4, .int v1), (5, .int v2), (6, .int x13)]) hx hb dX12_nearParts_73 hl (k := 5) rfl (by rw [ev21]; rfl) (by decide) rfl (fun ls hl => ?_)
              refine lv_goto (tgt := 58) hx hb dX12_nearParts_76 (by decide) ?_
              exact ih_58 _ _ _ _ hP hD hS hf _ (lv_sub hl [1, 2, 3, 4, 5, 0] rfl)
        refine loop_58 _ (fun σ22 H locs hP hD hS hf ls hl => ?_) _ _ _ _ _ hP hD hS hf _ (lv_sub hl [1, 2, 3, 4, 5, 0] rfl)
        refine lv_aload_n hx hb dX12_nearParts_79 rfl (lv_at hl 0 rfl) ?_
        refine gget E in_X12 hK hP (q_model ks ad σ22) rfl (k := 13) (by decide) wd_5_73 rfl (v := .ref (ad 13 13)) rfl dX12_nearParts_80 ?_
        refine lv_iconst (v := 0) hx hb dX12_nearParts_83 (by decide) ?_
        refine lv_ldc2 (v := 10) hx hb E.2.2.2.1 (E.2.2.2.2 _ wd_6_172) dX12_nearParts_84 ?_
        refine lv_aload_n hx hb dX12_nearParts_87 rfl (lv_at hl 0 rfl) ?_
        refine gget E in_X12 hK hP (q_model ks ad σ22) rfl (k := 12) (by decide) wd_5_72 rfl (v := .ref (ad 13 12)) rfl dX12_nearParts_88 ?_
        refine lv_iconst (v := 0) hx hb dX12_nearParts_91 (by decide) ?_
        obtain ⟨c23, hf⟩ := ck_e hf
        refine glald E hK hP (q_L12 ks ad σ22) c23 dX12_nearParts_92 ?_
        refine lv_lmul hx hb dX12_nearParts_93 ?_
        obtain ⟨c24, hf⟩ := ck_e hf
        obtain ⟨σ25, eσ25, hf⟩ := nmv_e hf
        refine glast E hK hP hD hS (q_L13 ks ad σ22) c24 (σ' := σ25) (by rw [eσ25]; exact st_L13 ks ad σ22 _) dX12_nearParts_94 (fun H locs hP hD hS => ?_)
        refine lv_iconst (v := 1) hx hb dX12_nearParts_95 (by decide) ?_
        refine lv_istore (lv' := [(7, .int 1), (0, .ref (ad 14 0)), (3, .int a3), (4, .int v1), (5, .int v2), (6, .int x13)]) hx hb dX12_nearParts_96 hl (by decide) rfl (fun ls hl => ?_)
        have loop_98 : ∀ (K_98 : St → Option (Int64 × St)) (hK_98 : (∀ (σ45 : St) (H : Heap) (locs : List Loc) (hP : va_P (dC, dI) vwCl (wG ks ad σ45) H) (hD : va_D A (wG ks ad σ45)) (hS : va_S A s.heap H locs) (hf : K_98 σ45 = some out) (ls : Array Slot), lv_has ls 9 [(0, .ref (ad 14 0)), (3, .int a3), (4, .int v1), (5, .int v2), (6, .int x13)] → W p l e rX12_nearParts s m args below meth c H locs 0 0 (MQ below (va_Ql (fun r σ' => r = out.1 ∧ σ' = out.2) (gBw dC dI ks ad A) A) args s 0 0 A) (F0 m 200 ls []))) (n_98 : Nat) (x26 : Int32) (σ27 : St) (H : Heap) (locs : List Loc) (hP : va_P (dC, dI) vwCl (wG ks ad σ27) H) (hD : va_D A (wG ks ad σ27)) (hS : va_S A s.heap H locs) (hf : fX12_nearParts_L98 v1 v2 K_98 n_98 x26 σ27 = some out) (ls : Array Slot), lv_has ls 9 [(0, .ref (ad 14 0)), (3, .int a3), (4, .int v1), (5, .int v2), (6, .int x13), (7, .int x26)] → W p l e rX12_nearParts s m args below meth c H locs 0 0 (MQ below (va_Ql (fun r σ' => r = out.1 ∧ σ' = out.2) (gBw dC dI ks ad A) A) args s 0 0 A) (F0 m 98 ls []) := by
          intro K_98 hK_98 n_98
          induction n_98 with
          | zero => intro x26 σ27 H locs hP hD hS hf; cases hf
          | succ n_98 ih_98 =>
            intro x26 σ27 H locs hP hD hS hf ls hl
            have hf : fX12_nearParts_L98B v1 v2 K_98 (fX12_nearParts_L98 v1 v2 K_98 n_98) x26 σ27 = some out := hf
            unfold fX12_nearParts_L98B at hf
            refine lv_iload hx hb dX12_nearParts_98 (lv_at hl 5 rfl) ?_
            refine lv_bipush (v := 13) hx hb dX12_nearParts_100 (by decide) ?_
            refine lv_icmp_ge (tgt := 200) hx hb dX12_nearParts_102 (by decide) (fun c28 => ?_) (fun c28 => ?_)
            · replace hf := pos_e c28 hf
              exact hK_98 _ _ _ hP hD hS hf _ (lv_sub hl [0, 1, 2, 3, 4] rfl)
            · replace hf := neg_e c28 hf
              refine lv_iload hx hb dX12_nearParts_105 (lv_at hl 5 rfl) ?_
              refine lv_bipush (v := 12) hx hb dX12_nearParts_107 (by decide) ?_
              have hJ_121 : ∀ (z29 : Int32) (σ30 : St) (H : Heap) (locs : List Loc) (hP : va_P (dC, dI) vwCl (wG ks ad σ30) H) (hD : va_D A (wG ks ad σ30)) (hS : va_S A s.heap H locs) (hf : fX12_nearParts_J121 v1 v2 x26 (fX12_nearParts_L98 v1 v2 K_98 n_98) z29 σ30 = some out) (ls : Array Slot), lv_has ls 9 [(0, .ref (ad 14 0)), (3, .int a3), (4, .int v1), (5, .int v2), (6, .int x13), (7, .int x26)] → W p l e rX12_nearParts s m args below meth c H locs 0 0 (MQ below (va_Ql (fun r σ' => r = out.1 ∧ σ' = out.2) (gBw dC dI ks ad A) A) args s 0 0 A) (F0 m 121 ls [.int z29]) := by
                intro z29 σ30 H locs hP hD hS hf ls hl
                unfold fX12_nearParts_J121 at hf
                refine lv_istore (lv' := [(8, .int z29), (0, .ref (ad 14 0)), (3, .int a3), (4, .int v1), (5, .int v2), (6, .int x13), (7, .int x26)]) hx hb dX12_nearParts_121 hl (by decide) rfl (fun ls hl => ?_)
                refine lv_aload_n hx hb dX12_nearParts_123 rfl (lv_at hl 1 rfl) ?_
                refine gget E in_X12 hK hP (q_model ks ad σ30) rfl (k := 13) (by decide) wd_5_73 rfl (v := .ref (ad 13 13)) rfl dX12_nearParts_124 ?_
                refine lv_iload hx hb dX12_nearParts_127 (lv_at hl 6 rfl) ?_
                refine lv_iconst (v := 1) hx hb dX12_nearParts_129 (by decide) ?_
                refine lv_isub hx hb dX12_nearParts_130 ?_
                refine lv_dup2_11 hx hb dX12_nearParts_131 rfl rfl ?_
                obtain ⟨c31, hf⟩ := ck_e hf
                refine glald E hK hP (q_L13 ks ad σ30) c31 dX12_nearParts_132 ?_
                refine lv_iload hx hb dX12_nearParts_133 (lv_at hl 3 rfl) ?_
                refine lv_i2l hx hb dX12_nearParts_135 rfl ?_
                refine lv_aload_n hx hb dX12_nearParts_136 rfl (lv_at hl 1 rfl) ?_
                refine gget E in_X12 hK hP (q_model ks ad σ30) rfl (k := 12) (by decide) wd_5_72 rfl (v := .ref (ad 13 12)) rfl dX12_nearParts_137 ?_
                refine lv_iload hx hb dX12_nearParts_140 (lv_at hl 6 rfl) ?_
                obtain ⟨c32, hf⟩ := ck_e hf
                refine glald E hK hP (q_L12 ks ad σ30) c32 dX12_nearParts_142 ?_
                refine lv_lmul hx hb dX12_nearParts_143 ?_
                refine lv_ladd hx hb dX12_nearParts_144 ?_
                obtain ⟨c33, hf⟩ := ck_e hf
                obtain ⟨σ34, eσ34, hf⟩ := nmv_e hf
                refine glast E hK hP hD hS (q_L13 ks ad σ30) c33 (σ' := σ34) (by rw [eσ34]; exact st_L13 ks ad σ30 _) dX12_nearParts_145 (fun H locs hP hD hS => ?_)
                refine lv_aload_n hx hb dX12_nearParts_146 rfl (lv_at hl 1 rfl) ?_
                refine gget E in_X12 hK hP (q_model ks ad σ34) rfl (k := 13) (by decide) wd_5_73 rfl (v := .ref (ad 13 13)) rfl dX12_nearParts_147 ?_
                refine lv_iload hx hb dX12_nearParts_150 (lv_at hl 0 rfl) ?_
                refine lv_dup2_11 hx hb dX12_nearParts_152 rfl rfl ?_
                obtain ⟨c35, hf⟩ := ck_e hf
                refine glald E hK hP (q_L13 ks ad σ34) c35 dX12_nearParts_153 ?_
                refine lv_iload hx hb dX12_nearParts_154 (lv_at hl 4 rfl) ?_
                refine lv_i2l hx hb dX12_nearParts_156 rfl ?_
                refine lv_aload_n hx hb dX12_nearParts_157 rfl (lv_at hl 1 rfl) ?_
                refine gget E in_X12 hK hP (q_model ks ad σ34) rfl (k := 12) (by decide) wd_5_72 rfl (v := .ref (ad 13 12)) rfl dX12_nearParts_158 ?_
                refine lv_iload hx hb dX12_nearParts_161 (lv_at hl 6 rfl) ?_
                obtain ⟨c36, hf⟩ := ck_e hf
                refine glald E hK hP (q_L12 ks ad σ34) c36 dX12_nearParts_163 ?_
                refine lv_lmul hx hb dX12_nearParts_164 ?_
                refine lv_ladd hx hb dX12_nearParts_165 ?_
                obtain ⟨c37, hf⟩ := ck_e hf
                obtain ⟨σ38, eσ38, hf⟩ := nmv_e hf
                refine glast E hK hP hD hS (q_L13 ks ad σ34) c37 (σ' := σ38) (by rw [eσ38]; exact st_L13 ks ad σ34 _) dX12_nearParts_166 (fun H locs hP hD hS => ?_)
                refine lv_aload_n hx hb dX12_nearParts_167 rfl (lv_at hl 1 rfl) ?_
                refine gget E in_X12 hK hP (q_model ks ad σ38) rfl (k := 13) (by decide) wd_5_73 rfl (v := .ref (ad 13 13)) rfl dX12_nearParts_168 ?_
                refine lv_iload hx hb dX12_nearParts_171 (lv_at hl 6 rfl) ?_
                refine lv_dup2_11 hx hb dX12_nearParts_173 rfl rfl ?_
                obtain ⟨c39, hf⟩ := ck_e hf
                refine glald E hK hP (q_L13 ks ad σ38) c39 dX12_nearParts_174 ?_
                refine lv_bipush (v := 10) hx hb dX12_nearParts_175 (by decide) ?_
                refine lv_iload hx hb dX12_nearParts_177 (lv_at hl 3 rfl) ?_
                refine lv_isub hx hb dX12_nearParts_179 ?_
                refine lv_iload hx hb dX12_nearParts_180 (lv_at hl 4 rfl) ?_
                refine lv_isub hx hb dX12_nearParts_182 ?_
                refine lv_i2l hx hb dX12_nearParts_183 rfl ?_
                refine lv_aload_n hx hb dX12_nearParts_184 rfl (lv_at hl 1 rfl) ?_
                refine gget E in_X12 hK hP (q_model ks ad σ38) rfl (k := 12) (by decide) wd_5_72 rfl (v := .ref (ad 13 12)) rfl dX12_nearParts_185 ?_
                refine lv_iload hx hb dX12_nearParts_188 (lv_at hl 6 rfl) ?_
                obtain ⟨c40, hf⟩ := ck_e hf
                refine glald E hK hP (q_L12 ks ad σ38) c40 dX12_nearParts_190 ?_
                refine lv_lmul hx hb dX12_nearParts_191 ?_
                refine lv_ladd hx hb dX12_nearParts_192 ?_
                obtain ⟨c41, hf⟩ := ck_e hf
                obtain ⟨σ42, eσ42, hf⟩ := nmv_e hf
                refine glast E hK hP hD hS (q_L13 ks ad σ38) c41 (σ' := σ42) (by rw [eσ42]; exact st_L13 ks ad σ38 _) dX12_nearParts_193 (fun H locs hP hD hS => ?_)
                obtain ⟨v43, ev43, hf⟩ := nmv_e hf
                refine lv_iinc (v := v43) (lv' := [(7, .int v43), (8, .int z29), (0, .ref (ad 14 0)), (3, .int a3), (4, .int v1), (5, .int v2), (6, .int x13)]) hx hb dX12_nearParts_194 hl (k := 6) rfl (by rw [ev43]; rfl) (by decide) rfl (fun ls hl => ?_)
                refine lv_goto (tgt := 98) hx hb dX12_nearParts_197 (by decide) ?_
                exact ih_98 _ _ _ _ hP hD hS hf _ (lv_sub hl [2, 3, 4, 5, 6, 0] rfl)
              refine lv_icmp_ne (tgt := 117) hx hb dX12_nearParts_109 (by decide) (fun c44 => ?_) (fun c44 => ?_)
              · replace hf := neg_e c44 hf
                refine lv_iload hx hb dX12_nearParts_117 (lv_at hl 5 rfl) ?_
                refine lv_iconst (v := 1) hx hb dX12_nearParts_119 (by decide) ?_
                refine lv_iadd hx hb dX12_nearParts_120 ?_
                exact hJ_121 _ _ _ _ hP hD hS hf _ (lv_sub hl [0, 1, 2, 3, 4, 5] rfl)
              · replace hf := pos_e c44 hf
                refine lv_bipush (v := 12) hx hb dX12_nearParts_112 (by decide) ?_
                refine lv_goto (tgt := 121) hx hb dX12_nearParts_114 (by decide) ?_
                exact hJ_121 _ _ _ _ hP hD hS hf _ (lv_sub hl [0, 1, 2, 3, 4, 5] rfl)
        refine loop_98 _ (fun σ45 H locs hP hD hS hf ls hl => ?_) _ _ _ _ _ hP hD hS hf _ (lv_sub hl [1, 2, 3, 4, 5, 0] rfl)
        refine lv_iconst (v := 0) hx hb dX12_nearParts_200 (by decide) ?_
        refine lv_istore (lv' := [(7, .int 0), (0, .ref (ad 14 0)), (3, .int a3), (4, .int v1), (5, .int v2), (6, .int x13)]) hx hb dX12_nearParts_201 hl (by decide) rfl (fun ls hl => ?_)
        have loop_203 : ∀ (K_203 : St → Option (Int64 × St)) (hK_203 : (∀ (σ53 : St) (H : Heap) (locs : List Loc) (hP : va_P (dC, dI) vwCl (wG ks ad σ53) H) (hD : va_D A (wG ks ad σ53)) (hS : va_S A s.heap H locs) (hf : K_203 σ53 = some out) (ls : Array Slot), lv_has ls 9 [(0, .ref (ad 14 0)), (3, .int a3), (4, .int v1), (5, .int v2), (6, .int x13)] → W p l e rX12_nearParts s m args below meth c H locs 0 0 (MQ below (va_Ql (fun r σ' => r = out.1 ∧ σ' = out.2) (gBw dC dI ks ad A) A) args s 0 0 A) (F0 m 230 ls []))) (n_203 : Nat) (x46 : Int32) (σ47 : St) (H : Heap) (locs : List Loc) (hP : va_P (dC, dI) vwCl (wG ks ad σ47) H) (hD : va_D A (wG ks ad σ47)) (hS : va_S A s.heap H locs) (hf : fX12_nearParts_L203 K_203 n_203 x46 σ47 = some out) (ls : Array Slot), lv_has ls 9 [(0, .ref (ad 14 0)), (3, .int a3), (4, .int v1), (5, .int v2), (6, .int x13), (7, .int x46)] → W p l e rX12_nearParts s m args below meth c H locs 0 0 (MQ below (va_Ql (fun r σ' => r = out.1 ∧ σ' = out.2) (gBw dC dI ks ad A) A) args s 0 0 A) (F0 m 203 ls []) := by
          intro K_203 hK_203 n_203
          induction n_203 with
          | zero => intro x46 σ47 H locs hP hD hS hf; cases hf
          | succ n_203 ih_203 =>
            intro x46 σ47 H locs hP hD hS hf ls hl
            have hf : fX12_nearParts_L203B K_203 (fX12_nearParts_L203 K_203 n_203) x46 σ47 = some out := hf
            unfold fX12_nearParts_L203B at hf
            refine lv_iload hx hb dX12_nearParts_203 (lv_at hl 5 rfl) ?_
            refine lv_bipush (v := 13) hx hb dX12_nearParts_205 (by decide) ?_
            refine lv_icmp_ge (tgt := 230) hx hb dX12_nearParts_207 (by decide) (fun c48 => ?_) (fun c48 => ?_)
            · replace hf := pos_e c48 hf
              exact hK_203 _ _ _ hP hD hS hf _ (lv_sub hl [0, 1, 2, 3, 4] rfl)
            · replace hf := neg_e c48 hf
              refine lv_aload_n hx hb dX12_nearParts_210 rfl (lv_at hl 0 rfl) ?_
              refine gget E in_X12 hK hP (q_model ks ad σ47) rfl (k := 12) (by decide) wd_5_72 rfl (v := .ref (ad 13 12)) rfl dX12_nearParts_211 ?_
              refine lv_iload hx hb dX12_nearParts_214 (lv_at hl 5 rfl) ?_
              refine lv_aload_n hx hb dX12_nearParts_216 rfl (lv_at hl 0 rfl) ?_
              refine gget E in_X12 hK hP (q_model ks ad σ47) rfl (k := 13) (by decide) wd_5_73 rfl (v := .ref (ad 13 13)) rfl dX12_nearParts_217 ?_
              refine lv_iload hx hb dX12_nearParts_220 (lv_at hl 5 rfl) ?_
              obtain ⟨c49, hf⟩ := ck_e hf
              refine glald E hK hP (q_L13 ks ad σ47) c49 dX12_nearParts_222 ?_
              obtain ⟨c50, hf⟩ := ck_e hf
              obtain ⟨σ51, eσ51, hf⟩ := nmv_e hf
              refine glast E hK hP hD hS (q_L12 ks ad σ47) c50 (σ' := σ51) (by rw [eσ51]; exact st_L12 ks ad σ47 _) dX12_nearParts_223 (fun H locs hP hD hS => ?_)
              obtain ⟨v52, ev52, hf⟩ := nmv_e hf
              refine lv_iinc (v := v52) (lv' := [(7, .int v52), (0, .ref (ad 14 0)), (3, .int a3), (4, .int v1), (5, .int v2), (6, .int x13)]) hx hb dX12_nearParts_224 hl (k := 5) rfl (by rw [ev52]; rfl) (by decide) rfl (fun ls hl => ?_)
              refine lv_goto (tgt := 203) hx hb dX12_nearParts_227 (by decide) ?_
              exact ih_203 _ _ _ _ hP hD hS hf _ (lv_sub hl [1, 2, 3, 4, 5, 0] rfl)
        refine loop_203 _ (fun σ53 H locs hP hD hS hf ls hl => ?_) _ _ _ _ _ hP hD hS hf _ (lv_sub hl [1, 2, 3, 4, 5, 0] rfl)
        obtain ⟨v54, ev54, hf⟩ := nmv_e hf
        refine lv_iinc (v := v54) (lv' := [(6, .int v54), (0, .ref (ad 14 0)), (3, .int a3), (4, .int v1), (5, .int v2)]) hx hb dX12_nearParts_230 hl (k := 4) rfl (by rw [ev54]; rfl) (by decide) rfl (fun ls hl => ?_)
        refine lv_goto (tgt := 49) hx hb dX12_nearParts_233 (by decide) ?_
        exact ih_49 _ _ _ _ hP hD hS hf _ (lv_sub hl [1, 2, 3, 4, 0] rfl)
  refine loop_49 _ (fun σ55 H locs hP hD hS hf ls hl => ?_) _ _ _ _ _ hP hD hS hf _ (lv_sub hl [1, 2, 3, 4, 0] rfl)
  refine lv_aload_n hx hb dX12_nearParts_236 rfl (lv_at hl 0 rfl) ?_
  refine gget E in_X12 hK hP (q_model ks ad σ55) rfl (k := 12) (by decide) wd_5_72 rfl (v := .ref (ad 13 12)) rfl dX12_nearParts_237 ?_
  refine lv_iconst (v := 0) hx hb dX12_nearParts_240 (by decide) ?_
  obtain ⟨c56, hf⟩ := ck_e hf
  refine glald E hK hP (q_L12 ks ad σ55) c56 dX12_nearParts_241 ?_
  exact gretw_l E hlk hP hD hS hr dX12_nearParts_242 (som_e hf)
noncomputable def fX12_tens_L4B (a1 : Int32) (K_4 : Int64 → Option (Int64)) (rec_4 : Int64 → Int32 → Option (Int64)) (x1 : Int64) (x2 : Int32) : Option (Int64) :=
  if a1 ≤ x2 then
  K_4 x1
  else
  nmv (x1 * 10) fun v4 =>
  nmv (x2 + 1) fun v5 =>
  rec_4 v4 v5
noncomputable def fX12_tens_L4 (a1 : Int32) (K_4 : Int64 → Option (Int64)) : Nat → Int64 → Int32 → Option (Int64)
  | 0 => fun _ _ => none
  | n + 1 => fX12_tens_L4B a1 K_4 (fX12_tens_L4 a1 K_4 n)
noncomputable def fX12_tens (σ : St) (a1 : Int32) : Option (Int64) :=
  fX12_tens_L4 a1 (fun y6 => some y6) FU 1 0
def rX12_tens : Room := { frames := 0, cells := 0, slots := 0, locals := 0 }
set_option maxHeartbeats 4000000 in
set_option maxRecDepth 100000 in
theorem cX12_tensc {l : Launch} {dC : Nat → ClassId} {dI : Nat → Nat → Nat} {ks : Nat → ClassId} {ad : Nat → Nat → Nat} {σ : St} (a1 : Int32)  {out : Int64} (hf : fX12_tens σ a1 = some out) : MRl l dC dI ks ad σ yX12_tens cX12_tens 4 (some .long) rX12_tens [.int a1] out := by
  refine met_r (own := RX12) (by decide) rfl (Nat.le_of_ble_eq_true rfl) ?_
  intro p e s m args below meth c ls E hr hlk hP hK hl
  have hx := E.1
  have hb := E.2.1
  have hl : lv_has ls 4 [(0, .int a1)] := hl
  unfold fX12_tens at hf
  refine lv_lconst (v := 1) hx hb dX12_tens_0 (by decide) ?_
  refine lv_lstore_n (lv' := [(1, .long 1), (0, .int a1)]) hx hb dX12_tens_1 rfl hl (by decide) rfl (fun ls hl => ?_)
  refine lv_iconst (v := 0) hx hb dX12_tens_2 (by decide) ?_
  refine lv_istore_n (lv' := [(3, .int 0), (1, .long 1), (0, .int a1)]) hx hb dX12_tens_3 rfl hl (by decide) rfl (fun ls hl => ?_)
  have loop_4 : ∀ (K_4 : Int64 → Option (Int64)) (hK_4 : (∀ (y6 : Int64) (hf : K_4 y6 = some out) (ls : Array Slot), lv_has ls 4 [(1, .long y6)] → W p l e rX12_tens s m args below meth c s.heap [] 0 0 (MQ below (vp_Sl (fun r => r = out)) args s 0 0 (fun _ => False)) (F0 m 21 ls []))) (n_4 : Nat) (x1 : Int64) (x2 : Int32) (hf : fX12_tens_L4 a1 K_4 n_4 x1 x2 = some out) (ls : Array Slot), lv_has ls 4 [(0, .int a1), (1, .long x1), (3, .int x2)] → W p l e rX12_tens s m args below meth c s.heap [] 0 0 (MQ below (vp_Sl (fun r => r = out)) args s 0 0 (fun _ => False)) (F0 m 4 ls []) := by
    intro K_4 hK_4 n_4
    induction n_4 with
    | zero => intro x1 x2 hf; cases hf
    | succ n_4 ih_4 =>
      intro x1 x2 hf ls hl
      have hf : fX12_tens_L4B a1 K_4 (fX12_tens_L4 a1 K_4 n_4) x1 x2 = some out := hf
      unfold fX12_tens_L4B at hf
      refine lv_iload_n hx hb dX12_tens_4 rfl (lv_at hl 2 rfl) ?_
      refine lv_iload_n hx hb dX12_tens_5 rfl (lv_at hl 0 rfl) ?_
      refine lv_icmp_ge (tgt := 21) hx hb dX12_tens_6 (by decide) (fun c3 => ?_) (fun c3 => ?_)
      · replace hf := pos_e c3 hf
        exact hK_4 _ hf _ (lv_sub hl [1] rfl)
      · replace hf := neg_e c3 hf
        refine lv_lload_n hx hb dX12_tens_9 rfl (lv_at hl 1 rfl) ?_
        refine lv_ldc2 (v := 10) hx hb E.2.2.2.1 (E.2.2.2.2 _ wd_6_172) dX12_tens_10 ?_
        refine lv_lmul hx hb dX12_tens_13 ?_
        obtain ⟨v4, ev4, hf⟩ := nmv_e hf
        refine lv_nml ev4 ?_
        refine lv_lstore_n (lv' := [(1, .long v4), (0, .int a1), (3, .int x2)]) hx hb dX12_tens_14 rfl hl (by decide) rfl (fun ls hl => ?_)
        obtain ⟨v5, ev5, hf⟩ := nmv_e hf
        refine lv_iinc (v := v5) (lv' := [(3, .int v5), (1, .long v4), (0, .int a1)]) hx hb dX12_tens_15 hl (k := 2) rfl (by rw [ev5]; rfl) (by decide) rfl (fun ls hl => ?_)
        refine lv_goto (tgt := 4) hx hb dX12_tens_18 (by decide) ?_
        exact ih_4 _ _ hf _ (lv_sub hl [2, 1, 0] rfl)
  refine loop_4 _ (fun y6 hf ls hl => ?_) _ _ _ hf _ (lv_sub hl [2, 1, 0] rfl)
  refine lv_lload_n hx hb dX12_tens_21 rfl (lv_at hl 0 rfl) ?_
  exact gret_l E hr hlk dX12_tens_22 (som_e hf).symm
noncomputable def fX12_areOdds (σ : St) (a1 : Int32) (a2 : Int32) : Option (Int32) :=
  bd (fX12_isIn σ a1 0 12) fun r1 =>
  if r1 = 0 then
  some 0
  else
  if a2 < 0 then
  some 0
  else
  if 10 < (a2 / 100) then
  some 0
  else
  if 10 < ((a2 / 100) + (a2 - a2 / 100 * 100)) then
  some 0
  else
  some 1
def rX12_areOdds : Room := { frames := 1, cells := 0, slots := 0, locals := 22 }
set_option maxHeartbeats 4000000 in
set_option maxRecDepth 100000 in
theorem cX12_areOddsc {l : Launch} {dC : Nat → ClassId} {dI : Nat → Nat → Nat} {ks : Nat → ClassId} {ad : Nat → Nat → Nat} {σ : St} (a1 : Int32) (a2 : Int32)  {out : Int32} (hf : fX12_areOdds σ a1 a2 = some out) : MRi l dC dI ks ad σ yX12_areOdds cX12_areOdds 2 (some .boolean) rX12_areOdds [.int a1, .int a2] out := by
  refine met_r (own := RX12) (by decide) rfl (Nat.le_of_ble_eq_true rfl) ?_
  intro p e s m args below meth c ls E hr hlk hP hK hl
  have hx := E.1
  have hb := E.2.1
  have hl : lv_has ls 2 [(0, .int a1), (1, .int a2)] := hl
  unfold fX12_areOdds at hf
  refine lv_iload_n hx hb dX12_areOdds_0 rfl (lv_at hl 0 rfl) ?_
  refine lv_iconst (v := 0) hx hb dX12_areOdds_1 (by decide) ?_
  refine lv_bipush (v := 12) hx hb dX12_areOdds_2 (by decide) ?_
  obtain ⟨r1, er1, hf⟩ := bd_e hf
  refine gSr_i E hK hP (cX12_isInc _ _ _ er1) kS_X12_isIn wd_5_138 rfl rfl rfl ⟨Nat.le_of_ble_eq_true rfl, Nat.le_of_ble_eq_true rfl⟩ ⟨Nat.zero_le _, Nat.zero_le _⟩ hl.1 (Nat.le_of_ble_eq_true rfl) rfl dX12_areOdds_4 ?_
  refine lv_if_eq (tgt := 41) hx hb dX12_areOdds_7 (by decide) (fun c2 => ?_) (fun c2 => ?_)
  · replace hf := pos_e c2 hf
    refine lv_iconst (v := 0) hx hb dX12_areOdds_41 (by decide) ?_
    exact gret_z rfl E hr hlk dX12_areOdds_42 (som_e hf).symm
  · replace hf := neg_e c2 hf
    refine lv_iload_n hx hb dX12_areOdds_10 rfl (lv_at hl 1 rfl) ?_
    refine lv_if_lt (tgt := 41) hx hb dX12_areOdds_11 (by decide) (fun c3 => ?_) (fun c3 => ?_)
    · replace hf := pos_e c3 hf
      refine lv_iconst (v := 0) hx hb dX12_areOdds_41 (by decide) ?_
      exact gret_z rfl E hr hlk dX12_areOdds_42 (som_e hf).symm
    · replace hf := neg_e c3 hf
      refine lv_iload_n hx hb dX12_areOdds_14 rfl (lv_at hl 1 rfl) ?_
      refine lv_bipush (v := 100) hx hb dX12_areOdds_15 (by decide) ?_
      refine lv_idiv hx hb dX12_areOdds_17 (by decide) ?_
      refine lv_bipush (v := 10) hx hb dX12_areOdds_18 (by decide) ?_
      refine lv_icmp_gt (tgt := 41) hx hb dX12_areOdds_20 (by decide) (fun c4 => ?_) (fun c4 => ?_)
      · replace hf := pos_e c4 hf
        refine lv_iconst (v := 0) hx hb dX12_areOdds_41 (by decide) ?_
        exact gret_z rfl E hr hlk dX12_areOdds_42 (som_e hf).symm
      · replace hf := neg_e c4 hf
        refine lv_iload_n hx hb dX12_areOdds_23 rfl (lv_at hl 1 rfl) ?_
        refine lv_bipush (v := 100) hx hb dX12_areOdds_24 (by decide) ?_
        refine lv_idiv hx hb dX12_areOdds_26 (by decide) ?_
        refine lv_iload_n hx hb dX12_areOdds_27 rfl (lv_at hl 1 rfl) ?_
        refine lv_bipush (v := 100) hx hb dX12_areOdds_28 (by decide) ?_
        refine lv_irem hx hb dX12_areOdds_30 (by decide) ?_
        refine lv_iadd hx hb dX12_areOdds_31 ?_
        refine lv_bipush (v := 10) hx hb dX12_areOdds_32 (by decide) ?_
        refine lv_icmp_gt (tgt := 41) hx hb dX12_areOdds_34 (by decide) (fun c5 => ?_) (fun c5 => ?_)
        · replace hf := pos_e c5 hf
          refine lv_iconst (v := 0) hx hb dX12_areOdds_41 (by decide) ?_
          exact gret_z rfl E hr hlk dX12_areOdds_42 (som_e hf).symm
        · replace hf := neg_e c5 hf
          refine lv_iconst (v := 1) hx hb dX12_areOdds_37 (by decide) ?_
          refine lv_goto (tgt := 42) hx hb dX12_areOdds_38 (by decide) ?_
          exact gret_z rfl E hr hlk dX12_areOdds_42 (som_e hf).symm
noncomputable def fX12_nearer (σ : St) (a1 : Int32) (a2 : Int32) (a3 : Int32) (a4 : Int32) : Option (Int64 × St) :=
  bd (fX12_areOdds σ a1 a2) fun r1 =>
  if r1 = 0 then
  some (1000000001, σ)
  else
  bd (fX12_isIn σ a3 0 9) fun r3 =>
  if r3 = 0 then
  some (1000000001, σ)
  else
  bd (fX12_isIn σ a4 0 1) fun r5 =>
  if r5 = 0 then
  some (1000000001, σ)
  else
  bd (fX12_nearParts σ a1 a2 a3) fun r7 =>
  bd (fX12_tens r7.2 a3) fun r8 =>
  bd (fX12_partOf r7.2 r7.1 r8 a4) fun r9 =>
  some (r9, r7.2)
def rX12_nearer : Room := { frames := 2, cells := 0, slots := 0, locals := 53 }
set_option maxHeartbeats 4000000 in
set_option maxRecDepth 100000 in
theorem cX12_nearerc {l : Launch} {dC : Nat → ClassId} {dI : Nat → Nat → Nat} {ks : Nat → ClassId} {ad : Nat → Nat → Nat} {σ : St} (a1 : Int32) (a2 : Int32) (a3 : Int32) (a4 : Int32)  {out : Int64 × St} (hf : fX12_nearer σ a1 a2 a3 a4 = some out) : MWl l dC dI ks ad σ yX12_nearer cX12_nearer 5 (some .long) rX12_nearer [.ref (ad 14 0), .int a1, .int a2, .int a3, .int a4] out := by
  intro sz
  refine met_w (Qc := fun A => va_Ql (fun r σ' => r = out.1 ∧ σ' = out.2) (gBw dC dI ks ad A) A) (own := RX12) (by decide) rfl (Nat.le_of_ble_eq_true rfl) ?_
  intro A p e s m args below meth c ls E hr hlk hA hP hD hS hK hl
  have hx := E.1
  have hb := E.2.1
  have hl : lv_has ls 5 [(0, .ref (ad 14 0)), (1, .int a1), (2, .int a2), (3, .int a3), (4, .int a4)] := hl
  unfold fX12_nearer at hf
  refine lv_iload_n hx hb dX12_nearer_0 rfl (lv_at hl 1 rfl) ?_
  refine lv_iload_n hx hb dX12_nearer_1 rfl (lv_at hl 2 rfl) ?_
  obtain ⟨r1, er1, hf⟩ := bd_e hf
  refine gSr_i E hK hP (cX12_areOddsc _ _ er1) kS_X12_areOdds wd_6_164 rfl rfl rfl ⟨Nat.le_of_ble_eq_true rfl, Nat.le_of_ble_eq_true rfl⟩ ⟨Nat.zero_le _, Nat.zero_le _⟩ hl.1 (Nat.le_of_ble_eq_true rfl) rfl dX12_nearer_2 ?_
  refine lv_if_eq (tgt := 28) hx hb dX12_nearer_5 (by decide) (fun c2 => ?_) (fun c2 => ?_)
  · replace hf := pos_e c2 hf
    refine lv_ldc2 (v := 1000000001) hx hb E.2.2.2.1 (E.2.2.2.2 _ wd_6_167) dX12_nearer_28 ?_
    exact gretw_l E hlk hP hD hS hr dX12_nearer_31 (som_e hf)
  · replace hf := neg_e c2 hf
    refine lv_iload_n hx hb dX12_nearer_8 rfl (lv_at hl 3 rfl) ?_
    refine lv_iconst (v := 0) hx hb dX12_nearer_9 (by decide) ?_
    refine lv_bipush (v := 9) hx hb dX12_nearer_10 (by decide) ?_
    obtain ⟨r3, er3, hf⟩ := bd_e hf
    refine gSr_i E hK hP (cX12_isInc _ _ _ er3) kS_X12_isIn wd_5_138 rfl rfl rfl ⟨Nat.le_of_ble_eq_true rfl, Nat.le_of_ble_eq_true rfl⟩ ⟨Nat.zero_le _, Nat.zero_le _⟩ hl.1 (Nat.le_of_ble_eq_true rfl) rfl dX12_nearer_12 ?_
    refine lv_if_eq (tgt := 28) hx hb dX12_nearer_15 (by decide) (fun c4 => ?_) (fun c4 => ?_)
    · replace hf := pos_e c4 hf
      refine lv_ldc2 (v := 1000000001) hx hb E.2.2.2.1 (E.2.2.2.2 _ wd_6_167) dX12_nearer_28 ?_
      exact gretw_l E hlk hP hD hS hr dX12_nearer_31 (som_e hf)
    · replace hf := neg_e c4 hf
      refine lv_iload hx hb dX12_nearer_18 (lv_at hl 4 rfl) ?_
      refine lv_iconst (v := 0) hx hb dX12_nearer_20 (by decide) ?_
      refine lv_iconst (v := 1) hx hb dX12_nearer_21 (by decide) ?_
      obtain ⟨r5, er5, hf⟩ := bd_e hf
      refine gSr_i E hK hP (cX12_isInc _ _ _ er5) kS_X12_isIn wd_5_138 rfl rfl rfl ⟨Nat.le_of_ble_eq_true rfl, Nat.le_of_ble_eq_true rfl⟩ ⟨Nat.zero_le _, Nat.zero_le _⟩ hl.1 (Nat.le_of_ble_eq_true rfl) rfl dX12_nearer_22 ?_
      refine lv_if_ne (tgt := 32) hx hb dX12_nearer_25 (by decide) (fun c6 => ?_) (fun c6 => ?_)
      · replace hf := neg_e c6 hf
        refine lv_aload_n hx hb dX12_nearer_32 rfl (lv_at hl 0 rfl) ?_
        refine lv_iload_n hx hb dX12_nearer_33 rfl (lv_at hl 1 rfl) ?_
        refine lv_iload_n hx hb dX12_nearer_34 rfl (lv_at hl 2 rfl) ?_
        refine lv_iload_n hx hb dX12_nearer_35 rfl (lv_at hl 3 rfl) ?_
        obtain ⟨r7, er7, hf⟩ := bd_e hf
        refine gVw_l E hK hP hD hS hA (cX12_nearPartsc _ _ _ er7) kV_X12_nearParts wd_6_168 rfl rfl (q_model ks ad σ) rfl rfl rfl ⟨Nat.le_of_ble_eq_true rfl, Nat.le_of_ble_eq_true rfl⟩ ⟨Nat.zero_le _, Nat.zero_le _⟩ hl.1 (Nat.le_of_ble_eq_true rfl) rfl dX12_nearer_36 (fun H locs hP hD hS => ?_)
        refine lv_iload_n hx hb dX12_nearer_39 rfl (lv_at hl 3 rfl) ?_
        obtain ⟨r8, er8, hf⟩ := bd_e hf
        refine gSr_l E hK hP (cX12_tensc _ er8) kS_X12_tens wd_6_173 rfl rfl rfl ⟨Nat.le_of_ble_eq_true rfl, Nat.le_of_ble_eq_true rfl⟩ ⟨Nat.zero_le _, Nat.zero_le _⟩ hl.1 (Nat.le_of_ble_eq_true rfl) rfl dX12_nearer_40 ?_
        refine lv_iload hx hb dX12_nearer_43 (lv_at hl 4 rfl) ?_
        obtain ⟨r9, er9, hf⟩ := bd_e hf
        refine gSr_l E hK hP (cX12_partOfc _ _ _ er9) kS_X12_partOf wd_6_176 rfl rfl rfl ⟨Nat.le_of_ble_eq_true rfl, Nat.le_of_ble_eq_true rfl⟩ ⟨Nat.zero_le _, Nat.zero_le _⟩ hl.1 (Nat.le_of_ble_eq_true rfl) rfl dX12_nearer_45 ?_
        exact gretw_l E hlk hP hD hS hr dX12_nearer_48 (som_e hf)
      · replace hf := pos_e c6 hf
        refine lv_ldc2 (v := 1000000001) hx hb E.2.2.2.1 (E.2.2.2.2 _ wd_6_167) dX12_nearer_28 ?_
        exact gretw_l E hlk hP hD hS hr dX12_nearer_31 (som_e hf)
noncomputable def fX12_often_L12B (a1 : Int32) (a2 : Int32) (K_12 : St → Option (Int32 × St)) (rec_12 : Int32 → St → Option (Int32 × St)) (x3 : Int32) (σ4 : St) : Option (Int32 × St) :=
  if 10 ≤ x3 then
  K_12 σ4
  else
  bd (fX12_nearParts σ4 a1 a2 x3) fun r6 =>
  bd (fX12_tens r6.2 x3) fun r7 =>
  if (lg_cmp (2 * r6.1) r7) < 0 then
  nmv (x3 + 1) fun v9 =>
  rec_12 v9 r6.2
  else
  some (x3, r6.2)
noncomputable def fX12_often_L12 (a1 : Int32) (a2 : Int32) (K_12 : St → Option (Int32 × St)) : Nat → Int32 → St → Option (Int32 × St)
  | 0 => fun _ _ => none
  | n + 1 => fX12_often_L12B a1 a2 K_12 (fX12_often_L12 a1 a2 K_12 n)
noncomputable def fX12_often (σ : St) (a1 : Int32) (a2 : Int32) : Option (Int32 × St) :=
  bd (fX12_areOdds σ a1 a2) fun r1 =>
  if r1 = 0 then
  some ((-1), σ)
  else
  fX12_often_L12 a1 a2 (fun σ10 => some ((-4), σ10)) FU 0 σ
def rX12_often : Room := { frames := 2, cells := 0, slots := 0, locals := 43 }
set_option maxHeartbeats 4000000 in
set_option maxRecDepth 100000 in
theorem cX12_oftenc {l : Launch} {dC : Nat → ClassId} {dI : Nat → Nat → Nat} {ks : Nat → ClassId} {ad : Nat → Nat → Nat} {σ : St} (a1 : Int32) (a2 : Int32)  {out : Int32 × St} (hf : fX12_often σ a1 a2 = some out) : MWi l dC dI ks ad σ yX12_often cX12_often 4 (some .int) rX12_often [.ref (ad 14 0), .int a1, .int a2] out := by
  intro sz
  refine met_w (Qc := fun A => va_Qi (fun r σ' => r = out.1 ∧ σ' = out.2) (gBw dC dI ks ad A) A) (own := RX12) (by decide) rfl (Nat.le_of_ble_eq_true rfl) ?_
  intro A p e s m args below meth c ls E hr hlk hA hP hD hS hK hl
  have hx := E.1
  have hb := E.2.1
  have hl : lv_has ls 4 [(0, .ref (ad 14 0)), (1, .int a1), (2, .int a2)] := hl
  unfold fX12_often at hf
  refine lv_iload_n hx hb dX12_often_0 rfl (lv_at hl 1 rfl) ?_
  refine lv_iload_n hx hb dX12_often_1 rfl (lv_at hl 2 rfl) ?_
  obtain ⟨r1, er1, hf⟩ := bd_e hf
  refine gSr_i E hK hP (cX12_areOddsc _ _ er1) kS_X12_areOdds wd_6_164 rfl rfl rfl ⟨Nat.le_of_ble_eq_true rfl, Nat.le_of_ble_eq_true rfl⟩ ⟨Nat.zero_le _, Nat.zero_le _⟩ hl.1 (Nat.le_of_ble_eq_true rfl) rfl dX12_often_2 ?_
  refine lv_if_ne (tgt := 10) hx hb dX12_often_5 (by decide) (fun c2 => ?_) (fun c2 => ?_)
  · replace hf := neg_e c2 hf
    refine lv_iconst (v := 0) hx hb dX12_often_10 (by decide) ?_
    refine lv_istore_n (lv' := [(3, .int 0), (0, .ref (ad 14 0)), (1, .int a1), (2, .int a2)]) hx hb dX12_often_11 rfl hl (by decide) rfl (fun ls hl => ?_)
    have loop_12 : ∀ (K_12 : St → Option (Int32 × St)) (hK_12 : (∀ (σ10 : St) (H : Heap) (locs : List Loc) (hP : va_P (dC, dI) vwCl (wG ks ad σ10) H) (hD : va_D A (wG ks ad σ10)) (hS : va_S A s.heap H locs) (hf : K_12 σ10 = some out) (ls : Array Slot), lv_has ls 4 [] → W p l e rX12_often s m args below meth c H locs 0 0 (MQ below (va_Qi (fun r σ' => r = out.1 ∧ σ' = out.2) (gBw dC dI ks ad A) A) args s 0 0 A) (F0 m 45 ls []))) (n_12 : Nat) (x3 : Int32) (σ4 : St) (H : Heap) (locs : List Loc) (hP : va_P (dC, dI) vwCl (wG ks ad σ4) H) (hD : va_D A (wG ks ad σ4)) (hS : va_S A s.heap H locs) (hf : fX12_often_L12 a1 a2 K_12 n_12 x3 σ4 = some out) (ls : Array Slot), lv_has ls 4 [(0, .ref (ad 14 0)), (1, .int a1), (2, .int a2), (3, .int x3)] → W p l e rX12_often s m args below meth c H locs 0 0 (MQ below (va_Qi (fun r σ' => r = out.1 ∧ σ' = out.2) (gBw dC dI ks ad A) A) args s 0 0 A) (F0 m 12 ls []) := by
      intro K_12 hK_12 n_12
      induction n_12 with
      | zero => intro x3 σ4 H locs hP hD hS hf; cases hf
      | succ n_12 ih_12 =>
        intro x3 σ4 H locs hP hD hS hf ls hl
        have hf : fX12_often_L12B a1 a2 K_12 (fX12_often_L12 a1 a2 K_12 n_12) x3 σ4 = some out := hf
        unfold fX12_often_L12B at hf
        refine lv_iload_n hx hb dX12_often_12 rfl (lv_at hl 3 rfl) ?_
        refine lv_bipush (v := 10) hx hb dX12_often_13 (by decide) ?_
        refine lv_icmp_ge (tgt := 45) hx hb dX12_often_15 (by decide) (fun c5 => ?_) (fun c5 => ?_)
        · replace hf := pos_e c5 hf
          exact hK_12 _ _ _ hP hD hS hf _ (lv_sub hl [] rfl)
        · replace hf := neg_e c5 hf
          refine lv_ldc2 (v := 2) hx hb E.2.2.2.1 (E.2.2.2.2 _ wd_6_186) dX12_often_18 ?_
          refine lv_aload_n hx hb dX12_often_21 rfl (lv_at hl 0 rfl) ?_
          refine lv_iload_n hx hb dX12_often_22 rfl (lv_at hl 1 rfl) ?_
          refine lv_iload_n hx hb dX12_often_23 rfl (lv_at hl 2 rfl) ?_
          refine lv_iload_n hx hb dX12_often_24 rfl (lv_at hl 3 rfl) ?_
          obtain ⟨r6, er6, hf⟩ := bd_e hf
          refine gVw_l E hK hP hD hS hA (cX12_nearPartsc _ _ _ er6) kV_X12_nearParts wd_6_168 rfl rfl (q_model ks ad σ4) rfl rfl rfl ⟨Nat.le_of_ble_eq_true rfl, Nat.le_of_ble_eq_true rfl⟩ ⟨Nat.zero_le _, Nat.zero_le _⟩ hl.1 (Nat.le_of_ble_eq_true rfl) rfl dX12_often_25 (fun H locs hP hD hS => ?_)
          refine lv_lmul hx hb dX12_often_28 ?_
          refine lv_iload_n hx hb dX12_often_29 rfl (lv_at hl 3 rfl) ?_
          obtain ⟨r7, er7, hf⟩ := bd_e hf
          refine gSr_l E hK hP (cX12_tensc _ er7) kS_X12_tens wd_6_173 rfl rfl rfl ⟨Nat.le_of_ble_eq_true rfl, Nat.le_of_ble_eq_true rfl⟩ ⟨Nat.zero_le _, Nat.zero_le _⟩ hl.1 (Nat.le_of_ble_eq_true rfl) rfl dX12_often_30 ?_
          refine W.lcmp hx hb dX12_often_33 ?_
          refine lv_if_lt (tgt := 39) hx hb dX12_often_34 (by decide) (fun c8 => ?_) (fun c8 => ?_)
          · replace hf := pos_e c8 hf
            obtain ⟨v9, ev9, hf⟩ := nmv_e hf
            refine lv_iinc (v := v9) (lv' := [(3, .int v9), (0, .ref (ad 14 0)), (1, .int a1), (2, .int a2)]) hx hb dX12_often_39 hl (k := 3) rfl (by rw [ev9]; rfl) (by decide) rfl (fun ls hl => ?_)
            refine lv_goto (tgt := 12) hx hb dX12_often_42 (by decide) ?_
            exact ih_12 _ _ _ _ hP hD hS hf _ (lv_sub hl [1, 2, 3, 0] rfl)
          · replace hf := neg_e c8 hf
            refine lv_iload_n hx hb dX12_often_37 rfl (lv_at hl 3 rfl) ?_
            exact gretw_i E hlk hP hD hS hr dX12_often_38 (som_e hf)
    refine loop_12 _ (fun σ10 H locs hP hD hS hf ls hl => ?_) _ _ _ _ _ hP hD hS hf _ (lv_sub hl [1, 2, 3, 0] rfl)
    refine lv_bipush (v := -4) hx hb dX12_often_45 (by decide) ?_
    exact gretw_i E hlk hP hD hS hr dX12_often_47 (som_e hf)
  · replace hf := pos_e c2 hf
    refine lv_iconst (v := -1) hx hb dX12_often_8 (by decide) ?_
    exact gretw_i E hlk hP hD hS hr dX12_often_9 (som_e hf)
noncomputable def fX12_answer_J73 (σ : St) (a3 : Int32) (z7 : Int64) (z8 : Int64) : Option (Int64) :=
  bd (fX12_partOf σ z8 ((z7 + z8) + 3) a3) fun r9 =>
  some r9
noncomputable def fX12_answer_J49 (σ : St) (a2 : Int32) (a3 : Int32) (z7 : Int64) : Option (Int64) :=
  if a2 = 1 then
  fX12_answer_J73 σ a3 z7 10
  else
  if a2 = 0 then
  fX12_answer_J73 σ a3 z7 5
  else
  fX12_answer_J73 σ a3 z7 0
noncomputable def fX12_answer_J48 (σ : St) (a2 : Int32) (a3 : Int32) : Option (Int64) :=
  fX12_answer_J49 σ a2 a3 0
noncomputable def fX12_answer (σ : St) (a1 : Int32) (a2 : Int32) (a3 : Int32) : Option (Int64) :=
  bd (fX12_isIn σ a1 0 9) fun r1 =>
  if r1 = 0 then
  some 1000000001
  else
  bd (fX12_isIn σ a2 0 9) fun r3 =>
  if r3 = 0 then
  some 1000000001
  else
  bd (fX12_isIn σ a3 0 1) fun r5 =>
  if r5 = 0 then
  some 1000000001
  else
  if a2 = 0 then
  if a1 = 2 then
  fX12_answer_J49 σ a2 a3 10
  else
  fX12_answer_J48 σ a2 a3
  else
  fX12_answer_J48 σ a2 a3
def rX12_answer : Room := { frames := 2, cells := 0, slots := 0, locals := 53 }
set_option maxHeartbeats 4000000 in
set_option maxRecDepth 100000 in
theorem cX12_answerc {l : Launch} {dC : Nat → ClassId} {dI : Nat → Nat → Nat} {ks : Nat → ClassId} {ad : Nat → Nat → Nat} {σ : St} (a1 : Int32) (a2 : Int32) (a3 : Int32)  {out : Int64} (hf : fX12_answer σ a1 a2 a3 = some out) : MRl l dC dI ks ad σ yX12_answer cX12_answer 8 (some .long) rX12_answer [.ref (ad 14 0), .int a1, .int a2, .int a3] out := by
  refine met_r (own := RX12) (by decide) rfl (Nat.le_of_ble_eq_true rfl) ?_
  intro p e s m args below meth c ls E hr hlk hP hK hl
  have hx := E.1
  have hb := E.2.1
  have hl : lv_has ls 8 [(0, .ref (ad 14 0)), (1, .int a1), (2, .int a2), (3, .int a3)] := hl
  unfold fX12_answer at hf
  refine lv_iload_n hx hb dX12_answer_0 rfl (lv_at hl 1 rfl) ?_
  refine lv_iconst (v := 0) hx hb dX12_answer_1 (by decide) ?_
  refine lv_bipush (v := 9) hx hb dX12_answer_2 (by decide) ?_
  obtain ⟨r1, er1, hf⟩ := bd_e hf
  refine gSr_i E hK hP (cX12_isInc _ _ _ er1) kS_X12_isIn wd_5_138 rfl rfl rfl ⟨Nat.le_of_ble_eq_true rfl, Nat.le_of_ble_eq_true rfl⟩ ⟨Nat.zero_le _, Nat.zero_le _⟩ hl.1 (Nat.le_of_ble_eq_true rfl) rfl dX12_answer_4 ?_
  refine lv_if_eq (tgt := 29) hx hb dX12_answer_7 (by decide) (fun c2 => ?_) (fun c2 => ?_)
  · replace hf := pos_e c2 hf
    refine lv_ldc2 (v := 1000000001) hx hb E.2.2.2.1 (E.2.2.2.2 _ wd_6_167) dX12_answer_29 ?_
    exact gret_l E hr hlk dX12_answer_32 (som_e hf).symm
  · replace hf := neg_e c2 hf
    refine lv_iload_n hx hb dX12_answer_10 rfl (lv_at hl 2 rfl) ?_
    refine lv_iconst (v := 0) hx hb dX12_answer_11 (by decide) ?_
    refine lv_bipush (v := 9) hx hb dX12_answer_12 (by decide) ?_
    obtain ⟨r3, er3, hf⟩ := bd_e hf
    refine gSr_i E hK hP (cX12_isInc _ _ _ er3) kS_X12_isIn wd_5_138 rfl rfl rfl ⟨Nat.le_of_ble_eq_true rfl, Nat.le_of_ble_eq_true rfl⟩ ⟨Nat.zero_le _, Nat.zero_le _⟩ hl.1 (Nat.le_of_ble_eq_true rfl) rfl dX12_answer_14 ?_
    refine lv_if_eq (tgt := 29) hx hb dX12_answer_17 (by decide) (fun c4 => ?_) (fun c4 => ?_)
    · replace hf := pos_e c4 hf
      refine lv_ldc2 (v := 1000000001) hx hb E.2.2.2.1 (E.2.2.2.2 _ wd_6_167) dX12_answer_29 ?_
      exact gret_l E hr hlk dX12_answer_32 (som_e hf).symm
    · replace hf := neg_e c4 hf
      refine lv_iload_n hx hb dX12_answer_20 rfl (lv_at hl 3 rfl) ?_
      refine lv_iconst (v := 0) hx hb dX12_answer_21 (by decide) ?_
      refine lv_iconst (v := 1) hx hb dX12_answer_22 (by decide) ?_
      obtain ⟨r5, er5, hf⟩ := bd_e hf
      refine gSr_i E hK hP (cX12_isInc _ _ _ er5) kS_X12_isIn wd_5_138 rfl rfl rfl ⟨Nat.le_of_ble_eq_true rfl, Nat.le_of_ble_eq_true rfl⟩ ⟨Nat.zero_le _, Nat.zero_le _⟩ hl.1 (Nat.le_of_ble_eq_true rfl) rfl dX12_answer_23 ?_
      refine lv_if_ne (tgt := 33) hx hb dX12_answer_26 (by decide) (fun c6 => ?_) (fun c6 => ?_)
      · replace hf := neg_e c6 hf
        refine lv_iload_n hx hb dX12_answer_33 rfl (lv_at hl 2 rfl) ?_
        have hJ_49 : ∀ (z7 : Int64) (hf : fX12_answer_J49 σ a2 a3 z7 = some out) (ls : Array Slot), lv_has ls 8 [(2, .int a2), (3, .int a3)] → W p l e rX12_answer s m args below meth c s.heap [] 0 0 (MQ below (vp_Sl (fun r => r = out)) args s 0 0 (fun _ => False)) (F0 m 49 ls [.long z7]) := by
          intro z7 hf ls hl
          unfold fX12_answer_J49 at hf
          refine lv_lstore (lv' := [(4, .long z7), (2, .int a2), (3, .int a3)]) hx hb dX12_answer_49 hl (by decide) rfl (fun ls hl => ?_)
          refine lv_iload_n hx hb dX12_answer_51 rfl (lv_at hl 1 rfl) ?_
          refine lv_iconst (v := 1) hx hb dX12_answer_52 (by decide) ?_
          have hJ_73 : ∀ (z8 : Int64) (hf : fX12_answer_J73 σ a3 z7 z8 = some out) (ls : Array Slot), lv_has ls 8 [(3, .int a3), (4, .long z7)] → W p l e rX12_answer s m args below meth c s.heap [] 0 0 (MQ below (vp_Sl (fun r => r = out)) args s 0 0 (fun _ => False)) (F0 m 73 ls [.long z8]) := by
            intro z8 hf ls hl
            unfold fX12_answer_J73 at hf
            refine lv_lstore (lv' := [(6, .long z8), (3, .int a3), (4, .long z7)]) hx hb dX12_answer_73 hl (by decide) rfl (fun ls hl => ?_)
            refine lv_lload hx hb dX12_answer_75 (lv_at hl 0 rfl) ?_
            refine lv_lload hx hb dX12_answer_77 (lv_at hl 2 rfl) ?_
            refine lv_lload hx hb dX12_answer_79 (lv_at hl 0 rfl) ?_
            refine lv_ladd hx hb dX12_answer_81 ?_
            refine lv_ldc2 (v := 3) hx hb E.2.2.2.1 (E.2.2.2.2 _ wd_6_192) dX12_answer_82 ?_
            refine lv_ladd hx hb dX12_answer_85 ?_
            refine lv_iload_n hx hb dX12_answer_86 rfl (lv_at hl 1 rfl) ?_
            obtain ⟨r9, er9, hf⟩ := bd_e hf
            refine gSr_l E hK hP (cX12_partOfc _ _ _ er9) kS_X12_partOf wd_6_176 rfl rfl rfl ⟨Nat.le_of_ble_eq_true rfl, Nat.le_of_ble_eq_true rfl⟩ ⟨Nat.zero_le _, Nat.zero_le _⟩ hl.1 (Nat.le_of_ble_eq_true rfl) rfl dX12_answer_87 ?_
            exact gret_l E hr hlk dX12_answer_90 (som_e hf).symm
          refine lv_icmp_ne (tgt := 62) hx hb dX12_answer_53 (by decide) (fun c10 => ?_) (fun c10 => ?_)
          · replace hf := neg_e c10 hf
            refine lv_iload_n hx hb dX12_answer_62 rfl (lv_at hl 1 rfl) ?_
            refine lv_if_ne (tgt := 72) hx hb dX12_answer_63 (by decide) (fun c11 => ?_) (fun c11 => ?_)
            · replace hf := neg_e c11 hf
              refine lv_lconst (v := 0) hx hb dX12_answer_72 (by decide) ?_
              exact hJ_73 _ hf _ (lv_sub hl [2, 0] rfl)
            · replace hf := pos_e c11 hf
              refine lv_ldc2 (v := 5) hx hb E.2.2.2.1 (E.2.2.2.2 _ wd_6_191) dX12_answer_66 ?_
              refine lv_goto (tgt := 73) hx hb dX12_answer_69 (by decide) ?_
              exact hJ_73 _ hf _ (lv_sub hl [2, 0] rfl)
          · replace hf := pos_e c10 hf
            refine lv_ldc2 (v := 10) hx hb E.2.2.2.1 (E.2.2.2.2 _ wd_6_172) dX12_answer_56 ?_
            refine lv_goto (tgt := 73) hx hb dX12_answer_59 (by decide) ?_
            exact hJ_73 _ hf _ (lv_sub hl [2, 0] rfl)
        have hJ_48 : ∀ (hf : fX12_answer_J48 σ a2 a3 = some out) (ls : Array Slot), lv_has ls 8 [(2, .int a2), (3, .int a3)] → W p l e rX12_answer s m args below meth c s.heap [] 0 0 (MQ below (vp_Sl (fun r => r = out)) args s 0 0 (fun _ => False)) (F0 m 48 ls []) := by
          intro hf ls hl
          unfold fX12_answer_J48 at hf
          refine lv_lconst (v := 0) hx hb dX12_answer_48 (by decide) ?_
          exact hJ_49 _ hf _ (lv_sub hl [0, 1] rfl)
        refine lv_if_ne (tgt := 48) hx hb dX12_answer_34 (by decide) (fun c12 => ?_) (fun c12 => ?_)
        · replace hf := neg_e c12 hf
          exact hJ_48 hf _ (lv_sub hl [2, 3] rfl)
        · replace hf := pos_e c12 hf
          refine lv_iload_n hx hb dX12_answer_37 rfl (lv_at hl 1 rfl) ?_
          refine lv_iconst (v := 2) hx hb dX12_answer_38 (by decide) ?_
          refine lv_icmp_ne (tgt := 48) hx hb dX12_answer_39 (by decide) (fun c13 => ?_) (fun c13 => ?_)
          · replace hf := neg_e c13 hf
            exact hJ_48 hf _ (lv_sub hl [2, 3] rfl)
          · replace hf := pos_e c13 hf
            refine lv_ldc2 (v := 10) hx hb E.2.2.2.1 (E.2.2.2.2 _ wd_6_172) dX12_answer_42 ?_
            refine lv_goto (tgt := 49) hx hb dX12_answer_45 (by decide) ?_
            exact hJ_49 _ hf _ (lv_sub hl [2, 3] rfl)
      · replace hf := pos_e c6 hf
        refine lv_ldc2 (v := 1000000001) hx hb E.2.2.2.1 (E.2.2.2.2 _ wd_6_167) dX12_answer_29 ?_
        exact gret_l E hr hlk dX12_answer_32 (som_e hf).symm
noncomputable def fX12_whereBy (σ : St) (a1 : Int32) (a2 : Int32) (a3 : Int32) (a4 : Int32) : Option (Int32 × St) :=
  nmv (sI σ 11 0 4 a4) fun σ1 =>
  bd (fX12_looks σ1 a1 a2 a3) fun r2 =>
  nmv (sI r2 11 0 4 3) fun σ3 =>
  some (gI σ3 11 0 9, σ3)
def rX12_whereBy : Room := { frames := 6, cells := 0, slots := 0, locals := 141 }
set_option maxHeartbeats 4000000 in
set_option maxRecDepth 100000 in
theorem cX12_whereByc {l : Launch} {dC : Nat → ClassId} {dI : Nat → Nat → Nat} {ks : Nat → ClassId} {ad : Nat → Nat → Nat} {σ : St} (a1 : Int32) (a2 : Int32) (a3 : Int32) (a4 : Int32)  {out : Int32 × St} (hf : fX12_whereBy σ a1 a2 a3 a4 = some out) : MWi l dC dI ks ad σ yX12_whereBy cX12_whereBy 5 (some .int) rX12_whereBy [.ref (ad 14 0), .int a1, .int a2, .int a3, .int a4] out := by
  intro sz
  refine met_w (Qc := fun A => va_Qi (fun r σ' => r = out.1 ∧ σ' = out.2) (gBw dC dI ks ad A) A) (own := RX12) (by decide) rfl (Nat.le_of_ble_eq_true rfl) ?_
  intro A p e s m args below meth c ls E hr hlk hA hP hD hS hK hl
  have hx := E.1
  have hb := E.2.1
  have hl : lv_has ls 5 [(0, .ref (ad 14 0)), (1, .int a1), (2, .int a2), (3, .int a3), (4, .int a4)] := hl
  unfold fX12_whereBy at hf
  refine lv_aload_n hx hb dX12_whereBy_0 rfl (lv_at hl 0 rfl) ?_
  refine lv_iload hx hb dX12_whereBy_1 (lv_at hl 4 rfl) ?_
  obtain ⟨σ1, eσ1, hf⟩ := nmv_e hf
  refine gput (k := 4) E in_X12 tyX12 tyX12_ok nmX12 hK hP hD hS (q_model ks ad σ) rfl (by decide) wd_5_64 rfl rfl rfl rfl rfl (Nat.le_of_ble_eq_true rfl) (σ' := σ1) (by rw [eσ1]; exact st_model_4 ks ad σ _) dX12_whereBy_3 (fun H locs hP hD hS => ?_)
  refine lv_aload_n hx hb dX12_whereBy_6 rfl (lv_at hl 0 rfl) ?_
  refine lv_iload_n hx hb dX12_whereBy_7 rfl (lv_at hl 1 rfl) ?_
  refine lv_iload_n hx hb dX12_whereBy_8 rfl (lv_at hl 2 rfl) ?_
  refine lv_iload_n hx hb dX12_whereBy_9 rfl (lv_at hl 3 rfl) ?_
  obtain ⟨r2, er2, hf⟩ := bd_e hf
  refine gVw_v E hK hP hD hS hA (cX12_looksc _ _ _ er2) kV_X12_looks wd_6_87 rfl rfl (q_model ks ad σ1) rfl rfl rfl ⟨Nat.le_of_ble_eq_true rfl, Nat.le_of_ble_eq_true rfl⟩ ⟨Nat.zero_le _, Nat.zero_le _⟩ hl.1 (Nat.le_of_ble_eq_true rfl) rfl dX12_whereBy_10 (fun H locs hP hD hS => ?_)
  refine lv_aload_n hx hb dX12_whereBy_13 rfl (lv_at hl 0 rfl) ?_
  refine lv_iconst (v := 3) hx hb dX12_whereBy_14 (by decide) ?_
  obtain ⟨σ3, eσ3, hf⟩ := nmv_e hf
  refine gput (k := 4) E in_X12 tyX12 tyX12_ok nmX12 hK hP hD hS (q_model ks ad r2) rfl (by decide) wd_5_64 rfl rfl rfl rfl rfl (Nat.le_of_ble_eq_true rfl) (σ' := σ3) (by rw [eσ3]; exact st_model_4 ks ad r2 _) dX12_whereBy_15 (fun H locs hP hD hS => ?_)
  refine lv_aload_n hx hb dX12_whereBy_18 rfl (lv_at hl 0 rfl) ?_
  refine gget E in_X12 hK hP (q_model ks ad σ3) rfl (k := 9) (by decide) wd_5_69 rfl (v := .int (gI σ3 11 0 9)) rfl dX12_whereBy_19 ?_
  exact gretw_i E hlk hP hD hS hr dX12_whereBy_22 (som_e hf)
noncomputable def fX12_telling_J81 (x8 : Int32) (rec_48 : Int32 → Int32 → Int32 → St → Option (Int32 × St)) (z12 : Int32) (z13 : Int32) (σ14 : St) : Option (Int32 × St) :=
  nmv (x8 + 1) fun v15 =>
  rec_48 z12 z13 v15 σ14
noncomputable def fX12_telling_L48B (a1 : Int32) (a2 : Int32) (a3 : Int32) (K_48 : Int32 → St → Option (Int32 × St)) (rec_48 : Int32 → Int32 → Int32 → St → Option (Int32 × St)) (x6 : Int32) (x7 : Int32) (x8 : Int32) (σ9 : St) : Option (Int32 × St) :=
  if 3 ≤ x8 then
  K_48 x6 σ9
  else
  bd (fX12_whereBy σ9 a1 a2 a3 x8) fun r11 =>
  if x7 < r11.1 then
  nmv (gI r11.2 11 0 9) fun v17 =>
  fX12_telling_J81 x8 rec_48 x8 v17 r11.2
  else
  fX12_telling_J81 x8 rec_48 x6 x7 r11.2
noncomputable def fX12_telling_L48 (a1 : Int32) (a2 : Int32) (a3 : Int32) (K_48 : Int32 → St → Option (Int32 × St)) : Nat → Int32 → Int32 → Int32 → St → Option (Int32 × St)
  | 0 => fun _ _ _ _ => none
  | n + 1 => fX12_telling_L48B a1 a2 a3 K_48 (fX12_telling_L48 a1 a2 a3 K_48 n)
noncomputable def fX12_telling (σ : St) (a1 : Int32) (a2 : Int32) (a3 : Int32) (a4 : Int32) : Option (Int32 × St) :=
  bd (fX12_areAll σ a1 a2 a3) fun r1 =>
  if r1 = 0 then
  some ((-1), σ)
  else
  bd (fX12_isIn σ a4 0 3) fun r3 =>
  if r3 = 0 then
  some ((-1), σ)
  else
  if 3 ≤ a4 then
  fX12_telling_L48 a1 a2 a3 (fun y18 σ19 => some (y18, σ19)) FU (-4) 0 0 σ
  else
  bd (fX12_whereBy σ a1 a2 a3 a4) fun r20 =>
  some (r20.1, r20.2)
def rX12_telling : Room := { frames := 7, cells := 0, slots := 0, locals := 165 }
set_option maxHeartbeats 4000000 in
set_option maxRecDepth 100000 in
theorem cX12_tellingc {l : Launch} {dC : Nat → ClassId} {dI : Nat → Nat → Nat} {ks : Nat → ClassId} {ad : Nat → Nat → Nat} {σ : St} (a1 : Int32) (a2 : Int32) (a3 : Int32) (a4 : Int32)  {out : Int32 × St} (hf : fX12_telling σ a1 a2 a3 a4 = some out) : MWi l dC dI ks ad σ yX12_telling cX12_telling 8 (some .int) rX12_telling [.ref (ad 14 0), .int a1, .int a2, .int a3, .int a4] out := by
  intro sz
  refine met_w (Qc := fun A => va_Qi (fun r σ' => r = out.1 ∧ σ' = out.2) (gBw dC dI ks ad A) A) (own := RX12) (by decide) rfl (Nat.le_of_ble_eq_true rfl) ?_
  intro A p e s m args below meth c ls E hr hlk hA hP hD hS hK hl
  have hx := E.1
  have hb := E.2.1
  have hl : lv_has ls 8 [(0, .ref (ad 14 0)), (1, .int a1), (2, .int a2), (3, .int a3), (4, .int a4)] := hl
  unfold fX12_telling at hf
  refine lv_aload_n hx hb dX12_telling_0 rfl (lv_at hl 0 rfl) ?_
  refine lv_iload_n hx hb dX12_telling_1 rfl (lv_at hl 1 rfl) ?_
  refine lv_iload_n hx hb dX12_telling_2 rfl (lv_at hl 2 rfl) ?_
  refine lv_iload_n hx hb dX12_telling_3 rfl (lv_at hl 3 rfl) ?_
  obtain ⟨r1, er1, hf⟩ := bd_e hf
  refine gVr_i E hK hP (cX12_areAllc _ _ _ er1) kV_X12_areAll wd_5_184 rfl rfl (q_model ks ad σ) rfl rfl rfl ⟨Nat.le_of_ble_eq_true rfl, Nat.le_of_ble_eq_true rfl⟩ ⟨Nat.zero_le _, Nat.zero_le _⟩ hl.1 (Nat.le_of_ble_eq_true rfl) rfl dX12_telling_4 ?_
  refine lv_if_eq (tgt := 20) hx hb dX12_telling_7 (by decide) (fun c2 => ?_) (fun c2 => ?_)
  · replace hf := pos_e c2 hf
    refine lv_iconst (v := -1) hx hb dX12_telling_20 (by decide) ?_
    exact gretw_i E hlk hP hD hS hr dX12_telling_21 (som_e hf)
  · replace hf := neg_e c2 hf
    refine lv_iload hx hb dX12_telling_10 (lv_at hl 4 rfl) ?_
    refine lv_iconst (v := 0) hx hb dX12_telling_12 (by decide) ?_
    refine lv_iconst (v := 3) hx hb dX12_telling_13 (by decide) ?_
    obtain ⟨r3, er3, hf⟩ := bd_e hf
    refine gSr_i E hK hP (cX12_isInc _ _ _ er3) kS_X12_isIn wd_5_138 rfl rfl rfl ⟨Nat.le_of_ble_eq_true rfl, Nat.le_of_ble_eq_true rfl⟩ ⟨Nat.zero_le _, Nat.zero_le _⟩ hl.1 (Nat.le_of_ble_eq_true rfl) rfl dX12_telling_14 ?_
    refine lv_if_ne (tgt := 22) hx hb dX12_telling_17 (by decide) (fun c4 => ?_) (fun c4 => ?_)
    · replace hf := neg_e c4 hf
      refine lv_iload hx hb dX12_telling_22 (lv_at hl 4 rfl) ?_
      refine lv_iconst (v := 3) hx hb dX12_telling_24 (by decide) ?_
      refine lv_icmp_ge (tgt := 38) hx hb dX12_telling_25 (by decide) (fun c5 => ?_) (fun c5 => ?_)
      · replace hf := pos_e c5 hf
        refine lv_bipush (v := -4) hx hb dX12_telling_38 (by decide) ?_
        refine lv_istore (lv' := [(5, .int (-4)), (0, .ref (ad 14 0)), (1, .int a1), (2, .int a2), (3, .int a3), (4, .int a4)]) hx hb dX12_telling_40 hl (by decide) rfl (fun ls hl => ?_)
        refine lv_iconst (v := 0) hx hb dX12_telling_42 (by decide) ?_
        refine lv_istore (lv' := [(6, .int 0), (5, .int (-4)), (0, .ref (ad 14 0)), (1, .int a1), (2, .int a2), (3, .int a3), (4, .int a4)]) hx hb dX12_telling_43 hl (by decide) rfl (fun ls hl => ?_)
        refine lv_iconst (v := 0) hx hb dX12_telling_45 (by decide) ?_
        refine lv_istore (lv' := [(7, .int 0), (6, .int 0), (5, .int (-4)), (0, .ref (ad 14 0)), (1, .int a1), (2, .int a2), (3, .int a3), (4, .int a4)]) hx hb dX12_telling_46 hl (by decide) rfl (fun ls hl => ?_)
        have loop_48 : ∀ (K_48 : Int32 → St → Option (Int32 × St)) (hK_48 : (∀ (y18 : Int32) (σ19 : St) (H : Heap) (locs : List Loc) (hP : va_P (dC, dI) vwCl (wG ks ad σ19) H) (hD : va_D A (wG ks ad σ19)) (hS : va_S A s.heap H locs) (hf : K_48 y18 σ19 = some out) (ls : Array Slot), lv_has ls 8 [(5, .int y18)] → W p l e rX12_telling s m args below meth c H locs 0 0 (MQ below (va_Qi (fun r σ' => r = out.1 ∧ σ' = out.2) (gBw dC dI ks ad A) A) args s 0 0 A) (F0 m 87 ls []))) (n_48 : Nat) (x6 : Int32) (x7 : Int32) (x8 : Int32) (σ9 : St) (H : Heap) (locs : List Loc) (hP : va_P (dC, dI) vwCl (wG ks ad σ9) H) (hD : va_D A (wG ks ad σ9)) (hS : va_S A s.heap H locs) (hf : fX12_telling_L48 a1 a2 a3 K_48 n_48 x6 x7 x8 σ9 = some out) (ls : Array Slot), lv_has ls 8 [(0, .ref (ad 14 0)), (1, .int a1), (2, .int a2), (3, .int a3), (5, .int x6), (6, .int x7), (7, .int x8)] → W p l e rX12_telling s m args below meth c H locs 0 0 (MQ below (va_Qi (fun r σ' => r = out.1 ∧ σ' = out.2) (gBw dC dI ks ad A) A) args s 0 0 A) (F0 m 48 ls []) := by
          intro K_48 hK_48 n_48
          induction n_48 with
          | zero => intro x6 x7 x8 σ9 H locs hP hD hS hf; cases hf
          | succ n_48 ih_48 =>
            intro x6 x7 x8 σ9 H locs hP hD hS hf ls hl
            have hf : fX12_telling_L48B a1 a2 a3 K_48 (fX12_telling_L48 a1 a2 a3 K_48 n_48) x6 x7 x8 σ9 = some out := hf
            unfold fX12_telling_L48B at hf
            refine lv_iload hx hb dX12_telling_48 (lv_at hl 6 rfl) ?_
            refine lv_iconst (v := 3) hx hb dX12_telling_50 (by decide) ?_
            refine lv_icmp_ge (tgt := 87) hx hb dX12_telling_51 (by decide) (fun c10 => ?_) (fun c10 => ?_)
            · replace hf := pos_e c10 hf
              exact hK_48 _ _ _ _ hP hD hS hf _ (lv_sub hl [4] rfl)
            · replace hf := neg_e c10 hf
              refine lv_aload_n hx hb dX12_telling_54 rfl (lv_at hl 0 rfl) ?_
              refine lv_iload_n hx hb dX12_telling_55 rfl (lv_at hl 1 rfl) ?_
              refine lv_iload_n hx hb dX12_telling_56 rfl (lv_at hl 2 rfl) ?_
              refine lv_iload_n hx hb dX12_telling_57 rfl (lv_at hl 3 rfl) ?_
              refine lv_iload hx hb dX12_telling_58 (lv_at hl 6 rfl) ?_
              obtain ⟨r11, er11, hf⟩ := bd_e hf
              refine gVw_i E hK hP hD hS hA (cX12_whereByc _ _ _ _ er11) kV_X12_whereBy wd_6_197 rfl rfl (q_model ks ad σ9) rfl rfl rfl ⟨Nat.le_of_ble_eq_true rfl, Nat.le_of_ble_eq_true rfl⟩ ⟨Nat.zero_le _, Nat.zero_le _⟩ hl.1 (Nat.le_of_ble_eq_true rfl) rfl dX12_telling_60 (fun H locs hP hD hS => ?_)
              refine lv_iload hx hb dX12_telling_63 (lv_at hl 5 rfl) ?_
              have hJ_81 : ∀ (z12 : Int32) (z13 : Int32) (σ14 : St) (H : Heap) (locs : List Loc) (hP : va_P (dC, dI) vwCl (wG ks ad σ14) H) (hD : va_D A (wG ks ad σ14)) (hS : va_S A s.heap H locs) (hf : fX12_telling_J81 x8 (fX12_telling_L48 a1 a2 a3 K_48 n_48) z12 z13 σ14 = some out) (ls : Array Slot), lv_has ls 8 [(0, .ref (ad 14 0)), (1, .int a1), (2, .int a2), (3, .int a3), (5, .int z12), (6, .int z13), (7, .int x8)] → W p l e rX12_telling s m args below meth c H locs 0 0 (MQ below (va_Qi (fun r σ' => r = out.1 ∧ σ' = out.2) (gBw dC dI ks ad A) A) args s 0 0 A) (F0 m 81 ls []) := by
                intro z12 z13 σ14 H locs hP hD hS hf ls hl
                unfold fX12_telling_J81 at hf
                obtain ⟨v15, ev15, hf⟩ := nmv_e hf
                refine lv_iinc (v := v15) (lv' := [(7, .int v15), (0, .ref (ad 14 0)), (1, .int a1), (2, .int a2), (3, .int a3), (5, .int z12), (6, .int z13)]) hx hb dX12_telling_81 hl (k := 6) rfl (by rw [ev15]; rfl) (by decide) rfl (fun ls hl => ?_)
                refine lv_goto (tgt := 48) hx hb dX12_telling_84 (by decide) ?_
                exact ih_48 _ _ _ _ _ _ hP hD hS hf _ (lv_sub hl [1, 2, 3, 4, 5, 6, 0] rfl)
              refine lv_icmp_gt (tgt := 71) hx hb dX12_telling_65 (by decide) (fun c16 => ?_) (fun c16 => ?_)
              · replace hf := pos_e c16 hf
                refine lv_iload hx hb dX12_telling_71 (lv_at hl 6 rfl) ?_
                refine lv_istore (lv' := [(5, .int x8), (0, .ref (ad 14 0)), (1, .int a1), (2, .int a2), (3, .int a3), (6, .int x7), (7, .int x8)]) hx hb dX12_telling_73 hl (by decide) rfl (fun ls hl => ?_)
                refine lv_aload_n hx hb dX12_telling_75 rfl (lv_at hl 1 rfl) ?_
                refine gget E in_X12 hK hP (q_model ks ad r11.2) rfl (k := 9) (by decide) wd_5_69 rfl (v := .int (gI r11.2 11 0 9)) rfl dX12_telling_76 ?_
                obtain ⟨v17, ev17, hf⟩ := nmv_e hf
                refine lv_nmi ev17 ?_
                refine lv_istore (lv' := [(6, .int v17), (5, .int x8), (0, .ref (ad 14 0)), (1, .int a1), (2, .int a2), (3, .int a3), (7, .int x8)]) hx hb dX12_telling_79 hl (by decide) rfl (fun ls hl => ?_)
                exact hJ_81 _ _ _ _ _ hP hD hS hf _ (lv_sub hl [2, 3, 4, 5, 1, 0, 6] rfl)
              · replace hf := neg_e c16 hf
                refine lv_goto (tgt := 81) hx hb dX12_telling_68 (by decide) ?_
                exact hJ_81 _ _ _ _ _ hP hD hS hf _ (lv_sub hl [0, 1, 2, 3, 4, 5, 6] rfl)
        refine loop_48 _ (fun y18 σ19 H locs hP hD hS hf ls hl => ?_) _ _ _ _ _ _ _ hP hD hS hf _ (lv_sub hl [3, 4, 5, 6, 2, 1, 0] rfl)
        refine lv_iload hx hb dX12_telling_87 (lv_at hl 0 rfl) ?_
        exact gretw_i E hlk hP hD hS hr dX12_telling_89 (som_e hf)
      · replace hf := neg_e c5 hf
        refine lv_aload_n hx hb dX12_telling_28 rfl (lv_at hl 0 rfl) ?_
        refine lv_iload_n hx hb dX12_telling_29 rfl (lv_at hl 1 rfl) ?_
        refine lv_iload_n hx hb dX12_telling_30 rfl (lv_at hl 2 rfl) ?_
        refine lv_iload_n hx hb dX12_telling_31 rfl (lv_at hl 3 rfl) ?_
        refine lv_iload hx hb dX12_telling_32 (lv_at hl 4 rfl) ?_
        obtain ⟨r20, er20, hf⟩ := bd_e hf
        refine gVw_i E hK hP hD hS hA (cX12_whereByc _ _ _ _ er20) kV_X12_whereBy wd_6_197 rfl rfl (q_model ks ad σ) rfl rfl rfl ⟨Nat.le_of_ble_eq_true rfl, Nat.le_of_ble_eq_true rfl⟩ ⟨Nat.zero_le _, Nat.zero_le _⟩ hl.1 (Nat.le_of_ble_eq_true rfl) rfl dX12_telling_34 (fun H locs hP hD hS => ?_)
        exact gretw_i E hlk hP hD hS hr dX12_telling_37 (som_e hf)
    · replace hf := pos_e c4 hf
      refine lv_iconst (v := -1) hx hb dX12_telling_20 (by decide) ?_
      exact gretw_i E hlk hP hD hS hr dX12_telling_21 (som_e hf)
noncomputable def fX12_allPairs (σ : St) (a1 : Int32) : Option (Int32) :=
  bd (fX12_gripOf σ a1) fun r1 =>
  some ((r1 + 1) * 61)
def rX12_allPairs : Room := { frames := 2, cells := 0, slots := 0, locals := 43 }
set_option maxHeartbeats 4000000 in
set_option maxRecDepth 100000 in
theorem cX12_allPairsc {l : Launch} {dC : Nat → ClassId} {dI : Nat → Nat → Nat} {ks : Nat → ClassId} {ad : Nat → Nat → Nat} {σ : St} (a1 : Int32)  {out : Int32} (hf : fX12_allPairs σ a1 = some out) : MRi l dC dI ks ad σ yX12_allPairs cX12_allPairs 2 (some .int) rX12_allPairs [.ref (ad 14 0), .int a1] out := by
  refine met_r (own := RX12) (by decide) rfl (Nat.le_of_ble_eq_true rfl) ?_
  intro p e s m args below meth c ls E hr hlk hP hK hl
  have hx := E.1
  have hb := E.2.1
  have hl : lv_has ls 2 [(0, .ref (ad 14 0)), (1, .int a1)] := hl
  unfold fX12_allPairs at hf
  refine lv_aload_n hx hb dX12_allPairs_0 rfl (lv_at hl 0 rfl) ?_
  refine lv_iload_n hx hb dX12_allPairs_1 rfl (lv_at hl 1 rfl) ?_
  obtain ⟨r1, er1, hf⟩ := bd_e hf
  refine gVr_i E hK hP (cX12_gripOfc _ er1) kV_X12_gripOf wd_6_62 rfl rfl (q_model ks ad σ) rfl rfl rfl ⟨Nat.le_of_ble_eq_true rfl, Nat.le_of_ble_eq_true rfl⟩ ⟨Nat.zero_le _, Nat.zero_le _⟩ hl.1 (Nat.le_of_ble_eq_true rfl) rfl dX12_allPairs_2 ?_
  refine lv_iconst (v := 1) hx hb dX12_allPairs_5 (by decide) ?_
  refine lv_iadd hx hb dX12_allPairs_6 ?_
  refine lv_bipush (v := 61) hx hb dX12_allPairs_7 (by decide) ?_
  refine lv_imul hx hb dX12_allPairs_9 ?_
  exact gret_i E hr hlk dX12_allPairs_10 (som_e hf).symm
noncomputable def fX12_odds (σ : St) (a1 : Int32) (a2 : Int32) (a3 : Int32) (a4 : Int32) : Option (Int64 × St) :=
  bd (fX12_areAll σ a1 a2 a3) fun r1 =>
  if r1 = 0 then
  some (1000000001, σ)
  else
  bd (fX12_isIn σ a4 0 1) fun r3 =>
  if r3 = 0 then
  some (1000000001, σ)
  else
  bd (fX12_looks σ a1 a2 a3) fun r5 =>
  bd (fX12_allPairs r5 a2) fun r6 =>
  bd (fX12_partOf r5 ((gI r5 11 0 9).toInt64) r6.toInt64 a4) fun r7 =>
  some (r7, r5)
def rX12_odds : Room := { frames := 6, cells := 0, slots := 0, locals := 141 }
set_option maxHeartbeats 4000000 in
set_option maxRecDepth 100000 in
theorem cX12_oddsc {l : Launch} {dC : Nat → ClassId} {dI : Nat → Nat → Nat} {ks : Nat → ClassId} {ad : Nat → Nat → Nat} {σ : St} (a1 : Int32) (a2 : Int32) (a3 : Int32) (a4 : Int32)  {out : Int64 × St} (hf : fX12_odds σ a1 a2 a3 a4 = some out) : MWl l dC dI ks ad σ yX12_odds cX12_odds 5 (some .long) rX12_odds [.ref (ad 14 0), .int a1, .int a2, .int a3, .int a4] out := by
  intro sz
  refine met_w (Qc := fun A => va_Ql (fun r σ' => r = out.1 ∧ σ' = out.2) (gBw dC dI ks ad A) A) (own := RX12) (by decide) rfl (Nat.le_of_ble_eq_true rfl) ?_
  intro A p e s m args below meth c ls E hr hlk hA hP hD hS hK hl
  have hx := E.1
  have hb := E.2.1
  have hl : lv_has ls 5 [(0, .ref (ad 14 0)), (1, .int a1), (2, .int a2), (3, .int a3), (4, .int a4)] := hl
  unfold fX12_odds at hf
  refine lv_aload_n hx hb dX12_odds_0 rfl (lv_at hl 0 rfl) ?_
  refine lv_iload_n hx hb dX12_odds_1 rfl (lv_at hl 1 rfl) ?_
  refine lv_iload_n hx hb dX12_odds_2 rfl (lv_at hl 2 rfl) ?_
  refine lv_iload_n hx hb dX12_odds_3 rfl (lv_at hl 3 rfl) ?_
  obtain ⟨r1, er1, hf⟩ := bd_e hf
  refine gVr_i E hK hP (cX12_areAllc _ _ _ er1) kV_X12_areAll wd_5_184 rfl rfl (q_model ks ad σ) rfl rfl rfl ⟨Nat.le_of_ble_eq_true rfl, Nat.le_of_ble_eq_true rfl⟩ ⟨Nat.zero_le _, Nat.zero_le _⟩ hl.1 (Nat.le_of_ble_eq_true rfl) rfl dX12_odds_4 ?_
  refine lv_if_eq (tgt := 20) hx hb dX12_odds_7 (by decide) (fun c2 => ?_) (fun c2 => ?_)
  · replace hf := pos_e c2 hf
    refine lv_ldc2 (v := 1000000001) hx hb E.2.2.2.1 (E.2.2.2.2 _ wd_6_167) dX12_odds_20 ?_
    exact gretw_l E hlk hP hD hS hr dX12_odds_23 (som_e hf)
  · replace hf := neg_e c2 hf
    refine lv_iload hx hb dX12_odds_10 (lv_at hl 4 rfl) ?_
    refine lv_iconst (v := 0) hx hb dX12_odds_12 (by decide) ?_
    refine lv_iconst (v := 1) hx hb dX12_odds_13 (by decide) ?_
    obtain ⟨r3, er3, hf⟩ := bd_e hf
    refine gSr_i E hK hP (cX12_isInc _ _ _ er3) kS_X12_isIn wd_5_138 rfl rfl rfl ⟨Nat.le_of_ble_eq_true rfl, Nat.le_of_ble_eq_true rfl⟩ ⟨Nat.zero_le _, Nat.zero_le _⟩ hl.1 (Nat.le_of_ble_eq_true rfl) rfl dX12_odds_14 ?_
    refine lv_if_ne (tgt := 24) hx hb dX12_odds_17 (by decide) (fun c4 => ?_) (fun c4 => ?_)
    · replace hf := neg_e c4 hf
      refine lv_aload_n hx hb dX12_odds_24 rfl (lv_at hl 0 rfl) ?_
      refine lv_iload_n hx hb dX12_odds_25 rfl (lv_at hl 1 rfl) ?_
      refine lv_iload_n hx hb dX12_odds_26 rfl (lv_at hl 2 rfl) ?_
      refine lv_iload_n hx hb dX12_odds_27 rfl (lv_at hl 3 rfl) ?_
      obtain ⟨r5, er5, hf⟩ := bd_e hf
      refine gVw_v E hK hP hD hS hA (cX12_looksc _ _ _ er5) kV_X12_looks wd_6_87 rfl rfl (q_model ks ad σ) rfl rfl rfl ⟨Nat.le_of_ble_eq_true rfl, Nat.le_of_ble_eq_true rfl⟩ ⟨Nat.zero_le _, Nat.zero_le _⟩ hl.1 (Nat.le_of_ble_eq_true rfl) rfl dX12_odds_28 (fun H locs hP hD hS => ?_)
      refine lv_aload_n hx hb dX12_odds_31 rfl (lv_at hl 0 rfl) ?_
      refine gget E in_X12 hK hP (q_model ks ad r5) rfl (k := 9) (by decide) wd_5_69 rfl (v := .int (gI r5 11 0 9)) rfl dX12_odds_32 ?_
      refine lv_i2l hx hb dX12_odds_35 rfl ?_
      refine lv_aload_n hx hb dX12_odds_36 rfl (lv_at hl 0 rfl) ?_
      refine lv_iload_n hx hb dX12_odds_37 rfl (lv_at hl 2 rfl) ?_
      obtain ⟨r6, er6, hf⟩ := bd_e hf
      refine gVr_i E hK hP (cX12_allPairsc _ er6) kV_X12_allPairs wd_6_205 rfl rfl (q_model ks ad r5) rfl rfl rfl ⟨Nat.le_of_ble_eq_true rfl, Nat.le_of_ble_eq_true rfl⟩ ⟨Nat.zero_le _, Nat.zero_le _⟩ hl.1 (Nat.le_of_ble_eq_true rfl) rfl dX12_odds_38 ?_
      refine lv_i2l hx hb dX12_odds_41 rfl ?_
      refine lv_iload hx hb dX12_odds_42 (lv_at hl 4 rfl) ?_
      obtain ⟨r7, er7, hf⟩ := bd_e hf
      refine gSr_l E hK hP (cX12_partOfc _ _ _ er7) kS_X12_partOf wd_6_176 rfl rfl rfl ⟨Nat.le_of_ble_eq_true rfl, Nat.le_of_ble_eq_true rfl⟩ ⟨Nat.zero_le _, Nat.zero_le _⟩ hl.1 (Nat.le_of_ble_eq_true rfl) rfl dX12_odds_44 ?_
      exact gretw_l E hlk hP hD hS hr dX12_odds_47 (som_e hf)
    · replace hf := pos_e c4 hf
      refine lv_ldc2 (v := 1000000001) hx hb E.2.2.2.1 (E.2.2.2.2 _ wd_6_167) dX12_odds_20 ?_
      exact gretw_l E hlk hP hD hS hr dX12_odds_23 (som_e hf)
noncomputable def fX12_enough_L22B (a2 : Int32) (K_22 : St → Option (Int32 × St)) (rec_22 : Int32 → St → Option (Int32 × St)) (x4 : Int32) (σ5 : St) : Option (Int32 × St) :=
  if 50 < x4 then
  K_22 σ5
  else
  bd (fX12_allPairs σ5 a2) fun r7 =>
  if (x4 * (gI σ5 11 0 9)) < r7 then
  nmv (x4 + 1) fun v9 =>
  rec_22 v9 σ5
  else
  some (x4, σ5)
noncomputable def fX12_enough_L22 (a2 : Int32) (K_22 : St → Option (Int32 × St)) : Nat → Int32 → St → Option (Int32 × St)
  | 0 => fun _ _ => none
  | n + 1 => fX12_enough_L22B a2 K_22 (fX12_enough_L22 a2 K_22 n)
noncomputable def fX12_enough (σ : St) (a1 : Int32) (a2 : Int32) (a3 : Int32) : Option (Int32 × St) :=
  bd (fX12_areAll σ a1 a2 a3) fun r1 =>
  if r1 = 0 then
  some ((-1), σ)
  else
  bd (fX12_looks σ a1 a2 a3) fun r3 =>
  fX12_enough_L22 a2 (fun σ10 => some ((-4), σ10)) FU 1 r3
def rX12_enough : Room := { frames := 6, cells := 0, slots := 0, locals := 141 }
set_option maxHeartbeats 4000000 in
set_option maxRecDepth 100000 in
theorem cX12_enoughc {l : Launch} {dC : Nat → ClassId} {dI : Nat → Nat → Nat} {ks : Nat → ClassId} {ad : Nat → Nat → Nat} {σ : St} (a1 : Int32) (a2 : Int32) (a3 : Int32)  {out : Int32 × St} (hf : fX12_enough σ a1 a2 a3 = some out) : MWi l dC dI ks ad σ yX12_enough cX12_enough 5 (some .int) rX12_enough [.ref (ad 14 0), .int a1, .int a2, .int a3] out := by
  intro sz
  refine met_w (Qc := fun A => va_Qi (fun r σ' => r = out.1 ∧ σ' = out.2) (gBw dC dI ks ad A) A) (own := RX12) (by decide) rfl (Nat.le_of_ble_eq_true rfl) ?_
  intro A p e s m args below meth c ls E hr hlk hA hP hD hS hK hl
  have hx := E.1
  have hb := E.2.1
  have hl : lv_has ls 5 [(0, .ref (ad 14 0)), (1, .int a1), (2, .int a2), (3, .int a3)] := hl
  unfold fX12_enough at hf
  refine lv_aload_n hx hb dX12_enough_0 rfl (lv_at hl 0 rfl) ?_
  refine lv_iload_n hx hb dX12_enough_1 rfl (lv_at hl 1 rfl) ?_
  refine lv_iload_n hx hb dX12_enough_2 rfl (lv_at hl 2 rfl) ?_
  refine lv_iload_n hx hb dX12_enough_3 rfl (lv_at hl 3 rfl) ?_
  obtain ⟨r1, er1, hf⟩ := bd_e hf
  refine gVr_i E hK hP (cX12_areAllc _ _ _ er1) kV_X12_areAll wd_5_184 rfl rfl (q_model ks ad σ) rfl rfl rfl ⟨Nat.le_of_ble_eq_true rfl, Nat.le_of_ble_eq_true rfl⟩ ⟨Nat.zero_le _, Nat.zero_le _⟩ hl.1 (Nat.le_of_ble_eq_true rfl) rfl dX12_enough_4 ?_
  refine lv_if_ne (tgt := 12) hx hb dX12_enough_7 (by decide) (fun c2 => ?_) (fun c2 => ?_)
  · replace hf := neg_e c2 hf
    refine lv_aload_n hx hb dX12_enough_12 rfl (lv_at hl 0 rfl) ?_
    refine lv_iload_n hx hb dX12_enough_13 rfl (lv_at hl 1 rfl) ?_
    refine lv_iload_n hx hb dX12_enough_14 rfl (lv_at hl 2 rfl) ?_
    refine lv_iload_n hx hb dX12_enough_15 rfl (lv_at hl 3 rfl) ?_
    obtain ⟨r3, er3, hf⟩ := bd_e hf
    refine gVw_v E hK hP hD hS hA (cX12_looksc _ _ _ er3) kV_X12_looks wd_6_87 rfl rfl (q_model ks ad σ) rfl rfl rfl ⟨Nat.le_of_ble_eq_true rfl, Nat.le_of_ble_eq_true rfl⟩ ⟨Nat.zero_le _, Nat.zero_le _⟩ hl.1 (Nat.le_of_ble_eq_true rfl) rfl dX12_enough_16 (fun H locs hP hD hS => ?_)
    refine lv_iconst (v := 1) hx hb dX12_enough_19 (by decide) ?_
    refine lv_istore (lv' := [(4, .int 1), (0, .ref (ad 14 0)), (1, .int a1), (2, .int a2), (3, .int a3)]) hx hb dX12_enough_20 hl (by decide) rfl (fun ls hl => ?_)
    have loop_22 : ∀ (K_22 : St → Option (Int32 × St)) (hK_22 : (∀ (σ10 : St) (H : Heap) (locs : List Loc) (hP : va_P (dC, dI) vwCl (wG ks ad σ10) H) (hD : va_D A (wG ks ad σ10)) (hS : va_S A s.heap H locs) (hf : K_22 σ10 = some out) (ls : Array Slot), lv_has ls 5 [] → W p l e rX12_enough s m args below meth c H locs 0 0 (MQ below (va_Qi (fun r σ' => r = out.1 ∧ σ' = out.2) (gBw dC dI ks ad A) A) args s 0 0 A) (F0 m 53 ls []))) (n_22 : Nat) (x4 : Int32) (σ5 : St) (H : Heap) (locs : List Loc) (hP : va_P (dC, dI) vwCl (wG ks ad σ5) H) (hD : va_D A (wG ks ad σ5)) (hS : va_S A s.heap H locs) (hf : fX12_enough_L22 a2 K_22 n_22 x4 σ5 = some out) (ls : Array Slot), lv_has ls 5 [(0, .ref (ad 14 0)), (2, .int a2), (4, .int x4)] → W p l e rX12_enough s m args below meth c H locs 0 0 (MQ below (va_Qi (fun r σ' => r = out.1 ∧ σ' = out.2) (gBw dC dI ks ad A) A) args s 0 0 A) (F0 m 22 ls []) := by
      intro K_22 hK_22 n_22
      induction n_22 with
      | zero => intro x4 σ5 H locs hP hD hS hf; cases hf
      | succ n_22 ih_22 =>
        intro x4 σ5 H locs hP hD hS hf ls hl
        have hf : fX12_enough_L22B a2 K_22 (fX12_enough_L22 a2 K_22 n_22) x4 σ5 = some out := hf
        unfold fX12_enough_L22B at hf
        refine lv_iload hx hb dX12_enough_22 (lv_at hl 2 rfl) ?_
        refine lv_bipush (v := 50) hx hb dX12_enough_24 (by decide) ?_
        refine lv_icmp_gt (tgt := 53) hx hb dX12_enough_26 (by decide) (fun c6 => ?_) (fun c6 => ?_)
        · replace hf := pos_e c6 hf
          exact hK_22 _ _ _ hP hD hS hf _ (lv_sub hl [] rfl)
        · replace hf := neg_e c6 hf
          refine lv_iload hx hb dX12_enough_29 (lv_at hl 2 rfl) ?_
          refine lv_aload_n hx hb dX12_enough_31 rfl (lv_at hl 0 rfl) ?_
          refine gget E in_X12 hK hP (q_model ks ad σ5) rfl (k := 9) (by decide) wd_5_69 rfl (v := .int (gI σ5 11 0 9)) rfl dX12_enough_32 ?_
          refine lv_imul hx hb dX12_enough_35 ?_
          refine lv_aload_n hx hb dX12_enough_36 rfl (lv_at hl 0 rfl) ?_
          refine lv_iload_n hx hb dX12_enough_37 rfl (lv_at hl 1 rfl) ?_
          obtain ⟨r7, er7, hf⟩ := bd_e hf
          refine gVr_i E hK hP (cX12_allPairsc _ er7) kV_X12_allPairs wd_6_205 rfl rfl (q_model ks ad σ5) rfl rfl rfl ⟨Nat.le_of_ble_eq_true rfl, Nat.le_of_ble_eq_true rfl⟩ ⟨Nat.zero_le _, Nat.zero_le _⟩ hl.1 (Nat.le_of_ble_eq_true rfl) rfl dX12_enough_38 ?_
          refine lv_icmp_lt (tgt := 47) hx hb dX12_enough_41 (by decide) (fun c8 => ?_) (fun c8 => ?_)
          · replace hf := pos_e c8 hf
            obtain ⟨v9, ev9, hf⟩ := nmv_e hf
            refine lv_iinc (v := v9) (lv' := [(4, .int v9), (0, .ref (ad 14 0)), (2, .int a2)]) hx hb dX12_enough_47 hl (k := 2) rfl (by rw [ev9]; rfl) (by decide) rfl (fun ls hl => ?_)
            refine lv_goto (tgt := 22) hx hb dX12_enough_50 (by decide) ?_
            exact ih_22 _ _ _ _ hP hD hS hf _ (lv_sub hl [1, 2, 0] rfl)
          · replace hf := neg_e c8 hf
            refine lv_iload hx hb dX12_enough_44 (lv_at hl 2 rfl) ?_
            exact gretw_i E hlk hP hD hS hr dX12_enough_46 (som_e hf)
    refine loop_22 _ (fun σ10 H locs hP hD hS hf ls hl => ?_) _ _ _ _ _ hP hD hS hf _ (lv_sub hl [1, 3, 0] rfl)
    refine lv_bipush (v := -4) hx hb dX12_enough_53 (by decide) ?_
    exact gretw_i E hlk hP hD hS hr dX12_enough_55 (som_e hf)
  · replace hf := pos_e c2 hf
    refine lv_iconst (v := -1) hx hb dX12_enough_10 (by decide) ?_
    exact gretw_i E hlk hP hD hS hr dX12_enough_11 (som_e hf)
