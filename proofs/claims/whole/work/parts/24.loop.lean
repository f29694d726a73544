def R_law : String := "BladeBetweenThumbsLaw"
def lw_P (b : Addr) (xs : List Int32) (args : Array Value) (s : State) : Prop := args = #[.ref b] ∧ s.IntsAt b xs ∧ xs.length ≤ 3072 ∧ (Jvm.Cond.and given_1 narrow_1).before args s = true
def lw_Q (_ : Array Value) (s : State) (o : Outcome) (t : State) : Prop := o = .returned (some (.int 1)) ∧ Framed s o t [] 601024 7293034
def lw_Z (below : List Frame) (a : Array Value) (s : State) : State → Prop := fun t => ∃ o, t.status = .running ∧ Ended t below o ∧ lw_Q a s o t
/-- the law's own end, with 1 on the stack, nothing written that was there before, its room as the claim has it -/
theorem lw_ret {p : Program} {l : Launch} {e : Env} {s : State} {m : MethodId} {below : List Frame} {meth : Method} {c : Code} {b : Nat} (hx : p.tables.exec = Jvm.exec) (hb : c.code = code) (hr : meth.sig.returnType = ret) (hlocks : meth.locks = false) {pc : Nat} {H : Heap} {ls : Array Slot} (hdg : decode code pc = .ok (.ireturn, 1)) : W p l e room_1 s m #[Value.ref b] below meth c H [] 601024 7293034 (lw_Z below #[Value.ref b] s) (F0 m pc ls [.int 1]) := by
  intro T hT X
  obtain ⟨fs, hret, hrun, hended, hW, hframe⟩ := X.leave (v := some (.int 1)) (hlocks := hlocks) (fun h => by rw [hr] at h; cases h)
  have hmeth' : T.vm.method? m = some meth := X.method'
  refine ⟨T.setFrames fs, ?_, .returned (some (.int 1)), hrun, hended, rfl, ⟨_, rfl⟩, hW, hframe⟩
  jvm_step X.here [X.here.top, hx, hb, hdg, hmeth', hr, ret, narrow_b1]
  (try refine ⟨rfl, ?_⟩); (try refine ⟨rfl, ?_⟩)
  first | (intro acts; rw [hret _ acts rfl rfl rfl]) | rw [hret _ _ rfl rfl rfl]
  exact Steps.refl _
/-- what holds at the law's entry: the machine, the code, the tables' words (any of lw_tbl by 'hts w (by decide +kernel)'), the script of L ints xs at the cell b, what the Statement gives of the start (any of its parts by flat_of_before) -/
def lw_At (p : Program) (s : State) (m : MethodId) (meth : Method) (c : Code) (b L : Nat) (xs : Nat → Int32) : Prop :=
  p.tables.exec = Jvm.exec ∧ c.code = code ∧ meth.sig.returnType = ret ∧ c.maxLocals = 8 ∧ s.vm.findClass R_law = some m.cls ∧ (∀ w ∈ lw_tbl, w.before #[Value.ref b] s = true) ∧ va_X b L xs s s.heap ∧ b < s.heap.size ∧ meth.locks = false ∧ (Jvm.Cond.and given_1 narrow_1).before #[Value.ref b] s = true
theorem and63 (x : Int32) : 0 ≤ (x &&& 63).toInt ∧ (x &&& 63).toInt ≤ 63 := by
  have h2 : (x &&& 63).toBitVec.toNat ≤ 63 := by
    rw [Int32.toBitVec_and, BitVec.toNat_and]
    exact Nat.and_le_right
  have h : (x &&& 63).toInt = (x &&& 63).toBitVec.toInt := rfl
  rw [h, BitVec.toInt_eq_toNat_of_lt (by omega)]
  omega
section
variable {p : Program} {l : Launch} {e : Env} {s : State} {m : MethodId} {below : List Frame} {meth : Method} {c : Code} {b L : Nat} {xs : Nat → Int32}
variable {Inv : St → Prop} {dC : Nat → ClassId} {dI : Nat → Nat → Nat} {ks : Nat → ClassId} {ad : Nat → Nat → Nat}
theorem law_exit {H : Heap} {locs : List Loc} {cells slots k : Nat} {ls : Array Slot} (C0 : LawCtx p l s m c b L xs dC dI ks) (hr : meth.sig.returnType = ret) (hlk : meth.locks = false) (hL : L ≤ 3072) (hk1 : 6 * k ≤ L) (hk2 : L < 6 * k + 6) (hc : cells ≤ 601024) (hs : slots ≤ 7293034) (hS : va_S (lawA s) s.heap H locs) (hl : lv_has ls 8 [(4, .int (nI (6 * k))), (3, .ref (ad 13 2)), (2, .ref (ad 14 0)), (1, .ref (ad 0 0)), (0, .ref b)]) : W p l e room_1 s m #[.ref b] below meth c H locs cells slots (lw_Z below #[.ref b] s) (F0 m 23 ls []) := by
  have hx := C0.1.1
  have hb := C0.1.2.1
  have hgt : nI (6 * k) > nI L - 6 := by
    have e1 : (nI L - nI 6).toInt = (L : Int) - (6 : Nat) := pk_sub_toInt (by omega) (by omega)
    have e2 : (nI (6 * k)).toInt = ((6 * k : Nat) : Int) := nI_toInt (by omega)
    show nI L - nI 6 < nI (6 * k)
    rw [Int32.lt_iff_toInt_lt, e1, e2]
    omega
  refine lv_iload hx hb dL_law_23 (lv_at hl 0 rfl) ?_
  refine lv_aload_n hx hb dL_law_25 rfl (lv_at hl 4 rfl) ?_
  refine va_slen hx hb C0.2.2.2.2.1 C0.2.2.2.2.2.1 (Nat.not_le.mpr C0.2.2.2.2.2.1) hS dL_law_26 ?_
  refine lv_bipush (v := 6) hx hb dL_law_27 (by decide) ?_
  refine lv_isub hx hb dL_law_29 ?_
  refine lv_icmp_gt (tgt := 2336) hx hb dL_law_30 (by decide) (fun _ => ?_) (fun c0 => absurd hgt c0)
  refine lv_iconst (v := 1) hx hb dL_law_2336 (by decide) ?_
  refine va_forget (fun q hq => hS.2.2 q hq) ?_
  refine W.widen (k := 601024) (n := 7293034) hc hs ?_
  exact lw_ret hx hb hr hlk dL_law_2337
set_option maxHeartbeats 4000000 in
theorem law_loop (hCs : Cases Inv) (C0 : LawCtx p l s m c b L xs dC dI ks) (hr : meth.sig.returnType = ret) (hlk : meth.locks = false) (hL : L ≤ 3072) : ∀ (n k : Nat) (σ : St) (bl : Nat → Nat) (H : Heap) (locs : List Loc) (ls : Array Slot) (cells slots : Nat), 6 * k ≤ L → L ≤ 6 * k + 6 * n → cells ≤ 100 + 1000 * k → slots ≤ 4000 + 2000 * k → Inv σ → va_P (dC, dI) vwCl (wG ks (adU ad bl) σ) H → va_D (lawA s) (wG ks (adU ad bl) σ) → va_S (lawA s) s.heap H locs → lv_has ls 8 [(4, .int (nI (6 * k))), (3, .ref (ad 13 2)), (2, .ref (ad 14 0)), (1, .ref (ad 0 0)), (0, .ref b)] → W p l e room_1 s m #[.ref b] below meth c H locs cells slots (lw_Z below #[.ref b] s) (F0 m 23 ls []) := by
  intro n
  induction n with
  | zero =>
    intro k σ bl H locs ls cells slots h1 h2 hc hs hI hP hD hS hl
    exact law_exit C0 hr hlk hL h1 (by omega) (by omega) (by omega) hS hl
  | succ n ih =>
    intro k σ bl H locs ls cells slots h1 h2 hc hs hI hP hD hS hl
    by_cases hk6 : 6 * k + 6 ≤ L
    · have hx := C0.1.1
      have hb := C0.1.2.1
      have hng : ¬ nI (6 * k) > nI L - 6 := by
        have e1 : (nI L - nI 6).toInt = (L : Int) - (6 : Nat) := pk_sub_toInt (by omega) (by omega)
        have e2 : (nI (6 * k)).toInt = ((6 * k : Nat) : Int) := nI_toInt (by omega)
        show ¬ nI L - nI 6 < nI (6 * k)
        rw [Int32.lt_iff_toInt_lt, e1, e2]
        omega
      have q0 : vp_in (nI (6 * k)) L := pk_in (6 * k) L (by omega) rfl (by omega)
      have q1 : vp_in (nI (6 * k) + 1) L := pk_in (6 * k + 1) L (by omega) (nI_add (6 * k) 1) (by omega)
      have q2 : vp_in (nI (6 * k) + 2) L := pk_in (6 * k + 2) L (by omega) (nI_add (6 * k) 2) (by omega)
      have q3 : vp_in (nI (6 * k) + 3) L := pk_in (6 * k + 3) L (by omega) (nI_add (6 * k) 3) (by omega)
      have q4 : vp_in (nI (6 * k) + 4) L := pk_in (6 * k + 4) L (by omega) (nI_add (6 * k) 4) (by omega)
      have q5 : vp_in (nI (6 * k) + 5) L := pk_in (6 * k + 5) L (by omega) (nI_add (6 * k) 5) (by omega)
      have kk : LawK p l e s m below meth c b dC dI ks ad (lw_Z below #[.ref b] s) Inv (100 + 1000 * (k + 1)) (4000 + 2000 * (k + 1)) (nI (6 * k)) := by
        intro σ2 bl2 H2 locs2 ls2 cells2 slots2 hc2 hs2 hI2 hP2 hD2 hS2 hl2
        refine lv_iinc (v := nI (6 * (k + 1))) (lv' := [(4, .int (nI (6 * (k + 1)))), (3, .ref (ad 13 2)), (2, .ref (ad 14 0)), (1, .ref (ad 0 0)), (0, .ref b)]) hx hb dL_law_2330 hl2 (k := 0) rfl (nI_add (6 * k) 6) (by decide) rfl (fun ls hl => ?_)
        refine lv_goto (tgt := 23) hx hb dL_law_2333 (by decide) ?_
        exact ih (k + 1) σ2 bl2 H2 locs2 ls cells2 slots2 (by omega) (by omega) hc2 hs2 hI2 hP2 hD2 hS2 hl
      refine lv_iload hx hb dL_law_23 (lv_at hl 0 rfl) ?_
      refine lv_aload_n hx hb dL_law_25 rfl (lv_at hl 4 rfl) ?_
      refine va_slen hx hb C0.2.2.2.2.1 C0.2.2.2.2.2.1 (Nat.not_le.mpr C0.2.2.2.2.2.1) hS dL_law_26 ?_
      refine lv_bipush (v := 6) hx hb dL_law_27 (by decide) ?_
      refine lv_isub hx hb dL_law_29 ?_
      refine lv_icmp_gt (tgt := 2336) hx hb dL_law_30 (by decide) (fun c0 => absurd c0 hng) (fun _ => ?_)
      refine lv_aload_n hx hb dL_law_33 rfl (lv_at hl 4 rfl) ?_
      refine lv_iload hx hb dL_law_34 (lv_at hl 0 rfl) ?_
      refine va_sld hx hb C0.2.2.2.2.1 C0.2.2.2.2.2.1 (Nat.not_le.mpr C0.2.2.2.2.2.1) hS q0 dL_law_36 ?_
      refine lv_bipush (v := 63) hx hb dL_law_37 (by decide) ?_
      refine lv_iand hx hb dL_law_39 ?_
      have hv := and63 (xs (nI (6 * k)).toNatClampNeg)
      generalize xs (nI (6 * k)).toNatClampNeg &&& 63 = v at hv ⊢
      by_cases h44 : 44 < v.toInt
      · exact lv_tableOut (tgt := 2330) hx hb dL_law_40 (Or.inr h44) (by decide) (kk σ bl H locs ls cells slots (by omega) (by omega) hI hP hD hS hl)
      · obtain ⟨z, hz⟩ : ∃ z : Nat, v.toInt = (z : Int) := ⟨v.toInt.toNat, by omega⟩
        have hz44 : z ≤ 44 := by omega
        have hnn : ¬ v.toInt < 0 := by omega
        have fin : ∀ {tgt : Nat} {off : Int} (_ : (#[196, 221, 258, 295, 332, 381, 406, 443, 480, 541, 614, 675, 748, 809, 822, 859, 932, 1005, 1054, 1091, 1140, 1189, 1238, 1287, 1324, 1386, 1423, 1473, 1534, 1596, 1645, 1694, 1731, 1780, 1841, 1890, 1903, 1916, 1941, 2002, 2051, 2100, 2167, 2240, 2265] : Array Int)[z]? = some off) (_ : (40 : Nat) + off = (tgt : Int)) (_ : W p l e room_1 s m #[.ref b] below meth c H locs cells slots (lw_Z below #[.ref b] s) (F0 m tgt ls [])), W p l e room_1 s m #[.ref b] below meth c H locs cells slots (lw_Z below #[.ref b] s) (F0 m 40 ls [.int v]) := by
          intro tgt off ho ht kx
          exact lv_tableIn (off := off) (tgt := tgt) hx hb dL_law_40 hnn h44 (by rw [show (v.toInt - 0).toNat = z by omega]; exact ho) ht kx
        clear hz hnn h44 hv
        rcases z with _ | _ | _ | _ | _ | _ | _ | _ | _ | _ | _ | _ | _ | _ | _ | _ | _ | _ | _ | _ | _ | _ | _ | _ | _ | _ | _ | _ | _ | _ | _ | _ | _ | _ | _ | _ | _ | _ | _ | _ | _ | _ | _ | _ | _ | z
        · exact fin (tgt := 236) (off := 196) rfl (by decide) (lawc_0 hCs C0 kk q1 q2 q3 q4 q5 (by omega) (by omega) (by omega) (by omega) hI hP hD hS hl)
        · exact fin (tgt := 261) (off := 221) rfl (by decide) (lawc_1 hCs C0 kk q1 q2 q3 q4 q5 (by omega) (by omega) (by omega) (by omega) hI hP hD hS hl)
        · exact fin (tgt := 298) (off := 258) rfl (by decide) (lawc_2 hCs C0 kk q1 q2 q3 q4 q5 (by omega) (by omega) (by omega) (by omega) hI hP hD hS hl)
        · exact fin (tgt := 335) (off := 295) rfl (by decide) (lawc_3 hCs C0 kk q1 q2 q3 q4 q5 (by omega) (by omega) (by omega) (by omega) hI hP hD hS hl)
        · exact fin (tgt := 372) (off := 332) rfl (by decide) (lawc_4 hCs C0 kk q1 q2 q3 q4 q5 (by omega) (by omega) (by omega) (by omega) hI hP hD hS hl)
        · exact fin (tgt := 421) (off := 381) rfl (by decide) (lawc_5 hCs C0 kk q1 q2 q3 q4 q5 (by omega) (by omega) (by omega) (by omega) hI hP hD hS hl)
        · exact fin (tgt := 446) (off := 406) rfl (by decide) (lawc_6 hCs C0 kk q1 q2 q3 q4 q5 (by omega) (by omega) (by omega) (by omega) hI hP hD hS hl)
        · exact fin (tgt := 483) (off := 443) rfl (by decide) (lawc_7 hCs C0 kk q1 q2 q3 q4 q5 (by omega) (by omega) (by omega) (by omega) hI hP hD hS hl)
        · exact fin (tgt := 520) (off := 480) rfl (by decide) (lawc_8 hCs C0 kk q1 q2 q3 q4 q5 (by omega) (by omega) (by omega) (by omega) hI hP hD hS hl)
        · exact fin (tgt := 581) (off := 541) rfl (by decide) (lawc_9 hCs C0 kk q1 q2 q3 q4 q5 (by omega) (by omega) (by omega) (by omega) hI hP hD hS hl)
        · exact fin (tgt := 654) (off := 614) rfl (by decide) (lawc_10 hCs C0 kk q1 q2 q3 q4 q5 (by omega) (by omega) (by omega) (by omega) hI hP hD hS hl)
        · exact fin (tgt := 715) (off := 675) rfl (by decide) (lawc_11 hCs C0 kk q1 q2 q3 q4 q5 (by omega) (by omega) (by omega) (by omega) hI hP hD hS hl)
        · exact fin (tgt := 788) (off := 748) rfl (by decide) (lawc_12 hCs C0 kk q1 q2 q3 q4 q5 (by omega) (by omega) (by omega) (by omega) hI hP hD hS hl)
        · exact fin (tgt := 849) (off := 809) rfl (by decide) (lawc_13 hCs C0 kk q1 q2 q3 q4 q5 (by omega) (by omega) (by omega) (by omega) hI hP hD hS hl)
        · exact fin (tgt := 862) (off := 822) rfl (by decide) (lawc_14 hCs C0 kk q1 q2 q3 q4 q5 (by omega) (by omega) (by omega) (by omega) hI hP hD hS hl)
        · exact fin (tgt := 899) (off := 859) rfl (by decide) (lawc_15 hCs C0 kk q1 q2 q3 q4 q5 (by omega) (by omega) (by omega) (by omega) hI hP hD hS hl)
        · exact fin (tgt := 972) (off := 932) rfl (by decide) (lawc_16 hCs C0 kk q1 q2 q3 q4 q5 (by omega) (by omega) (by omega) (by omega) hI hP hD hS hl)
        · exact fin (tgt := 1045) (off := 1005) rfl (by decide) (lawc_17 hCs C0 kk q1 q2 q3 q4 q5 (by omega) (by omega) (by omega) (by omega) hI hP hD hS hl)
        · exact fin (tgt := 1094) (off := 1054) rfl (by decide) (lawc_18 hCs C0 kk q1 q2 q3 q4 q5 (by omega) (by omega) (by omega) (by omega) hI hP hD hS hl)
        · exact fin (tgt := 1131) (off := 1091) rfl (by decide) (lawc_19 hCs C0 kk q1 q2 q3 q4 q5 (by omega) (by omega) (by omega) (by omega) hI hP hD hS hl)
        · exact fin (tgt := 1180) (off := 1140) rfl (by decide) (lawc_20 hCs C0 kk q1 q2 q3 q4 q5 (by omega) (by omega) (by omega) (by omega) hI hP hD hS hl)
        · exact fin (tgt := 1229) (off := 1189) rfl (by decide) (lawc_21 hCs C0 kk q1 q2 q3 q4 q5 (by omega) (by omega) (by omega) (by omega) hI hP hD hS hl)
        · exact fin (tgt := 1278) (off := 1238) rfl (by decide) (lawc_22 hCs C0 kk q1 q2 q3 q4 q5 (by omega) (by omega) (by omega) (by omega) hI hP hD hS hl)
        · exact fin (tgt := 1327) (off := 1287) rfl (by decide) (lawc_23 hCs C0 kk q1 q2 q3 q4 q5 (by omega) (by omega) (by omega) (by omega) hI hP hD hS hl)
        · exact fin (tgt := 1364) (off := 1324) rfl (by decide) (lawc_24 hCs C0 kk q1 q2 q3 q4 q5 (by omega) (by omega) (by omega) (by omega) hI hP hD hS hl)
        · exact fin (tgt := 1426) (off := 1386) rfl (by decide) (lawc_25 hCs C0 kk q1 q2 q3 q4 q5 (by omega) (by omega) (by omega) (by omega) hI hP hD hS hl)
        · exact fin (tgt := 1463) (off := 1423) rfl (by decide) (lawc_26 hCs C0 kk q1 q2 q3 q4 q5 (by omega) (by omega) (by omega) (by omega) hI hP hD hS hl)
        · exact fin (tgt := 1513) (off := 1473) rfl (by decide) (lawc_27 hCs C0 kk q1 q2 q3 q4 q5 (by omega) (by omega) (by omega) (by omega) hI hP hD hS hl)
        · exact fin (tgt := 1574) (off := 1534) rfl (by decide) (lawc_28 hCs C0 kk q1 q2 q3 q4 q5 (by omega) (by omega) (by omega) (by omega) hI hP hD hS hl)
        · exact fin (tgt := 1636) (off := 1596) rfl (by decide) (lawc_29 hCs C0 kk q1 q2 q3 q4 q5 (by omega) (by omega) (by omega) (by omega) hI hP hD hS hl)
        · exact fin (tgt := 1685) (off := 1645) rfl (by decide) (lawc_30 hCs C0 kk q1 q2 q3 q4 q5 (by omega) (by omega) (by omega) (by omega) hI hP hD hS hl)
        · exact fin (tgt := 1734) (off := 1694) rfl (by decide) (lawc_31 hCs C0 kk q1 q2 q3 q4 q5 (by omega) (by omega) (by omega) (by omega) hI hP hD hS hl)
        · exact fin (tgt := 1771) (off := 1731) rfl (by decide) (lawc_32 hCs C0 kk q1 q2 q3 q4 q5 (by omega) (by omega) (by omega) (by omega) hI hP hD hS hl)
        · exact fin (tgt := 1820) (off := 1780) rfl (by decide) (lawc_33 hCs C0 kk q1 q2 q3 q4 q5 (by omega) (by omega) (by omega) (by omega) hI hP hD hS hl)
        · exact fin (tgt := 1881) (off := 1841) rfl (by decide) (lawc_34 hCs C0 kk q1 q2 q3 q4 q5 (by omega) (by omega) (by omega) (by omega) hI hP hD hS hl)
        · exact fin (tgt := 1930) (off := 1890) rfl (by decide) (lawc_35 hCs C0 kk q1 q2 q3 q4 q5 (by omega) (by omega) (by omega) (by omega) hI hP hD hS hl)
        · exact fin (tgt := 1943) (off := 1903) rfl (by decide) (lawc_36 hCs C0 kk q1 q2 q3 q4 q5 (by omega) (by omega) (by omega) (by omega) hI hP hD hS hl)
        · exact fin (tgt := 1956) (off := 1916) rfl (by decide) (lawc_37 hCs C0 kk q1 q2 q3 q4 q5 (by omega) (by omega) (by omega) (by omega) hI hP hD hS hl)
        · exact fin (tgt := 1981) (off := 1941) rfl (by decide) (lawc_38 hCs C0 kk q1 q2 q3 q4 q5 (by omega) (by omega) (by omega) (by omega) hI hP hD hS hl)
        · exact fin (tgt := 2042) (off := 2002) rfl (by decide) (lawc_39 hCs C0 kk q1 q2 q3 q4 q5 (by omega) (by omega) (by omega) (by omega) hI hP hD hS hl)
        · exact fin (tgt := 2091) (off := 2051) rfl (by decide) (lawc_40 hCs C0 kk q1 q2 q3 q4 q5 (by omega) (by omega) (by omega) (by omega) hI hP hD hS hl)
        · exact fin (tgt := 2140) (off := 2100) rfl (by decide) (lawc_41 hCs C0 kk q1 q2 q3 q4 q5 (by omega) (by omega) (by omega) (by omega) hI hP hD hS hl)
        · exact fin (tgt := 2207) (off := 2167) rfl (by decide) (lawc_42 hCs C0 kk q1 q2 q3 q4 q5 (by omega) (by omega) (by omega) (by omega) hI hP hD hS hl)
        · exact fin (tgt := 2280) (off := 2240) rfl (by decide) (lawc_43 hCs C0 kk q1 q2 q3 q4 q5 (by omega) (by omega) (by omega) (by omega) hI hP hD hS hl)
        · exact fin (tgt := 2305) (off := 2265) rfl (by decide) (lawc_44 hCs C0 kk q1 q2 q3 q4 q5 (by omega) (by omega) (by omega) (by omega) hI hP hD hS hl)
        · omega
    · exact law_exit C0 hr hlk hL h1 (by omega) (by omega) (by omega) hS hl
end
