theorem cl_ok (c : Nat) (q : vw_C) (h : vwCl[c]? = some q) : (∀ w ∈ u_ws q.1 q.2.1 q.2.2, w ∈ tT) ∧ ∃ n, Cond.instantiable q.1 n ∈ tT := by
  rcases c with _ | _ | _ | _ | _ | _ | _ | _ | _ | _ | _ | _ | _ | c
  · cases h
    exact ⟨in_X0, _, wd_1_233⟩
  · cases h
    exact ⟨in_X1, _, wd_2_52⟩
  · cases h
    exact ⟨in_X2, _, wd_2_16⟩
  · cases h
    exact ⟨in_X3, _, wd_1_33⟩
  · cases h
    exact ⟨in_X4, _, wd_1_118⟩
  · cases h
    exact ⟨in_X5, _, wd_2_34⟩
  · cases h
    exact ⟨in_X6, _, wd_2_70⟩
  · cases h
    exact ⟨in_X7, _, wd_2_61⟩
  · cases h
    exact ⟨in_X8, _, wd_2_25⟩
  · cases h
    exact ⟨in_X9, _, wd_1_41⟩
  · cases h
    exact ⟨in_X10, _, wd_2_43⟩
  · cases h
    exact ⟨in_X11, _, wd_1_25⟩
  · cases h
    exact ⟨in_X12, _, wd_5_55⟩
  · cases h
theorem tT_sub {w : Cond} (h : w ∈ tT) : w ∈ lw_tbl := (List.mem_filter.mp h).1
theorem row_of {s : State} {t : FieldType} {A : Array Value} (h : (Cond.arrayClass t).before A s = true) (ht : ∀ C, t ≠ .object C) : ∃ k, ArrOfT s k t ∧ va_RA s k t := by
  obtain ⟨c, k, comp, f1, f2, f3⟩ := Cond.arrayClass_spec h
  refine ⟨c, fun N z => ⟨(fun q h => by cases h), k, f2, comp, f3⟩, ?_⟩
  cases t with
  | object C => exact absurd rfl (ht C)
  | _ => exact f1
theorem row_ofO {s : State} {C : String} {A : Array Value} (h : (Cond.arrayOver (.object C)).before A s = true) : ∃ k, ArrOfT s k (.object C) ∧ va_RA s k (.object C) := by
  obtain ⟨comp, c, k, f1, -, f2, f3, f4⟩ := Cond.arrayOver_spec h
  exact ⟨c, fun N z => ⟨(fun q h => by cases h), k, f2, comp, f3⟩, k, comp, f2, f3, f1, f4⟩
theorem gK_start {s : State} {b : Nat} (hts : ∀ w ∈ lw_tbl, w.before #[Value.ref b] s = true) : ∃ (dC : Nat → ClassId) (dI : Nat → Nat → Nat) (ks : Nat → ClassId), gK dC dI ks s ∧ gN s := by
  have hc : ∀ c : Nat, ∃ (cC : ClassId) (iS : Nat → Nat), ∀ q, vwCl[c]? = some q → u_Kn s q.1 q.2.1 q.2.2 cC iS := by
    intro c
    cases hq : vwCl[c]? with
    | none => exact ⟨0, fun _ => 0, fun q h => by cases h⟩
    | some q =>
      obtain ⟨h1, n, h2⟩ := cl_ok c q hq
      obtain ⟨cC, iS, h3⟩ := u_known (ws := tT) (fun w h => hts w (tT_sub h)) h1 (hts _ (tT_sub h2))
      exact ⟨cC, iS, fun q' h => by cases h; exact h3⟩
  obtain ⟨k0, a0, b0⟩ := row_of (t := .int) (hts _ (tT_sub wd_1_71)) (fun C h => by cases h)
  obtain ⟨k1, a1, b1⟩ := row_of (t := .long) (hts _ (tT_sub wd_1_144)) (fun C h => by cases h)
  obtain ⟨k2, a2, b2⟩ := row_ofO (C := RX0) (hts _ (tin_1 _ (List.mem_of_getElem? (i := 39) rfl)))
  obtain ⟨k3, a3, b3⟩ := row_ofO (C := RX4) (hts _ (tin_1 _ (List.mem_of_getElem? (i := 117) rfl)))
  refine ⟨fun c => Classical.choose (hc c), fun c => Classical.choose (Classical.choose_spec (hc c)), fun k => if k = 0 then k0 else if k = 1 then k1 else if k = 2 then k2 else k3, ⟨⟨fun c q hq => Classical.choose_spec (Classical.choose_spec (hc c)) q hq, fun k q hk => ?_⟩, va_Nw.of rfl (hts _ (tin_1 _ (List.mem_of_getElem? (i := 224) rfl))), List.forall_mem_cons.mpr ⟨va_Nw.of rfl (hts _ (tin_7 _ (List.mem_of_getElem? (i := 66) rfl))), List.forall_mem_cons.mpr ⟨va_Nw.of rfl (hts _ (tin_7 _ (List.mem_of_getElem? (i := 62) rfl))), List.forall_mem_cons.mpr ⟨va_Nw.of rfl (hts _ (tin_7 _ (List.mem_of_getElem? (i := 64) rfl))), List.forall_mem_cons.mpr ⟨va_Nw.of rfl (hts _ (tin_7 _ (List.mem_of_getElem? (i := 68) rfl))), List.forall_mem_cons.mpr ⟨va_Nw.of rfl (hts _ (tin_7 _ (List.mem_of_getElem? (i := 67) rfl))), List.forall_mem_cons.mpr ⟨va_Nw.of rfl (hts _ (tin_7 _ (List.mem_of_getElem? (i := 63) rfl))), List.forall_mem_cons.mpr ⟨va_Nw.of rfl (hts _ (tin_7 _ (List.mem_of_getElem? (i := 65) rfl))), fun _ h => absurd h List.not_mem_nil⟩⟩⟩⟩⟩⟩⟩⟩, va_Nw.of rfl (hts _ (tin_1 _ (List.mem_of_getElem? (i := 34) rfl))), va_Nw.of rfl (hts _ (tin_1 _ (List.mem_of_getElem? (i := 42) rfl))), va_Nw.of rfl (hts _ (tin_1 _ (List.mem_of_getElem? (i := 119) rfl))), (hts _ (tin_1 _ (List.mem_of_getElem? (i := 39) rfl))), (hts _ (tin_1 _ (List.mem_of_getElem? (i := 117) rfl)))⟩
  rcases k with _ | _ | _ | _ | k
  · cases hk; exact ⟨a0, b0⟩
  · cases hk; exact ⟨a1, b1⟩
  · cases hk; exact ⟨a2, b2⟩
  · cases hk; exact ⟨a3, b3⟩
  · cases hk
theorem gX_start {s : State} {b : Nat} (hts : ∀ w ∈ lw_tbl, w.before #[Value.ref b] s = true) (hgv : (Jvm.Cond.and given_1 narrow_1).before #[Value.ref b] s = true) : gX (lawA s) s ∧ gStr s := by
  have hA : ∀ a : Nat, a < s.heap.size → ¬ lawA s a := fun a h q => Nat.lt_irrefl _ (Nat.lt_of_lt_of_le h q)
  have hs := flat_of_before _ hgv
  refine ⟨⟨vx_Zqof (hts _ (tin_4 _ (List.mem_of_getElem? (i := 188) rfl))) (hts _ (tT_sub wd_1_18)) (hs (Cond.isRef (.static "java/lang/Throwable" "UNASSIGNED_STACK" "[Ljava/lang/StackTraceElement;")) (by decide +kernel)) hA, vx_Zqof (hts _ (tin_4 _ (List.mem_of_getElem? (i := 190) rfl))) (hts _ (tT_sub wd_1_18)) (hs (Cond.isRef (.static "java/lang/Throwable" "SUPPRESSED_SENTINEL" "Ljava/util/List;")) (by decide +kernel)) hA, List.forall_mem_cons.mpr ⟨va_Nw.of rfl (hts _ (tin_4 _ (List.mem_of_getElem? (i := 164) rfl))), List.forall_mem_cons.mpr ⟨va_Nw.of rfl (hts _ (tin_4 _ (List.mem_of_getElem? (i := 166) rfl))), List.forall_mem_cons.mpr ⟨va_Nw.of rfl (hts _ (tin_4 _ (List.mem_of_getElem? (i := 168) rfl))), List.forall_mem_cons.mpr ⟨va_Nw.of rfl (hts _ (tin_4 _ (List.mem_of_getElem? (i := 165) rfl))), List.forall_mem_cons.mpr ⟨va_Nw.of rfl (hts _ (tin_4 _ (List.mem_of_getElem? (i := 167) rfl))), List.forall_mem_cons.mpr ⟨va_Nw.of rfl (hts _ (tin_4 _ (List.mem_of_getElem? (i := 169) rfl))), fun _ h => absurd h List.not_mem_nil⟩⟩⟩⟩⟩⟩, List.forall_mem_cons.mpr ⟨va_Nw.of rfl (hts _ (tin_5 _ (List.mem_of_getElem? (i := 13) rfl))), List.forall_mem_cons.mpr ⟨va_Nw.of rfl (hts _ (tin_4 _ (List.mem_of_getElem? (i := 163) rfl))), List.forall_mem_cons.mpr ⟨va_Nw.of rfl (hts _ (tin_4 _ (List.mem_of_getElem? (i := 233) rfl))), fun _ h => absurd h List.not_mem_nil⟩⟩⟩, va_Nc.of (args := #[.ref b]) (flat_of_before _ hgv (Cond.not (.castable "java/lang/IllegalArgumentException" "java/lang/IllegalStateException")) (by decide +kernel)), va_Nc.of (args := #[.ref b]) (flat_of_before _ hgv (Cond.not (.castable "java/lang/UnsupportedOperationException" "java/lang/IllegalStateException")) (by decide +kernel)), va_Nc.of (args := #[.ref b]) (flat_of_before _ hgv (Cond.not (.castable "java/lang/UnsupportedOperationException" "java/lang/IllegalArgumentException")) (by decide +kernel)), va_Nc.of (args := #[.ref b]) (flat_of_before _ hgv (Cond.not (.castable "java/lang/IllegalStateException" "java/lang/IllegalArgumentException")) (by decide +kernel))⟩, ?_, ?_⟩
  · obtain ⟨a, c, cA, kA, q1, -⟩ := Cond.exactly_spec (hs (Cond.exactly (.string "BladeBetweenThumbs" 308) "java/lang/String") (by decide +kernel))
    exact ⟨a, vk_R.of (hts _ (tin_5 _ (List.mem_of_getElem? (i := 35) rfl))) q1⟩
  · obtain ⟨a, c, cA, kA, q1, -⟩ := Cond.exactly_spec (hs (Cond.exactly (.string "BladeBetweenThumbs" 318) "java/lang/String") (by decide +kernel))
    exact ⟨a, vk_R.of (hts _ (tin_5 _ (List.mem_of_getElem? (i := 48) rfl))) q1⟩
/-- the addresses, and the state, when the law's walk begins -/
def adL (g q : Nat → Nat) (m0 out : Nat) : Nat → Nat → Nat := fun c i => match c with
  | 0 => g 0
  | 10 => g (31 + 2 * i)
  | 11 => g (32 + 2 * i)
  | 12 => g 28
  | 13 => (match i with
    | 0 => g 29
    | 1 => g 30
    | 2 => out
    | 12 => q 5
    | _ => q 6)
  | 14 => m0
  | 15 => (match i with
    | 0 => q 1
    | 1 => q 2
    | 2 => q 3
    | 8 => q 4
    | 15 => q 7
    | 16 => q 8
    | 17 => q 9
    | 18 => q 10
    | 19 => q 11
    | _ => q 12)
  | c => g (9 * i + c)
def σ0 : St := (fun c _ j => if c = 11 then (if j = 4 then 3 else 0) else 0, fun _ _ _ => none, fun _ _ => 0, fun c i => if c = 0 then (if i = 1 then 1 else 0) else 0)
theorem vp_cell_cg {k : ClassId} {n : Nat} {f g : Nat → Option Nat} (h : ∀ j, j < n → f j = g j) : vp_cell k (n, .inr (.inr (.inr (.inr f)))) = vp_cell k (n, .inr (.inr (.inr (.inr g)))) := by
  show arrV k n (fun j => va_rf (f j)) = arrV k n (fun j => va_rf (g j))
  unfold arrV
  congr 2
  funext j
  show va_rf (f j.val) = va_rf (g j.val)
  rw [h j.val j.isLt]
theorem va_P_swap1 {D : va_G} {cl : List vw_C} {x : Nat × va_E} {a n : Nat} {k : ClassId} {f g : Nat → Option Nat} {ws : va_W} {H : Heap} (h : va_P D cl (x :: (a, .inl (k, n, .inr (.inr (.inr (.inr f))))) :: ws) H) (hfg : ∀ j, j < n → f j = g j) : va_P D cl (x :: (a, .inl (k, n, .inr (.inr (.inr (.inr g))))) :: ws) H := by
  intro i q hi
  rcases i with _ | _ | i
  · exact h 0 q hi
  · cases hi
    show H[a]? = some (vp_cell k (n, _))
    rw [← vp_cell_cg hfg]
    exact h 1 _ rfl
  · exact h (i + 2) q hi
theorem va_D_swap1 {A : Nat → Prop} {x : Nat × va_E} {a : Nat} {e e' : va_E} {ws : va_W} (h : va_D A (x :: (a, e) :: ws)) : va_D A (x :: (a, e') :: ws) := h.set (p := 1) (e := e') rfl
set_option maxHeartbeats 16000000 in
set_option maxRecDepth 100000 in
theorem law_begin {Inv : St → Prop} (hI0 : Inv σ0) (hCs : Cases Inv) {p : Program} {e : Env} {s : State} {m : MethodId} {below : List Frame} {meth : Method} {c : Code} (l : Launch) (hflags : l.flags = flags0) {b L : Nat} {xs : Nat → Int32} (hL : L ≤ 3072) (C0 : lw_At p s m meth c b L xs) : W p l e room_1 s m #[Value.ref b] below meth c s.heap [] 0 0 (lw_Z below #[Value.ref b] s) (entryFrame m ([Value.ref b] : List Value).toArray 8) := by
  obtain ⟨hx, hb, hr, hml, hown, hts, hXs, hbl, hlk, hgv⟩ := C0
  have E : CallFix p m c cL_law 8 s #[.ref b] tT RL := ⟨hx, hb, hml, hown, fun w hw => hts w (tT_sub hw)⟩
  obtain ⟨dC, dI, ks, hK, hN⟩ := gK_start hts
  obtain ⟨hX, hStr⟩ := gX_start hts hgv
  have hst : l.stackTraces = false := by
    unfold Launch.stackTraces
    rw [hflags]
    decide +kernel
  have CX : LawCtx p l s m c b L xs dC dI ks := ⟨E, hK, hX, hStr, hXs, hbl, hst⟩
  have hA : ∀ q, s.heap.size ≤ q → lawA s q := fun q h => h
  have hPz : va_P (dC, dI) vwCl ([] : va_W) s.heap := fun k q h => by simp at h
  have hDz : va_D (lawA s) ([] : va_W) := ⟨fun i j p q h => by simp at h, fun k q h => by simp at h⟩
  have hSz : va_S (lawA s) s.heap s.heap [] := va_S.rf
  have hl := lv_entry [Value.ref b] (n := 8) (Nat.le_of_ble_eq_true rfl)
  rw [lg_entry_eq]
  generalize (lg_sl [Value.ref b] ++ List.replicate (8 - (lg_sl [Value.ref b]).length) Slot.unset).toArray = ls at hl ⊢
  have hl : lv_has ls 8 [(0, .ref b)] := hl
  show W p l e room_1 s m _ below meth c s.heap [] 0 0 _ (F0 m 0 ls [])
  refine va_new (ci := 11) (fs := [.null, .null, .null, .int 0, .null, .null, .null, .int 0]) (C := RX11) (T := TX11) (N := 8) hx hb E.2.2.2.2 in_X11 tyX11 tyX11_ok E.2.2.2.1 (E.2.2.2.2 _ wd_1_24) (E.2.2.2.2 _ wd_1_25) (E.2.2.2.2 _ wd_1_1) hK.1 hPz hDz hSz hA rfl (fun j hj => by rcases j with _ | _ | _ | _ | _ | _ | _ | _ | j <;> first | rfl | omega) (Nat.le_of_ble_eq_true rfl) (Nat.le_of_ble_eq_true rfl) dL_law_0 (fun a0 Ha hPa hDa hSa => ?_)
  refine lv_dup hx hb dL_law_3 rfl ?_
  refine gCtI E hK hN hPa hDa hSa hA (cX11_initc (a0 := a0)) kI_X11_init wd_1_26 rfl rfl ⟨Nat.le_of_ble_eq_true rfl, Nat.le_of_ble_eq_true rfl⟩ ⟨Nat.le_of_ble_eq_true rfl, Nat.le_of_ble_eq_true rfl⟩ hl.1 (Nat.le_of_ble_eq_true rfl) dL_law_4 (fun w H locs hw hP hD hS => ?_)
  obtain ⟨LL, hg0, rfl⟩ := hw
  refine lv_astore_n (lv' := [(1, .ref a0), (0, .ref b)]) hx hb dL_law_7 rfl hl (by decide) rfl (fun ls hl => ?_)
  generalize hg : (fun i => LL.getD i 0) = g at hP hD
  have hg0 : g 0 = a0 := by rw [← hg]; exact hg0
  subst hg0
  clear hg
  refine va_new (ci := 12) (fs := [.null, .null, .null, .int 0, .int 0, .int 0, .int 0, .int 0, .null, .int 0, .int 0, .int 0, .null, .null, .int 0, .null, .null, .null, .null, .null, .null, .int 0]) (C := RX12) (T := TX12) (N := 22) hx hb E.2.2.2.2 in_X12 tyX12 tyX12_ok E.2.2.2.1 (E.2.2.2.2 _ wd_5_54) (E.2.2.2.2 _ wd_5_55) (E.2.2.2.2 _ wd_1_5) hK.1 hP hD hS hA rfl (fun j hj => by rcases j with _ | _ | _ | _ | _ | _ | _ | _ | _ | _ | _ | _ | _ | _ | _ | _ | _ | _ | _ | _ | _ | _ | j <;> first | rfl | omega) (Nat.le_of_ble_eq_true rfl) (Nat.le_of_ble_eq_true rfl) dL_law_8 (fun m0 H hP hD hS => ?_)
  refine lv_dup hx hb dL_law_11 rfl ?_
  refine gCtI E hK hN hP hD hS hA (cX12_initc (k := 47) (h0 := m0) rfl) kI_X12_init wd_5_56 rfl rfl ⟨Nat.le_of_ble_eq_true rfl, Nat.le_of_ble_eq_true rfl⟩ ⟨Nat.le_of_ble_eq_true rfl, Nat.le_of_ble_eq_true rfl⟩ hl.1 (Nat.le_of_ble_eq_true rfl) dL_law_12 (fun w H locs hw hP hD hS => ?_)
  obtain ⟨q1, q2, q3, q4, q5, q6, q7, q8, q9, q10, q11, q12, rfl⟩ := hw
  refine lv_astore_n (lv' := [(2, .ref m0), (1, .ref (g 0)), (0, .ref b)]) hx hb dL_law_15 rfl hl (by decide) rfl (fun ls hl => ?_)
  refine lv_iconst (v := 1) hx hb dL_law_16 (by decide) ?_
  refine gnewL (N := 1) E hK hP hD hS hA wd_1_144 (by decide) rfl (by decide) (Nat.le_of_ble_eq_true rfl) (Nat.le_of_ble_eq_true rfl) dL_law_17 (fun out H hP hD hS => ?_)
  refine lv_astore_n (lv' := [(3, .ref out), (2, .ref m0), (1, .ref (g 0)), (0, .ref b)]) hx hb dL_law_19 rfl hl (by decide) rfl (fun ls hl => ?_)
  refine lv_iconst (v := 0) hx hb dL_law_20 (by decide) ?_
  refine lv_istore (lv' := [(4, .int 0), (3, .ref out), (2, .ref m0), (1, .ref (g 0)), (0, .ref b)]) hx hb dL_law_21 hl (by decide) rfl (fun ls hl => ?_)
  have hP2 : va_P (dC, dI) vwCl ((g 0, eMain (adL g (fun i => [0, q1, q2, q3, q4, q5, q6, q7, q8, q9, q10, q11, q12].getD i 0) m0 out) σ0) :: (g 28, .inl (ks 3, 8, .inr (.inr (.inr (.inr (va_up (va_up (va_up (va_up (va_up (va_up (va_up (va_up (fun _ => none) 0 (some (g 31))) 1 (some (g 33))) 2 (some (g 35))) 3 (some (g 37))) 4 (some (g 39))) 5 (some (g 41))) 6 (some (g 43))) 7 (some (g 45)))))))) :: (wG ks (adU (adL g (fun i => [0, q1, q2, q3, q4, q5, q6, q7, q8, q9, q10, q11, q12].getD i 0) m0 out) (fun _ => 0)) σ0).drop 2) H := hP.sub [0, 28, 29, 30, 60, 47, 48, 49, 50, 51, 52, 53, 54, 55, 56, 57, 58, 59, 1, 2, 3, 4, 5, 6, 7, 8, 9, 10, 11, 12, 13, 14, 15, 16, 17, 18, 19, 20, 21, 22, 23, 24, 25, 26, 27, 31, 32, 33, 34, 35, 36, 37, 38, 39, 40, 41, 42, 43, 44, 45, 46] rfl
  have hD2 : va_D (lawA s) ((g 0, eMain (adL g (fun i => [0, q1, q2, q3, q4, q5, q6, q7, q8, q9, q10, q11, q12].getD i 0) m0 out) σ0) :: (g 28, .inl (ks 3, 8, .inr (.inr (.inr (.inr (va_up (va_up (va_up (va_up (va_up (va_up (va_up (va_up (fun _ => none) 0 (some (g 31))) 1 (some (g 33))) 2 (some (g 35))) 3 (some (g 37))) 4 (some (g 39))) 5 (some (g 41))) 6 (some (g 43))) 7 (some (g 45)))))))) :: (wG ks (adU (adL g (fun i => [0, q1, q2, q3, q4, q5, q6, q7, q8, q9, q10, q11, q12].getD i 0) m0 out) (fun _ => 0)) σ0).drop 2) := hD.sub [0, 28, 29, 30, 60, 47, 48, 49, 50, 51, 52, 53, 54, 55, 56, 57, 58, 59, 1, 2, 3, 4, 5, 6, 7, 8, 9, 10, 11, 12, 13, 14, 15, 16, 17, 18, 19, 20, 21, 22, 23, 24, 25, 26, 27, 31, 32, 33, 34, 35, 36, 37, 38, 39, 40, 41, 42, 43, 44, 45, 46] (by decide) rfl
  have hP3 : va_P (dC, dI) vwCl (wG ks (adU (adL g (fun i => [0, q1, q2, q3, q4, q5, q6, q7, q8, q9, q10, q11, q12].getD i 0) m0 out) (fun _ => 0)) σ0) H := va_P_swap1 (g := fun d => some (g (31 + 2 * d))) hP2 (fun j hj => by rcases j with _ | _ | _ | _ | _ | _ | _ | _ | j <;> first | rfl | omega)
  have hD3 : va_D (lawA s) (wG ks (adU (adL g (fun i => [0, q1, q2, q3, q4, q5, q6, q7, q8, q9, q10, q11, q12].getD i 0) m0 out) (fun _ => 0)) σ0) := va_D_swap1 hD2
  exact law_loop (ad := adL g (fun i => [0, q1, q2, q3, q4, q5, q6, q7, q8, q9, q10, q11, q12].getD i 0) m0 out) hCs CX hr hlk hL 512 0 σ0 (fun _ => 0) H _ ls _ _ (by omega) (by omega) (Nat.le_of_ble_eq_true rfl) (Nat.le_of_ble_eq_true rfl) hI0 hP3 hD3 hS hl
