/-- the words that hold at every call: those of the tables that stay -/
def tT : List Cond := lw_tbl.filter goodWord
theorem tT_self : GoodIn tT tT := fun _ h => ⟨h, good_of_word (List.mem_filter.mp h).2⟩
theorem tT_in : ∀ w ∈ tT, w ∈ lw_tbl := fun _ h => (List.mem_filter.mp h).1
theorem tin_0 : ∀ w ∈ tables_1, w ∈ lw_tbl := fun _ h => List.mem_append_right _ h
theorem tin_1 : ∀ w ∈ tables_1_1, w ∈ lw_tbl := fun w h => tin_0 w (List.mem_append_left _ h)
theorem tin_2 : ∀ w ∈ tables_1_2, w ∈ lw_tbl := fun w h => tin_0 w (List.mem_append_right _ (List.mem_append_left _ h))
theorem tin_3 : ∀ w ∈ tables_1_3, w ∈ lw_tbl := fun w h => tin_0 w (List.mem_append_right _ (List.mem_append_right _ (List.mem_append_left _ h)))
theorem tin_4 : ∀ w ∈ tables_1_4, w ∈ lw_tbl := fun w h => tin_0 w (List.mem_append_right _ (List.mem_append_right _ (List.mem_append_right _ (List.mem_append_left _ h))))
theorem tin_5 : ∀ w ∈ tables_1_5, w ∈ lw_tbl := fun w h => tin_0 w (List.mem_append_right _ (List.mem_append_right _ (List.mem_append_right _ (List.mem_append_right _ (List.mem_append_left _ h)))))
theorem tin_6 : ∀ w ∈ tables_1_6, w ∈ lw_tbl := fun w h => tin_0 w (List.mem_append_right _ (List.mem_append_right _ (List.mem_append_right _ (List.mem_append_right _ (List.mem_append_right _ (List.mem_append_left _ h))))))
theorem tin_7 : ∀ w ∈ tables_1_7, w ∈ lw_tbl := fun w h => tin_0 w (List.mem_append_right _ (List.mem_append_right _ (List.mem_append_right _ (List.mem_append_right _ (List.mem_append_right _ (List.mem_append_right _ (h)))))))
theorem tsel {C : String} {y : MethodName} {n : Nat} (hC : y.cls = C) (h : (y, n) ∈ lw_privs) : Cond.selects C y y ∈ tT := by subst hC; exact List.mem_filter.mpr ⟨List.mem_append_left _ (List.mem_map.mpr ⟨(y, n), h, rfl⟩), rfl⟩
