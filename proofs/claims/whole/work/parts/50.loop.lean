/-- a loop of one counter up to N: an invariant, and what holds of its end -/
theorem loop_h {S R : Type} (F : Nat → Nat → S → Option R) (N : Nat) (I : Nat → S → Prop) (Post : Option R → Prop) (hs : ∀ n i s, i ≤ N → I i s → Post (F (n + 1) i s) ∨ (i < N ∧ ∃ s', F (n + 1) i s = F n (i + 1) s' ∧ I (i + 1) s')) : ∀ (m i : Nat) (s : S) (fuel : Nat), i + m = N → m < fuel → I i s → Post (F fuel i s) := by
  intro m
  induction m with
  | zero =>
    intro i s fuel hi hf h
    obtain ⟨n, rfl⟩ : ∃ k, fuel = k + 1 := ⟨fuel - 1, by omega⟩
    rcases hs n i s (by omega) h with q | ⟨q, -⟩
    · exact q
    · omega
  | succ m ih =>
    intro i s fuel hi hf h
    obtain ⟨n, rfl⟩ : ∃ k, fuel = k + 1 := ⟨fuel - 1, by omega⟩
    rcases hs n i s (by omega) h with q | ⟨q, s', e, h'⟩
    · exact q
    · rw [e]
      exact ih (i + 1) s' n (by omega) (by omega) h'
/-- a loop whose value at i is known -/
theorem loop_a {S R : Type} (F : Nat → Nat → S → Option R) (N : Nat) (acc : Nat → S) (r : Option R) (hs : ∀ n i, i < N → F (n + 1) i (acc i) = F n (i + 1) (acc (i + 1))) (he : ∀ n, F (n + 1) N (acc N) = r) (fuel : Nat) (h : N < fuel) : F fuel 0 (acc 0) = r := by
  refine loop_h F N (fun i s => s = acc i) (fun q => q = r) (fun n i s hi e => ?_) N 0 (acc 0) fuel (by omega) h rfl
  subst e
  by_cases q : i = N
  · subst q
    exact Or.inl (he n)
  · exact Or.inr ⟨by omega, _, hs n i (by omega), rfl⟩
theorem FU_gt {n : Nat} (h : n < 1000) : n < FU := h
theorem sRA_sRA {σ : St} {c i : Nat} {f g : Nat → Option Nat} : sRA (sRA σ c i f) c i g = sRA σ c i g := by
  show (σ.1, up2 (up2 σ.2.1 c i f) c i g, σ.2.2) = (σ.1, up2 σ.2.1 c i g, σ.2.2)
  rw [up2_up2]
theorem sRA_self {σ : St} {c i : Nat} : sRA σ c i (gR σ c i) = σ := by
  show (σ.1, up2 σ.2.1 c i (σ.2.1 c i), σ.2.2) = σ
  rw [up2_self]
theorem gsRA_s {σ : St} {c i : Nat} {f : Nat → Option Nat} : gR (sRA σ c i f) c i = f := if_pos ⟨rfl, rfl⟩
theorem gsRA_n {σ : St} {c i c' i' : Nat} {f : Nat → Option Nat} (h : ¬ (c' = c ∧ i' = i)) : gR (sRA σ c i f) c' i' = gR σ c' i' := if_neg h
theorem in6 {k : Nat} (h : k < 6) : vp_in (nI k) 6 := pk_in k 6 h rfl (by omega)
theorem in4 {k : Nat} (h : k < 4) : vp_in (nI k) 4 := pk_in k 4 h rfl (by omega)
theorem in8 {k : Nat} (h : k < 8) : vp_in (nI k) 8 := pk_in k 8 h rfl (by omega)
/-- become's references -/
theorem become_l {σ : St} {x y : Nat} (hne : x ≠ y) (hR : RefsOk σ) (hK : ∀ j, j < gS σ 2 0 → okc (gS σ 1 j)) : ∃ g, fX3_become_L114 x y (fun s => some s) FU 0 σ = some (sRA σ 0 x g) ∧ (∀ k, k < 6 → g k = gR σ 0 y k) ∧ ∀ k, g k = gR σ 0 y k ∨ g k = gR σ 0 x k := by
  have q : (fun q => ∃ g, q = some (sRA σ 0 x g) ∧ (∀ k, k < 6 → g k = gR σ 0 y k) ∧ ∀ k, g k = gR σ 0 y k ∨ g k = gR σ 0 x k) (fX3_become_L114 x y (fun s => some s) FU (nI 0) (sRA σ 0 x (gR σ 0 x))) := by
    refine loop_h (S := Nat → Option Nat) (fun n i g => fX3_become_L114 x y (fun s => some s) n (nI i) (sRA σ 0 x g)) 6 (fun i g => (∀ k, k < i → g k = gR σ 0 y k) ∧ ∀ k, g k = gR σ 0 y k ∨ g k = gR σ 0 x k) (fun q => ∃ g, q = some (sRA σ 0 x g) ∧ (∀ k, k < 6 → g k = gR σ 0 y k) ∧ ∀ k, g k = gR σ 0 y k ∨ g k = gR σ 0 x k) (fun n i g hi h => ?_) 6 0 (gR σ 0 x) FU (by omega) (FU_gt (by omega)) ⟨fun k hk => absurd hk (Nat.not_lt_zero k), fun k => Or.inr rfl⟩
    show (∃ g', fX3_become_L114B x y (fun s => some s) (fX3_become_L114 x y (fun s => some s) n) (nI i) (sRA σ 0 x g) = _ ∧ _) ∨ (_ ∧ ∃ g', fX3_become_L114B x y (fun s => some s) (fX3_become_L114 x y (fun s => some s) n) (nI i) (sRA σ 0 x g) = _ ∧ _)
    unfold fX3_become_L114B
    by_cases e : i = 6
    · subst e
      rw [if_pos (by decide)]
      exact Or.inl ⟨g, rfl, h.1, h.2⟩
    · have i6 := in6 (show i < 6 by omega)
      refine Or.inr ⟨by omega, va_up g i (gR σ 0 y i), ?_, fun k hk => ?_, fun k => ?_⟩
      · rw [if_neg (show ¬ (6 : Int32) ≤ nI i from nI_ge (b := 6) (by omega) (by omega)), ck_t i6, ck_t i6, nI_clamp (by omega), gsRA_n (fun q => hne q.2.symm), ck_t (fun j hj => ⟨hR _ _ _ _ hj, hK j (hR _ _ _ _ hj)⟩), nmv_s, nmv_s, nI_1]
        show fX3_become_L114 x y (fun s => some s) n (nI (i + 1)) (sRA (sRA σ 0 x g) 0 x (va_up (gR (sRA σ 0 x g) 0 x) i (gR σ 0 y i))) = _
        rw [sRA_sRA, gsRA_s]
      · by_cases e2 : k = i
        · subst e2
          exact if_pos rfl
        · exact (if_neg e2).trans (h.1 k (by omega))
      · by_cases e2 : k = i
        · subst e2
          exact Or.inl (if_pos rfl)
        · rcases h.2 k with q | q
          · exact Or.inl ((if_neg e2).trans q)
          · exact Or.inr ((if_neg e2).trans q)
  rw [sRA_self] at q
  exact q
