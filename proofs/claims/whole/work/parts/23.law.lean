/-- what the two classes must do alike, at every call of the law, from what holds of the state to what holds of it -/
def Case0 (Inv : St → Prop) : Prop := ∀ σ, Inv σ → ∀ a1 : Int32, ∃ r σ1 σ2, fX11_hedge σ a1 = some (r, σ1) ∧ fX12_hedge σ1 a1 = some (r, σ2) ∧ Inv σ2
def Case1 (Inv : St → Prop) : Prop := ∀ σ, Inv σ → ∀ a1 a2 : Int32, ∃ r, fX11_blade σ a1 a2 = some r ∧ fX12_blade σ a1 a2 = some r
def Case2 (Inv : St → Prop) : Prop := ∀ σ, Inv σ → ∀ a1 a2 : Int32, ∃ r, fX11_thumbs σ a1 a2 = some r ∧ fX12_thumbs σ a1 a2 = some r
def Case3 (Inv : St → Prop) : Prop := ∀ σ, Inv σ → ∀ a1 a2 : Int32, ∃ r, fX11_blow σ a1 a2 = some r ∧ fX12_blow σ a1 a2 = some r
def Case4 (Inv : St → Prop) : Prop := ∀ σ, Inv σ → ∀ a1 a2 a3 : Int32, ∃ r σ1 σ2, fX11_grows σ a1 a2 a3 = some (r, σ1) ∧ fX12_grows σ1 a1 a2 a3 = some (r, σ2) ∧ Inv σ2
def Case5 (Inv : St → Prop) : Prop := ∀ σ, Inv σ → ∀ a1 : Int32, ∃ r σ1 σ2, fX11_learns σ a1 = some (r, σ1) ∧ fX12_learns σ1 a1 = some (r, σ2) ∧ Inv σ2
def Case6 (Inv : St → Prop) : Prop := ∀ σ, Inv σ → ∀ a1 a2 : Int32, ∃ r σ1 σ2, fX11_comes σ a1 a2 = some (r, σ1) ∧ fX12_comes σ1 a1 a2 = some (r, σ2) ∧ Inv σ2
def Case7 (Inv : St → Prop) : Prop := ∀ σ, Inv σ → ∀ a1 a2 : Int32, ∃ r σ1 σ2, fX11_wets σ a1 a2 = some (r, σ1) ∧ fX12_wets σ1 a1 a2 = some (r, σ2) ∧ Inv σ2
def Case8 (Inv : St → Prop) : Prop := ∀ σ, Inv σ → ∀ a1 a2 a3 a4 : Int32, ∃ r σ1, fX11_span σ a1 a2 a3 a4 = some (r, σ1) ∧ fX12_span σ1 a1 a2 a3 a4 = some r ∧ Inv σ1
def Case9 (Inv : St → Prop) : Prop := ∀ σ, Inv σ → ∀ a1 a2 a3 a4 a5 : Int32, ∃ r σ1, fX11_sounds σ a1 a2 a3 a4 a5 = some (r, σ1) ∧ fX12_sounds σ1 a1 a2 a3 a4 a5 = some r ∧ Inv σ1
def Case10 (Inv : St → Prop) : Prop := ∀ σ, Inv σ → ∀ a1 a2 a3 a4 : Int32, ∃ r, fX11_pitch σ a1 a2 a3 a4 = some r ∧ fX12_pitch σ a1 a2 a3 a4 = some r
def Case11 (Inv : St → Prop) : Prop := ∀ σ, Inv σ → ∀ a1 a2 a3 a4 a5 : Int32, ∃ r σ1 σ2, fX11_tries σ a1 a2 a3 a4 a5 = some (r, σ1) ∧ fX12_tries σ1 a1 a2 a3 a4 a5 = some (r, σ2) ∧ Inv σ2
def Case12 (Inv : St → Prop) : Prop := ∀ σ, Inv σ → ∀ a1 a2 a3 a4 : Int32, ∃ r σ1 σ2, fX11_where σ a1 a2 a3 a4 = some (r, σ1) ∧ fX12_where σ1 a1 a2 a3 a4 = some (r, σ2) ∧ Inv σ2
def Case13 (Inv : St → Prop) : Prop := ∀ σ, Inv σ → ∃ r σ1 σ2, fX11_whoCan σ  = some (r, σ1) ∧ fX12_whoCan σ1  = some (r, σ2) ∧ Inv σ2
def Case14 (Inv : St → Prop) : Prop := ∀ σ, Inv σ → ∀ a1 a2 : Int32, ∃ r σ1 σ2, fX11_which σ a1 a2 = some (r, σ1) ∧ fX12_which σ1 a1 a2 = some (r, σ2) ∧ Inv σ2
def Case15 (Inv : St → Prop) : Prop := ∀ σ, Inv σ → ∀ a1 a2 a3 a4 a5 : Int32, ∃ r σ1, fX11_wrong σ a1 a2 a3 a4 a5 = some (r, σ1) ∧ fX12_wrong σ1 a1 a2 a3 a4 a5 = some r ∧ Inv σ1
def Case16 (Inv : St → Prop) : Prop := ∀ σ, Inv σ → ∀ a1 a2 a3 a4 a5 : Int32, ∃ r σ1, fX11_next σ a1 a2 a3 a4 a5 = some (r, σ1) ∧ fX12_next σ1 a1 a2 a3 a4 a5 = some r ∧ Inv σ1
def Case17 (Inv : St → Prop) : Prop := ∀ σ, Inv σ → ∀ a1 a2 a3 : Int32, ∃ r σ1, fX11_halves σ a1 a2 a3 = some (r, σ1) ∧ fX12_halves σ1 a1 a2 a3 = some r ∧ Inv σ1
def Case18 (Inv : St → Prop) : Prop := ∀ σ, Inv σ → ∀ a1 a2 : Int32, ∃ r σ1, fX11_ways σ a1 a2 = some (r, σ1) ∧ fX12_ways σ1 a1 a2 = some r ∧ Inv σ1
def Case19 (Inv : St → Prop) : Prop := ∀ σ, Inv σ → ∀ a1 a2 a3 : Int32, ∃ r σ1, fX11_tune σ a1 a2 a3 = some (r, σ1) ∧ fX12_tune σ1 a1 a2 a3 = some r ∧ Inv σ1
def Case20 (Inv : St → Prop) : Prop := ∀ σ, Inv σ → ∀ a1 a2 a3 : Int32, ∃ r, fX11_lasts σ a1 a2 a3 = some r ∧ fX12_lasts σ a1 a2 a3 = some r
def Case21 (Inv : St → Prop) : Prop := ∀ σ, Inv σ → ∀ a1 a2 a3 : Int32, ∃ r σ1 σ2, fX11_bestForce σ a1 a2 a3 = some (r, σ1) ∧ fX12_bestForce σ1 a1 a2 a3 = some (r, σ2) ∧ Inv σ2
def Case22 (Inv : St → Prop) : Prop := ∀ σ, Inv σ → ∀ a1 a2 a3 : Int32, ∃ r, fX11_clash σ a1 a2 a3 = some r ∧ fX12_clash σ a1 a2 a3 = some r
def Case23 (Inv : St → Prop) : Prop := ∀ σ, Inv σ → ∀ a1 a2 : Int32, ∃ r, fX11_heard σ a1 a2 = some r ∧ fX12_heard σ a1 a2 = some r
def Case24 (Inv : St → Prop) : Prop := ∀ σ, Inv σ → ∀ a1 a2 a3 a4 : Int32, ∃ r σ1 σ2, fX11_nearer σ a1 a2 a3 a4 = some (r, σ1) ∧ fX12_nearer σ1 a1 a2 a3 a4 = some (r, σ2) ∧ Inv σ2
def Case25 (Inv : St → Prop) : Prop := ∀ σ, Inv σ → ∀ a1 a2 : Int32, ∃ r σ1 σ2, fX11_often σ a1 a2 = some (r, σ1) ∧ fX12_often σ1 a1 a2 = some (r, σ2) ∧ Inv σ2
def Case26 (Inv : St → Prop) : Prop := ∀ σ, Inv σ → ∀ a1 a2 a3 : Int32, ∃ r, fX11_answer σ a1 a2 a3 = some r ∧ fX12_answer σ a1 a2 a3 = some r
def Case27 (Inv : St → Prop) : Prop := ∀ σ, Inv σ → ∀ a1 a2 a3 a4 : Int32, ∃ r σ1 σ2, fX11_telling σ a1 a2 a3 a4 = some (r, σ1) ∧ fX12_telling σ1 a1 a2 a3 a4 = some (r, σ2) ∧ Inv σ2
def Case28 (Inv : St → Prop) : Prop := ∀ σ, Inv σ → ∀ a1 a2 a3 a4 : Int32, ∃ r σ1 σ2, fX11_odds σ a1 a2 a3 a4 = some (r, σ1) ∧ fX12_odds σ1 a1 a2 a3 a4 = some (r, σ2) ∧ Inv σ2
def Case29 (Inv : St → Prop) : Prop := ∀ σ, Inv σ → ∀ a1 a2 a3 : Int32, ∃ r σ1 σ2, fX11_enough σ a1 a2 a3 = some (r, σ1) ∧ fX12_enough σ1 a1 a2 a3 = some (r, σ2) ∧ Inv σ2
def Case30 (Inv : St → Prop) : Prop := ∀ σ, Inv σ → ∀ a1 a2 a3 : Int32, ∃ r σ2, fX11_heap σ a1 a2 a3 = some r ∧ fX12_heap σ a1 a2 a3 = some (r, σ2) ∧ Inv σ2
def Case31 (Inv : St → Prop) : Prop := ∀ σ, Inv σ → ∀ a1 a2 : Int32, ∃ r σ2, fX11_forged σ a1 a2 = some r ∧ fX12_forged σ a1 a2 = some (r, σ2) ∧ Inv σ2
def Case32 (Inv : St → Prop) : Prop := ∀ σ, Inv σ → ∀ a1 a2 a3 : Int32, ∃ r, fX11_remainder σ a1 a2 a3 = some r ∧ fX12_remainder σ a1 a2 a3 = some r
def Case33 (Inv : St → Prop) : Prop := ∀ σ, Inv σ → ∀ a1 a2 a3 a4 : Int32, ∃ r σ1, fX11_judge σ a1 a2 a3 a4 = some (r, σ1) ∧ fX12_judge σ1 a1 a2 a3 a4 = some r ∧ Inv σ1
def Case34 (Inv : St → Prop) : Prop := ∀ σ, Inv σ → ∀ a1 a2 a3 : Int32, ∃ r σ1 σ2, fX11_walks σ a1 a2 a3 = some (r, σ1) ∧ fX12_walks σ1 a1 a2 a3 = some (r, σ2) ∧ Inv σ2
def Case35 (Inv : St → Prop) : Prop := ∀ σ, Inv σ → ∃ r σ1 σ2, fX11_image σ  = some (r, σ1) ∧ fX12_image σ1  = some (r, σ2) ∧ Inv σ2
def Case36 (Inv : St → Prop) : Prop := ∀ σ, Inv σ → ∃ r σ1 σ2, fX11_restore σ  = some (r, σ1) ∧ fX12_restore σ1  = some (r, σ2) ∧ Inv σ2
def Case37 (Inv : St → Prop) : Prop := ∀ σ, Inv σ → ∀ a1 : Int32, ∃ r, fX11_count σ a1 = some r ∧ fX12_count σ a1 = some r
def Case38 (Inv : St → Prop) : Prop := ∀ σ, Inv σ → ∀ a1 a2 a3 a4 : Int32, ∃ r σ1 σ2, fX11_keep σ a1 a2 a3 a4 = some (r, σ1) ∧ fX12_keep σ1 a1 a2 a3 a4 = some (r, σ2) ∧ Inv σ2
def Case39 (Inv : St → Prop) : Prop := ∀ σ, Inv σ → ∀ a1 a2 a3 : Int32, ∃ r σ1 σ2, fX11_row σ a1 a2 a3 = some (r, σ1) ∧ fX12_row σ1 a1 a2 a3 = some (r, σ2) ∧ Inv σ2
def Case40 (Inv : St → Prop) : Prop := ∀ σ, Inv σ → ∀ a1 a2 a3 : Int32, ∃ r σ1 σ2, fX11_put σ a1 a2 a3 = some (r, σ1) ∧ fX12_put σ1 a1 a2 a3 = some (r, σ2) ∧ Inv σ2
def Case41 (Inv : St → Prop) : Prop := ∀ σ, Inv σ → ∀ a1 a2 : Int32, ∃ k b σ1 σ2, fL_element σ a1 a2 = some (k, σ1) ∧ fX12_element σ1 a1 a2 = some (b, σ2) ∧ fX12_thrown σ2 = some k ∧ (k = 0 → gL σ2 2 0 = b) ∧ Inv σ2
def Case42 (Inv : St → Prop) : Prop := ∀ σ, Inv σ → ∀ a1 a2 a3 a4 a5 : Int32, ∃ r σ1 σ2, fX11_copy σ a1 a2 a3 a4 a5 = some (r, σ1) ∧ fX12_copy σ1 a1 a2 a3 a4 a5 = some (r, σ2) ∧ Inv σ2
def Case43 (Inv : St → Prop) : Prop := ∀ σ, Inv σ → ∀ a1 : Int32, ∃ r, fX11_cost σ a1 = some r ∧ fX12_cost σ a1 = some r
def Case44 (Inv : St → Prop) : Prop := ∀ σ, Inv σ → ∀ a1 : Int32, ∃ r, fX11_toss σ a1 = some r ∧ fX12_toss σ a1 = some r
def Cases (Inv : St → Prop) : Prop := Case0 Inv ∧ Case1 Inv ∧ Case2 Inv ∧ Case3 Inv ∧ Case4 Inv ∧ Case5 Inv ∧ Case6 Inv ∧ Case7 Inv ∧ Case8 Inv ∧ Case9 Inv ∧ Case10 Inv ∧ Case11 Inv ∧ Case12 Inv ∧ Case13 Inv ∧ Case14 Inv ∧ Case15 Inv ∧ Case16 Inv ∧ Case17 Inv ∧ Case18 Inv ∧ Case19 Inv ∧ Case20 Inv ∧ Case21 Inv ∧ Case22 Inv ∧ Case23 Inv ∧ Case24 Inv ∧ Case25 Inv ∧ Case26 Inv ∧ Case27 Inv ∧ Case28 Inv ∧ Case29 Inv ∧ Case30 Inv ∧ Case31 Inv ∧ Case32 Inv ∧ Case33 Inv ∧ Case34 Inv ∧ Case35 Inv ∧ Case36 Inv ∧ Case37 Inv ∧ Case38 Inv ∧ Case39 Inv ∧ Case40 Inv ∧ Case41 Inv ∧ Case42 Inv ∧ Case43 Inv ∧ Case44 Inv
theorem Cases.c0 {Inv : St → Prop} (h : Cases Inv) : Case0 Inv := h.1
theorem Cases.c1 {Inv : St → Prop} (h : Cases Inv) : Case1 Inv := h.2.1
theorem Cases.c2 {Inv : St → Prop} (h : Cases Inv) : Case2 Inv := h.2.2.1
theorem Cases.c3 {Inv : St → Prop} (h : Cases Inv) : Case3 Inv := h.2.2.2.1
theorem Cases.c4 {Inv : St → Prop} (h : Cases Inv) : Case4 Inv := h.2.2.2.2.1
theorem Cases.c5 {Inv : St → Prop} (h : Cases Inv) : Case5 Inv := h.2.2.2.2.2.1
theorem Cases.c6 {Inv : St → Prop} (h : Cases Inv) : Case6 Inv := h.2.2.2.2.2.2.1
theorem Cases.c7 {Inv : St → Prop} (h : Cases Inv) : Case7 Inv := h.2.2.2.2.2.2.2.1
theorem Cases.c8 {Inv : St → Prop} (h : Cases Inv) : Case8 Inv := h.2.2.2.2.2.2.2.2.1
theorem Cases.c9 {Inv : St → Prop} (h : Cases Inv) : Case9 Inv := h.2.2.2.2.2.2.2.2.2.1
theorem Cases.c10 {Inv : St → Prop} (h : Cases Inv) : Case10 Inv := h.2.2.2.2.2.2.2.2.2.2.1
theorem Cases.c11 {Inv : St → Prop} (h : Cases Inv) : Case11 Inv := h.2.2.2.2.2.2.2.2.2.2.2.1
theorem Cases.c12 {Inv : St → Prop} (h : Cases Inv) : Case12 Inv := h.2.2.2.2.2.2.2.2.2.2.2.2.1
theorem Cases.c13 {Inv : St → Prop} (h : Cases Inv) : Case13 Inv := h.2.2.2.2.2.2.2.2.2.2.2.2.2.1
theorem Cases.c14 {Inv : St → Prop} (h : Cases Inv) : Case14 Inv := h.2.2.2.2.2.2.2.2.2.2.2.2.2.2.1
theorem Cases.c15 {Inv : St → Prop} (h : Cases Inv) : Case15 Inv := h.2.2.2.2.2.2.2.2.2.2.2.2.2.2.2.1
theorem Cases.c16 {Inv : St → Prop} (h : Cases Inv) : Case16 Inv := h.2.2.2.2.2.2.2.2.2.2.2.2.2.2.2.2.1
theorem Cases.c17 {Inv : St → Prop} (h : Cases Inv) : Case17 Inv := h.2.2.2.2.2.2.2.2.2.2.2.2.2.2.2.2.2.1
theorem Cases.c18 {Inv : St → Prop} (h : Cases Inv) : Case18 Inv := h.2.2.2.2.2.2.2.2.2.2.2.2.2.2.2.2.2.2.1
theorem Cases.c19 {Inv : St → Prop} (h : Cases Inv) : Case19 Inv := h.2.2.2.2.2.2.2.2.2.2.2.2.2.2.2.2.2.2.2.1
theorem Cases.c20 {Inv : St → Prop} (h : Cases Inv) : Case20 Inv := h.2.2.2.2.2.2.2.2.2.2.2.2.2.2.2.2.2.2.2.2.1
theorem Cases.c21 {Inv : St → Prop} (h : Cases Inv) : Case21 Inv := h.2.2.2.2.2.2.2.2.2.2.2.2.2.2.2.2.2.2.2.2.2.1
theorem Cases.c22 {Inv : St → Prop} (h : Cases Inv) : Case22 Inv := h.2.2.2.2.2.2.2.2.2.2.2.2.2.2.2.2.2.2.2.2.2.2.1
theorem Cases.c23 {Inv : St → Prop} (h : Cases Inv) : Case23 Inv := h.2.2.2.2.2.2.2.2.2.2.2.2.2.2.2.2.2.2.2.2.2.2.2.1
theorem Cases.c24 {Inv : St → Prop} (h : Cases Inv) : Case24 Inv := h.2.2.2.2.2.2.2.2.2.2.2.2.2.2.2.2.2.2.2.2.2.2.2.2.1
theorem Cases.c25 {Inv : St → Prop} (h : Cases Inv) : Case25 Inv := h.2.2.2.2.2.2.2.2.2.2.2.2.2.2.2.2.2.2.2.2.2.2.2.2.2.1
theorem Cases.c26 {Inv : St → Prop} (h : Cases Inv) : Case26 Inv := h.2.2.2.2.2.2.2.2.2.2.2.2.2.2.2.2.2.2.2.2.2.2.2.2.2.2.1
theorem Cases.c27 {Inv : St → Prop} (h : Cases Inv) : Case27 Inv := h.2.2.2.2.2.2.2.2.2.2.2.2.2.2.2.2.2.2.2.2.2.2.2.2.2.2.2.1
theorem Cases.c28 {Inv : St → Prop} (h : Cases Inv) : Case28 Inv := h.2.2.2.2.2.2.2.2.2.2.2.2.2.2.2.2.2.2.2.2.2.2.2.2.2.2.2.2.1
theorem Cases.c29 {Inv : St → Prop} (h : Cases Inv) : Case29 Inv := h.2.2.2.2.2.2.2.2.2.2.2.2.2.2.2.2.2.2.2.2.2.2.2.2.2.2.2.2.2.1
theorem Cases.c30 {Inv : St → Prop} (h : Cases Inv) : Case30 Inv := h.2.2.2.2.2.2.2.2.2.2.2.2.2.2.2.2.2.2.2.2.2.2.2.2.2.2.2.2.2.2.1
theorem Cases.c31 {Inv : St → Prop} (h : Cases Inv) : Case31 Inv := h.2.2.2.2.2.2.2.2.2.2.2.2.2.2.2.2.2.2.2.2.2.2.2.2.2.2.2.2.2.2.2.1
theorem Cases.c32 {Inv : St → Prop} (h : Cases Inv) : Case32 Inv := h.2.2.2.2.2.2.2.2.2.2.2.2.2.2.2.2.2.2.2.2.2.2.2.2.2.2.2.2.2.2.2.2.1
theorem Cases.c33 {Inv : St → Prop} (h : Cases Inv) : Case33 Inv := h.2.2.2.2.2.2.2.2.2.2.2.2.2.2.2.2.2.2.2.2.2.2.2.2.2.2.2.2.2.2.2.2.2.1
theorem Cases.c34 {Inv : St → Prop} (h : Cases Inv) : Case34 Inv := h.2.2.2.2.2.2.2.2.2.2.2.2.2.2.2.2.2.2.2.2.2.2.2.2.2.2.2.2.2.2.2.2.2.2.1
theorem Cases.c35 {Inv : St → Prop} (h : Cases Inv) : Case35 Inv := h.2.2.2.2.2.2.2.2.2.2.2.2.2.2.2.2.2.2.2.2.2.2.2.2.2.2.2.2.2.2.2.2.2.2.2.1
theorem Cases.c36 {Inv : St → Prop} (h : Cases Inv) : Case36 Inv := h.2.2.2.2.2.2.2.2.2.2.2.2.2.2.2.2.2.2.2.2.2.2.2.2.2.2.2.2.2.2.2.2.2.2.2.2.1
theorem Cases.c37 {Inv : St → Prop} (h : Cases Inv) : Case37 Inv := h.2.2.2.2.2.2.2.2.2.2.2.2.2.2.2.2.2.2.2.2.2.2.2.2.2.2.2.2.2.2.2.2.2.2.2.2.2.1
theorem Cases.c38 {Inv : St → Prop} (h : Cases Inv) : Case38 Inv := h.2.2.2.2.2.2.2.2.2.2.2.2.2.2.2.2.2.2.2.2.2.2.2.2.2.2.2.2.2.2.2.2.2.2.2.2.2.2.1
theorem Cases.c39 {Inv : St → Prop} (h : Cases Inv) : Case39 Inv := h.2.2.2.2.2.2.2.2.2.2.2.2.2.2.2.2.2.2.2.2.2.2.2.2.2.2.2.2.2.2.2.2.2.2.2.2.2.2.2.1
theorem Cases.c40 {Inv : St → Prop} (h : Cases Inv) : Case40 Inv := h.2.2.2.2.2.2.2.2.2.2.2.2.2.2.2.2.2.2.2.2.2.2.2.2.2.2.2.2.2.2.2.2.2.2.2.2.2.2.2.2.1
theorem Cases.c41 {Inv : St → Prop} (h : Cases Inv) : Case41 Inv := h.2.2.2.2.2.2.2.2.2.2.2.2.2.2.2.2.2.2.2.2.2.2.2.2.2.2.2.2.2.2.2.2.2.2.2.2.2.2.2.2.2.1
theorem Cases.c42 {Inv : St → Prop} (h : Cases Inv) : Case42 Inv := h.2.2.2.2.2.2.2.2.2.2.2.2.2.2.2.2.2.2.2.2.2.2.2.2.2.2.2.2.2.2.2.2.2.2.2.2.2.2.2.2.2.2.1
theorem Cases.c43 {Inv : St → Prop} (h : Cases Inv) : Case43 Inv := h.2.2.2.2.2.2.2.2.2.2.2.2.2.2.2.2.2.2.2.2.2.2.2.2.2.2.2.2.2.2.2.2.2.2.2.2.2.2.2.2.2.2.2.1
theorem Cases.c44 {Inv : St → Prop} (h : Cases Inv) : Case44 Inv := h.2.2.2.2.2.2.2.2.2.2.2.2.2.2.2.2.2.2.2.2.2.2.2.2.2.2.2.2.2.2.2.2.2.2.2.2.2.2.2.2.2.2.2.2
/-- calls of methods with an exception table, that come back -/
def KVW (C : String) (y : MethodName) (bytes : ByteArray) (maxL : Nat) (ret : Option FieldType) (hh : List (Nat × Nat × Nat × Nat)) (n : Nat) : Prop := Cond.instanceMethod y ∈ tT ∧ Cond.selects C y y ∈ tT ∧ Cond.initialized y.cls ∈ tT ∧ Cond.codeWith y bytes maxL ret hh ∈ tT ∧ ((y.cls ≠ "java/lang/invoke/MethodHandle" ∧ y.cls ≠ "java/lang/invoke/VarHandle") ∧ (parseMethodDescriptor y.desc).map (fun d => d.parameters.length) = some n)
def KSW (y : MethodName) (bytes : ByteArray) (maxL : Nat) (ret : Option FieldType) (hh : List (Nat × Nat × Nat × Nat)) (n : Nat) : Prop := Cond.static y ∈ tT ∧ Cond.initialized y.cls ∈ tT ∧ Cond.codeWith y bytes maxL ret hh ∈ tT ∧ ((y.cls ≠ "java/lang/invoke/MethodHandle" ∧ y.cls ≠ "java/lang/invoke/VarHandle") ∧ (parseMethodDescriptor y.desc).map (fun d => d.parameters.length) = some n)
theorem kn_len {y : MethodName} {n k : Nat} (h : (parseMethodDescriptor y.desc).map (fun d => d.parameters.length) = some n) (hk : k = n) : ∀ sig, parseMethodDescriptor y.desc = some sig → k = sig.parameters.length := fun sig q => by
  rw [q] at h
  exact hk.trans (Option.some.inj h).symm
theorem kV_X11_hedge : KV RX11 yX11_hedge cX11_hedge 7 (some .int) 1 := ⟨wd_1_171, wd_1_172, wd_1_1, wd_1_173, by decide +kernel⟩
theorem kV_X12_hedge : KV RX12 yX12_hedge cX12_hedge 8 (some .int) 1 := ⟨wd_5_128, wd_5_129, wd_1_5, wd_5_130, by decide +kernel⟩
theorem kV_X11_blade : KV RX11 yX11_blade cX11_blade 3 (some .int) 2 := ⟨wd_2_141, wd_2_142, wd_1_1, wd_2_143, by decide +kernel⟩
theorem kV_X12_blade : KV RX12 yX12_blade cX12_blade 3 (some .int) 2 := ⟨wd_5_221, wd_5_222, wd_1_5, wd_5_223, by decide +kernel⟩
theorem kV_X11_thumbs : KV RX11 yX11_thumbs cX11_thumbs 3 (some .int) 2 := ⟨wd_2_146, wd_2_147, wd_1_1, wd_2_148, by decide +kernel⟩
theorem kV_X12_thumbs : KV RX12 yX12_thumbs cX12_thumbs 3 (some .int) 2 := ⟨wd_5_225, wd_5_226, wd_1_5, wd_5_227, by decide +kernel⟩
theorem kV_X11_blow : KV RX11 yX11_blow cX11_blow 3 (some .int) 2 := ⟨wd_2_151, wd_2_152, wd_1_1, wd_2_153, by decide +kernel⟩
theorem kV_X12_blow : KV RX12 yX12_blow cX12_blow 3 (some .int) 2 := ⟨wd_5_229, wd_5_230, wd_1_5, wd_5_231, by decide +kernel⟩
theorem kV_X11_grows : KV RX11 yX11_grows cX11_grows 4 (some .int) 3 := ⟨wd_2_156, wd_2_157, wd_1_1, wd_2_158, by decide +kernel⟩
theorem kV_X12_grows : KV RX12 yX12_grows cX12_grows 4 (some .int) 3 := ⟨wd_5_233, wd_5_234, wd_1_5, wd_5_235, by decide +kernel⟩
theorem kV_X11_learns : KV RX11 yX11_learns cX11_learns 3 (some .int) 1 := ⟨wd_2_160, wd_2_161, wd_1_1, wd_2_162, by decide +kernel⟩
theorem kV_X12_learns : KV RX12 yX12_learns cX12_learns 3 (some .int) 1 := ⟨wd_5_237, wd_5_238, wd_1_5, wd_5_239, by decide +kernel⟩
theorem kV_X11_comes : KV RX11 yX11_comes cX11_comes 3 (some .int) 2 := ⟨wd_2_168, wd_2_169, wd_1_1, wd_2_170, by decide +kernel⟩
theorem kV_X12_comes : KV RX12 yX12_comes cX12_comes 3 (some .int) 2 := ⟨wd_6_5, wd_6_6, wd_1_5, wd_6_7, by decide +kernel⟩
theorem kV_X11_wets : KV RX11 yX11_wets cX11_wets 4 (some .int) 2 := ⟨wd_2_172, wd_2_173, wd_1_1, wd_2_174, by decide +kernel⟩
theorem kV_X12_wets : KV RX12 yX12_wets cX12_wets 4 (some .int) 2 := ⟨wd_6_12, wd_6_13, wd_1_5, wd_6_14, by decide +kernel⟩
theorem kV_X11_span : KV RX11 yX11_span cX11_span 6 (some .int) 4 := ⟨wd_2_176, wd_2_177, wd_1_1, wd_2_178, by decide +kernel⟩
theorem kV_X12_span : KV RX12 yX12_span cX12_span 5 (some .int) 4 := ⟨wd_6_16, wd_6_17, wd_1_5, wd_6_18, by decide +kernel⟩
theorem kV_X11_sounds : KV RX11 yX11_sounds cX11_sounds 6 (some .int) 5 := ⟨wd_3_28, wd_3_29, wd_1_1, wd_3_30, by decide +kernel⟩
theorem kV_X12_sounds : KV RX12 yX12_sounds cX12_sounds 6 (some .int) 5 := ⟨wd_6_47, wd_6_48, wd_1_5, wd_6_49, by decide +kernel⟩
theorem kV_X11_pitch : KV RX11 yX11_pitch cX11_pitch 5 (some .int) 4 := ⟨wd_3_36, wd_3_37, wd_1_1, wd_3_38, by decide +kernel⟩
theorem kV_X12_pitch : KV RX12 yX12_pitch cX12_pitch 5 (some .int) 4 := ⟨wd_6_71, wd_6_72, wd_1_5, wd_6_73, by decide +kernel⟩
theorem kV_X11_tries : KV RX11 yX11_tries cX11_tries 7 (some .int) 5 := ⟨wd_3_64, wd_3_65, wd_1_1, wd_3_66, by decide +kernel⟩
theorem kV_X11_where : KV RX11 yX11_where cX11_where 7 (some .int) 4 := ⟨wd_3_75, wd_3_76, wd_1_1, wd_3_77, by decide +kernel⟩
theorem kV_X12_where : KV RX12 yX12_where cX12_where 5 (some .int) 4 := ⟨wd_6_84, wd_6_85, wd_1_5, wd_6_86, by decide +kernel⟩
theorem kV_X11_whoCan : KV RX11 yX11_whoCan cX11_whoCan 3 (some .int) 0 := ⟨wd_3_95, wd_3_96, wd_1_1, wd_3_97, by decide +kernel⟩
theorem kV_X12_whoCan : KV RX12 yX12_whoCan cX12_whoCan 4 (some .int) 0 := ⟨wd_6_92, wd_6_93, wd_1_5, wd_6_94, by decide +kernel⟩
theorem kV_X11_which : KV RX11 yX11_which cX11_which 7 (some .int) 2 := ⟨wd_3_103, wd_3_104, wd_1_1, wd_3_105, by decide +kernel⟩
theorem kV_X12_which : KV RX12 yX12_which cX12_which 3 (some .int) 2 := ⟨wd_6_100, wd_6_101, wd_1_5, wd_6_102, by decide +kernel⟩
theorem kV_X11_wrong : KV RX11 yX11_wrong cX11_wrong 6 (some .int) 5 := ⟨wd_3_107, wd_3_108, wd_1_1, wd_3_109, by decide +kernel⟩
theorem kV_X12_wrong : KV RX12 yX12_wrong cX12_wrong 7 (some .int) 5 := ⟨wd_6_104, wd_6_105, wd_1_5, wd_6_106, by decide +kernel⟩
theorem kV_X11_next : KV RX11 yX11_next cX11_next 11 (some .int) 5 := ⟨wd_3_111, wd_3_112, wd_1_1, wd_3_113, by decide +kernel⟩
theorem kV_X12_next : KV RX12 yX12_next cX12_next 11 (some .int) 5 := ⟨wd_6_108, wd_6_109, wd_1_5, wd_6_110, by decide +kernel⟩
theorem kV_X11_halves : KV RX11 yX11_halves cX11_halves 9 (some .int) 3 := ⟨wd_3_121, wd_3_122, wd_1_1, wd_3_123, by decide +kernel⟩
theorem kV_X12_halves : KV RX12 yX12_halves cX12_halves 8 (some .int) 3 := ⟨wd_6_116, wd_6_117, wd_1_5, wd_6_118, by decide +kernel⟩
theorem kV_X11_ways : KV RX11 yX11_ways cX11_ways 6 (some .int) 2 := ⟨wd_3_125, wd_3_126, wd_1_1, wd_3_127, by decide +kernel⟩
theorem kV_X12_ways : KV RX12 yX12_ways cX12_ways 5 (some .int) 2 := ⟨wd_6_120, wd_6_121, wd_1_5, wd_6_122, by decide +kernel⟩
theorem kV_X11_tune : KV RX11 yX11_tune cX11_tune 7 (some .int) 3 := ⟨wd_3_133, wd_3_134, wd_1_1, wd_3_135, by decide +kernel⟩
theorem kV_X12_tune : KV RX12 yX12_tune cX12_tune 10 (some .int) 3 := ⟨wd_6_132, wd_6_133, wd_1_5, wd_6_134, by decide +kernel⟩
theorem kV_X11_lasts : KV RX11 yX11_lasts cX11_lasts 4 (some .int) 3 := ⟨wd_3_145, wd_3_146, wd_1_1, wd_3_147, by decide +kernel⟩
theorem kV_X12_lasts : KV RX12 yX12_lasts cX12_lasts 4 (some .int) 3 := ⟨wd_6_141, wd_6_142, wd_1_5, wd_6_143, by decide +kernel⟩
theorem kV_X11_bestForce : KV RX11 yX11_bestForce cX11_bestForce 9 (some .int) 3 := ⟨wd_3_153, wd_3_154, wd_1_1, wd_3_155, by decide +kernel⟩
theorem kV_X12_bestForce : KV RX12 yX12_bestForce cX12_bestForce 6 (some .int) 3 := ⟨wd_6_149, wd_6_150, wd_1_5, wd_6_151, by decide +kernel⟩
theorem kV_X11_clash : KV RX11 yX11_clash cX11_clash 8 (some .int) 3 := ⟨wd_3_157, wd_3_158, wd_1_1, wd_3_159, by decide +kernel⟩
theorem kV_X12_clash : KV RX12 yX12_clash cX12_clash 8 (some .int) 3 := ⟨wd_6_153, wd_6_154, wd_1_5, wd_6_155, by decide +kernel⟩
theorem kV_X11_heard : KV RX11 yX11_heard cX11_heard 7 (some .int) 2 := ⟨wd_3_165, wd_3_166, wd_1_1, wd_3_167, by decide +kernel⟩
theorem kV_X12_heard : KV RX12 yX12_heard cX12_heard 4 (some .int) 2 := ⟨wd_6_157, wd_6_158, wd_1_5, wd_6_159, by decide +kernel⟩
theorem kV_X11_nearer : KV RX11 yX11_nearer cX11_nearer 5 (some .long) 4 := ⟨wd_3_169, wd_3_170, wd_1_1, wd_3_171, by decide +kernel⟩
theorem kV_X12_nearer : KV RX12 yX12_nearer cX12_nearer 5 (some .long) 4 := ⟨wd_6_161, wd_6_162, wd_1_5, wd_6_163, by decide +kernel⟩
theorem kV_X11_often : KV RX11 yX11_often cX11_often 4 (some .int) 2 := ⟨wd_3_195, wd_3_196, wd_1_1, wd_3_197, by decide +kernel⟩
theorem kV_X12_often : KV RX12 yX12_often cX12_often 4 (some .int) 2 := ⟨wd_6_183, wd_6_184, wd_1_5, wd_6_185, by decide +kernel⟩
theorem kV_X11_answer : KV RX11 yX11_answer cX11_answer 7 (some .long) 3 := ⟨wd_3_200, wd_3_201, wd_1_1, wd_3_202, by decide +kernel⟩
theorem kV_X12_answer : KV RX12 yX12_answer cX12_answer 8 (some .long) 3 := ⟨wd_6_188, wd_6_189, wd_1_5, wd_6_190, by decide +kernel⟩
theorem kV_X11_telling : KV RX11 yX11_telling cX11_telling 9 (some .int) 4 := ⟨wd_3_204, wd_3_205, wd_1_1, wd_3_206, by decide +kernel⟩
theorem kV_X12_telling : KV RX12 yX12_telling cX12_telling 8 (some .int) 4 := ⟨wd_6_194, wd_6_195, wd_1_5, wd_6_196, by decide +kernel⟩
theorem kV_X11_odds : KV RX11 yX11_odds cX11_odds 5 (some .long) 4 := ⟨wd_3_212, wd_3_213, wd_1_1, wd_3_214, by decide +kernel⟩
theorem kV_X12_odds : KV RX12 yX12_odds cX12_odds 5 (some .long) 4 := ⟨wd_6_202, wd_6_203, wd_1_5, wd_6_204, by decide +kernel⟩
theorem kV_X11_enough : KV RX11 yX11_enough cX11_enough 6 (some .int) 3 := ⟨wd_3_220, wd_3_221, wd_1_1, wd_3_222, by decide +kernel⟩
theorem kV_X12_enough : KV RX12 yX12_enough cX12_enough 5 (some .int) 3 := ⟨wd_6_210, wd_6_211, wd_1_5, wd_6_212, by decide +kernel⟩
theorem kV_X11_heap : KV RX11 yX11_heap cX11_heap 8 (some .int) 3 := ⟨wd_3_224, wd_3_225, wd_1_1, wd_3_226, by decide +kernel⟩
theorem kV_X12_heap : KV RX12 yX12_heap cX12_heap 9 (some .int) 3 := ⟨wd_6_214, wd_6_215, wd_1_5, wd_6_216, by decide +kernel⟩
theorem kV_X11_forged : KV RX11 yX11_forged cX11_forged 4 (some .int) 2 := ⟨wd_4_0, wd_4_1, wd_1_1, wd_4_2, by decide +kernel⟩
theorem kV_X12_forged : KV RX12 yX12_forged cX12_forged 5 (some .int) 2 := ⟨wd_6_222, wd_6_223, wd_1_5, wd_6_224, by decide +kernel⟩
theorem kV_X11_remainder : KV RX11 yX11_remainder cX11_remainder 7 (some .int) 3 := ⟨wd_4_4, wd_4_5, wd_1_1, wd_4_6, by decide +kernel⟩
theorem kV_X12_remainder : KV RX12 yX12_remainder cX12_remainder 5 (some .int) 3 := ⟨wd_6_226, wd_6_227, wd_1_5, wd_6_228, by decide +kernel⟩
theorem kV_X11_judge : KV RX11 yX11_judge cX11_judge 11 (some .int) 4 := ⟨wd_4_12, wd_4_13, wd_1_1, wd_4_14, by decide +kernel⟩
theorem kV_X12_judge : KV RX12 yX12_judge cX12_judge 13 (some .int) 4 := ⟨wd_6_230, wd_6_231, wd_1_5, wd_6_232, by decide +kernel⟩
theorem kV_X11_walks : KV RX11 yX11_walks cX11_walks 7 (some .int) 3 := ⟨wd_4_29, wd_4_30, wd_1_1, wd_4_31, by decide +kernel⟩
theorem kV_X12_walks : KV RX12 yX12_walks cX12_walks 13 (some .int) 3 := ⟨wd_6_238, wd_6_239, wd_1_5, wd_7_0, by decide +kernel⟩
theorem kV_X11_image : KV RX11 yX11_image cX11_image 1 (some .int) 0 := ⟨wd_4_55, wd_4_56, wd_1_1, wd_4_57, by decide +kernel⟩
theorem kV_X12_image : KV RX12 yX12_image cX12_image 1 (some .int) 0 := ⟨wd_7_10, wd_7_11, wd_1_5, wd_7_12, by decide +kernel⟩
theorem kV_X11_restore : KV RX11 yX11_restore cX11_restore 1 (some .int) 0 := ⟨wd_4_59, wd_4_60, wd_1_1, wd_4_61, by decide +kernel⟩
theorem kV_X12_restore : KV RX12 yX12_restore cX12_restore 1 (some .int) 0 := ⟨wd_7_14, wd_7_15, wd_1_5, wd_7_16, by decide +kernel⟩
theorem kV_X11_count : KV RX11 yX11_count cX11_count 2 (some .int) 1 := ⟨wd_4_63, wd_4_64, wd_1_1, wd_4_65, by decide +kernel⟩
theorem kV_X12_count : KV RX12 yX12_count cX12_count 4 (some .int) 1 := ⟨wd_7_18, wd_7_19, wd_1_5, wd_7_20, by decide +kernel⟩
theorem kV_X11_keep : KV RX11 yX11_keep cX11_keep 6 (some .int) 4 := ⟨wd_4_70, wd_4_71, wd_1_1, wd_4_72, by decide +kernel⟩
theorem kV_X12_keep : KV RX12 yX12_keep cX12_keep 5 (some .int) 4 := ⟨wd_7_26, wd_7_27, wd_1_5, wd_7_28, by decide +kernel⟩
theorem kV_X11_row : KV RX11 yX11_row cX11_row 4 (some .int) 3 := ⟨wd_4_83, wd_4_84, wd_1_1, wd_4_85, by decide +kernel⟩
theorem kV_X12_row : KV RX12 yX12_row cX12_row 5 (some .int) 3 := ⟨wd_7_30, wd_7_31, wd_1_5, wd_7_32, by decide +kernel⟩
theorem kV_X11_put : KV RX11 yX11_put cX11_put 6 (some .int) 3 := ⟨wd_4_94, wd_4_95, wd_1_1, wd_4_96, by decide +kernel⟩
theorem kV_X12_put : KV RX12 yX12_put cX12_put 5 (some .int) 3 := ⟨wd_7_34, wd_7_35, wd_1_5, wd_7_36, by decide +kernel⟩
theorem kV_X12_element : KV RX12 yX12_element cX12_element 3 (some .long) 2 := ⟨wd_7_38, wd_7_39, wd_1_5, wd_7_40, by decide +kernel⟩
theorem kV_X11_copy : KV RX11 yX11_copy cX11_copy 9 (some .int) 5 := ⟨wd_4_102, wd_4_103, wd_1_1, wd_4_104, by decide +kernel⟩
theorem kV_X12_copy : KV RX12 yX12_copy cX12_copy 8 (some .int) 5 := ⟨wd_7_42, wd_7_43, wd_1_5, wd_7_44, by decide +kernel⟩
theorem kV_X11_cost : KV RX11 yX11_cost cX11_cost 3 (some .int) 1 := ⟨wd_4_111, wd_4_112, wd_1_1, wd_4_113, by decide +kernel⟩
theorem kV_X12_cost : KV RX12 yX12_cost cX12_cost 3 (some .int) 1 := ⟨wd_7_46, wd_7_47, wd_1_5, wd_7_48, by decide +kernel⟩
theorem kV_X12_toss : KV RX12 yX12_toss cX12_toss 5 (some .int) 1 := ⟨wd_7_53, wd_7_54, wd_1_5, wd_7_55, by decide +kernel⟩
theorem kV_X12_thrown : KV RX12 yX12_thrown cX12_thrown 1 (some .int) 0 := ⟨wd_7_22, wd_7_23, wd_1_5, wd_7_24, by decide +kernel⟩
theorem kVW_X11_toss : KVW RX11 yX11_toss cX11_toss 5 (some .int) [(22, 28, 29, 316), (22, 28, 36, 306), (22, 28, 46, 337)] 1 := ⟨wd_4_148, wd_4_149, wd_1_1, cwT, by decide +kernel⟩
theorem kSW_L_element : KSW yL_element cL_element 5 (some .int) [(0, 9, 12, 13), (0, 9, 16, 15)] 4 := ⟨wd_5_27, wd_1_0, cwE, by decide +kernel⟩
section
variable {p : Program} {l : Launch} {e : Env} {R : Room} {s : State} {m : MethodId} {args : Array Value} {below : List Frame} {meth : Method} {c : Code} {H : Heap} {locs : List Loc} {cells slots : Nat} {Q : State → Prop}
variable {cc : ByteArray} {pc nL : Nat} {ls : Array Slot} {rest st : List Value} {own : String}
variable {dC : Nat → ClassId} {dI : Nat → Nat → Nat} {ks : Nat → ClassId} {ad : Nat → Nat → Nat} {σ : St} {A : Nat → Prop}
variable {y : MethodName} {bytes : ByteArray} {maxL n index mc ms : Nat} {ret : Option FieldType} {rm : Room} {b : Nat} {As : List Value} {C : String} {q0 ci : Nat} {fs : List Value} {q : vw_C} {hh : List (Nat × Nat × Nat × Nat)} {Pc : Array Value → State → Prop} {Qc : Array Value → State → Outcome → State → Prop} {free : Addr → Prop} {g : JFrame}
theorem gx_runVW (S : CallFix p m c cc nL s args tT own) (hM : Met l y (Cond.codeWith y bytes maxL ret hh :: tT) rm Pc Qc mc ms free) (hw : KVW C y bytes maxL ret hh n) (h1 : Cond.methodLink own index y ∈ tT) (hrc : rm.cells = mc) (hrs : rm.slots = ms) (hR : rm.frames + 1 ≤ R.frames ∧ 8 + (maxL + 11) + rm.locals ≤ R.locals) (hp : PreV s H C b Pc As)
    (hg : g.method = m) (hn : As.length = n) (hsize : g.locals.size = nL) (hstack : g.stack = As.reverse ++ .ref b :: rest) (hW : 2 * g.monitorRoom + (rest.map fun v => v.category).sum ≤ 8) (hdg : decode cc g.pc = .ok (.invokevirtual index, 3)) (hf : cells + mc ≤ R.cells ∧ slots + ms ≤ R.slots) :
    va_Run p l e R s m args below meth c H locs cells slots mc ms g rest (Qc (Value.ref b :: As).toArray) (free) := by
  obtain ⟨k1, k2, k3, k4, k5, k6⟩ := hw
  have hini := S.2.2.2.2 _ k3
  have hK : Back l R p e below s args y 3 8 (PreOf R mc ms Pc) (PostOf Qc mc ms free) := va_backW (hh := hh) (bytes := bytes) (maxL := maxL) (ret := ret) hM hp.1 hrc hrs hR.1 hR.2 (pay_in S.2.2.2.2 (gi_c k4 tT_self)) List.mem_cons_self (fun a' U hW => word_at hW (Or.inl (by first | rfl | simp [Cond.onTables, Cond.keeps, Cond.steady])) hini)
  obtain ⟨hx, hb, hml, ho, hts⟩ := S
  obtain ⟨-, ⟨cellB, hcB, hoB, hclB⟩, hPc⟩ := hp
  obtain ⟨mk, methM, hnamed, hmethM, hstM, habM⟩ := Cond.instanceMethod_spec (hts _ k1)
  obtain ⟨mk2, methM', cM, hn2, hmethM', -, -, -, -, -, -, hsigM⟩ := Cond.codeWith_spec (hts _ k4)
  cases hnamed.symm.trans hn2
  cases hmethM.symm.trans hmethM'
  obtain ⟨c2, r2, m2, q1, q2, q3, q4, kP, hkP, hkPi⟩ := Cond.selects_spec (hts _ k2)
  cases hclB.symm.trans q1
  cases (State.methodFound?_of_named hnamed k5).symm.trans q2
  cases hnamed.symm.trans q3
  intro T hT X
  have hselP : selectMethod e.platform s.vm cellB.cls mk = .method mk := by rw [Launch.admits_selectMethod X.admits]; exact q4
  obtain ⟨vm₁, X₁, hstep₁⟩ := X.invokevirtual hx ho (hts _ h1) hnamed hmethM hstM hkP hkPi k5 (a := b) (cell := cellB) (by rw [hT]; exact hcB)
    (fun z h => by rw [h] at hoB; cases hoB) hselP hmethM habM hkP hkPi (g := g) hg (argsL := As) (rest := rest) (kn_len k6 hn _ hsigM) hstack (by rw [hb]; exact hdg)
  obtain ⟨v, ⟨U', l2, c2, s2⟩, X', ⟨g', mk', t, L, e1, e2, hq, h1, hL, h2, h3⟩, hsteps⟩ := hK m meth c ⟨T.setVm vm₁, locs, cells, slots⟩ { g with stack := rest } (.invokevirtual index) mk (Value.ref b :: As).toArray X₁ hg (hsize.trans hml.symm) (by rw [hb]; exact hdg) hW (X₁.named hnamed) ⟨hf.1, hf.2, hPc (T.setVm vm₁) hT X₁.warmed⟩
  dsimp only [Pt.U, Pt.locs, Pt.cells, Pt.slots] at X' e1 e2 h1 h2 h3 hsteps
  subst h1; subst h2; subst h3
  exact ⟨v, (T.setVm vm₁).calling g' mk' (Value.ref b :: As).toArray, t, U', L, hT, X', hL, e1, e2, hq, fun target h => hstep₁ _ fun acts => by rw [doInvoke_state]; exact hsteps.trans h⟩
theorem gx_runSW (S : CallFix p m c cc nL s args tT own) (hM : Met l y (Cond.codeWith y bytes maxL ret hh :: tT) rm Pc Qc mc ms free) (hw : KSW y bytes maxL ret hh n) (h1 : Cond.methodLink own index y ∈ tT) (hrc : rm.cells = mc) (hrs : rm.slots = ms) (hR : rm.frames + 1 ≤ R.frames ∧ 8 + (maxL + 11) + rm.locals ≤ R.locals) (hp : PreS s H Pc As)
    (hg : g.method = m) (hn : As.length = n) (hsize : g.locals.size = nL) (hstack : g.stack = As.reverse ++ rest) (hW : 2 * g.monitorRoom + (rest.map fun v => v.category).sum ≤ 8) (hdg : decode cc g.pc = .ok (.invokestatic index, 3)) (hf : cells + mc ≤ R.cells ∧ slots + ms ≤ R.slots) :
    va_Run p l e R s m args below meth c H locs cells slots mc ms g rest (Qc As.toArray) (free) := by
  obtain ⟨k1, k3, k4, k5, k6⟩ := hw
  have hini := S.2.2.2.2 _ k3
  have hK : Back l R p e below s args y 3 8 (PreOf R mc ms Pc) (PostOf Qc mc ms free) := va_backW (hh := hh) (bytes := bytes) (maxL := maxL) (ret := ret) hM hp.1 hrc hrs hR.1 hR.2 (pay_in S.2.2.2.2 (gi_c k4 tT_self)) List.mem_cons_self (fun a' U hW => word_at hW (Or.inl (by first | rfl | simp [Cond.onTables, Cond.keeps, Cond.steady])) hini)
  obtain ⟨hx, hb, hml, ho, hts⟩ := S
  obtain ⟨mk, methM, cM, hnamed, hmethM, -, -, -, -, -, -, hsigM⟩ := Cond.codeWith_spec (hts _ k4)
  have hstatic : methM.isStatic = true := Cond.static_spec hnamed hmethM (hts _ k1)
  obtain ⟨kP, hkP, -⟩ := className_of_methodNamed hnamed
  have hinitP : kP.init = .initialized := Cond.initialized_spec (findClass_of_methodNamed hnamed) hkP hini
  intro T hT X
  obtain ⟨vm₁, X₁, hstep₁⟩ := X.invokestatic hx ho (hts _ h1) hnamed hmethM hstatic hkP hinitP k5 (g := g) hg (argsL := As) (rest := rest) (kn_len k6 hn _ hsigM) hstack (by rw [hb]; exact hdg)
  obtain ⟨v, ⟨U', l2, c2, s2⟩, X', ⟨g', mk', t, L, e1, e2, hq, h1, hL, h2, h3⟩, hsteps⟩ := hK m meth c ⟨T.setVm vm₁, locs, cells, slots⟩ { g with stack := rest } (.invokestatic index) mk As.toArray X₁ hg (hsize.trans hml.symm) (by rw [hb]; exact hdg) hW (X₁.named hnamed) ⟨hf.1, hf.2, hp.2 (T.setVm vm₁) hT X₁.warmed⟩
  dsimp only [Pt.U, Pt.locs, Pt.cells, Pt.slots] at X' e1 e2 h1 h2 h3 hsteps
  subst h1; subst h2; subst h3
  exact ⟨v, (T.setVm vm₁).calling g' mk' As.toArray, t, U', L, hT, X', hL, e1, e2, hq, fun target h => hstep₁ _ fun acts => by rw [doInvoke_state]; exact hsteps.trans h⟩
theorem gVt_i {out : Int32} (E : CallFix p m c cc nL s args tT own) (hK : gK dC dI ks s) (hP : va_P (dC, dI) vwCl (wG ks ad σ) H) (hD : va_D A (wG ks ad σ)) (hS : va_S A s.heap H locs) (hA : ∀ q, s.heap.size ≤ q → A q) (hX : gX A s) (hM : MTi l dC dI ks ad σ y bytes maxL ret hh rm (.ref b :: As) out) (hw : KVW C y bytes maxL ret hh n) (h1 : Cond.methodLink own index y ∈ tT) (hrc : rm.cells = 1) (hrs : rm.slots = 6) (he : (wG ks ad σ)[q0]? = some (b, .inr (ci, fs))) (hc : vwCl[ci]? = some q) (hq : q.1 = C) (hn : As.length = n) (hR : rm.frames + 1 ≤ R.frames ∧ 8 + (maxL + 11) + rm.locals ≤ R.locals) (hf : cells + 1 ≤ R.cells ∧ slots + 6 ≤ R.slots) (hls : ls.size = nL) (hW : (rest.map fun v => v.category).sum ≤ 8) (hst : st = As.reverse ++ .ref b :: rest) (hdg : decode cc pc = .ok (.invokevirtual index, 3)) (kk : ∀ (H1 : Heap) (locs1 : List Loc), va_P (dC, dI) vwCl (wG ks ad σ) H1 → va_D A (wG ks ad σ) → va_S A s.heap H1 locs1 → W p l e R s m args below meth c H1 locs1 (cells + 1) (slots + 6) Q (F0 m (pc + 3) ls (.int out :: rest))) : W p l e R s m args below meth c H locs cells slots Q (F0 m pc ls st) := by
  subst hq
  have hF := gFree hD hS hA
  exact va_calli (gx_runVW (As := As) (rest := rest) E (hM H.size) hw h1 hrc hrs hR ⟨gPe_blind, va_recv hK.1 hP hc he, fun U hU hW => ⟨rfl, by rw [hU], by rw [hU]; exact hP, gK.moved hW hK, hD.weaken (fun _ _ _ _ => trivial), gX.to hX hS hW hU hF⟩⟩ rfl hn hls hst (lv_room hW) hdg hf) hS (fun q _ h => hF q h) hF (fun r u t H1 locs1 ht hvm hq hB hz hk hS1 => by subst hq; exact kk H1 locs1 (by rw [← ht]; exact hB.1) (hB.2.weaken (fun _ _ _ h => hF _ h)) hS1)
theorem gLe {a1 a2 : Int32} {out : Int32 × St} (E : CallFix p m c cc nL s args tT own) (hK : gK dC dI ks s) (hP : va_P (dC, dI) vwCl (wG ks ad σ) H) (hD : va_D A (wG ks ad σ)) (hS : va_S A s.heap H locs) (hA : ∀ q, s.heap.size ≤ q → A q) (hX : gX A s) (hStr : gStr s) (hM : MLe l dC dI ks ad σ a1 a2 out) (hw : KSW yL_element cL_element 5 (some .int) [(0, 9, 12, 13), (0, 9, 16, 15)] 4) (h1 : Cond.methodLink own index yL_element ∈ tT) (hR : rL_element.frames + 1 ≤ R.frames ∧ 8 + (5 + 11) + rL_element.locals ≤ R.locals) (hf : cells + 1 ≤ R.cells ∧ slots + 6 ≤ R.slots) (hls : ls.size = nL) (hW : (rest.map fun v => v.category).sum ≤ 8) (hdg : decode cc pc = .ok (.invokestatic index, 3)) (kk : ∀ (H1 : Heap) (locs1 : List Loc), va_P (dC, dI) vwCl (wG ks ad out.2) H1 → va_D A (wG ks ad out.2) → va_S A s.heap H1 locs1 → W p l e R s m args below meth c H1 locs1 (cells + 1) (slots + 6) Q (F0 m (pc + 3) ls (.int out.1 :: rest))) : W p l e R s m args below meth c H locs cells slots Q (F0 m pc ls (.ref (ad 13 2) :: .int a2 :: .int a1 :: .ref (ad 0 0) :: rest)) := by
  have hF := gFree hD hS hA
  exact va_calli (gx_runSW (As := [.ref (ad 0 0), .int a1, .int a2, .ref (ad 13 2)]) (rest := rest) E (hM H.size) hw h1 rfl rfl hR ⟨gPf_blind, fun U hU hW => ⟨⟨rfl, by rw [hU], by rw [hU]; exact hP, gK.moved hW hK, hD.weaken (fun _ _ _ _ => trivial), gX.to hX hS hW hU hF⟩, gStr.moved hW hStr⟩⟩ rfl rfl hls rfl (lv_room hW) hdg hf) hS (fun q _ h => hF q h) hF (fun r u t H1 locs1 ht hvm hq hB hz hk hS1 => by obtain ⟨rfl, rfl⟩ := hq; exact kk H1 locs1 (by rw [← ht]; exact hB.1) (hB.2.weaken (fun _ _ _ h => hF _ h)) hS1)
end
/-- what holds at every place of the law's body -/
def lawA (s : State) : Nat → Prop := fun q => s.heap.size ≤ q
def LawCtx (p : Program) (l : Launch) (s : State) (m : MethodId) (c : Code) (b L : Nat) (xs : Nat → Int32) (dC : Nat → ClassId) (dI : Nat → Nat → Nat) (ks : Nat → ClassId) : Prop := CallFix p m c cL_law 8 s #[.ref b] tT RL ∧ gK dC dI ks s ∧ gX (lawA s) s ∧ gStr s ∧ va_X b L xs s s.heap ∧ b < s.heap.size ∧ l.stackTraces = false
section
variable {p : Program} {l : Launch} {e : Env} {s : State} {m : MethodId} {below : List Frame} {meth : Method} {c : Code} {H : Heap} {locs : List Loc} {cells slots : Nat} {Q : State → Prop} {b L : Nat} {xs : Nat → Int32}
variable {ls : Array Slot} {rest : List Value} {Inv : St → Prop}
variable {dC : Nat → ClassId} {dI : Nat → Nat → Nat} {ks : Nat → ClassId} {ad : Nat → Nat → Nat} {bl : Nat → Nat} {σ : St} {i : Int32}
/-- at the end of a case -/
def LawK (p : Program) (l : Launch) (e : Env) (s : State) (m : MethodId) (below : List Frame) (meth : Method) (c : Code) (b : Nat) (dC : Nat → ClassId) (dI : Nat → Nat → Nat) (ks : Nat → ClassId) (ad : Nat → Nat → Nat) (Q : State → Prop) (Inv : St → Prop) (nC nS : Nat) (i : Int32) : Prop := ∀ (σ : St) (bl : Nat → Nat) (H : Heap) (locs : List Loc) (ls : Array Slot) (cells slots : Nat), cells ≤ nC → slots ≤ nS → Inv σ → va_P (dC, dI) vwCl (wG ks (adU ad bl) σ) H → va_D (lawA s) (wG ks (adU ad bl) σ) → va_S (lawA s) s.heap H locs → lv_has ls 8 [(4, .int i), (3, .ref (ad 13 2)), (2, .ref (ad 14 0)), (1, .ref (ad 0 0)), (0, .ref b)] → W p l e room_1 s m #[.ref b] below meth c H locs cells slots Q (F0 m 2330 ls [])
theorem law_arg {pc : Nat} {j : Int32} {nj : Int} {st : List Value} (C0 : LawCtx p l s m c b L xs dC dI ks) (hS : va_S (lawA s) s.heap H locs) (hl : lv_has ls 8 [(4, .int i), (3, .ref (ad 13 2)), (2, .ref (ad 14 0)), (1, .ref (ad 0 0)), (0, .ref b)]) (hin : vp_in (i + j) L) (hj : Int32.ofInt nj = j) (d0 : decode cL_law pc = .ok (.aload_n 0, 1)) (d1 : decode cL_law (pc + 1) = .ok (.iload 4, 2)) (d2 : decode cL_law (pc + 1 + 2) = .ok (.iconst nj, 1)) (d3 : decode cL_law (pc + 1 + 2 + 1) = .ok (.iadd, 1)) (d4 : decode cL_law (pc + 1 + 2 + 1 + 1) = .ok (.iaload, 1)) (kk : W p l e room_1 s m #[.ref b] below meth c H locs cells slots Q (F0 m (pc + 1 + 2 + 1 + 1 + 1) ls (.int (xs (i + j).toNatClampNeg) :: st))) : W p l e room_1 s m #[.ref b] below meth c H locs cells slots Q (F0 m pc ls st) := by
  have hx := C0.1.1
  have hb := C0.1.2.1
  refine lv_aload_n hx hb d0 rfl (lv_at hl 4 rfl) ?_
  refine lv_iload hx hb d1 (lv_at hl 0 rfl) ?_
  refine lv_iconst (v := j) hx hb d2 hj ?_
  refine lv_iadd hx hb d3 ?_
  exact va_sld hx hb C0.2.2.2.2.1 C0.2.2.2.2.2.1 (Nat.not_le.mpr C0.2.2.2.2.2.1) hS hin d4 kk
theorem lg_cmp_self (x : Int64) : lg_cmp x x = 0 := by
  unfold lg_cmp
  rw [if_neg Int64.lt_irrefl, if_pos rfl]
set_option maxHeartbeats 2000000 in
theorem lawc_0 (hCs : Cases Inv) (C0 : LawCtx p l s m c b L xs dC dI ks) {nC nS : Nat} (kk : LawK p l e s m below meth c b dC dI ks ad Q Inv nC nS i) (h1 : vp_in (i + 1) L) (h2 : vp_in (i + 2) L) (h3 : vp_in (i + 3) L) (h4 : vp_in (i + 4) L) (h5 : vp_in (i + 5) L) (hcl : cells + 1000 ≤ nC) (hsl : slots + 2000 ≤ nS) (hC9 : nC ≤ 601024) (hS9 : nS ≤ 7293034) (hI : Inv σ) (hP : va_P (dC, dI) vwCl (wG ks (adU ad bl) σ) H) (hD : va_D (lawA s) (wG ks (adU ad bl) σ)) (hS : va_S (lawA s) s.heap H locs) (hl : lv_has ls 8 [(4, .int i), (3, .ref (ad 13 2)), (2, .ref (ad 14 0)), (1, .ref (ad 0 0)), (0, .ref b)]) : W p l e room_1 s m #[.ref b] below meth c H locs cells slots Q (F0 m 236 ls []) := by
  have E := C0.1
  have hx := E.1
  have hb := E.2.1
  have hK := C0.2.1
  have hA : ∀ q, s.heap.size ≤ q → lawA s q := fun q h => h
  obtain ⟨r, σ1, σ2, e1, e2, hI2⟩ := hCs.c0 σ hI (xs (i + 1).toNatClampNeg)
  refine lv_aload_n hx hb dL_law_236 rfl (lv_at hl 3 rfl) ?_
  refine law_arg C0 hS hl h1 (by decide) dL_law_237 dL_law_238 dL_law_240 dL_law_241 dL_law_242 ?_
  refine gVa_i (bl := bl) E hK hP hD hS hA (cX11_hedgec (bl0 := bl) _ e1) kV_X11_hedge wd_1_170 rfl rfl (q_main ks (adU ad bl) σ) rfl rfl rfl ⟨Nat.le_of_ble_eq_true rfl, Nat.le_of_ble_eq_true rfl⟩ ⟨by show _ ≤ 601024; omega, by show _ ≤ 7293034; omega⟩ hl.1 (Nat.le_of_ble_eq_true rfl) rfl dL_law_243 (fun bl1 H locs hkp hP hD hS => ?_)
  refine lv_aload_n hx hb dL_law_246 rfl (lv_at hl 2 rfl) ?_
  refine law_arg C0 hS hl h1 (by decide) dL_law_247 dL_law_248 dL_law_250 dL_law_251 dL_law_252 ?_
  refine gVw_i E hK hP hD hS hA (cX12_hedgec _ e2) kV_X12_hedge wd_5_127 rfl rfl (q_model ks (adU ad bl1) σ1) rfl rfl rfl ⟨Nat.le_of_ble_eq_true rfl, Nat.le_of_ble_eq_true rfl⟩ ⟨by show _ ≤ 601024; omega, by show _ ≤ 7293034; omega⟩ hl.1 (Nat.le_of_ble_eq_true rfl) rfl dL_law_253 (fun H locs hP hD hS => ?_)
  refine lv_icmp_eq (tgt := 2330) hx hb dL_law_256 (by decide) (fun _ => ?_) (fun c0 => absurd rfl c0)
  exact kk _ _ _ _ _ _ _ (by omega) (by omega) hI2 hP hD hS hl
set_option maxHeartbeats 2000000 in
theorem lawc_1 (hCs : Cases Inv) (C0 : LawCtx p l s m c b L xs dC dI ks) {nC nS : Nat} (kk : LawK p l e s m below meth c b dC dI ks ad Q Inv nC nS i) (h1 : vp_in (i + 1) L) (h2 : vp_in (i + 2) L) (h3 : vp_in (i + 3) L) (h4 : vp_in (i + 4) L) (h5 : vp_in (i + 5) L) (hcl : cells + 1000 ≤ nC) (hsl : slots + 2000 ≤ nS) (hC9 : nC ≤ 601024) (hS9 : nS ≤ 7293034) (hI : Inv σ) (hP : va_P (dC, dI) vwCl (wG ks (adU ad bl) σ) H) (hD : va_D (lawA s) (wG ks (adU ad bl) σ)) (hS : va_S (lawA s) s.heap H locs) (hl : lv_has ls 8 [(4, .int i), (3, .ref (ad 13 2)), (2, .ref (ad 14 0)), (1, .ref (ad 0 0)), (0, .ref b)]) : W p l e room_1 s m #[.ref b] below meth c H locs cells slots Q (F0 m 261 ls []) := by
  have E := C0.1
  have hx := E.1
  have hb := E.2.1
  have hK := C0.2.1
  have hA : ∀ q, s.heap.size ≤ q → lawA s q := fun q h => h
  obtain ⟨r, e1, e2⟩ := hCs.c1 σ hI (xs (i + 1).toNatClampNeg) (xs (i + 2).toNatClampNeg)
  refine lv_aload_n hx hb dL_law_261 rfl (lv_at hl 3 rfl) ?_
  refine law_arg C0 hS hl h1 (by decide) dL_law_262 dL_law_263 dL_law_265 dL_law_266 dL_law_267 ?_
  refine law_arg C0 hS hl h2 (by decide) dL_law_268 dL_law_269 dL_law_271 dL_law_272 dL_law_273 ?_
  refine gVr_i E hK hP (cX11_bladec _ _ e1) kV_X11_blade wd_2_140 rfl rfl (q_main ks (adU ad bl) σ) rfl rfl rfl ⟨Nat.le_of_ble_eq_true rfl, Nat.le_of_ble_eq_true rfl⟩ ⟨by show _ ≤ 601024; omega, by show _ ≤ 7293034; omega⟩ hl.1 (Nat.le_of_ble_eq_true rfl) rfl dL_law_274 ?_
  refine lv_aload_n hx hb dL_law_277 rfl (lv_at hl 2 rfl) ?_
  refine law_arg C0 hS hl h1 (by decide) dL_law_278 dL_law_279 dL_law_281 dL_law_282 dL_law_283 ?_
  refine law_arg C0 hS hl h2 (by decide) dL_law_284 dL_law_285 dL_law_287 dL_law_288 dL_law_289 ?_
  refine gVr_i E hK hP (cX12_bladec _ _ e2) kV_X12_blade wd_5_220 rfl rfl (q_model ks (adU ad bl) σ) rfl rfl rfl ⟨Nat.le_of_ble_eq_true rfl, Nat.le_of_ble_eq_true rfl⟩ ⟨by show _ ≤ 601024; omega, by show _ ≤ 7293034; omega⟩ hl.1 (Nat.le_of_ble_eq_true rfl) rfl dL_law_290 ?_
  refine lv_icmp_eq (tgt := 2330) hx hb dL_law_293 (by decide) (fun _ => ?_) (fun c0 => absurd rfl c0)
  exact kk _ _ _ _ _ _ _ (by omega) (by omega) hI hP hD hS hl
set_option maxHeartbeats 2000000 in
theorem lawc_2 (hCs : Cases Inv) (C0 : LawCtx p l s m c b L xs dC dI ks) {nC nS : Nat} (kk : LawK p l e s m below meth c b dC dI ks ad Q Inv nC nS i) (h1 : vp_in (i + 1) L) (h2 : vp_in (i + 2) L) (h3 : vp_in (i + 3) L) (h4 : vp_in (i + 4) L) (h5 : vp_in (i + 5) L) (hcl : cells + 1000 ≤ nC) (hsl : slots + 2000 ≤ nS) (hC9 : nC ≤ 601024) (hS9 : nS ≤ 7293034) (hI : Inv σ) (hP : va_P (dC, dI) vwCl (wG ks (adU ad bl) σ) H) (hD : va_D (lawA s) (wG ks (adU ad bl) σ)) (hS : va_S (lawA s) s.heap H locs) (hl : lv_has ls 8 [(4, .int i), (3, .ref (ad 13 2)), (2, .ref (ad 14 0)), (1, .ref (ad 0 0)), (0, .ref b)]) : W p l e room_1 s m #[.ref b] below meth c H locs cells slots Q (F0 m 298 ls []) := by
  have E := C0.1
  have hx := E.1
  have hb := E.2.1
  have hK := C0.2.1
  have hA : ∀ q, s.heap.size ≤ q → lawA s q := fun q h => h
  obtain ⟨r, e1, e2⟩ := hCs.c2 σ hI (xs (i + 1).toNatClampNeg) (xs (i + 2).toNatClampNeg)
  refine lv_aload_n hx hb dL_law_298 rfl (lv_at hl 3 rfl) ?_
  refine law_arg C0 hS hl h1 (by decide) dL_law_299 dL_law_300 dL_law_302 dL_law_303 dL_law_304 ?_
  refine law_arg C0 hS hl h2 (by decide) dL_law_305 dL_law_306 dL_law_308 dL_law_309 dL_law_310 ?_
  refine gVr_i E hK hP (cX11_thumbsc _ _ e1) kV_X11_thumbs wd_2_145 rfl rfl (q_main ks (adU ad bl) σ) rfl rfl rfl ⟨Nat.le_of_ble_eq_true rfl, Nat.le_of_ble_eq_true rfl⟩ ⟨by show _ ≤ 601024; omega, by show _ ≤ 7293034; omega⟩ hl.1 (Nat.le_of_ble_eq_true rfl) rfl dL_law_311 ?_
  refine lv_aload_n hx hb dL_law_314 rfl (lv_at hl 2 rfl) ?_
  refine law_arg C0 hS hl h1 (by decide) dL_law_315 dL_law_316 dL_law_318 dL_law_319 dL_law_320 ?_
  refine law_arg C0 hS hl h2 (by decide) dL_law_321 dL_law_322 dL_law_324 dL_law_325 dL_law_326 ?_
  refine gVr_i E hK hP (cX12_thumbsc _ _ e2) kV_X12_thumbs wd_5_224 rfl rfl (q_model ks (adU ad bl) σ) rfl rfl rfl ⟨Nat.le_of_ble_eq_true rfl, Nat.le_of_ble_eq_true rfl⟩ ⟨by show _ ≤ 601024; omega, by show _ ≤ 7293034; omega⟩ hl.1 (Nat.le_of_ble_eq_true rfl) rfl dL_law_327 ?_
  refine lv_icmp_eq (tgt := 2330) hx hb dL_law_330 (by decide) (fun _ => ?_) (fun c0 => absurd rfl c0)
  exact kk _ _ _ _ _ _ _ (by omega) (by omega) hI hP hD hS hl
set_option maxHeartbeats 2000000 in
theorem lawc_3 (hCs : Cases Inv) (C0 : LawCtx p l s m c b L xs dC dI ks) {nC nS : Nat} (kk : LawK p l e s m below meth c b dC dI ks ad Q Inv nC nS i) (h1 : vp_in (i + 1) L) (h2 : vp_in (i + 2) L) (h3 : vp_in (i + 3) L) (h4 : vp_in (i + 4) L) (h5 : vp_in (i + 5) L) (hcl : cells + 1000 ≤ nC) (hsl : slots + 2000 ≤ nS) (hC9 : nC ≤ 601024) (hS9 : nS ≤ 7293034) (hI : Inv σ) (hP : va_P (dC, dI) vwCl (wG ks (adU ad bl) σ) H) (hD : va_D (lawA s) (wG ks (adU ad bl) σ)) (hS : va_S (lawA s) s.heap H locs) (hl : lv_has ls 8 [(4, .int i), (3, .ref (ad 13 2)), (2, .ref (ad 14 0)), (1, .ref (ad 0 0)), (0, .ref b)]) : W p l e room_1 s m #[.ref b] below meth c H locs cells slots Q (F0 m 335 ls []) := by
  have E := C0.1
  have hx := E.1
  have hb := E.2.1
  have hK := C0.2.1
  have hA : ∀ q, s.heap.size ≤ q → lawA s q := fun q h => h
  obtain ⟨r, e1, e2⟩ := hCs.c3 σ hI (xs (i + 1).toNatClampNeg) (xs (i + 2).toNatClampNeg)
  refine lv_aload_n hx hb dL_law_335 rfl (lv_at hl 3 rfl) ?_
  refine law_arg C0 hS hl h1 (by decide) dL_law_336 dL_law_337 dL_law_339 dL_law_340 dL_law_341 ?_
  refine law_arg C0 hS hl h2 (by decide) dL_law_342 dL_law_343 dL_law_345 dL_law_346 dL_law_347 ?_
  refine gVr_i E hK hP (cX11_blowc _ _ e1) kV_X11_blow wd_2_150 rfl rfl (q_main ks (adU ad bl) σ) rfl rfl rfl ⟨Nat.le_of_ble_eq_true rfl, Nat.le_of_ble_eq_true rfl⟩ ⟨by show _ ≤ 601024; omega, by show _ ≤ 7293034; omega⟩ hl.1 (Nat.le_of_ble_eq_true rfl) rfl dL_law_348 ?_
  refine lv_aload_n hx hb dL_law_351 rfl (lv_at hl 2 rfl) ?_
  refine law_arg C0 hS hl h1 (by decide) dL_law_352 dL_law_353 dL_law_355 dL_law_356 dL_law_357 ?_
  refine law_arg C0 hS hl h2 (by decide) dL_law_358 dL_law_359 dL_law_361 dL_law_362 dL_law_363 ?_
  refine gVr_i E hK hP (cX12_blowc _ _ e2) kV_X12_blow wd_5_228 rfl rfl (q_model ks (adU ad bl) σ) rfl rfl rfl ⟨Nat.le_of_ble_eq_true rfl, Nat.le_of_ble_eq_true rfl⟩ ⟨by show _ ≤ 601024; omega, by show _ ≤ 7293034; omega⟩ hl.1 (Nat.le_of_ble_eq_true rfl) rfl dL_law_364 ?_
  refine lv_icmp_eq (tgt := 2330) hx hb dL_law_367 (by decide) (fun _ => ?_) (fun c0 => absurd rfl c0)
  exact kk _ _ _ _ _ _ _ (by omega) (by omega) hI hP hD hS hl
set_option maxHeartbeats 2000000 in
theorem lawc_4 (hCs : Cases Inv) (C0 : LawCtx p l s m c b L xs dC dI ks) {nC nS : Nat} (kk : LawK p l e s m below meth c b dC dI ks ad Q Inv nC nS i) (h1 : vp_in (i + 1) L) (h2 : vp_in (i + 2) L) (h3 : vp_in (i + 3) L) (h4 : vp_in (i + 4) L) (h5 : vp_in (i + 5) L) (hcl : cells + 1000 ≤ nC) (hsl : slots + 2000 ≤ nS) (hC9 : nC ≤ 601024) (hS9 : nS ≤ 7293034) (hI : Inv σ) (hP : va_P (dC, dI) vwCl (wG ks (adU ad bl) σ) H) (hD : va_D (lawA s) (wG ks (adU ad bl) σ)) (hS : va_S (lawA s) s.heap H locs) (hl : lv_has ls 8 [(4, .int i), (3, .ref (ad 13 2)), (2, .ref (ad 14 0)), (1, .ref (ad 0 0)), (0, .ref b)]) : W p l e room_1 s m #[.ref b] below meth c H locs cells slots Q (F0 m 372 ls []) := by
  have E := C0.1
  have hx := E.1
  have hb := E.2.1
  have hK := C0.2.1
  have hA : ∀ q, s.heap.size ≤ q → lawA s q := fun q h => h
  obtain ⟨r, σ1, σ2, e1, e2, hI2⟩ := hCs.c4 σ hI (xs (i + 1).toNatClampNeg) (xs (i + 2).toNatClampNeg) (xs (i + 3).toNatClampNeg)
  refine lv_aload_n hx hb dL_law_372 rfl (lv_at hl 3 rfl) ?_
  refine law_arg C0 hS hl h1 (by decide) dL_law_373 dL_law_374 dL_law_376 dL_law_377 dL_law_378 ?_
  refine law_arg C0 hS hl h2 (by decide) dL_law_379 dL_law_380 dL_law_382 dL_law_383 dL_law_384 ?_
  refine law_arg C0 hS hl h3 (by decide) dL_law_385 dL_law_386 dL_law_388 dL_law_389 dL_law_390 ?_
  refine gVw_i E hK hP hD hS hA (cX11_growsc _ _ _ e1) kV_X11_grows wd_2_155 rfl rfl (q_main ks (adU ad bl) σ) rfl rfl rfl ⟨Nat.le_of_ble_eq_true rfl, Nat.le_of_ble_eq_true rfl⟩ ⟨by show _ ≤ 601024; omega, by show _ ≤ 7293034; omega⟩ hl.1 (Nat.le_of_ble_eq_true rfl) rfl dL_law_391 (fun H locs hP hD hS => ?_)
  refine lv_aload_n hx hb dL_law_394 rfl (lv_at hl 2 rfl) ?_
  refine law_arg C0 hS hl h1 (by decide) dL_law_395 dL_law_396 dL_law_398 dL_law_399 dL_law_400 ?_
  refine law_arg C0 hS hl h2 (by decide) dL_law_401 dL_law_402 dL_law_404 dL_law_405 dL_law_406 ?_
  refine law_arg C0 hS hl h3 (by decide) dL_law_407 dL_law_408 dL_law_410 dL_law_411 dL_law_412 ?_
  refine gVw_i E hK hP hD hS hA (cX12_growsc _ _ _ e2) kV_X12_grows wd_5_232 rfl rfl (q_model ks (adU ad bl) σ1) rfl rfl rfl ⟨Nat.le_of_ble_eq_true rfl, Nat.le_of_ble_eq_true rfl⟩ ⟨by show _ ≤ 601024; omega, by show _ ≤ 7293034; omega⟩ hl.1 (Nat.le_of_ble_eq_true rfl) rfl dL_law_413 (fun H locs hP hD hS => ?_)
  refine lv_icmp_eq (tgt := 2330) hx hb dL_law_416 (by decide) (fun _ => ?_) (fun c0 => absurd rfl c0)
  exact kk _ _ _ _ _ _ _ (by omega) (by omega) hI2 hP hD hS hl
set_option maxHeartbeats 2000000 in
theorem lawc_5 (hCs : Cases Inv) (C0 : LawCtx p l s m c b L xs dC dI ks) {nC nS : Nat} (kk : LawK p l e s m below meth c b dC dI ks ad Q Inv nC nS i) (h1 : vp_in (i + 1) L) (h2 : vp_in (i + 2) L) (h3 : vp_in (i + 3) L) (h4 : vp_in (i + 4) L) (h5 : vp_in (i + 5) L) (hcl : cells + 1000 ≤ nC) (hsl : slots + 2000 ≤ nS) (hC9 : nC ≤ 601024) (hS9 : nS ≤ 7293034) (hI : Inv σ) (hP : va_P (dC, dI) vwCl (wG ks (adU ad bl) σ) H) (hD : va_D (lawA s) (wG ks (adU ad bl) σ)) (hS : va_S (lawA s) s.heap H locs) (hl : lv_has ls 8 [(4, .int i), (3, .ref (ad 13 2)), (2, .ref (ad 14 0)), (1, .ref (ad 0 0)), (0, .ref b)]) : W p l e room_1 s m #[.ref b] below meth c H locs cells slots Q (F0 m 421 ls []) := by
  have E := C0.1
  have hx := E.1
  have hb := E.2.1
  have hK := C0.2.1
  have hA : ∀ q, s.heap.size ≤ q → lawA s q := fun q h => h
  obtain ⟨r, σ1, σ2, e1, e2, hI2⟩ := hCs.c5 σ hI (xs (i + 1).toNatClampNeg)
  refine lv_aload_n hx hb dL_law_421 rfl (lv_at hl 3 rfl) ?_
  refine law_arg C0 hS hl h1 (by decide) dL_law_422 dL_law_423 dL_law_425 dL_law_426 dL_law_427 ?_
  refine gVw_i E hK hP hD hS hA (cX11_learnsc _ e1) kV_X11_learns wd_2_159 rfl rfl (q_main ks (adU ad bl) σ) rfl rfl rfl ⟨Nat.le_of_ble_eq_true rfl, Nat.le_of_ble_eq_true rfl⟩ ⟨by show _ ≤ 601024; omega, by show _ ≤ 7293034; omega⟩ hl.1 (Nat.le_of_ble_eq_true rfl) rfl dL_law_428 (fun H locs hP hD hS => ?_)
  refine lv_aload_n hx hb dL_law_431 rfl (lv_at hl 2 rfl) ?_
  refine law_arg C0 hS hl h1 (by decide) dL_law_432 dL_law_433 dL_law_435 dL_law_436 dL_law_437 ?_
  refine gVw_i E hK hP hD hS hA (cX12_learnsc _ e2) kV_X12_learns wd_5_236 rfl rfl (q_model ks (adU ad bl) σ1) rfl rfl rfl ⟨Nat.le_of_ble_eq_true rfl, Nat.le_of_ble_eq_true rfl⟩ ⟨by show _ ≤ 601024; omega, by show _ ≤ 7293034; omega⟩ hl.1 (Nat.le_of_ble_eq_true rfl) rfl dL_law_438 (fun H locs hP hD hS => ?_)
  refine lv_icmp_eq (tgt := 2330) hx hb dL_law_441 (by decide) (fun _ => ?_) (fun c0 => absurd rfl c0)
  exact kk _ _ _ _ _ _ _ (by omega) (by omega) hI2 hP hD hS hl
set_option maxHeartbeats 2000000 in
theorem lawc_6 (hCs : Cases Inv) (C0 : LawCtx p l s m c b L xs dC dI ks) {nC nS : Nat} (kk : LawK p l e s m below meth c b dC dI ks ad Q Inv nC nS i) (h1 : vp_in (i + 1) L) (h2 : vp_in (i + 2) L) (h3 : vp_in (i + 3) L) (h4 : vp_in (i + 4) L) (h5 : vp_in (i + 5) L) (hcl : cells + 1000 ≤ nC) (hsl : slots + 2000 ≤ nS) (hC9 : nC ≤ 601024) (hS9 : nS ≤ 7293034) (hI : Inv σ) (hP : va_P (dC, dI) vwCl (wG ks (adU ad bl) σ) H) (hD : va_D (lawA s) (wG ks (adU ad bl) σ)) (hS : va_S (lawA s) s.heap H locs) (hl : lv_has ls 8 [(4, .int i), (3, .ref (ad 13 2)), (2, .ref (ad 14 0)), (1, .ref (ad 0 0)), (0, .ref b)]) : W p l e room_1 s m #[.ref b] below meth c H locs cells slots Q (F0 m 446 ls []) := by
  have E := C0.1
  have hx := E.1
  have hb := E.2.1
  have hK := C0.2.1
  have hA : ∀ q, s.heap.size ≤ q → lawA s q := fun q h => h
  obtain ⟨r, σ1, σ2, e1, e2, hI2⟩ := hCs.c6 σ hI (xs (i + 1).toNatClampNeg) (xs (i + 2).toNatClampNeg)
  refine lv_aload_n hx hb dL_law_446 rfl (lv_at hl 3 rfl) ?_
  refine law_arg C0 hS hl h1 (by decide) dL_law_447 dL_law_448 dL_law_450 dL_law_451 dL_law_452 ?_
  refine law_arg C0 hS hl h2 (by decide) dL_law_453 dL_law_454 dL_law_456 dL_law_457 dL_law_458 ?_
  refine gVw_i E hK hP hD hS hA (cX11_comesc _ _ e1) kV_X11_comes wd_2_167 rfl rfl (q_main ks (adU ad bl) σ) rfl rfl rfl ⟨Nat.le_of_ble_eq_true rfl, Nat.le_of_ble_eq_true rfl⟩ ⟨by show _ ≤ 601024; omega, by show _ ≤ 7293034; omega⟩ hl.1 (Nat.le_of_ble_eq_true rfl) rfl dL_law_459 (fun H locs hP hD hS => ?_)
  refine lv_aload_n hx hb dL_law_462 rfl (lv_at hl 2 rfl) ?_
  refine law_arg C0 hS hl h1 (by decide) dL_law_463 dL_law_464 dL_law_466 dL_law_467 dL_law_468 ?_
  refine law_arg C0 hS hl h2 (by decide) dL_law_469 dL_law_470 dL_law_472 dL_law_473 dL_law_474 ?_
  refine gVw_i E hK hP hD hS hA (cX12_comesc _ _ e2) kV_X12_comes wd_6_4 rfl rfl (q_model ks (adU ad bl) σ1) rfl rfl rfl ⟨Nat.le_of_ble_eq_true rfl, Nat.le_of_ble_eq_true rfl⟩ ⟨by show _ ≤ 601024; omega, by show _ ≤ 7293034; omega⟩ hl.1 (Nat.le_of_ble_eq_true rfl) rfl dL_law_475 (fun H locs hP hD hS => ?_)
  refine lv_icmp_eq (tgt := 2330) hx hb dL_law_478 (by decide) (fun _ => ?_) (fun c0 => absurd rfl c0)
  exact kk _ _ _ _ _ _ _ (by omega) (by omega) hI2 hP hD hS hl
set_option maxHeartbeats 2000000 in
theorem lawc_7 (hCs : Cases Inv) (C0 : LawCtx p l s m c b L xs dC dI ks) {nC nS : Nat} (kk : LawK p l e s m below meth c b dC dI ks ad Q Inv nC nS i) (h1 : vp_in (i + 1) L) (h2 : vp_in (i + 2) L) (h3 : vp_in (i + 3) L) (h4 : vp_in (i + 4) L) (h5 : vp_in (i + 5) L) (hcl : cells + 1000 ≤ nC) (hsl : slots + 2000 ≤ nS) (hC9 : nC ≤ 601024) (hS9 : nS ≤ 7293034) (hI : Inv σ) (hP : va_P (dC, dI) vwCl (wG ks (adU ad bl) σ) H) (hD : va_D (lawA s) (wG ks (adU ad bl) σ)) (hS : va_S (lawA s) s.heap H locs) (hl : lv_has ls 8 [(4, .int i), (3, .ref (ad 13 2)), (2, .ref (ad 14 0)), (1, .ref (ad 0 0)), (0, .ref b)]) : W p l e room_1 s m #[.ref b] below meth c H locs cells slots Q (F0 m 483 ls []) := by
  have E := C0.1
  have hx := E.1
  have hb := E.2.1
  have hK := C0.2.1
  have hA : ∀ q, s.heap.size ≤ q → lawA s q := fun q h => h
  obtain ⟨r, σ1, σ2, e1, e2, hI2⟩ := hCs.c7 σ hI (xs (i + 1).toNatClampNeg) (xs (i + 2).toNatClampNeg)
  refine lv_aload_n hx hb dL_law_483 rfl (lv_at hl 3 rfl) ?_
  refine law_arg C0 hS hl h1 (by decide) dL_law_484 dL_law_485 dL_law_487 dL_law_488 dL_law_489 ?_
  refine law_arg C0 hS hl h2 (by decide) dL_law_490 dL_law_491 dL_law_493 dL_law_494 dL_law_495 ?_
  refine gVw_i E hK hP hD hS hA (cX11_wetsc _ _ e1) kV_X11_wets wd_2_171 rfl rfl (q_main ks (adU ad bl) σ) rfl rfl rfl ⟨Nat.le_of_ble_eq_true rfl, Nat.le_of_ble_eq_true rfl⟩ ⟨by show _ ≤ 601024; omega, by show _ ≤ 7293034; omega⟩ hl.1 (Nat.le_of_ble_eq_true rfl) rfl dL_law_496 (fun H locs hP hD hS => ?_)
  refine lv_aload_n hx hb dL_law_499 rfl (lv_at hl 2 rfl) ?_
  refine law_arg C0 hS hl h1 (by decide) dL_law_500 dL_law_501 dL_law_503 dL_law_504 dL_law_505 ?_
  refine law_arg C0 hS hl h2 (by decide) dL_law_506 dL_law_507 dL_law_509 dL_law_510 dL_law_511 ?_
  refine gVw_i E hK hP hD hS hA (cX12_wetsc _ _ e2) kV_X12_wets wd_6_11 rfl rfl (q_model ks (adU ad bl) σ1) rfl rfl rfl ⟨Nat.le_of_ble_eq_true rfl, Nat.le_of_ble_eq_true rfl⟩ ⟨by show _ ≤ 601024; omega, by show _ ≤ 7293034; omega⟩ hl.1 (Nat.le_of_ble_eq_true rfl) rfl dL_law_512 (fun H locs hP hD hS => ?_)
  refine lv_icmp_eq (tgt := 2330) hx hb dL_law_515 (by decide) (fun _ => ?_) (fun c0 => absurd rfl c0)
  exact kk _ _ _ _ _ _ _ (by omega) (by omega) hI2 hP hD hS hl
set_option maxHeartbeats 2000000 in
theorem lawc_8 (hCs : Cases Inv) (C0 : LawCtx p l s m c b L xs dC dI ks) {nC nS : Nat} (kk : LawK p l e s m below meth c b dC dI ks ad Q Inv nC nS i) (h1 : vp_in (i + 1) L) (h2 : vp_in (i + 2) L) (h3 : vp_in (i + 3) L) (h4 : vp_in (i + 4) L) (h5 : vp_in (i + 5) L) (hcl : cells + 1000 ≤ nC) (hsl : slots + 2000 ≤ nS) (hC9 : nC ≤ 601024) (hS9 : nS ≤ 7293034) (hI : Inv σ) (hP : va_P (dC, dI) vwCl (wG ks (adU ad bl) σ) H) (hD : va_D (lawA s) (wG ks (adU ad bl) σ)) (hS : va_S (lawA s) s.heap H locs) (hl : lv_has ls 8 [(4, .int i), (3, .ref (ad 13 2)), (2, .ref (ad 14 0)), (1, .ref (ad 0 0)), (0, .ref b)]) : W p l e room_1 s m #[.ref b] below meth c H locs cells slots Q (F0 m 520 ls []) := by
  have E := C0.1
  have hx := E.1
  have hb := E.2.1
  have hK := C0.2.1
  have hA : ∀ q, s.heap.size ≤ q → lawA s q := fun q h => h
  obtain ⟨r, σ1, e1, e2, hI2⟩ := hCs.c8 σ hI (xs (i + 1).toNatClampNeg) (xs (i + 2).toNatClampNeg) (xs (i + 3).toNatClampNeg) (xs (i + 4).toNatClampNeg)
  refine lv_aload_n hx hb dL_law_520 rfl (lv_at hl 3 rfl) ?_
  refine law_arg C0 hS hl h1 (by decide) dL_law_521 dL_law_522 dL_law_524 dL_law_525 dL_law_526 ?_
  refine law_arg C0 hS hl h2 (by decide) dL_law_527 dL_law_528 dL_law_530 dL_law_531 dL_law_532 ?_
  refine law_arg C0 hS hl h3 (by decide) dL_law_533 dL_law_534 dL_law_536 dL_law_537 dL_law_538 ?_
  refine law_arg C0 hS hl h4 (by decide) dL_law_539 dL_law_540 dL_law_542 dL_law_543 dL_law_544 ?_
  refine gVw_i E hK hP hD hS hA (cX11_spanc _ _ _ _ e1) kV_X11_span wd_2_175 rfl rfl (q_main ks (adU ad bl) σ) rfl rfl rfl ⟨Nat.le_of_ble_eq_true rfl, Nat.le_of_ble_eq_true rfl⟩ ⟨by show _ ≤ 601024; omega, by show _ ≤ 7293034; omega⟩ hl.1 (Nat.le_of_ble_eq_true rfl) rfl dL_law_545 (fun H locs hP hD hS => ?_)
  refine lv_aload_n hx hb dL_law_548 rfl (lv_at hl 2 rfl) ?_
  refine law_arg C0 hS hl h1 (by decide) dL_law_549 dL_law_550 dL_law_552 dL_law_553 dL_law_554 ?_
  refine law_arg C0 hS hl h2 (by decide) dL_law_555 dL_law_556 dL_law_558 dL_law_559 dL_law_560 ?_
  refine law_arg C0 hS hl h3 (by decide) dL_law_561 dL_law_562 dL_law_564 dL_law_565 dL_law_566 ?_
  refine law_arg C0 hS hl h4 (by decide) dL_law_567 dL_law_568 dL_law_570 dL_law_571 dL_law_572 ?_
  refine gVr_i E hK hP (cX12_spanc _ _ _ _ e2) kV_X12_span wd_6_15 rfl rfl (q_model ks (adU ad bl) σ1) rfl rfl rfl ⟨Nat.le_of_ble_eq_true rfl, Nat.le_of_ble_eq_true rfl⟩ ⟨by show _ ≤ 601024; omega, by show _ ≤ 7293034; omega⟩ hl.1 (Nat.le_of_ble_eq_true rfl) rfl dL_law_573 ?_
  refine lv_icmp_eq (tgt := 2330) hx hb dL_law_576 (by decide) (fun _ => ?_) (fun c0 => absurd rfl c0)
  exact kk _ _ _ _ _ _ _ (by omega) (by omega) hI2 hP hD hS hl
set_option maxHeartbeats 2000000 in
theorem lawc_9 (hCs : Cases Inv) (C0 : LawCtx p l s m c b L xs dC dI ks) {nC nS : Nat} (kk : LawK p l e s m below meth c b dC dI ks ad Q Inv nC nS i) (h1 : vp_in (i + 1) L) (h2 : vp_in (i + 2) L) (h3 : vp_in (i + 3) L) (h4 : vp_in (i + 4) L) (h5 : vp_in (i + 5) L) (hcl : cells + 1000 ≤ nC) (hsl : slots + 2000 ≤ nS) (hC9 : nC ≤ 601024) (hS9 : nS ≤ 7293034) (hI : Inv σ) (hP : va_P (dC, dI) vwCl (wG ks (adU ad bl) σ) H) (hD : va_D (lawA s) (wG ks (adU ad bl) σ)) (hS : va_S (lawA s) s.heap H locs) (hl : lv_has ls 8 [(4, .int i), (3, .ref (ad 13 2)), (2, .ref (ad 14 0)), (1, .ref (ad 0 0)), (0, .ref b)]) : W p l e room_1 s m #[.ref b] below meth c H locs cells slots Q (F0 m 581 ls []) := by
  have E := C0.1
  have hx := E.1
  have hb := E.2.1
  have hK := C0.2.1
  have hA : ∀ q, s.heap.size ≤ q → lawA s q := fun q h => h
  obtain ⟨r, σ1, e1, e2, hI2⟩ := hCs.c9 σ hI (xs (i + 1).toNatClampNeg) (xs (i + 2).toNatClampNeg) (xs (i + 3).toNatClampNeg) (xs (i + 4).toNatClampNeg) (xs (i + 5).toNatClampNeg)
  refine lv_aload_n hx hb dL_law_581 rfl (lv_at hl 3 rfl) ?_
  refine law_arg C0 hS hl h1 (by decide) dL_law_582 dL_law_583 dL_law_585 dL_law_586 dL_law_587 ?_
  refine law_arg C0 hS hl h2 (by decide) dL_law_588 dL_law_589 dL_law_591 dL_law_592 dL_law_593 ?_
  refine law_arg C0 hS hl h3 (by decide) dL_law_594 dL_law_595 dL_law_597 dL_law_598 dL_law_599 ?_
  refine law_arg C0 hS hl h4 (by decide) dL_law_600 dL_law_601 dL_law_603 dL_law_604 dL_law_605 ?_
  refine law_arg C0 hS hl h5 (by decide) dL_law_606 dL_law_607 dL_law_609 dL_law_610 dL_law_611 ?_
  refine gVw_i E hK hP hD hS hA (cX11_soundsc _ _ _ _ _ e1) kV_X11_sounds wd_3_27 rfl rfl (q_main ks (adU ad bl) σ) rfl rfl rfl ⟨Nat.le_of_ble_eq_true rfl, Nat.le_of_ble_eq_true rfl⟩ ⟨by show _ ≤ 601024; omega, by show _ ≤ 7293034; omega⟩ hl.1 (Nat.le_of_ble_eq_true rfl) rfl dL_law_612 (fun H locs hP hD hS => ?_)
  refine lv_aload_n hx hb dL_law_615 rfl (lv_at hl 2 rfl) ?_
  refine law_arg C0 hS hl h1 (by decide) dL_law_616 dL_law_617 dL_law_619 dL_law_620 dL_law_621 ?_
  refine law_arg C0 hS hl h2 (by decide) dL_law_622 dL_law_623 dL_law_625 dL_law_626 dL_law_627 ?_
  refine law_arg C0 hS hl h3 (by decide) dL_law_628 dL_law_629 dL_law_631 dL_law_632 dL_law_633 ?_
  refine law_arg C0 hS hl h4 (by decide) dL_law_634 dL_law_635 dL_law_637 dL_law_638 dL_law_639 ?_
  refine law_arg C0 hS hl h5 (by decide) dL_law_640 dL_law_641 dL_law_643 dL_law_644 dL_law_645 ?_
  refine gVr_i E hK hP (cX12_soundsc _ _ _ _ _ e2) kV_X12_sounds wd_6_46 rfl rfl (q_model ks (adU ad bl) σ1) rfl rfl rfl ⟨Nat.le_of_ble_eq_true rfl, Nat.le_of_ble_eq_true rfl⟩ ⟨by show _ ≤ 601024; omega, by show _ ≤ 7293034; omega⟩ hl.1 (Nat.le_of_ble_eq_true rfl) rfl dL_law_646 ?_
  refine lv_icmp_eq (tgt := 2330) hx hb dL_law_649 (by decide) (fun _ => ?_) (fun c0 => absurd rfl c0)
  exact kk _ _ _ _ _ _ _ (by omega) (by omega) hI2 hP hD hS hl
set_option maxHeartbeats 2000000 in
theorem lawc_10 (hCs : Cases Inv) (C0 : LawCtx p l s m c b L xs dC dI ks) {nC nS : Nat} (kk : LawK p l e s m below meth c b dC dI ks ad Q Inv nC nS i) (h1 : vp_in (i + 1) L) (h2 : vp_in (i + 2) L) (h3 : vp_in (i + 3) L) (h4 : vp_in (i + 4) L) (h5 : vp_in (i + 5) L) (hcl : cells + 1000 ≤ nC) (hsl : slots + 2000 ≤ nS) (hC9 : nC ≤ 601024) (hS9 : nS ≤ 7293034) (hI : Inv σ) (hP : va_P (dC, dI) vwCl (wG ks (adU ad bl) σ) H) (hD : va_D (lawA s) (wG ks (adU ad bl) σ)) (hS : va_S (lawA s) s.heap H locs) (hl : lv_has ls 8 [(4, .int i), (3, .ref (ad 13 2)), (2, .ref (ad 14 0)), (1, .ref (ad 0 0)), (0, .ref b)]) : W p l e room_1 s m #[.ref b] below meth c H locs cells slots Q (F0 m 654 ls []) := by
  have E := C0.1
  have hx := E.1
  have hb := E.2.1
  have hK := C0.2.1
  have hA : ∀ q, s.heap.size ≤ q → lawA s q := fun q h => h
  obtain ⟨r, e1, e2⟩ := hCs.c10 σ hI (xs (i + 1).toNatClampNeg) (xs (i + 2).toNatClampNeg) (xs (i + 3).toNatClampNeg) (xs (i + 4).toNatClampNeg)
  refine lv_aload_n hx hb dL_law_654 rfl (lv_at hl 3 rfl) ?_
  refine law_arg C0 hS hl h1 (by decide) dL_law_655 dL_law_656 dL_law_658 dL_law_659 dL_law_660 ?_
  refine law_arg C0 hS hl h2 (by decide) dL_law_661 dL_law_662 dL_law_664 dL_law_665 dL_law_666 ?_
  refine law_arg C0 hS hl h3 (by decide) dL_law_667 dL_law_668 dL_law_670 dL_law_671 dL_law_672 ?_
  refine law_arg C0 hS hl h4 (by decide) dL_law_673 dL_law_674 dL_law_676 dL_law_677 dL_law_678 ?_
  refine gVr_i E hK hP (cX11_pitchc _ _ _ _ e1) kV_X11_pitch wd_3_35 rfl rfl (q_main ks (adU ad bl) σ) rfl rfl rfl ⟨Nat.le_of_ble_eq_true rfl, Nat.le_of_ble_eq_true rfl⟩ ⟨by show _ ≤ 601024; omega, by show _ ≤ 7293034; omega⟩ hl.1 (Nat.le_of_ble_eq_true rfl) rfl dL_law_679 ?_
  refine lv_aload_n hx hb dL_law_682 rfl (lv_at hl 2 rfl) ?_
  refine law_arg C0 hS hl h1 (by decide) dL_law_683 dL_law_684 dL_law_686 dL_law_687 dL_law_688 ?_
  refine law_arg C0 hS hl h2 (by decide) dL_law_689 dL_law_690 dL_law_692 dL_law_693 dL_law_694 ?_
  refine law_arg C0 hS hl h3 (by decide) dL_law_695 dL_law_696 dL_law_698 dL_law_699 dL_law_700 ?_
  refine law_arg C0 hS hl h4 (by decide) dL_law_701 dL_law_702 dL_law_704 dL_law_705 dL_law_706 ?_
  refine gVr_i E hK hP (cX12_pitchc _ _ _ _ e2) kV_X12_pitch wd_6_70 rfl rfl (q_model ks (adU ad bl) σ) rfl rfl rfl ⟨Nat.le_of_ble_eq_true rfl, Nat.le_of_ble_eq_true rfl⟩ ⟨by show _ ≤ 601024; omega, by show _ ≤ 7293034; omega⟩ hl.1 (Nat.le_of_ble_eq_true rfl) rfl dL_law_707 ?_
  refine lv_icmp_eq (tgt := 2330) hx hb dL_law_710 (by decide) (fun _ => ?_) (fun c0 => absurd rfl c0)
  exact kk _ _ _ _ _ _ _ (by omega) (by omega) hI hP hD hS hl
set_option maxHeartbeats 2000000 in
theorem lawc_11 (hCs : Cases Inv) (C0 : LawCtx p l s m c b L xs dC dI ks) {nC nS : Nat} (kk : LawK p l e s m below meth c b dC dI ks ad Q Inv nC nS i) (h1 : vp_in (i + 1) L) (h2 : vp_in (i + 2) L) (h3 : vp_in (i + 3) L) (h4 : vp_in (i + 4) L) (h5 : vp_in (i + 5) L) (hcl : cells + 1000 ≤ nC) (hsl : slots + 2000 ≤ nS) (hC9 : nC ≤ 601024) (hS9 : nS ≤ 7293034) (hI : Inv σ) (hP : va_P (dC, dI) vwCl (wG ks (adU ad bl) σ) H) (hD : va_D (lawA s) (wG ks (adU ad bl) σ)) (hS : va_S (lawA s) s.heap H locs) (hl : lv_has ls 8 [(4, .int i), (3, .ref (ad 13 2)), (2, .ref (ad 14 0)), (1, .ref (ad 0 0)), (0, .ref b)]) : W p l e room_1 s m #[.ref b] below meth c H locs cells slots Q (F0 m 715 ls []) := by
  have E := C0.1
  have hx := E.1
  have hb := E.2.1
  have hK := C0.2.1
  have hA : ∀ q, s.heap.size ≤ q → lawA s q := fun q h => h
  obtain ⟨r, σ1, σ2, e1, e2, hI2⟩ := hCs.c11 σ hI (xs (i + 1).toNatClampNeg) (xs (i + 2).toNatClampNeg) (xs (i + 3).toNatClampNeg) (xs (i + 4).toNatClampNeg) (xs (i + 5).toNatClampNeg)
  refine lv_aload_n hx hb dL_law_715 rfl (lv_at hl 3 rfl) ?_
  refine law_arg C0 hS hl h1 (by decide) dL_law_716 dL_law_717 dL_law_719 dL_law_720 dL_law_721 ?_
  refine law_arg C0 hS hl h2 (by decide) dL_law_722 dL_law_723 dL_law_725 dL_law_726 dL_law_727 ?_
  refine law_arg C0 hS hl h3 (by decide) dL_law_728 dL_law_729 dL_law_731 dL_law_732 dL_law_733 ?_
  refine law_arg C0 hS hl h4 (by decide) dL_law_734 dL_law_735 dL_law_737 dL_law_738 dL_law_739 ?_
  refine law_arg C0 hS hl h5 (by decide) dL_law_740 dL_law_741 dL_law_743 dL_law_744 dL_law_745 ?_
  refine gVw_i E hK hP hD hS hA (cX11_triesc _ _ _ _ _ e1) kV_X11_tries wd_3_63 rfl rfl (q_main ks (adU ad bl) σ) rfl rfl rfl ⟨Nat.le_of_ble_eq_true rfl, Nat.le_of_ble_eq_true rfl⟩ ⟨by show _ ≤ 601024; omega, by show _ ≤ 7293034; omega⟩ hl.1 (Nat.le_of_ble_eq_true rfl) rfl dL_law_746 (fun H locs hP hD hS => ?_)
  refine lv_aload_n hx hb dL_law_749 rfl (lv_at hl 2 rfl) ?_
  refine law_arg C0 hS hl h1 (by decide) dL_law_750 dL_law_751 dL_law_753 dL_law_754 dL_law_755 ?_
  refine law_arg C0 hS hl h2 (by decide) dL_law_756 dL_law_757 dL_law_759 dL_law_760 dL_law_761 ?_
  refine law_arg C0 hS hl h3 (by decide) dL_law_762 dL_law_763 dL_law_765 dL_law_766 dL_law_767 ?_
  refine law_arg C0 hS hl h4 (by decide) dL_law_768 dL_law_769 dL_law_771 dL_law_772 dL_law_773 ?_
  refine law_arg C0 hS hl h5 (by decide) dL_law_774 dL_law_775 dL_law_777 dL_law_778 dL_law_779 ?_
  refine gVw_i E hK hP hD hS hA (cX12_triesc _ _ _ _ _ e2) kV_X12_tries wd_6_79 rfl rfl (q_model ks (adU ad bl) σ1) rfl rfl rfl ⟨Nat.le_of_ble_eq_true rfl, Nat.le_of_ble_eq_true rfl⟩ ⟨by show _ ≤ 601024; omega, by show _ ≤ 7293034; omega⟩ hl.1 (Nat.le_of_ble_eq_true rfl) rfl dL_law_780 (fun H locs hP hD hS => ?_)
  refine lv_icmp_eq (tgt := 2330) hx hb dL_law_783 (by decide) (fun _ => ?_) (fun c0 => absurd rfl c0)
  exact kk _ _ _ _ _ _ _ (by omega) (by omega) hI2 hP hD hS hl
set_option maxHeartbeats 2000000 in
theorem lawc_12 (hCs : Cases Inv) (C0 : LawCtx p l s m c b L xs dC dI ks) {nC nS : Nat} (kk : LawK p l e s m below meth c b dC dI ks ad Q Inv nC nS i) (h1 : vp_in (i + 1) L) (h2 : vp_in (i + 2) L) (h3 : vp_in (i + 3) L) (h4 : vp_in (i + 4) L) (h5 : vp_in (i + 5) L) (hcl : cells + 1000 ≤ nC) (hsl : slots + 2000 ≤ nS) (hC9 : nC ≤ 601024) (hS9 : nS ≤ 7293034) (hI : Inv σ) (hP : va_P (dC, dI) vwCl (wG ks (adU ad bl) σ) H) (hD : va_D (lawA s) (wG ks (adU ad bl) σ)) (hS : va_S (lawA s) s.heap H locs) (hl : lv_has ls 8 [(4, .int i), (3, .ref (ad 13 2)), (2, .ref (ad 14 0)), (1, .ref (ad 0 0)), (0, .ref b)]) : W p l e room_1 s m #[.ref b] below meth c H locs cells slots Q (F0 m 788 ls []) := by
  have E := C0.1
  have hx := E.1
  have hb := E.2.1
  have hK := C0.2.1
  have hA : ∀ q, s.heap.size ≤ q → lawA s q := fun q h => h
  obtain ⟨r, σ1, σ2, e1, e2, hI2⟩ := hCs.c12 σ hI (xs (i + 1).toNatClampNeg) (xs (i + 2).toNatClampNeg) (xs (i + 3).toNatClampNeg) (xs (i + 4).toNatClampNeg)
  refine lv_aload_n hx hb dL_law_788 rfl (lv_at hl 3 rfl) ?_
  refine law_arg C0 hS hl h1 (by decide) dL_law_789 dL_law_790 dL_law_792 dL_law_793 dL_law_794 ?_
  refine law_arg C0 hS hl h2 (by decide) dL_law_795 dL_law_796 dL_law_798 dL_law_799 dL_law_800 ?_
  refine law_arg C0 hS hl h3 (by decide) dL_law_801 dL_law_802 dL_law_804 dL_law_805 dL_law_806 ?_
  refine law_arg C0 hS hl h4 (by decide) dL_law_807 dL_law_808 dL_law_810 dL_law_811 dL_law_812 ?_
  refine gVw_i E hK hP hD hS hA (cX11_wherec _ _ _ _ e1) kV_X11_where wd_3_74 rfl rfl (q_main ks (adU ad bl) σ) rfl rfl rfl ⟨Nat.le_of_ble_eq_true rfl, Nat.le_of_ble_eq_true rfl⟩ ⟨by show _ ≤ 601024; omega, by show _ ≤ 7293034; omega⟩ hl.1 (Nat.le_of_ble_eq_true rfl) rfl dL_law_813 (fun H locs hP hD hS => ?_)
  refine lv_aload_n hx hb dL_law_816 rfl (lv_at hl 2 rfl) ?_
  refine law_arg C0 hS hl h1 (by decide) dL_law_817 dL_law_818 dL_law_820 dL_law_821 dL_law_822 ?_
  refine law_arg C0 hS hl h2 (by decide) dL_law_823 dL_law_824 dL_law_826 dL_law_827 dL_law_828 ?_
  refine law_arg C0 hS hl h3 (by decide) dL_law_829 dL_law_830 dL_law_832 dL_law_833 dL_law_834 ?_
  refine law_arg C0 hS hl h4 (by decide) dL_law_835 dL_law_836 dL_law_838 dL_law_839 dL_law_840 ?_
  refine gVw_i E hK hP hD hS hA (cX12_wherec _ _ _ _ e2) kV_X12_where wd_6_83 rfl rfl (q_model ks (adU ad bl) σ1) rfl rfl rfl ⟨Nat.le_of_ble_eq_true rfl, Nat.le_of_ble_eq_true rfl⟩ ⟨by show _ ≤ 601024; omega, by show _ ≤ 7293034; omega⟩ hl.1 (Nat.le_of_ble_eq_true rfl) rfl dL_law_841 (fun H locs hP hD hS => ?_)
  refine lv_icmp_eq (tgt := 2330) hx hb dL_law_844 (by decide) (fun _ => ?_) (fun c0 => absurd rfl c0)
  exact kk _ _ _ _ _ _ _ (by omega) (by omega) hI2 hP hD hS hl
set_option maxHeartbeats 2000000 in
theorem lawc_13 (hCs : Cases Inv) (C0 : LawCtx p l s m c b L xs dC dI ks) {nC nS : Nat} (kk : LawK p l e s m below meth c b dC dI ks ad Q Inv nC nS i) (h1 : vp_in (i + 1) L) (h2 : vp_in (i + 2) L) (h3 : vp_in (i + 3) L) (h4 : vp_in (i + 4) L) (h5 : vp_in (i + 5) L) (hcl : cells + 1000 ≤ nC) (hsl : slots + 2000 ≤ nS) (hC9 : nC ≤ 601024) (hS9 : nS ≤ 7293034) (hI : Inv σ) (hP : va_P (dC, dI) vwCl (wG ks (adU ad bl) σ) H) (hD : va_D (lawA s) (wG ks (adU ad bl) σ)) (hS : va_S (lawA s) s.heap H locs) (hl : lv_has ls 8 [(4, .int i), (3, .ref (ad 13 2)), (2, .ref (ad 14 0)), (1, .ref (ad 0 0)), (0, .ref b)]) : W p l e room_1 s m #[.ref b] below meth c H locs cells slots Q (F0 m 849 ls []) := by
  have E := C0.1
  have hx := E.1
  have hb := E.2.1
  have hK := C0.2.1
  have hA : ∀ q, s.heap.size ≤ q → lawA s q := fun q h => h
  obtain ⟨r, σ1, σ2, e1, e2, hI2⟩ := hCs.c13 σ hI
  refine lv_aload_n hx hb dL_law_849 rfl (lv_at hl 3 rfl) ?_
  refine gVw_i E hK hP hD hS hA (cX11_whoCanc  e1) kV_X11_whoCan wd_3_94 rfl rfl (q_main ks (adU ad bl) σ) rfl rfl rfl ⟨Nat.le_of_ble_eq_true rfl, Nat.le_of_ble_eq_true rfl⟩ ⟨by show _ ≤ 601024; omega, by show _ ≤ 7293034; omega⟩ hl.1 (Nat.le_of_ble_eq_true rfl) rfl dL_law_850 (fun H locs hP hD hS => ?_)
  refine lv_aload_n hx hb dL_law_853 rfl (lv_at hl 2 rfl) ?_
  refine gVw_i E hK hP hD hS hA (cX12_whoCanc  e2) kV_X12_whoCan wd_6_91 rfl rfl (q_model ks (adU ad bl) σ1) rfl rfl rfl ⟨Nat.le_of_ble_eq_true rfl, Nat.le_of_ble_eq_true rfl⟩ ⟨by show _ ≤ 601024; omega, by show _ ≤ 7293034; omega⟩ hl.1 (Nat.le_of_ble_eq_true rfl) rfl dL_law_854 (fun H locs hP hD hS => ?_)
  refine lv_icmp_eq (tgt := 2330) hx hb dL_law_857 (by decide) (fun _ => ?_) (fun c0 => absurd rfl c0)
  exact kk _ _ _ _ _ _ _ (by omega) (by omega) hI2 hP hD hS hl
set_option maxHeartbeats 2000000 in
theorem lawc_14 (hCs : Cases Inv) (C0 : LawCtx p l s m c b L xs dC dI ks) {nC nS : Nat} (kk : LawK p l e s m below meth c b dC dI ks ad Q Inv nC nS i) (h1 : vp_in (i + 1) L) (h2 : vp_in (i + 2) L) (h3 : vp_in (i + 3) L) (h4 : vp_in (i + 4) L) (h5 : vp_in (i + 5) L) (hcl : cells + 1000 ≤ nC) (hsl : slots + 2000 ≤ nS) (hC9 : nC ≤ 601024) (hS9 : nS ≤ 7293034) (hI : Inv σ) (hP : va_P (dC, dI) vwCl (wG ks (adU ad bl) σ) H) (hD : va_D (lawA s) (wG ks (adU ad bl) σ)) (hS : va_S (lawA s) s.heap H locs) (hl : lv_has ls 8 [(4, .int i), (3, .ref (ad 13 2)), (2, .ref (ad 14 0)), (1, .ref (ad 0 0)), (0, .ref b)]) : W p l e room_1 s m #[.ref b] below meth c H locs cells slots Q (F0 m 862 ls []) := by
  have E := C0.1
  have hx := E.1
  have hb := E.2.1
  have hK := C0.2.1
  have hA : ∀ q, s.heap.size ≤ q → lawA s q := fun q h => h
  obtain ⟨r, σ1, σ2, e1, e2, hI2⟩ := hCs.c14 σ hI (xs (i + 1).toNatClampNeg) (xs (i + 2).toNatClampNeg)
  refine lv_aload_n hx hb dL_law_862 rfl (lv_at hl 3 rfl) ?_
  refine law_arg C0 hS hl h1 (by decide) dL_law_863 dL_law_864 dL_law_866 dL_law_867 dL_law_868 ?_
  refine law_arg C0 hS hl h2 (by decide) dL_law_869 dL_law_870 dL_law_872 dL_law_873 dL_law_874 ?_
  refine gVw_i E hK hP hD hS hA (cX11_whichc _ _ e1) kV_X11_which wd_3_102 rfl rfl (q_main ks (adU ad bl) σ) rfl rfl rfl ⟨Nat.le_of_ble_eq_true rfl, Nat.le_of_ble_eq_true rfl⟩ ⟨by show _ ≤ 601024; omega, by show _ ≤ 7293034; omega⟩ hl.1 (Nat.le_of_ble_eq_true rfl) rfl dL_law_875 (fun H locs hP hD hS => ?_)
  refine lv_aload_n hx hb dL_law_878 rfl (lv_at hl 2 rfl) ?_
  refine law_arg C0 hS hl h1 (by decide) dL_law_879 dL_law_880 dL_law_882 dL_law_883 dL_law_884 ?_
  refine law_arg C0 hS hl h2 (by decide) dL_law_885 dL_law_886 dL_law_888 dL_law_889 dL_law_890 ?_
  refine gVw_i E hK hP hD hS hA (cX12_whichc _ _ e2) kV_X12_which wd_6_99 rfl rfl (q_model ks (adU ad bl) σ1) rfl rfl rfl ⟨Nat.le_of_ble_eq_true rfl, Nat.le_of_ble_eq_true rfl⟩ ⟨by show _ ≤ 601024; omega, by show _ ≤ 7293034; omega⟩ hl.1 (Nat.le_of_ble_eq_true rfl) rfl dL_law_891 (fun H locs hP hD hS => ?_)
  refine lv_icmp_eq (tgt := 2330) hx hb dL_law_894 (by decide) (fun _ => ?_) (fun c0 => absurd rfl c0)
  exact kk _ _ _ _ _ _ _ (by omega) (by omega) hI2 hP hD hS hl
set_option maxHeartbeats 2000000 in
theorem lawc_15 (hCs : Cases Inv) (C0 : LawCtx p l s m c b L xs dC dI ks) {nC nS : Nat} (kk : LawK p l e s m below meth c b dC dI ks ad Q Inv nC nS i) (h1 : vp_in (i + 1) L) (h2 : vp_in (i + 2) L) (h3 : vp_in (i + 3) L) (h4 : vp_in (i + 4) L) (h5 : vp_in (i + 5) L) (hcl : cells + 1000 ≤ nC) (hsl : slots + 2000 ≤ nS) (hC9 : nC ≤ 601024) (hS9 : nS ≤ 7293034) (hI : Inv σ) (hP : va_P (dC, dI) vwCl (wG ks (adU ad bl) σ) H) (hD : va_D (lawA s) (wG ks (adU ad bl) σ)) (hS : va_S (lawA s) s.heap H locs) (hl : lv_has ls 8 [(4, .int i), (3, .ref (ad 13 2)), (2, .ref (ad 14 0)), (1, .ref (ad 0 0)), (0, .ref b)]) : W p l e room_1 s m #[.ref b] below meth c H locs cells slots Q (F0 m 899 ls []) := by
  have E := C0.1
  have hx := E.1
  have hb := E.2.1
  have hK := C0.2.1
  have hA : ∀ q, s.heap.size ≤ q → lawA s q := fun q h => h
  obtain ⟨r, σ1, e1, e2, hI2⟩ := hCs.c15 σ hI (xs (i + 1).toNatClampNeg) (xs (i + 2).toNatClampNeg) (xs (i + 3).toNatClampNeg) (xs (i + 4).toNatClampNeg) (xs (i + 5).toNatClampNeg)
  refine lv_aload_n hx hb dL_law_899 rfl (lv_at hl 3 rfl) ?_
  refine law_arg C0 hS hl h1 (by decide) dL_law_900 dL_law_901 dL_law_903 dL_law_904 dL_law_905 ?_
  refine law_arg C0 hS hl h2 (by decide) dL_law_906 dL_law_907 dL_law_909 dL_law_910 dL_law_911 ?_
  refine law_arg C0 hS hl h3 (by decide) dL_law_912 dL_law_913 dL_law_915 dL_law_916 dL_law_917 ?_
  refine law_arg C0 hS hl h4 (by decide) dL_law_918 dL_law_919 dL_law_921 dL_law_922 dL_law_923 ?_
  refine law_arg C0 hS hl h5 (by decide) dL_law_924 dL_law_925 dL_law_927 dL_law_928 dL_law_929 ?_
  refine gVw_i E hK hP hD hS hA (cX11_wrongc _ _ _ _ _ e1) kV_X11_wrong wd_3_106 rfl rfl (q_main ks (adU ad bl) σ) rfl rfl rfl ⟨Nat.le_of_ble_eq_true rfl, Nat.le_of_ble_eq_true rfl⟩ ⟨by show _ ≤ 601024; omega, by show _ ≤ 7293034; omega⟩ hl.1 (Nat.le_of_ble_eq_true rfl) rfl dL_law_930 (fun H locs hP hD hS => ?_)
  refine lv_aload_n hx hb dL_law_933 rfl (lv_at hl 2 rfl) ?_
  refine law_arg C0 hS hl h1 (by decide) dL_law_934 dL_law_935 dL_law_937 dL_law_938 dL_law_939 ?_
  refine law_arg C0 hS hl h2 (by decide) dL_law_940 dL_law_941 dL_law_943 dL_law_944 dL_law_945 ?_
  refine law_arg C0 hS hl h3 (by decide) dL_law_946 dL_law_947 dL_law_949 dL_law_950 dL_law_951 ?_
  refine law_arg C0 hS hl h4 (by decide) dL_law_952 dL_law_953 dL_law_955 dL_law_956 dL_law_957 ?_
  refine law_arg C0 hS hl h5 (by decide) dL_law_958 dL_law_959 dL_law_961 dL_law_962 dL_law_963 ?_
  refine gVr_i E hK hP (cX12_wrongc _ _ _ _ _ e2) kV_X12_wrong wd_6_103 rfl rfl (q_model ks (adU ad bl) σ1) rfl rfl rfl ⟨Nat.le_of_ble_eq_true rfl, Nat.le_of_ble_eq_true rfl⟩ ⟨by show _ ≤ 601024; omega, by show _ ≤ 7293034; omega⟩ hl.1 (Nat.le_of_ble_eq_true rfl) rfl dL_law_964 ?_
  refine lv_icmp_eq (tgt := 2330) hx hb dL_law_967 (by decide) (fun _ => ?_) (fun c0 => absurd rfl c0)
  exact kk _ _ _ _ _ _ _ (by omega) (by omega) hI2 hP hD hS hl
set_option maxHeartbeats 2000000 in
theorem lawc_16 (hCs : Cases Inv) (C0 : LawCtx p l s m c b L xs dC dI ks) {nC nS : Nat} (kk : LawK p l e s m below meth c b dC dI ks ad Q Inv nC nS i) (h1 : vp_in (i + 1) L) (h2 : vp_in (i + 2) L) (h3 : vp_in (i + 3) L) (h4 : vp_in (i + 4) L) (h5 : vp_in (i + 5) L) (hcl : cells + 1000 ≤ nC) (hsl : slots + 2000 ≤ nS) (hC9 : nC ≤ 601024) (hS9 : nS ≤ 7293034) (hI : Inv σ) (hP : va_P (dC, dI) vwCl (wG ks (adU ad bl) σ) H) (hD : va_D (lawA s) (wG ks (adU ad bl) σ)) (hS : va_S (lawA s) s.heap H locs) (hl : lv_has ls 8 [(4, .int i), (3, .ref (ad 13 2)), (2, .ref (ad 14 0)), (1, .ref (ad 0 0)), (0, .ref b)]) : W p l e room_1 s m #[.ref b] below meth c H locs cells slots Q (F0 m 972 ls []) := by
  have E := C0.1
  have hx := E.1
  have hb := E.2.1
  have hK := C0.2.1
  have hA : ∀ q, s.heap.size ≤ q → lawA s q := fun q h => h
  obtain ⟨r, σ1, e1, e2, hI2⟩ := hCs.c16 σ hI (xs (i + 1).toNatClampNeg) (xs (i + 2).toNatClampNeg) (xs (i + 3).toNatClampNeg) (xs (i + 4).toNatClampNeg) (xs (i + 5).toNatClampNeg)
  refine lv_aload_n hx hb dL_law_972 rfl (lv_at hl 3 rfl) ?_
  refine law_arg C0 hS hl h1 (by decide) dL_law_973 dL_law_974 dL_law_976 dL_law_977 dL_law_978 ?_
  refine law_arg C0 hS hl h2 (by decide) dL_law_979 dL_law_980 dL_law_982 dL_law_983 dL_law_984 ?_
  refine law_arg C0 hS hl h3 (by decide) dL_law_985 dL_law_986 dL_law_988 dL_law_989 dL_law_990 ?_
  refine law_arg C0 hS hl h4 (by decide) dL_law_991 dL_law_992 dL_law_994 dL_law_995 dL_law_996 ?_
  refine law_arg C0 hS hl h5 (by decide) dL_law_997 dL_law_998 dL_law_1000 dL_law_1001 dL_law_1002 ?_
  refine gVw_i E hK hP hD hS hA (cX11_nextc _ _ _ _ _ e1) kV_X11_next wd_3_110 rfl rfl (q_main ks (adU ad bl) σ) rfl rfl rfl ⟨Nat.le_of_ble_eq_true rfl, Nat.le_of_ble_eq_true rfl⟩ ⟨by show _ ≤ 601024; omega, by show _ ≤ 7293034; omega⟩ hl.1 (Nat.le_of_ble_eq_true rfl) rfl dL_law_1003 (fun H locs hP hD hS => ?_)
  refine lv_aload_n hx hb dL_law_1006 rfl (lv_at hl 2 rfl) ?_
  refine law_arg C0 hS hl h1 (by decide) dL_law_1007 dL_law_1008 dL_law_1010 dL_law_1011 dL_law_1012 ?_
  refine law_arg C0 hS hl h2 (by decide) dL_law_1013 dL_law_1014 dL_law_1016 dL_law_1017 dL_law_1018 ?_
  refine law_arg C0 hS hl h3 (by decide) dL_law_1019 dL_law_1020 dL_law_1022 dL_law_1023 dL_law_1024 ?_
  refine law_arg C0 hS hl h4 (by decide) dL_law_1025 dL_law_1026 dL_law_1028 dL_law_1029 dL_law_1030 ?_
  refine law_arg C0 hS hl h5 (by decide) dL_law_1031 dL_law_1032 dL_law_1034 dL_law_1035 dL_law_1036 ?_
  refine gVr_i E hK hP (cX12_nextc _ _ _ _ _ e2) kV_X12_next wd_6_107 rfl rfl (q_model ks (adU ad bl) σ1) rfl rfl rfl ⟨Nat.le_of_ble_eq_true rfl, Nat.le_of_ble_eq_true rfl⟩ ⟨by show _ ≤ 601024; omega, by show _ ≤ 7293034; omega⟩ hl.1 (Nat.le_of_ble_eq_true rfl) rfl dL_law_1037 ?_
  refine lv_icmp_eq (tgt := 2330) hx hb dL_law_1040 (by decide) (fun _ => ?_) (fun c0 => absurd rfl c0)
  exact kk _ _ _ _ _ _ _ (by omega) (by omega) hI2 hP hD hS hl
set_option maxHeartbeats 2000000 in
theorem lawc_17 (hCs : Cases Inv) (C0 : LawCtx p l s m c b L xs dC dI ks) {nC nS : Nat} (kk : LawK p l e s m below meth c b dC dI ks ad Q Inv nC nS i) (h1 : vp_in (i + 1) L) (h2 : vp_in (i + 2) L) (h3 : vp_in (i + 3) L) (h4 : vp_in (i + 4) L) (h5 : vp_in (i + 5) L) (hcl : cells + 1000 ≤ nC) (hsl : slots + 2000 ≤ nS) (hC9 : nC ≤ 601024) (hS9 : nS ≤ 7293034) (hI : Inv σ) (hP : va_P (dC, dI) vwCl (wG ks (adU ad bl) σ) H) (hD : va_D (lawA s) (wG ks (adU ad bl) σ)) (hS : va_S (lawA s) s.heap H locs) (hl : lv_has ls 8 [(4, .int i), (3, .ref (ad 13 2)), (2, .ref (ad 14 0)), (1, .ref (ad 0 0)), (0, .ref b)]) : W p l e room_1 s m #[.ref b] below meth c H locs cells slots Q (F0 m 1045 ls []) := by
  have E := C0.1
  have hx := E.1
  have hb := E.2.1
  have hK := C0.2.1
  have hA : ∀ q, s.heap.size ≤ q → lawA s q := fun q h => h
  obtain ⟨r, σ1, e1, e2, hI2⟩ := hCs.c17 σ hI (xs (i + 1).toNatClampNeg) (xs (i + 2).toNatClampNeg) (xs (i + 3).toNatClampNeg)
  refine lv_aload_n hx hb dL_law_1045 rfl (lv_at hl 3 rfl) ?_
  refine law_arg C0 hS hl h1 (by decide) dL_law_1046 dL_law_1047 dL_law_1049 dL_law_1050 dL_law_1051 ?_
  refine law_arg C0 hS hl h2 (by decide) dL_law_1052 dL_law_1053 dL_law_1055 dL_law_1056 dL_law_1057 ?_
  refine law_arg C0 hS hl h3 (by decide) dL_law_1058 dL_law_1059 dL_law_1061 dL_law_1062 dL_law_1063 ?_
  refine gVw_i E hK hP hD hS hA (cX11_halvesc _ _ _ e1) kV_X11_halves wd_3_120 rfl rfl (q_main ks (adU ad bl) σ) rfl rfl rfl ⟨Nat.le_of_ble_eq_true rfl, Nat.le_of_ble_eq_true rfl⟩ ⟨by show _ ≤ 601024; omega, by show _ ≤ 7293034; omega⟩ hl.1 (Nat.le_of_ble_eq_true rfl) rfl dL_law_1064 (fun H locs hP hD hS => ?_)
  refine lv_aload_n hx hb dL_law_1067 rfl (lv_at hl 2 rfl) ?_
  refine law_arg C0 hS hl h1 (by decide) dL_law_1068 dL_law_1069 dL_law_1071 dL_law_1072 dL_law_1073 ?_
  refine law_arg C0 hS hl h2 (by decide) dL_law_1074 dL_law_1075 dL_law_1077 dL_law_1078 dL_law_1079 ?_
  refine law_arg C0 hS hl h3 (by decide) dL_law_1080 dL_law_1081 dL_law_1083 dL_law_1084 dL_law_1085 ?_
  refine gVr_i E hK hP (cX12_halvesc _ _ _ e2) kV_X12_halves wd_6_115 rfl rfl (q_model ks (adU ad bl) σ1) rfl rfl rfl ⟨Nat.le_of_ble_eq_true rfl, Nat.le_of_ble_eq_true rfl⟩ ⟨by show _ ≤ 601024; omega, by show _ ≤ 7293034; omega⟩ hl.1 (Nat.le_of_ble_eq_true rfl) rfl dL_law_1086 ?_
  refine lv_icmp_eq (tgt := 2330) hx hb dL_law_1089 (by decide) (fun _ => ?_) (fun c0 => absurd rfl c0)
  exact kk _ _ _ _ _ _ _ (by omega) (by omega) hI2 hP hD hS hl
set_option maxHeartbeats 2000000 in
theorem lawc_18 (hCs : Cases Inv) (C0 : LawCtx p l s m c b L xs dC dI ks) {nC nS : Nat} (kk : LawK p l e s m below meth c b dC dI ks ad Q Inv nC nS i) (h1 : vp_in (i + 1) L) (h2 : vp_in (i + 2) L) (h3 : vp_in (i + 3) L) (h4 : vp_in (i + 4) L) (h5 : vp_in (i + 5) L) (hcl : cells + 1000 ≤ nC) (hsl : slots + 2000 ≤ nS) (hC9 : nC ≤ 601024) (hS9 : nS ≤ 7293034) (hI : Inv σ) (hP : va_P (dC, dI) vwCl (wG ks (adU ad bl) σ) H) (hD : va_D (lawA s) (wG ks (adU ad bl) σ)) (hS : va_S (lawA s) s.heap H locs) (hl : lv_has ls 8 [(4, .int i), (3, .ref (ad 13 2)), (2, .ref (ad 14 0)), (1, .ref (ad 0 0)), (0, .ref b)]) : W p l e room_1 s m #[.ref b] below meth c H locs cells slots Q (F0 m 1094 ls []) := by
  have E := C0.1
  have hx := E.1
  have hb := E.2.1
  have hK := C0.2.1
  have hA : ∀ q, s.heap.size ≤ q → lawA s q := fun q h => h
  obtain ⟨r, σ1, e1, e2, hI2⟩ := hCs.c18 σ hI (xs (i + 1).toNatClampNeg) (xs (i + 2).toNatClampNeg)
  refine lv_aload_n hx hb dL_law_1094 rfl (lv_at hl 3 rfl) ?_
  refine law_arg C0 hS hl h1 (by decide) dL_law_1095 dL_law_1096 dL_law_1098 dL_law_1099 dL_law_1100 ?_
  refine law_arg C0 hS hl h2 (by decide) dL_law_1101 dL_law_1102 dL_law_1104 dL_law_1105 dL_law_1106 ?_
  refine gVw_i E hK hP hD hS hA (cX11_waysc _ _ e1) kV_X11_ways wd_3_124 rfl rfl (q_main ks (adU ad bl) σ) rfl rfl rfl ⟨Nat.le_of_ble_eq_true rfl, Nat.le_of_ble_eq_true rfl⟩ ⟨by show _ ≤ 601024; omega, by show _ ≤ 7293034; omega⟩ hl.1 (Nat.le_of_ble_eq_true rfl) rfl dL_law_1107 (fun H locs hP hD hS => ?_)
  refine lv_aload_n hx hb dL_law_1110 rfl (lv_at hl 2 rfl) ?_
  refine law_arg C0 hS hl h1 (by decide) dL_law_1111 dL_law_1112 dL_law_1114 dL_law_1115 dL_law_1116 ?_
  refine law_arg C0 hS hl h2 (by decide) dL_law_1117 dL_law_1118 dL_law_1120 dL_law_1121 dL_law_1122 ?_
  refine gVr_i E hK hP (cX12_waysc _ _ e2) kV_X12_ways wd_6_119 rfl rfl (q_model ks (adU ad bl) σ1) rfl rfl rfl ⟨Nat.le_of_ble_eq_true rfl, Nat.le_of_ble_eq_true rfl⟩ ⟨by show _ ≤ 601024; omega, by show _ ≤ 7293034; omega⟩ hl.1 (Nat.le_of_ble_eq_true rfl) rfl dL_law_1123 ?_
  refine lv_icmp_eq (tgt := 2330) hx hb dL_law_1126 (by decide) (fun _ => ?_) (fun c0 => absurd rfl c0)
  exact kk _ _ _ _ _ _ _ (by omega) (by omega) hI2 hP hD hS hl
set_option maxHeartbeats 2000000 in
theorem lawc_19 (hCs : Cases Inv) (C0 : LawCtx p l s m c b L xs dC dI ks) {nC nS : Nat} (kk : LawK p l e s m below meth c b dC dI ks ad Q Inv nC nS i) (h1 : vp_in (i + 1) L) (h2 : vp_in (i + 2) L) (h3 : vp_in (i + 3) L) (h4 : vp_in (i + 4) L) (h5 : vp_in (i + 5) L) (hcl : cells + 1000 ≤ nC) (hsl : slots + 2000 ≤ nS) (hC9 : nC ≤ 601024) (hS9 : nS ≤ 7293034) (hI : Inv σ) (hP : va_P (dC, dI) vwCl (wG ks (adU ad bl) σ) H) (hD : va_D (lawA s) (wG ks (adU ad bl) σ)) (hS : va_S (lawA s) s.heap H locs) (hl : lv_has ls 8 [(4, .int i), (3, .ref (ad 13 2)), (2, .ref (ad 14 0)), (1, .ref (ad 0 0)), (0, .ref b)]) : W p l e room_1 s m #[.ref b] below meth c H locs cells slots Q (F0 m 1131 ls []) := by
  have E := C0.1
  have hx := E.1
  have hb := E.2.1
  have hK := C0.2.1
  have hA : ∀ q, s.heap.size ≤ q → lawA s q := fun q h => h
  obtain ⟨r, σ1, e1, e2, hI2⟩ := hCs.c19 σ hI (xs (i + 1).toNatClampNeg) (xs (i + 2).toNatClampNeg) (xs (i + 3).toNatClampNeg)
  refine lv_aload_n hx hb dL_law_1131 rfl (lv_at hl 3 rfl) ?_
  refine law_arg C0 hS hl h1 (by decide) dL_law_1132 dL_law_1133 dL_law_1135 dL_law_1136 dL_law_1137 ?_
  refine law_arg C0 hS hl h2 (by decide) dL_law_1138 dL_law_1139 dL_law_1141 dL_law_1142 dL_law_1143 ?_
  refine law_arg C0 hS hl h3 (by decide) dL_law_1144 dL_law_1145 dL_law_1147 dL_law_1148 dL_law_1149 ?_
  refine gVw_i E hK hP hD hS hA (cX11_tunec _ _ _ e1) kV_X11_tune wd_3_132 rfl rfl (q_main ks (adU ad bl) σ) rfl rfl rfl ⟨Nat.le_of_ble_eq_true rfl, Nat.le_of_ble_eq_true rfl⟩ ⟨by show _ ≤ 601024; omega, by show _ ≤ 7293034; omega⟩ hl.1 (Nat.le_of_ble_eq_true rfl) rfl dL_law_1150 (fun H locs hP hD hS => ?_)
  refine lv_aload_n hx hb dL_law_1153 rfl (lv_at hl 2 rfl) ?_
  refine law_arg C0 hS hl h1 (by decide) dL_law_1154 dL_law_1155 dL_law_1157 dL_law_1158 dL_law_1159 ?_
  refine law_arg C0 hS hl h2 (by decide) dL_law_1160 dL_law_1161 dL_law_1163 dL_law_1164 dL_law_1165 ?_
  refine law_arg C0 hS hl h3 (by decide) dL_law_1166 dL_law_1167 dL_law_1169 dL_law_1170 dL_law_1171 ?_
  refine gVr_i E hK hP (cX12_tunec _ _ _ e2) kV_X12_tune wd_6_131 rfl rfl (q_model ks (adU ad bl) σ1) rfl rfl rfl ⟨Nat.le_of_ble_eq_true rfl, Nat.le_of_ble_eq_true rfl⟩ ⟨by show _ ≤ 601024; omega, by show _ ≤ 7293034; omega⟩ hl.1 (Nat.le_of_ble_eq_true rfl) rfl dL_law_1172 ?_
  refine lv_icmp_eq (tgt := 2330) hx hb dL_law_1175 (by decide) (fun _ => ?_) (fun c0 => absurd rfl c0)
  exact kk _ _ _ _ _ _ _ (by omega) (by omega) hI2 hP hD hS hl
set_option maxHeartbeats 2000000 in
theorem lawc_20 (hCs : Cases Inv) (C0 : LawCtx p l s m c b L xs dC dI ks) {nC nS : Nat} (kk : LawK p l e s m below meth c b dC dI ks ad Q Inv nC nS i) (h1 : vp_in (i + 1) L) (h2 : vp_in (i + 2) L) (h3 : vp_in (i + 3) L) (h4 : vp_in (i + 4) L) (h5 : vp_in (i + 5) L) (hcl : cells + 1000 ≤ nC) (hsl : slots + 2000 ≤ nS) (hC9 : nC ≤ 601024) (hS9 : nS ≤ 7293034) (hI : Inv σ) (hP : va_P (dC, dI) vwCl (wG ks (adU ad bl) σ) H) (hD : va_D (lawA s) (wG ks (adU ad bl) σ)) (hS : va_S (lawA s) s.heap H locs) (hl : lv_has ls 8 [(4, .int i), (3, .ref (ad 13 2)), (2, .ref (ad 14 0)), (1, .ref (ad 0 0)), (0, .ref b)]) : W p l e room_1 s m #[.ref b] below meth c H locs cells slots Q (F0 m 1180 ls []) := by
  have E := C0.1
  have hx := E.1
  have hb := E.2.1
  have hK := C0.2.1
  have hA : ∀ q, s.heap.size ≤ q → lawA s q := fun q h => h
  obtain ⟨r, e1, e2⟩ := hCs.c20 σ hI (xs (i + 1).toNatClampNeg) (xs (i + 2).toNatClampNeg) (xs (i + 3).toNatClampNeg)
  refine lv_aload_n hx hb dL_law_1180 rfl (lv_at hl 3 rfl) ?_
  refine law_arg C0 hS hl h1 (by decide) dL_law_1181 dL_law_1182 dL_law_1184 dL_law_1185 dL_law_1186 ?_
  refine law_arg C0 hS hl h2 (by decide) dL_law_1187 dL_law_1188 dL_law_1190 dL_law_1191 dL_law_1192 ?_
  refine law_arg C0 hS hl h3 (by decide) dL_law_1193 dL_law_1194 dL_law_1196 dL_law_1197 dL_law_1198 ?_
  refine gVr_i E hK hP (cX11_lastsc _ _ _ e1) kV_X11_lasts wd_3_144 rfl rfl (q_main ks (adU ad bl) σ) rfl rfl rfl ⟨Nat.le_of_ble_eq_true rfl, Nat.le_of_ble_eq_true rfl⟩ ⟨by show _ ≤ 601024; omega, by show _ ≤ 7293034; omega⟩ hl.1 (Nat.le_of_ble_eq_true rfl) rfl dL_law_1199 ?_
  refine lv_aload_n hx hb dL_law_1202 rfl (lv_at hl 2 rfl) ?_
  refine law_arg C0 hS hl h1 (by decide) dL_law_1203 dL_law_1204 dL_law_1206 dL_law_1207 dL_law_1208 ?_
  refine law_arg C0 hS hl h2 (by decide) dL_law_1209 dL_law_1210 dL_law_1212 dL_law_1213 dL_law_1214 ?_
  refine law_arg C0 hS hl h3 (by decide) dL_law_1215 dL_law_1216 dL_law_1218 dL_law_1219 dL_law_1220 ?_
  refine gVr_i E hK hP (cX12_lastsc _ _ _ e2) kV_X12_lasts wd_6_140 rfl rfl (q_model ks (adU ad bl) σ) rfl rfl rfl ⟨Nat.le_of_ble_eq_true rfl, Nat.le_of_ble_eq_true rfl⟩ ⟨by show _ ≤ 601024; omega, by show _ ≤ 7293034; omega⟩ hl.1 (Nat.le_of_ble_eq_true rfl) rfl dL_law_1221 ?_
  refine lv_icmp_eq (tgt := 2330) hx hb dL_law_1224 (by decide) (fun _ => ?_) (fun c0 => absurd rfl c0)
  exact kk _ _ _ _ _ _ _ (by omega) (by omega) hI hP hD hS hl
set_option maxHeartbeats 2000000 in
theorem lawc_21 (hCs : Cases Inv) (C0 : LawCtx p l s m c b L xs dC dI ks) {nC nS : Nat} (kk : LawK p l e s m below meth c b dC dI ks ad Q Inv nC nS i) (h1 : vp_in (i + 1) L) (h2 : vp_in (i + 2) L) (h3 : vp_in (i + 3) L) (h4 : vp_in (i + 4) L) (h5 : vp_in (i + 5) L) (hcl : cells + 1000 ≤ nC) (hsl : slots + 2000 ≤ nS) (hC9 : nC ≤ 601024) (hS9 : nS ≤ 7293034) (hI : Inv σ) (hP : va_P (dC, dI) vwCl (wG ks (adU ad bl) σ) H) (hD : va_D (lawA s) (wG ks (adU ad bl) σ)) (hS : va_S (lawA s) s.heap H locs) (hl : lv_has ls 8 [(4, .int i), (3, .ref (ad 13 2)), (2, .ref (ad 14 0)), (1, .ref (ad 0 0)), (0, .ref b)]) : W p l e room_1 s m #[.ref b] below meth c H locs cells slots Q (F0 m 1229 ls []) := by
  have E := C0.1
  have hx := E.1
  have hb := E.2.1
  have hK := C0.2.1
  have hA : ∀ q, s.heap.size ≤ q → lawA s q := fun q h => h
  obtain ⟨r, σ1, σ2, e1, e2, hI2⟩ := hCs.c21 σ hI (xs (i + 1).toNatClampNeg) (xs (i + 2).toNatClampNeg) (xs (i + 3).toNatClampNeg)
  refine lv_aload_n hx hb dL_law_1229 rfl (lv_at hl 3 rfl) ?_
  refine law_arg C0 hS hl h1 (by decide) dL_law_1230 dL_law_1231 dL_law_1233 dL_law_1234 dL_law_1235 ?_
  refine law_arg C0 hS hl h2 (by decide) dL_law_1236 dL_law_1237 dL_law_1239 dL_law_1240 dL_law_1241 ?_
  refine law_arg C0 hS hl h3 (by decide) dL_law_1242 dL_law_1243 dL_law_1245 dL_law_1246 dL_law_1247 ?_
  refine gVw_i E hK hP hD hS hA (cX11_bestForcec _ _ _ e1) kV_X11_bestForce wd_3_152 rfl rfl (q_main ks (adU ad bl) σ) rfl rfl rfl ⟨Nat.le_of_ble_eq_true rfl, Nat.le_of_ble_eq_true rfl⟩ ⟨by show _ ≤ 601024; omega, by show _ ≤ 7293034; omega⟩ hl.1 (Nat.le_of_ble_eq_true rfl) rfl dL_law_1248 (fun H locs hP hD hS => ?_)
  refine lv_aload_n hx hb dL_law_1251 rfl (lv_at hl 2 rfl) ?_
  refine law_arg C0 hS hl h1 (by decide) dL_law_1252 dL_law_1253 dL_law_1255 dL_law_1256 dL_law_1257 ?_
  refine law_arg C0 hS hl h2 (by decide) dL_law_1258 dL_law_1259 dL_law_1261 dL_law_1262 dL_law_1263 ?_
  refine law_arg C0 hS hl h3 (by decide) dL_law_1264 dL_law_1265 dL_law_1267 dL_law_1268 dL_law_1269 ?_
  refine gVw_i E hK hP hD hS hA (cX12_bestForcec _ _ _ e2) kV_X12_bestForce wd_6_148 rfl rfl (q_model ks (adU ad bl) σ1) rfl rfl rfl ⟨Nat.le_of_ble_eq_true rfl, Nat.le_of_ble_eq_true rfl⟩ ⟨by show _ ≤ 601024; omega, by show _ ≤ 7293034; omega⟩ hl.1 (Nat.le_of_ble_eq_true rfl) rfl dL_law_1270 (fun H locs hP hD hS => ?_)
  refine lv_icmp_eq (tgt := 2330) hx hb dL_law_1273 (by decide) (fun _ => ?_) (fun c0 => absurd rfl c0)
  exact kk _ _ _ _ _ _ _ (by omega) (by omega) hI2 hP hD hS hl
set_option maxHeartbeats 2000000 in
theorem lawc_22 (hCs : Cases Inv) (C0 : LawCtx p l s m c b L xs dC dI ks) {nC nS : Nat} (kk : LawK p l e s m below meth c b dC dI ks ad Q Inv nC nS i) (h1 : vp_in (i + 1) L) (h2 : vp_in (i + 2) L) (h3 : vp_in (i + 3) L) (h4 : vp_in (i + 4) L) (h5 : vp_in (i + 5) L) (hcl : cells + 1000 ≤ nC) (hsl : slots + 2000 ≤ nS) (hC9 : nC ≤ 601024) (hS9 : nS ≤ 7293034) (hI : Inv σ) (hP : va_P (dC, dI) vwCl (wG ks (adU ad bl) σ) H) (hD : va_D (lawA s) (wG ks (adU ad bl) σ)) (hS : va_S (lawA s) s.heap H locs) (hl : lv_has ls 8 [(4, .int i), (3, .ref (ad 13 2)), (2, .ref (ad 14 0)), (1, .ref (ad 0 0)), (0, .ref b)]) : W p l e room_1 s m #[.ref b] below meth c H locs cells slots Q (F0 m 1278 ls []) := by
  have E := C0.1
  have hx := E.1
  have hb := E.2.1
  have hK := C0.2.1
  have hA : ∀ q, s.heap.size ≤ q → lawA s q := fun q h => h
  obtain ⟨r, e1, e2⟩ := hCs.c22 σ hI (xs (i + 1).toNatClampNeg) (xs (i + 2).toNatClampNeg) (xs (i + 3).toNatClampNeg)
  refine lv_aload_n hx hb dL_law_1278 rfl (lv_at hl 3 rfl) ?_
  refine law_arg C0 hS hl h1 (by decide) dL_law_1279 dL_law_1280 dL_law_1282 dL_law_1283 dL_law_1284 ?_
  refine law_arg C0 hS hl h2 (by decide) dL_law_1285 dL_law_1286 dL_law_1288 dL_law_1289 dL_law_1290 ?_
  refine law_arg C0 hS hl h3 (by decide) dL_law_1291 dL_law_1292 dL_law_1294 dL_law_1295 dL_law_1296 ?_
  refine gVr_i E hK hP (cX11_clashc _ _ _ e1) kV_X11_clash wd_3_156 rfl rfl (q_main ks (adU ad bl) σ) rfl rfl rfl ⟨Nat.le_of_ble_eq_true rfl, Nat.le_of_ble_eq_true rfl⟩ ⟨by show _ ≤ 601024; omega, by show _ ≤ 7293034; omega⟩ hl.1 (Nat.le_of_ble_eq_true rfl) rfl dL_law_1297 ?_
  refine lv_aload_n hx hb dL_law_1300 rfl (lv_at hl 2 rfl) ?_
  refine law_arg C0 hS hl h1 (by decide) dL_law_1301 dL_law_1302 dL_law_1304 dL_law_1305 dL_law_1306 ?_
  refine law_arg C0 hS hl h2 (by decide) dL_law_1307 dL_law_1308 dL_law_1310 dL_law_1311 dL_law_1312 ?_
  refine law_arg C0 hS hl h3 (by decide) dL_law_1313 dL_law_1314 dL_law_1316 dL_law_1317 dL_law_1318 ?_
  refine gVr_i E hK hP (cX12_clashc _ _ _ e2) kV_X12_clash wd_6_152 rfl rfl (q_model ks (adU ad bl) σ) rfl rfl rfl ⟨Nat.le_of_ble_eq_true rfl, Nat.le_of_ble_eq_true rfl⟩ ⟨by show _ ≤ 601024; omega, by show _ ≤ 7293034; omega⟩ hl.1 (Nat.le_of_ble_eq_true rfl) rfl dL_law_1319 ?_
  refine lv_icmp_eq (tgt := 2330) hx hb dL_law_1322 (by decide) (fun _ => ?_) (fun c0 => absurd rfl c0)
  exact kk _ _ _ _ _ _ _ (by omega) (by omega) hI hP hD hS hl
set_option maxHeartbeats 2000000 in
theorem lawc_23 (hCs : Cases Inv) (C0 : LawCtx p l s m c b L xs dC dI ks) {nC nS : Nat} (kk : LawK p l e s m below meth c b dC dI ks ad Q Inv nC nS i) (h1 : vp_in (i + 1) L) (h2 : vp_in (i + 2) L) (h3 : vp_in (i + 3) L) (h4 : vp_in (i + 4) L) (h5 : vp_in (i + 5) L) (hcl : cells + 1000 ≤ nC) (hsl : slots + 2000 ≤ nS) (hC9 : nC ≤ 601024) (hS9 : nS ≤ 7293034) (hI : Inv σ) (hP : va_P (dC, dI) vwCl (wG ks (adU ad bl) σ) H) (hD : va_D (lawA s) (wG ks (adU ad bl) σ)) (hS : va_S (lawA s) s.heap H locs) (hl : lv_has ls 8 [(4, .int i), (3, .ref (ad 13 2)), (2, .ref (ad 14 0)), (1, .ref (ad 0 0)), (0, .ref b)]) : W p l e room_1 s m #[.ref b] below meth c H locs cells slots Q (F0 m 1327 ls []) := by
  have E := C0.1
  have hx := E.1
  have hb := E.2.1
  have hK := C0.2.1
  have hA : ∀ q, s.heap.size ≤ q → lawA s q := fun q h => h
  obtain ⟨r, e1, e2⟩ := hCs.c23 σ hI (xs (i + 1).toNatClampNeg) (xs (i + 2).toNatClampNeg)
  refine lv_aload_n hx hb dL_law_1327 rfl (lv_at hl 3 rfl) ?_
  refine law_arg C0 hS hl h1 (by decide) dL_law_1328 dL_law_1329 dL_law_1331 dL_law_1332 dL_law_1333 ?_
  refine law_arg C0 hS hl h2 (by decide) dL_law_1334 dL_law_1335 dL_law_1337 dL_law_1338 dL_law_1339 ?_
  refine gVr_i E hK hP (cX11_heardc _ _ e1) kV_X11_heard wd_3_164 rfl rfl (q_main ks (adU ad bl) σ) rfl rfl rfl ⟨Nat.le_of_ble_eq_true rfl, Nat.le_of_ble_eq_true rfl⟩ ⟨by show _ ≤ 601024; omega, by show _ ≤ 7293034; omega⟩ hl.1 (Nat.le_of_ble_eq_true rfl) rfl dL_law_1340 ?_
  refine lv_aload_n hx hb dL_law_1343 rfl (lv_at hl 2 rfl) ?_
  refine law_arg C0 hS hl h1 (by decide) dL_law_1344 dL_law_1345 dL_law_1347 dL_law_1348 dL_law_1349 ?_
  refine law_arg C0 hS hl h2 (by decide) dL_law_1350 dL_law_1351 dL_law_1353 dL_law_1354 dL_law_1355 ?_
  refine gVr_i E hK hP (cX12_heardc _ _ e2) kV_X12_heard wd_6_156 rfl rfl (q_model ks (adU ad bl) σ) rfl rfl rfl ⟨Nat.le_of_ble_eq_true rfl, Nat.le_of_ble_eq_true rfl⟩ ⟨by show _ ≤ 601024; omega, by show _ ≤ 7293034; omega⟩ hl.1 (Nat.le_of_ble_eq_true rfl) rfl dL_law_1356 ?_
  refine lv_icmp_eq (tgt := 2330) hx hb dL_law_1359 (by decide) (fun _ => ?_) (fun c0 => absurd rfl c0)
  exact kk _ _ _ _ _ _ _ (by omega) (by omega) hI hP hD hS hl
set_option maxHeartbeats 2000000 in
theorem lawc_24 (hCs : Cases Inv) (C0 : LawCtx p l s m c b L xs dC dI ks) {nC nS : Nat} (kk : LawK p l e s m below meth c b dC dI ks ad Q Inv nC nS i) (h1 : vp_in (i + 1) L) (h2 : vp_in (i + 2) L) (h3 : vp_in (i + 3) L) (h4 : vp_in (i + 4) L) (h5 : vp_in (i + 5) L) (hcl : cells + 1000 ≤ nC) (hsl : slots + 2000 ≤ nS) (hC9 : nC ≤ 601024) (hS9 : nS ≤ 7293034) (hI : Inv σ) (hP : va_P (dC, dI) vwCl (wG ks (adU ad bl) σ) H) (hD : va_D (lawA s) (wG ks (adU ad bl) σ)) (hS : va_S (lawA s) s.heap H locs) (hl : lv_has ls 8 [(4, .int i), (3, .ref (ad 13 2)), (2, .ref (ad 14 0)), (1, .ref (ad 0 0)), (0, .ref b)]) : W p l e room_1 s m #[.ref b] below meth c H locs cells slots Q (F0 m 1364 ls []) := by
  have E := C0.1
  have hx := E.1
  have hb := E.2.1
  have hK := C0.2.1
  have hA : ∀ q, s.heap.size ≤ q → lawA s q := fun q h => h
  obtain ⟨r, σ1, σ2, e1, e2, hI2⟩ := hCs.c24 σ hI (xs (i + 1).toNatClampNeg) (xs (i + 2).toNatClampNeg) (xs (i + 3).toNatClampNeg) (xs (i + 4).toNatClampNeg)
  refine lv_aload_n hx hb dL_law_1364 rfl (lv_at hl 3 rfl) ?_
  refine law_arg C0 hS hl h1 (by decide) dL_law_1365 dL_law_1366 dL_law_1368 dL_law_1369 dL_law_1370 ?_
  refine law_arg C0 hS hl h2 (by decide) dL_law_1371 dL_law_1372 dL_law_1374 dL_law_1375 dL_law_1376 ?_
  refine law_arg C0 hS hl h3 (by decide) dL_law_1377 dL_law_1378 dL_law_1380 dL_law_1381 dL_law_1382 ?_
  refine law_arg C0 hS hl h4 (by decide) dL_law_1383 dL_law_1384 dL_law_1386 dL_law_1387 dL_law_1388 ?_
  refine gVw_l E hK hP hD hS hA (cX11_nearerc _ _ _ _ e1) kV_X11_nearer wd_3_168 rfl rfl (q_main ks (adU ad bl) σ) rfl rfl rfl ⟨Nat.le_of_ble_eq_true rfl, Nat.le_of_ble_eq_true rfl⟩ ⟨by show _ ≤ 601024; omega, by show _ ≤ 7293034; omega⟩ hl.1 (Nat.le_of_ble_eq_true rfl) rfl dL_law_1389 (fun H locs hP hD hS => ?_)
  refine lv_aload_n hx hb dL_law_1392 rfl (lv_at hl 2 rfl) ?_
  refine law_arg C0 hS hl h1 (by decide) dL_law_1393 dL_law_1394 dL_law_1396 dL_law_1397 dL_law_1398 ?_
  refine law_arg C0 hS hl h2 (by decide) dL_law_1399 dL_law_1400 dL_law_1402 dL_law_1403 dL_law_1404 ?_
  refine law_arg C0 hS hl h3 (by decide) dL_law_1405 dL_law_1406 dL_law_1408 dL_law_1409 dL_law_1410 ?_
  refine law_arg C0 hS hl h4 (by decide) dL_law_1411 dL_law_1412 dL_law_1414 dL_law_1415 dL_law_1416 ?_
  refine gVw_l E hK hP hD hS hA (cX12_nearerc _ _ _ _ e2) kV_X12_nearer wd_6_160 rfl rfl (q_model ks (adU ad bl) σ1) rfl rfl rfl ⟨Nat.le_of_ble_eq_true rfl, Nat.le_of_ble_eq_true rfl⟩ ⟨by show _ ≤ 601024; omega, by show _ ≤ 7293034; omega⟩ hl.1 (Nat.le_of_ble_eq_true rfl) rfl dL_law_1417 (fun H locs hP hD hS => ?_)
  refine W.lcmp hx hb dL_law_1420 ?_
  refine lv_if_eq (tgt := 2330) hx hb dL_law_1421 (by decide) (fun _ => ?_) (fun c2 => absurd (lg_cmp_self r) c2)
  exact kk _ _ _ _ _ _ _ (by omega) (by omega) hI2 hP hD hS hl
set_option maxHeartbeats 2000000 in
theorem lawc_25 (hCs : Cases Inv) (C0 : LawCtx p l s m c b L xs dC dI ks) {nC nS : Nat} (kk : LawK p l e s m below meth c b dC dI ks ad Q Inv nC nS i) (h1 : vp_in (i + 1) L) (h2 : vp_in (i + 2) L) (h3 : vp_in (i + 3) L) (h4 : vp_in (i + 4) L) (h5 : vp_in (i + 5) L) (hcl : cells + 1000 ≤ nC) (hsl : slots + 2000 ≤ nS) (hC9 : nC ≤ 601024) (hS9 : nS ≤ 7293034) (hI : Inv σ) (hP : va_P (dC, dI) vwCl (wG ks (adU ad bl) σ) H) (hD : va_D (lawA s) (wG ks (adU ad bl) σ)) (hS : va_S (lawA s) s.heap H locs) (hl : lv_has ls 8 [(4, .int i), (3, .ref (ad 13 2)), (2, .ref (ad 14 0)), (1, .ref (ad 0 0)), (0, .ref b)]) : W p l e room_1 s m #[.ref b] below meth c H locs cells slots Q (F0 m 1426 ls []) := by
  have E := C0.1
  have hx := E.1
  have hb := E.2.1
  have hK := C0.2.1
  have hA : ∀ q, s.heap.size ≤ q → lawA s q := fun q h => h
  obtain ⟨r, σ1, σ2, e1, e2, hI2⟩ := hCs.c25 σ hI (xs (i + 1).toNatClampNeg) (xs (i + 2).toNatClampNeg)
  refine lv_aload_n hx hb dL_law_1426 rfl (lv_at hl 3 rfl) ?_
  refine law_arg C0 hS hl h1 (by decide) dL_law_1427 dL_law_1428 dL_law_1430 dL_law_1431 dL_law_1432 ?_
  refine law_arg C0 hS hl h2 (by decide) dL_law_1433 dL_law_1434 dL_law_1436 dL_law_1437 dL_law_1438 ?_
  refine gVw_i E hK hP hD hS hA (cX11_oftenc _ _ e1) kV_X11_often wd_3_194 rfl rfl (q_main ks (adU ad bl) σ) rfl rfl rfl ⟨Nat.le_of_ble_eq_true rfl, Nat.le_of_ble_eq_true rfl⟩ ⟨by show _ ≤ 601024; omega, by show _ ≤ 7293034; omega⟩ hl.1 (Nat.le_of_ble_eq_true rfl) rfl dL_law_1439 (fun H locs hP hD hS => ?_)
  refine lv_aload_n hx hb dL_law_1442 rfl (lv_at hl 2 rfl) ?_
  refine law_arg C0 hS hl h1 (by decide) dL_law_1443 dL_law_1444 dL_law_1446 dL_law_1447 dL_law_1448 ?_
  refine law_arg C0 hS hl h2 (by decide) dL_law_1449 dL_law_1450 dL_law_1452 dL_law_1453 dL_law_1454 ?_
  refine gVw_i E hK hP hD hS hA (cX12_oftenc _ _ e2) kV_X12_often wd_6_182 rfl rfl (q_model ks (adU ad bl) σ1) rfl rfl rfl ⟨Nat.le_of_ble_eq_true rfl, Nat.le_of_ble_eq_true rfl⟩ ⟨by show _ ≤ 601024; omega, by show _ ≤ 7293034; omega⟩ hl.1 (Nat.le_of_ble_eq_true rfl) rfl dL_law_1455 (fun H locs hP hD hS => ?_)
  refine lv_icmp_eq (tgt := 2330) hx hb dL_law_1458 (by decide) (fun _ => ?_) (fun c0 => absurd rfl c0)
  exact kk _ _ _ _ _ _ _ (by omega) (by omega) hI2 hP hD hS hl
set_option maxHeartbeats 2000000 in
theorem lawc_26 (hCs : Cases Inv) (C0 : LawCtx p l s m c b L xs dC dI ks) {nC nS : Nat} (kk : LawK p l e s m below meth c b dC dI ks ad Q Inv nC nS i) (h1 : vp_in (i + 1) L) (h2 : vp_in (i + 2) L) (h3 : vp_in (i + 3) L) (h4 : vp_in (i + 4) L) (h5 : vp_in (i + 5) L) (hcl : cells + 1000 ≤ nC) (hsl : slots + 2000 ≤ nS) (hC9 : nC ≤ 601024) (hS9 : nS ≤ 7293034) (hI : Inv σ) (hP : va_P (dC, dI) vwCl (wG ks (adU ad bl) σ) H) (hD : va_D (lawA s) (wG ks (adU ad bl) σ)) (hS : va_S (lawA s) s.heap H locs) (hl : lv_has ls 8 [(4, .int i), (3, .ref (ad 13 2)), (2, .ref (ad 14 0)), (1, .ref (ad 0 0)), (0, .ref b)]) : W p l e room_1 s m #[.ref b] below meth c H locs cells slots Q (F0 m 1463 ls []) := by
  have E := C0.1
  have hx := E.1
  have hb := E.2.1
  have hK := C0.2.1
  have hA : ∀ q, s.heap.size ≤ q → lawA s q := fun q h => h
  obtain ⟨r, e1, e2⟩ := hCs.c26 σ hI (xs (i + 1).toNatClampNeg) (xs (i + 2).toNatClampNeg) (xs (i + 3).toNatClampNeg)
  refine lv_aload_n hx hb dL_law_1463 rfl (lv_at hl 3 rfl) ?_
  refine law_arg C0 hS hl h1 (by decide) dL_law_1464 dL_law_1465 dL_law_1467 dL_law_1468 dL_law_1469 ?_
  refine law_arg C0 hS hl h2 (by decide) dL_law_1470 dL_law_1471 dL_law_1473 dL_law_1474 dL_law_1475 ?_
  refine law_arg C0 hS hl h3 (by decide) dL_law_1476 dL_law_1477 dL_law_1479 dL_law_1480 dL_law_1481 ?_
  refine gVr_l E hK hP (cX11_answerc _ _ _ e1) kV_X11_answer wd_3_199 rfl rfl (q_main ks (adU ad bl) σ) rfl rfl rfl ⟨Nat.le_of_ble_eq_true rfl, Nat.le_of_ble_eq_true rfl⟩ ⟨by show _ ≤ 601024; omega, by show _ ≤ 7293034; omega⟩ hl.1 (Nat.le_of_ble_eq_true rfl) rfl dL_law_1482 ?_
  refine lv_aload_n hx hb dL_law_1485 rfl (lv_at hl 2 rfl) ?_
  refine law_arg C0 hS hl h1 (by decide) dL_law_1486 dL_law_1487 dL_law_1489 dL_law_1490 dL_law_1491 ?_
  refine law_arg C0 hS hl h2 (by decide) dL_law_1492 dL_law_1493 dL_law_1495 dL_law_1496 dL_law_1497 ?_
  refine law_arg C0 hS hl h3 (by decide) dL_law_1498 dL_law_1499 dL_law_1501 dL_law_1502 dL_law_1503 ?_
  refine gVr_l E hK hP (cX12_answerc _ _ _ e2) kV_X12_answer wd_6_187 rfl rfl (q_model ks (adU ad bl) σ) rfl rfl rfl ⟨Nat.le_of_ble_eq_true rfl, Nat.le_of_ble_eq_true rfl⟩ ⟨by show _ ≤ 601024; omega, by show _ ≤ 7293034; omega⟩ hl.1 (Nat.le_of_ble_eq_true rfl) rfl dL_law_1504 ?_
  refine W.lcmp hx hb dL_law_1507 ?_
  refine lv_if_eq (tgt := 2330) hx hb dL_law_1508 (by decide) (fun _ => ?_) (fun c2 => absurd (lg_cmp_self r) c2)
  exact kk _ _ _ _ _ _ _ (by omega) (by omega) hI hP hD hS hl
set_option maxHeartbeats 2000000 in
theorem lawc_27 (hCs : Cases Inv) (C0 : LawCtx p l s m c b L xs dC dI ks) {nC nS : Nat} (kk : LawK p l e s m below meth c b dC dI ks ad Q Inv nC nS i) (h1 : vp_in (i + 1) L) (h2 : vp_in (i + 2) L) (h3 : vp_in (i + 3) L) (h4 : vp_in (i + 4) L) (h5 : vp_in (i + 5) L) (hcl : cells + 1000 ≤ nC) (hsl : slots + 2000 ≤ nS) (hC9 : nC ≤ 601024) (hS9 : nS ≤ 7293034) (hI : Inv σ) (hP : va_P (dC, dI) vwCl (wG ks (adU ad bl) σ) H) (hD : va_D (lawA s) (wG ks (adU ad bl) σ)) (hS : va_S (lawA s) s.heap H locs) (hl : lv_has ls 8 [(4, .int i), (3, .ref (ad 13 2)), (2, .ref (ad 14 0)), (1, .ref (ad 0 0)), (0, .ref b)]) : W p l e room_1 s m #[.ref b] below meth c H locs cells slots Q (F0 m 1513 ls []) := by
  have E := C0.1
  have hx := E.1
  have hb := E.2.1
  have hK := C0.2.1
  have hA : ∀ q, s.heap.size ≤ q → lawA s q := fun q h => h
  obtain ⟨r, σ1, σ2, e1, e2, hI2⟩ := hCs.c27 σ hI (xs (i + 1).toNatClampNeg) (xs (i + 2).toNatClampNeg) (xs (i + 3).toNatClampNeg) (xs (i + 4).toNatClampNeg)
  refine lv_aload_n hx hb dL_law_1513 rfl (lv_at hl 3 rfl) ?_
  refine law_arg C0 hS hl h1 (by decide) dL_law_1514 dL_law_1515 dL_law_1517 dL_law_1518 dL_law_1519 ?_
  refine law_arg C0 hS hl h2 (by decide) dL_law_1520 dL_law_1521 dL_law_1523 dL_law_1524 dL_law_1525 ?_
  refine law_arg C0 hS hl h3 (by decide) dL_law_1526 dL_law_1527 dL_law_1529 dL_law_1530 dL_law_1531 ?_
  refine law_arg C0 hS hl h4 (by decide) dL_law_1532 dL_law_1533 dL_law_1535 dL_law_1536 dL_law_1537 ?_
  refine gVw_i E hK hP hD hS hA (cX11_tellingc _ _ _ _ e1) kV_X11_telling wd_3_203 rfl rfl (q_main ks (adU ad bl) σ) rfl rfl rfl ⟨Nat.le_of_ble_eq_true rfl, Nat.le_of_ble_eq_true rfl⟩ ⟨by show _ ≤ 601024; omega, by show _ ≤ 7293034; omega⟩ hl.1 (Nat.le_of_ble_eq_true rfl) rfl dL_law_1538 (fun H locs hP hD hS => ?_)
  refine lv_aload_n hx hb dL_law_1541 rfl (lv_at hl 2 rfl) ?_
  refine law_arg C0 hS hl h1 (by decide) dL_law_1542 dL_law_1543 dL_law_1545 dL_law_1546 dL_law_1547 ?_
  refine law_arg C0 hS hl h2 (by decide) dL_law_1548 dL_law_1549 dL_law_1551 dL_law_1552 dL_law_1553 ?_
  refine law_arg C0 hS hl h3 (by decide) dL_law_1554 dL_law_1555 dL_law_1557 dL_law_1558 dL_law_1559 ?_
  refine law_arg C0 hS hl h4 (by decide) dL_law_1560 dL_law_1561 dL_law_1563 dL_law_1564 dL_law_1565 ?_
  refine gVw_i E hK hP hD hS hA (cX12_tellingc _ _ _ _ e2) kV_X12_telling wd_6_193 rfl rfl (q_model ks (adU ad bl) σ1) rfl rfl rfl ⟨Nat.le_of_ble_eq_true rfl, Nat.le_of_ble_eq_true rfl⟩ ⟨by show _ ≤ 601024; omega, by show _ ≤ 7293034; omega⟩ hl.1 (Nat.le_of_ble_eq_true rfl) rfl dL_law_1566 (fun H locs hP hD hS => ?_)
  refine lv_icmp_eq (tgt := 2330) hx hb dL_law_1569 (by decide) (fun _ => ?_) (fun c0 => absurd rfl c0)
  exact kk _ _ _ _ _ _ _ (by omega) (by omega) hI2 hP hD hS hl
set_option maxHeartbeats 2000000 in
theorem lawc_28 (hCs : Cases Inv) (C0 : LawCtx p l s m c b L xs dC dI ks) {nC nS : Nat} (kk : LawK p l e s m below meth c b dC dI ks ad Q Inv nC nS i) (h1 : vp_in (i + 1) L) (h2 : vp_in (i + 2) L) (h3 : vp_in (i + 3) L) (h4 : vp_in (i + 4) L) (h5 : vp_in (i + 5) L) (hcl : cells + 1000 ≤ nC) (hsl : slots + 2000 ≤ nS) (hC9 : nC ≤ 601024) (hS9 : nS ≤ 7293034) (hI : Inv σ) (hP : va_P (dC, dI) vwCl (wG ks (adU ad bl) σ) H) (hD : va_D (lawA s) (wG ks (adU ad bl) σ)) (hS : va_S (lawA s) s.heap H locs) (hl : lv_has ls 8 [(4, .int i), (3, .ref (ad 13 2)), (2, .ref (ad 14 0)), (1, .ref (ad 0 0)), (0, .ref b)]) : W p l e room_1 s m #[.ref b] below meth c H locs cells slots Q (F0 m 1574 ls []) := by
  have E := C0.1
  have hx := E.1
  have hb := E.2.1
  have hK := C0.2.1
  have hA : ∀ q, s.heap.size ≤ q → lawA s q := fun q h => h
  obtain ⟨r, σ1, σ2, e1, e2, hI2⟩ := hCs.c28 σ hI (xs (i + 1).toNatClampNeg) (xs (i + 2).toNatClampNeg) (xs (i + 3).toNatClampNeg) (xs (i + 4).toNatClampNeg)
  refine lv_aload_n hx hb dL_law_1574 rfl (lv_at hl 3 rfl) ?_
  refine law_arg C0 hS hl h1 (by decide) dL_law_1575 dL_law_1576 dL_law_1578 dL_law_1579 dL_law_1580 ?_
  refine law_arg C0 hS hl h2 (by decide) dL_law_1581 dL_law_1582 dL_law_1584 dL_law_1585 dL_law_1586 ?_
  refine law_arg C0 hS hl h3 (by decide) dL_law_1587 dL_law_1588 dL_law_1590 dL_law_1591 dL_law_1592 ?_
  refine law_arg C0 hS hl h4 (by decide) dL_law_1593 dL_law_1594 dL_law_1596 dL_law_1597 dL_law_1598 ?_
  refine gVw_l E hK hP hD hS hA (cX11_oddsc _ _ _ _ e1) kV_X11_odds wd_3_211 rfl rfl (q_main ks (adU ad bl) σ) rfl rfl rfl ⟨Nat.le_of_ble_eq_true rfl, Nat.le_of_ble_eq_true rfl⟩ ⟨by show _ ≤ 601024; omega, by show _ ≤ 7293034; omega⟩ hl.1 (Nat.le_of_ble_eq_true rfl) rfl dL_law_1599 (fun H locs hP hD hS => ?_)
  refine lv_aload_n hx hb dL_law_1602 rfl (lv_at hl 2 rfl) ?_
  refine law_arg C0 hS hl h1 (by decide) dL_law_1603 dL_law_1604 dL_law_1606 dL_law_1607 dL_law_1608 ?_
  refine law_arg C0 hS hl h2 (by decide) dL_law_1609 dL_law_1610 dL_law_1612 dL_law_1613 dL_law_1614 ?_
  refine law_arg C0 hS hl h3 (by decide) dL_law_1615 dL_law_1616 dL_law_1618 dL_law_1619 dL_law_1620 ?_
  refine law_arg C0 hS hl h4 (by decide) dL_law_1621 dL_law_1622 dL_law_1624 dL_law_1625 dL_law_1626 ?_
  refine gVw_l E hK hP hD hS hA (cX12_oddsc _ _ _ _ e2) kV_X12_odds wd_6_201 rfl rfl (q_model ks (adU ad bl) σ1) rfl rfl rfl ⟨Nat.le_of_ble_eq_true rfl, Nat.le_of_ble_eq_true rfl⟩ ⟨by show _ ≤ 601024; omega, by show _ ≤ 7293034; omega⟩ hl.1 (Nat.le_of_ble_eq_true rfl) rfl dL_law_1627 (fun H locs hP hD hS => ?_)
  refine W.lcmp hx hb dL_law_1630 ?_
  refine lv_if_eq (tgt := 2330) hx hb dL_law_1631 (by decide) (fun _ => ?_) (fun c2 => absurd (lg_cmp_self r) c2)
  exact kk _ _ _ _ _ _ _ (by omega) (by omega) hI2 hP hD hS hl
set_option maxHeartbeats 2000000 in
theorem lawc_29 (hCs : Cases Inv) (C0 : LawCtx p l s m c b L xs dC dI ks) {nC nS : Nat} (kk : LawK p l e s m below meth c b dC dI ks ad Q Inv nC nS i) (h1 : vp_in (i + 1) L) (h2 : vp_in (i + 2) L) (h3 : vp_in (i + 3) L) (h4 : vp_in (i + 4) L) (h5 : vp_in (i + 5) L) (hcl : cells + 1000 ≤ nC) (hsl : slots + 2000 ≤ nS) (hC9 : nC ≤ 601024) (hS9 : nS ≤ 7293034) (hI : Inv σ) (hP : va_P (dC, dI) vwCl (wG ks (adU ad bl) σ) H) (hD : va_D (lawA s) (wG ks (adU ad bl) σ)) (hS : va_S (lawA s) s.heap H locs) (hl : lv_has ls 8 [(4, .int i), (3, .ref (ad 13 2)), (2, .ref (ad 14 0)), (1, .ref (ad 0 0)), (0, .ref b)]) : W p l e room_1 s m #[.ref b] below meth c H locs cells slots Q (F0 m 1636 ls []) := by
  have E := C0.1
  have hx := E.1
  have hb := E.2.1
  have hK := C0.2.1
  have hA : ∀ q, s.heap.size ≤ q → lawA s q := fun q h => h
  obtain ⟨r, σ1, σ2, e1, e2, hI2⟩ := hCs.c29 σ hI (xs (i + 1).toNatClampNeg) (xs (i + 2).toNatClampNeg) (xs (i + 3).toNatClampNeg)
  refine lv_aload_n hx hb dL_law_1636 rfl (lv_at hl 3 rfl) ?_
  refine law_arg C0 hS hl h1 (by decide) dL_law_1637 dL_law_1638 dL_law_1640 dL_law_1641 dL_law_1642 ?_
  refine law_arg C0 hS hl h2 (by decide) dL_law_1643 dL_law_1644 dL_law_1646 dL_law_1647 dL_law_1648 ?_
  refine law_arg C0 hS hl h3 (by decide) dL_law_1649 dL_law_1650 dL_law_1652 dL_law_1653 dL_law_1654 ?_
  refine gVw_i E hK hP hD hS hA (cX11_enoughc _ _ _ e1) kV_X11_enough wd_3_219 rfl rfl (q_main ks (adU ad bl) σ) rfl rfl rfl ⟨Nat.le_of_ble_eq_true rfl, Nat.le_of_ble_eq_true rfl⟩ ⟨by show _ ≤ 601024; omega, by show _ ≤ 7293034; omega⟩ hl.1 (Nat.le_of_ble_eq_true rfl) rfl dL_law_1655 (fun H locs hP hD hS => ?_)
  refine lv_aload_n hx hb dL_law_1658 rfl (lv_at hl 2 rfl) ?_
  refine law_arg C0 hS hl h1 (by decide) dL_law_1659 dL_law_1660 dL_law_1662 dL_law_1663 dL_law_1664 ?_
  refine law_arg C0 hS hl h2 (by decide) dL_law_1665 dL_law_1666 dL_law_1668 dL_law_1669 dL_law_1670 ?_
  refine law_arg C0 hS hl h3 (by decide) dL_law_1671 dL_law_1672 dL_law_1674 dL_law_1675 dL_law_1676 ?_
  refine gVw_i E hK hP hD hS hA (cX12_enoughc _ _ _ e2) kV_X12_enough wd_6_209 rfl rfl (q_model ks (adU ad bl) σ1) rfl rfl rfl ⟨Nat.le_of_ble_eq_true rfl, Nat.le_of_ble_eq_true rfl⟩ ⟨by show _ ≤ 601024; omega, by show _ ≤ 7293034; omega⟩ hl.1 (Nat.le_of_ble_eq_true rfl) rfl dL_law_1677 (fun H locs hP hD hS => ?_)
  refine lv_icmp_eq (tgt := 2330) hx hb dL_law_1680 (by decide) (fun _ => ?_) (fun c0 => absurd rfl c0)
  exact kk _ _ _ _ _ _ _ (by omega) (by omega) hI2 hP hD hS hl
set_option maxHeartbeats 2000000 in
theorem lawc_30 (hCs : Cases Inv) (C0 : LawCtx p l s m c b L xs dC dI ks) {nC nS : Nat} (kk : LawK p l e s m below meth c b dC dI ks ad Q Inv nC nS i) (h1 : vp_in (i + 1) L) (h2 : vp_in (i + 2) L) (h3 : vp_in (i + 3) L) (h4 : vp_in (i + 4) L) (h5 : vp_in (i + 5) L) (hcl : cells + 1000 ≤ nC) (hsl : slots + 2000 ≤ nS) (hC9 : nC ≤ 601024) (hS9 : nS ≤ 7293034) (hI : Inv σ) (hP : va_P (dC, dI) vwCl (wG ks (adU ad bl) σ) H) (hD : va_D (lawA s) (wG ks (adU ad bl) σ)) (hS : va_S (lawA s) s.heap H locs) (hl : lv_has ls 8 [(4, .int i), (3, .ref (ad 13 2)), (2, .ref (ad 14 0)), (1, .ref (ad 0 0)), (0, .ref b)]) : W p l e room_1 s m #[.ref b] below meth c H locs cells slots Q (F0 m 1685 ls []) := by
  have E := C0.1
  have hx := E.1
  have hb := E.2.1
  have hK := C0.2.1
  have hA : ∀ q, s.heap.size ≤ q → lawA s q := fun q h => h
  obtain ⟨r, σ2, e1, e2, hI2⟩ := hCs.c30 σ hI (xs (i + 1).toNatClampNeg) (xs (i + 2).toNatClampNeg) (xs (i + 3).toNatClampNeg)
  refine lv_aload_n hx hb dL_law_1685 rfl (lv_at hl 3 rfl) ?_
  refine law_arg C0 hS hl h1 (by decide) dL_law_1686 dL_law_1687 dL_law_1689 dL_law_1690 dL_law_1691 ?_
  refine law_arg C0 hS hl h2 (by decide) dL_law_1692 dL_law_1693 dL_law_1695 dL_law_1696 dL_law_1697 ?_
  refine law_arg C0 hS hl h3 (by decide) dL_law_1698 dL_law_1699 dL_law_1701 dL_law_1702 dL_law_1703 ?_
  refine gVr_i E hK hP (cX11_heapc _ _ _ e1) kV_X11_heap wd_3_223 rfl rfl (q_main ks (adU ad bl) σ) rfl rfl rfl ⟨Nat.le_of_ble_eq_true rfl, Nat.le_of_ble_eq_true rfl⟩ ⟨by show _ ≤ 601024; omega, by show _ ≤ 7293034; omega⟩ hl.1 (Nat.le_of_ble_eq_true rfl) rfl dL_law_1704 ?_
  refine lv_aload_n hx hb dL_law_1707 rfl (lv_at hl 2 rfl) ?_
  refine law_arg C0 hS hl h1 (by decide) dL_law_1708 dL_law_1709 dL_law_1711 dL_law_1712 dL_law_1713 ?_
  refine law_arg C0 hS hl h2 (by decide) dL_law_1714 dL_law_1715 dL_law_1717 dL_law_1718 dL_law_1719 ?_
  refine law_arg C0 hS hl h3 (by decide) dL_law_1720 dL_law_1721 dL_law_1723 dL_law_1724 dL_law_1725 ?_
  refine gVw_i E hK hP hD hS hA (cX12_heapc _ _ _ e2) kV_X12_heap wd_6_213 rfl rfl (q_model ks (adU ad bl) σ) rfl rfl rfl ⟨Nat.le_of_ble_eq_true rfl, Nat.le_of_ble_eq_true rfl⟩ ⟨by show _ ≤ 601024; omega, by show _ ≤ 7293034; omega⟩ hl.1 (Nat.le_of_ble_eq_true rfl) rfl dL_law_1726 (fun H locs hP hD hS => ?_)
  refine lv_icmp_eq (tgt := 2330) hx hb dL_law_1729 (by decide) (fun _ => ?_) (fun c0 => absurd rfl c0)
  exact kk _ _ _ _ _ _ _ (by omega) (by omega) hI2 hP hD hS hl
set_option maxHeartbeats 2000000 in
theorem lawc_31 (hCs : Cases Inv) (C0 : LawCtx p l s m c b L xs dC dI ks) {nC nS : Nat} (kk : LawK p l e s m below meth c b dC dI ks ad Q Inv nC nS i) (h1 : vp_in (i + 1) L) (h2 : vp_in (i + 2) L) (h3 : vp_in (i + 3) L) (h4 : vp_in (i + 4) L) (h5 : vp_in (i + 5) L) (hcl : cells + 1000 ≤ nC) (hsl : slots + 2000 ≤ nS) (hC9 : nC ≤ 601024) (hS9 : nS ≤ 7293034) (hI : Inv σ) (hP : va_P (dC, dI) vwCl (wG ks (adU ad bl) σ) H) (hD : va_D (lawA s) (wG ks (adU ad bl) σ)) (hS : va_S (lawA s) s.heap H locs) (hl : lv_has ls 8 [(4, .int i), (3, .ref (ad 13 2)), (2, .ref (ad 14 0)), (1, .ref (ad 0 0)), (0, .ref b)]) : W p l e room_1 s m #[.ref b] below meth c H locs cells slots Q (F0 m 1734 ls []) := by
  have E := C0.1
  have hx := E.1
  have hb := E.2.1
  have hK := C0.2.1
  have hA : ∀ q, s.heap.size ≤ q → lawA s q := fun q h => h
  obtain ⟨r, σ2, e1, e2, hI2⟩ := hCs.c31 σ hI (xs (i + 1).toNatClampNeg) (xs (i + 2).toNatClampNeg)
  refine lv_aload_n hx hb dL_law_1734 rfl (lv_at hl 3 rfl) ?_
  refine law_arg C0 hS hl h1 (by decide) dL_law_1735 dL_law_1736 dL_law_1738 dL_law_1739 dL_law_1740 ?_
  refine law_arg C0 hS hl h2 (by decide) dL_law_1741 dL_law_1742 dL_law_1744 dL_law_1745 dL_law_1746 ?_
  refine gVr_i E hK hP (cX11_forgedc _ _ e1) kV_X11_forged wd_3_239 rfl rfl (q_main ks (adU ad bl) σ) rfl rfl rfl ⟨Nat.le_of_ble_eq_true rfl, Nat.le_of_ble_eq_true rfl⟩ ⟨by show _ ≤ 601024; omega, by show _ ≤ 7293034; omega⟩ hl.1 (Nat.le_of_ble_eq_true rfl) rfl dL_law_1747 ?_
  refine lv_aload_n hx hb dL_law_1750 rfl (lv_at hl 2 rfl) ?_
  refine law_arg C0 hS hl h1 (by decide) dL_law_1751 dL_law_1752 dL_law_1754 dL_law_1755 dL_law_1756 ?_
  refine law_arg C0 hS hl h2 (by decide) dL_law_1757 dL_law_1758 dL_law_1760 dL_law_1761 dL_law_1762 ?_
  refine gVw_i E hK hP hD hS hA (cX12_forgedc _ _ e2) kV_X12_forged wd_6_221 rfl rfl (q_model ks (adU ad bl) σ) rfl rfl rfl ⟨Nat.le_of_ble_eq_true rfl, Nat.le_of_ble_eq_true rfl⟩ ⟨by show _ ≤ 601024; omega, by show _ ≤ 7293034; omega⟩ hl.1 (Nat.le_of_ble_eq_true rfl) rfl dL_law_1763 (fun H locs hP hD hS => ?_)
  refine lv_icmp_eq (tgt := 2330) hx hb dL_law_1766 (by decide) (fun _ => ?_) (fun c0 => absurd rfl c0)
  exact kk _ _ _ _ _ _ _ (by omega) (by omega) hI2 hP hD hS hl
set_option maxHeartbeats 2000000 in
theorem lawc_32 (hCs : Cases Inv) (C0 : LawCtx p l s m c b L xs dC dI ks) {nC nS : Nat} (kk : LawK p l e s m below meth c b dC dI ks ad Q Inv nC nS i) (h1 : vp_in (i + 1) L) (h2 : vp_in (i + 2) L) (h3 : vp_in (i + 3) L) (h4 : vp_in (i + 4) L) (h5 : vp_in (i + 5) L) (hcl : cells + 1000 ≤ nC) (hsl : slots + 2000 ≤ nS) (hC9 : nC ≤ 601024) (hS9 : nS ≤ 7293034) (hI : Inv σ) (hP : va_P (dC, dI) vwCl (wG ks (adU ad bl) σ) H) (hD : va_D (lawA s) (wG ks (adU ad bl) σ)) (hS : va_S (lawA s) s.heap H locs) (hl : lv_has ls 8 [(4, .int i), (3, .ref (ad 13 2)), (2, .ref (ad 14 0)), (1, .ref (ad 0 0)), (0, .ref b)]) : W p l e room_1 s m #[.ref b] below meth c H locs cells slots Q (F0 m 1771 ls []) := by
  have E := C0.1
  have hx := E.1
  have hb := E.2.1
  have hK := C0.2.1
  have hA : ∀ q, s.heap.size ≤ q → lawA s q := fun q h => h
  obtain ⟨r, e1, e2⟩ := hCs.c32 σ hI (xs (i + 1).toNatClampNeg) (xs (i + 2).toNatClampNeg) (xs (i + 3).toNatClampNeg)
  refine lv_aload_n hx hb dL_law_1771 rfl (lv_at hl 3 rfl) ?_
  refine law_arg C0 hS hl h1 (by decide) dL_law_1772 dL_law_1773 dL_law_1775 dL_law_1776 dL_law_1777 ?_
  refine law_arg C0 hS hl h2 (by decide) dL_law_1778 dL_law_1779 dL_law_1781 dL_law_1782 dL_law_1783 ?_
  refine law_arg C0 hS hl h3 (by decide) dL_law_1784 dL_law_1785 dL_law_1787 dL_law_1788 dL_law_1789 ?_
  refine gVr_i E hK hP (cX11_remainderc _ _ _ e1) kV_X11_remainder wd_4_3 rfl rfl (q_main ks (adU ad bl) σ) rfl rfl rfl ⟨Nat.le_of_ble_eq_true rfl, Nat.le_of_ble_eq_true rfl⟩ ⟨by show _ ≤ 601024; omega, by show _ ≤ 7293034; omega⟩ hl.1 (Nat.le_of_ble_eq_true rfl) rfl dL_law_1790 ?_
  refine lv_aload_n hx hb dL_law_1793 rfl (lv_at hl 2 rfl) ?_
  refine law_arg C0 hS hl h1 (by decide) dL_law_1794 dL_law_1795 dL_law_1797 dL_law_1798 dL_law_1799 ?_
  refine law_arg C0 hS hl h2 (by decide) dL_law_1800 dL_law_1801 dL_law_1803 dL_law_1804 dL_law_1805 ?_
  refine law_arg C0 hS hl h3 (by decide) dL_law_1806 dL_law_1807 dL_law_1809 dL_law_1810 dL_law_1811 ?_
  refine gVr_i E hK hP (cX12_remainderc _ _ _ e2) kV_X12_remainder wd_6_225 rfl rfl (q_model ks (adU ad bl) σ) rfl rfl rfl ⟨Nat.le_of_ble_eq_true rfl, Nat.le_of_ble_eq_true rfl⟩ ⟨by show _ ≤ 601024; omega, by show _ ≤ 7293034; omega⟩ hl.1 (Nat.le_of_ble_eq_true rfl) rfl dL_law_1812 ?_
  refine lv_icmp_eq (tgt := 2330) hx hb dL_law_1815 (by decide) (fun _ => ?_) (fun c0 => absurd rfl c0)
  exact kk _ _ _ _ _ _ _ (by omega) (by omega) hI hP hD hS hl
set_option maxHeartbeats 2000000 in
theorem lawc_33 (hCs : Cases Inv) (C0 : LawCtx p l s m c b L xs dC dI ks) {nC nS : Nat} (kk : LawK p l e s m below meth c b dC dI ks ad Q Inv nC nS i) (h1 : vp_in (i + 1) L) (h2 : vp_in (i + 2) L) (h3 : vp_in (i + 3) L) (h4 : vp_in (i + 4) L) (h5 : vp_in (i + 5) L) (hcl : cells + 1000 ≤ nC) (hsl : slots + 2000 ≤ nS) (hC9 : nC ≤ 601024) (hS9 : nS ≤ 7293034) (hI : Inv σ) (hP : va_P (dC, dI) vwCl (wG ks (adU ad bl) σ) H) (hD : va_D (lawA s) (wG ks (adU ad bl) σ)) (hS : va_S (lawA s) s.heap H locs) (hl : lv_has ls 8 [(4, .int i), (3, .ref (ad 13 2)), (2, .ref (ad 14 0)), (1, .ref (ad 0 0)), (0, .ref b)]) : W p l e room_1 s m #[.ref b] below meth c H locs cells slots Q (F0 m 1820 ls []) := by
  have E := C0.1
  have hx := E.1
  have hb := E.2.1
  have hK := C0.2.1
  have hA : ∀ q, s.heap.size ≤ q → lawA s q := fun q h => h
  obtain ⟨r, σ1, e1, e2, hI2⟩ := hCs.c33 σ hI (xs (i + 1).toNatClampNeg) (xs (i + 2).toNatClampNeg) (xs (i + 3).toNatClampNeg) (xs (i + 4).toNatClampNeg)
  refine lv_aload_n hx hb dL_law_1820 rfl (lv_at hl 3 rfl) ?_
  refine law_arg C0 hS hl h1 (by decide) dL_law_1821 dL_law_1822 dL_law_1824 dL_law_1825 dL_law_1826 ?_
  refine law_arg C0 hS hl h2 (by decide) dL_law_1827 dL_law_1828 dL_law_1830 dL_law_1831 dL_law_1832 ?_
  refine law_arg C0 hS hl h3 (by decide) dL_law_1833 dL_law_1834 dL_law_1836 dL_law_1837 dL_law_1838 ?_
  refine law_arg C0 hS hl h4 (by decide) dL_law_1839 dL_law_1840 dL_law_1842 dL_law_1843 dL_law_1844 ?_
  refine gVw_i E hK hP hD hS hA (cX11_judgec _ _ _ _ e1) kV_X11_judge wd_4_11 rfl rfl (q_main ks (adU ad bl) σ) rfl rfl rfl ⟨Nat.le_of_ble_eq_true rfl, Nat.le_of_ble_eq_true rfl⟩ ⟨by show _ ≤ 601024; omega, by show _ ≤ 7293034; omega⟩ hl.1 (Nat.le_of_ble_eq_true rfl) rfl dL_law_1845 (fun H locs hP hD hS => ?_)
  refine lv_aload_n hx hb dL_law_1848 rfl (lv_at hl 2 rfl) ?_
  refine law_arg C0 hS hl h1 (by decide) dL_law_1849 dL_law_1850 dL_law_1852 dL_law_1853 dL_law_1854 ?_
  refine law_arg C0 hS hl h2 (by decide) dL_law_1855 dL_law_1856 dL_law_1858 dL_law_1859 dL_law_1860 ?_
  refine law_arg C0 hS hl h3 (by decide) dL_law_1861 dL_law_1862 dL_law_1864 dL_law_1865 dL_law_1866 ?_
  refine law_arg C0 hS hl h4 (by decide) dL_law_1867 dL_law_1868 dL_law_1870 dL_law_1871 dL_law_1872 ?_
  refine gVr_i E hK hP (cX12_judgec _ _ _ _ e2) kV_X12_judge wd_6_229 rfl rfl (q_model ks (adU ad bl) σ1) rfl rfl rfl ⟨Nat.le_of_ble_eq_true rfl, Nat.le_of_ble_eq_true rfl⟩ ⟨by show _ ≤ 601024; omega, by show _ ≤ 7293034; omega⟩ hl.1 (Nat.le_of_ble_eq_true rfl) rfl dL_law_1873 ?_
  refine lv_icmp_eq (tgt := 2330) hx hb dL_law_1876 (by decide) (fun _ => ?_) (fun c0 => absurd rfl c0)
  exact kk _ _ _ _ _ _ _ (by omega) (by omega) hI2 hP hD hS hl
set_option maxHeartbeats 2000000 in
theorem lawc_34 (hCs : Cases Inv) (C0 : LawCtx p l s m c b L xs dC dI ks) {nC nS : Nat} (kk : LawK p l e s m below meth c b dC dI ks ad Q Inv nC nS i) (h1 : vp_in (i + 1) L) (h2 : vp_in (i + 2) L) (h3 : vp_in (i + 3) L) (h4 : vp_in (i + 4) L) (h5 : vp_in (i + 5) L) (hcl : cells + 1000 ≤ nC) (hsl : slots + 2000 ≤ nS) (hC9 : nC ≤ 601024) (hS9 : nS ≤ 7293034) (hI : Inv σ) (hP : va_P (dC, dI) vwCl (wG ks (adU ad bl) σ) H) (hD : va_D (lawA s) (wG ks (adU ad bl) σ)) (hS : va_S (lawA s) s.heap H locs) (hl : lv_has ls 8 [(4, .int i), (3, .ref (ad 13 2)), (2, .ref (ad 14 0)), (1, .ref (ad 0 0)), (0, .ref b)]) : W p l e room_1 s m #[.ref b] below meth c H locs cells slots Q (F0 m 1881 ls []) := by
  have E := C0.1
  have hx := E.1
  have hb := E.2.1
  have hK := C0.2.1
  have hA : ∀ q, s.heap.size ≤ q → lawA s q := fun q h => h
  obtain ⟨r, σ1, σ2, e1, e2, hI2⟩ := hCs.c34 σ hI (xs (i + 1).toNatClampNeg) (xs (i + 2).toNatClampNeg) (xs (i + 3).toNatClampNeg)
  refine lv_aload_n hx hb dL_law_1881 rfl (lv_at hl 3 rfl) ?_
  refine law_arg C0 hS hl h1 (by decide) dL_law_1882 dL_law_1883 dL_law_1885 dL_law_1886 dL_law_1887 ?_
  refine law_arg C0 hS hl h2 (by decide) dL_law_1888 dL_law_1889 dL_law_1891 dL_law_1892 dL_law_1893 ?_
  refine law_arg C0 hS hl h3 (by decide) dL_law_1894 dL_law_1895 dL_law_1897 dL_law_1898 dL_law_1899 ?_
  refine gVw_i E hK hP hD hS hA (cX11_walksc _ _ _ e1) kV_X11_walks wd_4_28 rfl rfl (q_main ks (adU ad bl) σ) rfl rfl rfl ⟨Nat.le_of_ble_eq_true rfl, Nat.le_of_ble_eq_true rfl⟩ ⟨by show _ ≤ 601024; omega, by show _ ≤ 7293034; omega⟩ hl.1 (Nat.le_of_ble_eq_true rfl) rfl dL_law_1900 (fun H locs hP hD hS => ?_)
  refine lv_aload_n hx hb dL_law_1903 rfl (lv_at hl 2 rfl) ?_
  refine law_arg C0 hS hl h1 (by decide) dL_law_1904 dL_law_1905 dL_law_1907 dL_law_1908 dL_law_1909 ?_
  refine law_arg C0 hS hl h2 (by decide) dL_law_1910 dL_law_1911 dL_law_1913 dL_law_1914 dL_law_1915 ?_
  refine law_arg C0 hS hl h3 (by decide) dL_law_1916 dL_law_1917 dL_law_1919 dL_law_1920 dL_law_1921 ?_
  refine gVw_i E hK hP hD hS hA (cX12_walksc _ _ _ e2) kV_X12_walks wd_6_237 rfl rfl (q_model ks (adU ad bl) σ1) rfl rfl rfl ⟨Nat.le_of_ble_eq_true rfl, Nat.le_of_ble_eq_true rfl⟩ ⟨by show _ ≤ 601024; omega, by show _ ≤ 7293034; omega⟩ hl.1 (Nat.le_of_ble_eq_true rfl) rfl dL_law_1922 (fun H locs hP hD hS => ?_)
  refine lv_icmp_eq (tgt := 2330) hx hb dL_law_1925 (by decide) (fun _ => ?_) (fun c0 => absurd rfl c0)
  exact kk _ _ _ _ _ _ _ (by omega) (by omega) hI2 hP hD hS hl
set_option maxHeartbeats 2000000 in
theorem lawc_35 (hCs : Cases Inv) (C0 : LawCtx p l s m c b L xs dC dI ks) {nC nS : Nat} (kk : LawK p l e s m below meth c b dC dI ks ad Q Inv nC nS i) (h1 : vp_in (i + 1) L) (h2 : vp_in (i + 2) L) (h3 : vp_in (i + 3) L) (h4 : vp_in (i + 4) L) (h5 : vp_in (i + 5) L) (hcl : cells + 1000 ≤ nC) (hsl : slots + 2000 ≤ nS) (hC9 : nC ≤ 601024) (hS9 : nS ≤ 7293034) (hI : Inv σ) (hP : va_P (dC, dI) vwCl (wG ks (adU ad bl) σ) H) (hD : va_D (lawA s) (wG ks (adU ad bl) σ)) (hS : va_S (lawA s) s.heap H locs) (hl : lv_has ls 8 [(4, .int i), (3, .ref (ad 13 2)), (2, .ref (ad 14 0)), (1, .ref (ad 0 0)), (0, .ref b)]) : W p l e room_1 s m #[.ref b] below meth c H locs cells slots Q (F0 m 1930 ls []) := by
  have E := C0.1
  have hx := E.1
  have hb := E.2.1
  have hK := C0.2.1
  have hA : ∀ q, s.heap.size ≤ q → lawA s q := fun q h => h
  obtain ⟨r, σ1, σ2, e1, e2, hI2⟩ := hCs.c35 σ hI
  refine lv_aload_n hx hb dL_law_1930 rfl (lv_at hl 3 rfl) ?_
  refine gVw_i E hK hP hD hS hA (cX11_imagec  e1) kV_X11_image wd_4_54 rfl rfl (q_main ks (adU ad bl) σ) rfl rfl rfl ⟨Nat.le_of_ble_eq_true rfl, Nat.le_of_ble_eq_true rfl⟩ ⟨by show _ ≤ 601024; omega, by show _ ≤ 7293034; omega⟩ hl.1 (Nat.le_of_ble_eq_true rfl) rfl dL_law_1931 (fun H locs hP hD hS => ?_)
  refine lv_aload_n hx hb dL_law_1934 rfl (lv_at hl 2 rfl) ?_
  refine gVw_i E hK hP hD hS hA (cX12_imagec  e2) kV_X12_image wd_7_9 rfl rfl (q_model ks (adU ad bl) σ1) rfl rfl rfl ⟨Nat.le_of_ble_eq_true rfl, Nat.le_of_ble_eq_true rfl⟩ ⟨by show _ ≤ 601024; omega, by show _ ≤ 7293034; omega⟩ hl.1 (Nat.le_of_ble_eq_true rfl) rfl dL_law_1935 (fun H locs hP hD hS => ?_)
  refine lv_icmp_eq (tgt := 2330) hx hb dL_law_1938 (by decide) (fun _ => ?_) (fun c0 => absurd rfl c0)
  exact kk _ _ _ _ _ _ _ (by omega) (by omega) hI2 hP hD hS hl
set_option maxHeartbeats 2000000 in
theorem lawc_36 (hCs : Cases Inv) (C0 : LawCtx p l s m c b L xs dC dI ks) {nC nS : Nat} (kk : LawK p l e s m below meth c b dC dI ks ad Q Inv nC nS i) (h1 : vp_in (i + 1) L) (h2 : vp_in (i + 2) L) (h3 : vp_in (i + 3) L) (h4 : vp_in (i + 4) L) (h5 : vp_in (i + 5) L) (hcl : cells + 1000 ≤ nC) (hsl : slots + 2000 ≤ nS) (hC9 : nC ≤ 601024) (hS9 : nS ≤ 7293034) (hI : Inv σ) (hP : va_P (dC, dI) vwCl (wG ks (adU ad bl) σ) H) (hD : va_D (lawA s) (wG ks (adU ad bl) σ)) (hS : va_S (lawA s) s.heap H locs) (hl : lv_has ls 8 [(4, .int i), (3, .ref (ad 13 2)), (2, .ref (ad 14 0)), (1, .ref (ad 0 0)), (0, .ref b)]) : W p l e room_1 s m #[.ref b] below meth c H locs cells slots Q (F0 m 1943 ls []) := by
  have E := C0.1
  have hx := E.1
  have hb := E.2.1
  have hK := C0.2.1
  have hA : ∀ q, s.heap.size ≤ q → lawA s q := fun q h => h
  obtain ⟨r, σ1, σ2, e1, e2, hI2⟩ := hCs.c36 σ hI
  refine lv_aload_n hx hb dL_law_1943 rfl (lv_at hl 3 rfl) ?_
  refine gVw_i E hK hP hD hS hA (cX11_restorec  e1) kV_X11_restore wd_4_58 rfl rfl (q_main ks (adU ad bl) σ) rfl rfl rfl ⟨Nat.le_of_ble_eq_true rfl, Nat.le_of_ble_eq_true rfl⟩ ⟨by show _ ≤ 601024; omega, by show _ ≤ 7293034; omega⟩ hl.1 (Nat.le_of_ble_eq_true rfl) rfl dL_law_1944 (fun H locs hP hD hS => ?_)
  refine lv_aload_n hx hb dL_law_1947 rfl (lv_at hl 2 rfl) ?_
  refine gVw_i E hK hP hD hS hA (cX12_restorec  e2) kV_X12_restore wd_7_13 rfl rfl (q_model ks (adU ad bl) σ1) rfl rfl rfl ⟨Nat.le_of_ble_eq_true rfl, Nat.le_of_ble_eq_true rfl⟩ ⟨by show _ ≤ 601024; omega, by show _ ≤ 7293034; omega⟩ hl.1 (Nat.le_of_ble_eq_true rfl) rfl dL_law_1948 (fun H locs hP hD hS => ?_)
  refine lv_icmp_eq (tgt := 2330) hx hb dL_law_1951 (by decide) (fun _ => ?_) (fun c0 => absurd rfl c0)
  exact kk _ _ _ _ _ _ _ (by omega) (by omega) hI2 hP hD hS hl
set_option maxHeartbeats 2000000 in
theorem lawc_37 (hCs : Cases Inv) (C0 : LawCtx p l s m c b L xs dC dI ks) {nC nS : Nat} (kk : LawK p l e s m below meth c b dC dI ks ad Q Inv nC nS i) (h1 : vp_in (i + 1) L) (h2 : vp_in (i + 2) L) (h3 : vp_in (i + 3) L) (h4 : vp_in (i + 4) L) (h5 : vp_in (i + 5) L) (hcl : cells + 1000 ≤ nC) (hsl : slots + 2000 ≤ nS) (hC9 : nC ≤ 601024) (hS9 : nS ≤ 7293034) (hI : Inv σ) (hP : va_P (dC, dI) vwCl (wG ks (adU ad bl) σ) H) (hD : va_D (lawA s) (wG ks (adU ad bl) σ)) (hS : va_S (lawA s) s.heap H locs) (hl : lv_has ls 8 [(4, .int i), (3, .ref (ad 13 2)), (2, .ref (ad 14 0)), (1, .ref (ad 0 0)), (0, .ref b)]) : W p l e room_1 s m #[.ref b] below meth c H locs cells slots Q (F0 m 1956 ls []) := by
  have E := C0.1
  have hx := E.1
  have hb := E.2.1
  have hK := C0.2.1
  have hA : ∀ q, s.heap.size ≤ q → lawA s q := fun q h => h
  obtain ⟨r, e1, e2⟩ := hCs.c37 σ hI (xs (i + 1).toNatClampNeg)
  refine lv_aload_n hx hb dL_law_1956 rfl (lv_at hl 3 rfl) ?_
  refine law_arg C0 hS hl h1 (by decide) dL_law_1957 dL_law_1958 dL_law_1960 dL_law_1961 dL_law_1962 ?_
  refine gVr_i E hK hP (cX11_countc _ e1) kV_X11_count wd_4_62 rfl rfl (q_main ks (adU ad bl) σ) rfl rfl rfl ⟨Nat.le_of_ble_eq_true rfl, Nat.le_of_ble_eq_true rfl⟩ ⟨by show _ ≤ 601024; omega, by show _ ≤ 7293034; omega⟩ hl.1 (Nat.le_of_ble_eq_true rfl) rfl dL_law_1963 ?_
  refine lv_aload_n hx hb dL_law_1966 rfl (lv_at hl 2 rfl) ?_
  refine law_arg C0 hS hl h1 (by decide) dL_law_1967 dL_law_1968 dL_law_1970 dL_law_1971 dL_law_1972 ?_
  refine gVr_i E hK hP (cX12_countc _ e2) kV_X12_count wd_7_17 rfl rfl (q_model ks (adU ad bl) σ) rfl rfl rfl ⟨Nat.le_of_ble_eq_true rfl, Nat.le_of_ble_eq_true rfl⟩ ⟨by show _ ≤ 601024; omega, by show _ ≤ 7293034; omega⟩ hl.1 (Nat.le_of_ble_eq_true rfl) rfl dL_law_1973 ?_
  refine lv_icmp_eq (tgt := 2330) hx hb dL_law_1976 (by decide) (fun _ => ?_) (fun c0 => absurd rfl c0)
  exact kk _ _ _ _ _ _ _ (by omega) (by omega) hI hP hD hS hl
set_option maxHeartbeats 2000000 in
theorem lawc_38 (hCs : Cases Inv) (C0 : LawCtx p l s m c b L xs dC dI ks) {nC nS : Nat} (kk : LawK p l e s m below meth c b dC dI ks ad Q Inv nC nS i) (h1 : vp_in (i + 1) L) (h2 : vp_in (i + 2) L) (h3 : vp_in (i + 3) L) (h4 : vp_in (i + 4) L) (h5 : vp_in (i + 5) L) (hcl : cells + 1000 ≤ nC) (hsl : slots + 2000 ≤ nS) (hC9 : nC ≤ 601024) (hS9 : nS ≤ 7293034) (hI : Inv σ) (hP : va_P (dC, dI) vwCl (wG ks (adU ad bl) σ) H) (hD : va_D (lawA s) (wG ks (adU ad bl) σ)) (hS : va_S (lawA s) s.heap H locs) (hl : lv_has ls 8 [(4, .int i), (3, .ref (ad 13 2)), (2, .ref (ad 14 0)), (1, .ref (ad 0 0)), (0, .ref b)]) : W p l e room_1 s m #[.ref b] below meth c H locs cells slots Q (F0 m 1981 ls []) := by
  have E := C0.1
  have hx := E.1
  have hb := E.2.1
  have hK := C0.2.1
  have hA : ∀ q, s.heap.size ≤ q → lawA s q := fun q h => h
  obtain ⟨r, σ1, σ2, e1, e2, hI2⟩ := hCs.c38 σ hI (xs (i + 1).toNatClampNeg) (xs (i + 2).toNatClampNeg) (xs (i + 3).toNatClampNeg) (xs (i + 4).toNatClampNeg)
  refine lv_aload_n hx hb dL_law_1981 rfl (lv_at hl 3 rfl) ?_
  refine law_arg C0 hS hl h1 (by decide) dL_law_1982 dL_law_1983 dL_law_1985 dL_law_1986 dL_law_1987 ?_
  refine law_arg C0 hS hl h2 (by decide) dL_law_1988 dL_law_1989 dL_law_1991 dL_law_1992 dL_law_1993 ?_
  refine law_arg C0 hS hl h3 (by decide) dL_law_1994 dL_law_1995 dL_law_1997 dL_law_1998 dL_law_1999 ?_
  refine law_arg C0 hS hl h4 (by decide) dL_law_2000 dL_law_2001 dL_law_2003 dL_law_2004 dL_law_2005 ?_
  refine gVa_i (bl := bl) E hK hP hD hS hA (cX11_keepc (bl0 := bl) _ _ _ _ e1) kV_X11_keep wd_4_69 rfl rfl (q_main ks (adU ad bl) σ) rfl rfl rfl ⟨Nat.le_of_ble_eq_true rfl, Nat.le_of_ble_eq_true rfl⟩ ⟨by show _ ≤ 601024; omega, by show _ ≤ 7293034; omega⟩ hl.1 (Nat.le_of_ble_eq_true rfl) rfl dL_law_2006 (fun bl1 H locs hkp hP hD hS => ?_)
  refine lv_aload_n hx hb dL_law_2009 rfl (lv_at hl 2 rfl) ?_
  refine law_arg C0 hS hl h1 (by decide) dL_law_2010 dL_law_2011 dL_law_2013 dL_law_2014 dL_law_2015 ?_
  refine law_arg C0 hS hl h2 (by decide) dL_law_2016 dL_law_2017 dL_law_2019 dL_law_2020 dL_law_2021 ?_
  refine law_arg C0 hS hl h3 (by decide) dL_law_2022 dL_law_2023 dL_law_2025 dL_law_2026 dL_law_2027 ?_
  refine law_arg C0 hS hl h4 (by decide) dL_law_2028 dL_law_2029 dL_law_2031 dL_law_2032 dL_law_2033 ?_
  refine gVw_i E hK hP hD hS hA (cX12_keepc _ _ _ _ e2) kV_X12_keep wd_7_25 rfl rfl (q_model ks (adU ad bl1) σ1) rfl rfl rfl ⟨Nat.le_of_ble_eq_true rfl, Nat.le_of_ble_eq_true rfl⟩ ⟨by show _ ≤ 601024; omega, by show _ ≤ 7293034; omega⟩ hl.1 (Nat.le_of_ble_eq_true rfl) rfl dL_law_2034 (fun H locs hP hD hS => ?_)
  refine lv_icmp_eq (tgt := 2330) hx hb dL_law_2037 (by decide) (fun _ => ?_) (fun c0 => absurd rfl c0)
  exact kk _ _ _ _ _ _ _ (by omega) (by omega) hI2 hP hD hS hl
set_option maxHeartbeats 2000000 in
theorem lawc_39 (hCs : Cases Inv) (C0 : LawCtx p l s m c b L xs dC dI ks) {nC nS : Nat} (kk : LawK p l e s m below meth c b dC dI ks ad Q Inv nC nS i) (h1 : vp_in (i + 1) L) (h2 : vp_in (i + 2) L) (h3 : vp_in (i + 3) L) (h4 : vp_in (i + 4) L) (h5 : vp_in (i + 5) L) (hcl : cells + 1000 ≤ nC) (hsl : slots + 2000 ≤ nS) (hC9 : nC ≤ 601024) (hS9 : nS ≤ 7293034) (hI : Inv σ) (hP : va_P (dC, dI) vwCl (wG ks (adU ad bl) σ) H) (hD : va_D (lawA s) (wG ks (adU ad bl) σ)) (hS : va_S (lawA s) s.heap H locs) (hl : lv_has ls 8 [(4, .int i), (3, .ref (ad 13 2)), (2, .ref (ad 14 0)), (1, .ref (ad 0 0)), (0, .ref b)]) : W p l e room_1 s m #[.ref b] below meth c H locs cells slots Q (F0 m 2042 ls []) := by
  have E := C0.1
  have hx := E.1
  have hb := E.2.1
  have hK := C0.2.1
  have hA : ∀ q, s.heap.size ≤ q → lawA s q := fun q h => h
  obtain ⟨r, σ1, σ2, e1, e2, hI2⟩ := hCs.c39 σ hI (xs (i + 1).toNatClampNeg) (xs (i + 2).toNatClampNeg) (xs (i + 3).toNatClampNeg)
  refine lv_aload_n hx hb dL_law_2042 rfl (lv_at hl 3 rfl) ?_
  refine law_arg C0 hS hl h1 (by decide) dL_law_2043 dL_law_2044 dL_law_2046 dL_law_2047 dL_law_2048 ?_
  refine law_arg C0 hS hl h2 (by decide) dL_law_2049 dL_law_2050 dL_law_2052 dL_law_2053 dL_law_2054 ?_
  refine law_arg C0 hS hl h3 (by decide) dL_law_2055 dL_law_2056 dL_law_2058 dL_law_2059 dL_law_2060 ?_
  refine gVw_i E hK hP hD hS hA (cX11_rowc _ _ _ e1) kV_X11_row wd_4_82 rfl rfl (q_main ks (adU ad bl) σ) rfl rfl rfl ⟨Nat.le_of_ble_eq_true rfl, Nat.le_of_ble_eq_true rfl⟩ ⟨by show _ ≤ 601024; omega, by show _ ≤ 7293034; omega⟩ hl.1 (Nat.le_of_ble_eq_true rfl) rfl dL_law_2061 (fun H locs hP hD hS => ?_)
  refine lv_aload_n hx hb dL_law_2064 rfl (lv_at hl 2 rfl) ?_
  refine law_arg C0 hS hl h1 (by decide) dL_law_2065 dL_law_2066 dL_law_2068 dL_law_2069 dL_law_2070 ?_
  refine law_arg C0 hS hl h2 (by decide) dL_law_2071 dL_law_2072 dL_law_2074 dL_law_2075 dL_law_2076 ?_
  refine law_arg C0 hS hl h3 (by decide) dL_law_2077 dL_law_2078 dL_law_2080 dL_law_2081 dL_law_2082 ?_
  refine gVw_i E hK hP hD hS hA (cX12_rowc _ _ _ e2) kV_X12_row wd_7_29 rfl rfl (q_model ks (adU ad bl) σ1) rfl rfl rfl ⟨Nat.le_of_ble_eq_true rfl, Nat.le_of_ble_eq_true rfl⟩ ⟨by show _ ≤ 601024; omega, by show _ ≤ 7293034; omega⟩ hl.1 (Nat.le_of_ble_eq_true rfl) rfl dL_law_2083 (fun H locs hP hD hS => ?_)
  refine lv_icmp_eq (tgt := 2330) hx hb dL_law_2086 (by decide) (fun _ => ?_) (fun c0 => absurd rfl c0)
  exact kk _ _ _ _ _ _ _ (by omega) (by omega) hI2 hP hD hS hl
set_option maxHeartbeats 2000000 in
theorem lawc_40 (hCs : Cases Inv) (C0 : LawCtx p l s m c b L xs dC dI ks) {nC nS : Nat} (kk : LawK p l e s m below meth c b dC dI ks ad Q Inv nC nS i) (h1 : vp_in (i + 1) L) (h2 : vp_in (i + 2) L) (h3 : vp_in (i + 3) L) (h4 : vp_in (i + 4) L) (h5 : vp_in (i + 5) L) (hcl : cells + 1000 ≤ nC) (hsl : slots + 2000 ≤ nS) (hC9 : nC ≤ 601024) (hS9 : nS ≤ 7293034) (hI : Inv σ) (hP : va_P (dC, dI) vwCl (wG ks (adU ad bl) σ) H) (hD : va_D (lawA s) (wG ks (adU ad bl) σ)) (hS : va_S (lawA s) s.heap H locs) (hl : lv_has ls 8 [(4, .int i), (3, .ref (ad 13 2)), (2, .ref (ad 14 0)), (1, .ref (ad 0 0)), (0, .ref b)]) : W p l e room_1 s m #[.ref b] below meth c H locs cells slots Q (F0 m 2091 ls []) := by
  have E := C0.1
  have hx := E.1
  have hb := E.2.1
  have hK := C0.2.1
  have hA : ∀ q, s.heap.size ≤ q → lawA s q := fun q h => h
  obtain ⟨r, σ1, σ2, e1, e2, hI2⟩ := hCs.c40 σ hI (xs (i + 1).toNatClampNeg) (xs (i + 2).toNatClampNeg) (xs (i + 3).toNatClampNeg)
  refine lv_aload_n hx hb dL_law_2091 rfl (lv_at hl 3 rfl) ?_
  refine law_arg C0 hS hl h1 (by decide) dL_law_2092 dL_law_2093 dL_law_2095 dL_law_2096 dL_law_2097 ?_
  refine law_arg C0 hS hl h2 (by decide) dL_law_2098 dL_law_2099 dL_law_2101 dL_law_2102 dL_law_2103 ?_
  refine law_arg C0 hS hl h3 (by decide) dL_law_2104 dL_law_2105 dL_law_2107 dL_law_2108 dL_law_2109 ?_
  refine gVw_i E hK hP hD hS hA (cX11_putc _ _ _ e1) kV_X11_put wd_4_93 rfl rfl (q_main ks (adU ad bl) σ) rfl rfl rfl ⟨Nat.le_of_ble_eq_true rfl, Nat.le_of_ble_eq_true rfl⟩ ⟨by show _ ≤ 601024; omega, by show _ ≤ 7293034; omega⟩ hl.1 (Nat.le_of_ble_eq_true rfl) rfl dL_law_2110 (fun H locs hP hD hS => ?_)
  refine lv_aload_n hx hb dL_law_2113 rfl (lv_at hl 2 rfl) ?_
  refine law_arg C0 hS hl h1 (by decide) dL_law_2114 dL_law_2115 dL_law_2117 dL_law_2118 dL_law_2119 ?_
  refine law_arg C0 hS hl h2 (by decide) dL_law_2120 dL_law_2121 dL_law_2123 dL_law_2124 dL_law_2125 ?_
  refine law_arg C0 hS hl h3 (by decide) dL_law_2126 dL_law_2127 dL_law_2129 dL_law_2130 dL_law_2131 ?_
  refine gVw_i E hK hP hD hS hA (cX12_putc _ _ _ e2) kV_X12_put wd_7_33 rfl rfl (q_model ks (adU ad bl) σ1) rfl rfl rfl ⟨Nat.le_of_ble_eq_true rfl, Nat.le_of_ble_eq_true rfl⟩ ⟨by show _ ≤ 601024; omega, by show _ ≤ 7293034; omega⟩ hl.1 (Nat.le_of_ble_eq_true rfl) rfl dL_law_2132 (fun H locs hP hD hS => ?_)
  refine lv_icmp_eq (tgt := 2330) hx hb dL_law_2135 (by decide) (fun _ => ?_) (fun c0 => absurd rfl c0)
  exact kk _ _ _ _ _ _ _ (by omega) (by omega) hI2 hP hD hS hl
set_option maxHeartbeats 2000000 in
theorem lawc_41 (hCs : Cases Inv) (C0 : LawCtx p l s m c b L xs dC dI ks) {nC nS : Nat} (kk : LawK p l e s m below meth c b dC dI ks ad Q Inv nC nS i) (h1 : vp_in (i + 1) L) (h2 : vp_in (i + 2) L) (h3 : vp_in (i + 3) L) (h4 : vp_in (i + 4) L) (h5 : vp_in (i + 5) L) (hcl : cells + 1000 ≤ nC) (hsl : slots + 2000 ≤ nS) (hC9 : nC ≤ 601024) (hS9 : nS ≤ 7293034) (hI : Inv σ) (hP : va_P (dC, dI) vwCl (wG ks (adU ad bl) σ) H) (hD : va_D (lawA s) (wG ks (adU ad bl) σ)) (hS : va_S (lawA s) s.heap H locs) (hl : lv_has ls 8 [(4, .int i), (3, .ref (ad 13 2)), (2, .ref (ad 14 0)), (1, .ref (ad 0 0)), (0, .ref b)]) : W p l e room_1 s m #[.ref b] below meth c H locs cells slots Q (F0 m 2140 ls []) := by
  have E := C0.1
  have hx := E.1
  have hb := E.2.1
  have hK := C0.2.1
  have hA : ∀ q, s.heap.size ≤ q → lawA s q := fun q h => h
  obtain ⟨k, v, σ1, σ2, e1, e2, e3, e4, hI2⟩ := hCs.c41 σ hI (xs (i + 1).toNatClampNeg) (xs (i + 2).toNatClampNeg)
  refine lv_aload_n hx hb dL_law_2140 rfl (lv_at hl 3 rfl) ?_
  refine law_arg C0 hS hl h1 (by decide) dL_law_2141 dL_law_2142 dL_law_2144 dL_law_2145 dL_law_2146 ?_
  refine law_arg C0 hS hl h2 (by decide) dL_law_2147 dL_law_2148 dL_law_2150 dL_law_2151 dL_law_2152 ?_
  refine lv_aload_n hx hb dL_law_2153 rfl (lv_at hl 1 rfl) ?_
  refine gLe (ad := adU ad bl) E hK hP hD hS hA C0.2.2.1 C0.2.2.2.1 (cL_elementc C0.2.2.2.2.2.2 _ _ e1) kSW_L_element wd_5_26 ⟨Nat.le_of_ble_eq_true rfl, Nat.le_of_ble_eq_true rfl⟩ ⟨by show _ ≤ 601024; omega, by show _ ≤ 7293034; omega⟩ hl.1 (Nat.le_of_ble_eq_true rfl) dL_law_2154 (fun H locs hP hD hS => ?_)
  refine lv_istore (lv' := [(5, .int k), (4, .int i), (3, .ref (ad 13 2)), (2, .ref (ad 14 0)), (1, .ref (ad 0 0)), (0, .ref b)]) hx hb dL_law_2157 hl (by decide) rfl (fun ls hl => ?_)
  have hl0 := lv_sub (l' := [(4, .int i), (3, .ref (ad 13 2)), (2, .ref (ad 14 0)), (1, .ref (ad 0 0)), (0, .ref b)]) hl [1, 2, 3, 4, 5] rfl
  refine lv_aload_n hx hb dL_law_2159 rfl (lv_at hl 3 rfl) ?_
  refine law_arg C0 hS hl0 h1 (by decide) dL_law_2160 dL_law_2161 dL_law_2163 dL_law_2164 dL_law_2165 ?_
  refine law_arg C0 hS hl0 h2 (by decide) dL_law_2166 dL_law_2167 dL_law_2169 dL_law_2170 dL_law_2171 ?_
  refine gVw_l E hK hP hD hS hA (cX12_elementc _ _ e2) kV_X12_element wd_7_37 rfl rfl (q_model ks (adU ad bl) σ1) rfl rfl rfl ⟨Nat.le_of_ble_eq_true rfl, Nat.le_of_ble_eq_true rfl⟩ ⟨by show _ ≤ 601024; omega, by show _ ≤ 7293034; omega⟩ hl.1 (Nat.le_of_ble_eq_true rfl) rfl dL_law_2172 (fun H locs hP hD hS => ?_)
  refine lv_lstore (lv' := [(6, .long v), (5, .int k), (4, .int i), (3, .ref (ad 13 2)), (2, .ref (ad 14 0)), (1, .ref (ad 0 0)), (0, .ref b)]) hx hb dL_law_2175 hl (by decide) rfl (fun ls hl => ?_)
  have hl0 := lv_sub (l' := [(4, .int i), (3, .ref (ad 13 2)), (2, .ref (ad 14 0)), (1, .ref (ad 0 0)), (0, .ref b)]) hl [2, 3, 4, 5, 6] rfl
  refine lv_aload_n hx hb dL_law_2177 rfl (lv_at hl 4 rfl) ?_
  refine gVr_i E hK hP (cX12_thrownc e3) kV_X12_thrown wd_7_21 rfl rfl (q_model ks (adU ad bl) σ2) rfl rfl rfl ⟨Nat.le_of_ble_eq_true rfl, Nat.le_of_ble_eq_true rfl⟩ ⟨by show _ ≤ 601024; omega, by show _ ≤ 7293034; omega⟩ hl.1 (Nat.le_of_ble_eq_true rfl) rfl dL_law_2178 ?_
  refine lv_iload hx hb dL_law_2181 (lv_at hl 1 rfl) ?_
  refine lv_icmp_eq (tgt := 2188) hx hb dL_law_2183 (by decide) (fun _ => ?_) (fun c0 => absurd rfl c0)
  refine lv_iload hx hb dL_law_2188 (lv_at hl 1 rfl) ?_
  refine lv_if_ne (tgt := 2204) hx hb dL_law_2190 (by decide) (fun c1 => ?_) (fun c1 => ?_)
  · refine lv_goto (tgt := 2330) hx hb dL_law_2204 (by decide) ?_
    exact kk _ _ _ _ _ _ _ (by omega) (by omega) hI2 hP hD hS hl0
  refine lv_aload_n hx hb dL_law_2193 rfl (lv_at hl 3 rfl) ?_
  refine lv_iconst (v := 0) hx hb dL_law_2194 (by decide) ?_
  refine va_lald hx hb hK.1 hP 4 1 (q_L2 ks (adU ad bl) σ2) rfl (fun q => q.elim (by decide) (by decide)) dL_law_2195 ?_
  refine lv_lload hx hb dL_law_2196 (lv_at hl 0 rfl) ?_
  refine W.lcmp hx hb dL_law_2198 ?_
  refine lv_if_eq (tgt := 2204) hx hb dL_law_2199 (by decide) (fun _ => ?_) (fun c2 => absurd (by rw [show gL σ2 2 (0 : Int32).toNatClampNeg = v from e4 c1]; exact lg_cmp_self v) c2)
  refine lv_goto (tgt := 2330) hx hb dL_law_2204 (by decide) ?_
  exact kk _ _ _ _ _ _ _ (by omega) (by omega) hI2 hP hD hS hl0
set_option maxHeartbeats 2000000 in
theorem lawc_42 (hCs : Cases Inv) (C0 : LawCtx p l s m c b L xs dC dI ks) {nC nS : Nat} (kk : LawK p l e s m below meth c b dC dI ks ad Q Inv nC nS i) (h1 : vp_in (i + 1) L) (h2 : vp_in (i + 2) L) (h3 : vp_in (i + 3) L) (h4 : vp_in (i + 4) L) (h5 : vp_in (i + 5) L) (hcl : cells + 1000 ≤ nC) (hsl : slots + 2000 ≤ nS) (hC9 : nC ≤ 601024) (hS9 : nS ≤ 7293034) (hI : Inv σ) (hP : va_P (dC, dI) vwCl (wG ks (adU ad bl) σ) H) (hD : va_D (lawA s) (wG ks (adU ad bl) σ)) (hS : va_S (lawA s) s.heap H locs) (hl : lv_has ls 8 [(4, .int i), (3, .ref (ad 13 2)), (2, .ref (ad 14 0)), (1, .ref (ad 0 0)), (0, .ref b)]) : W p l e room_1 s m #[.ref b] below meth c H locs cells slots Q (F0 m 2207 ls []) := by
  have E := C0.1
  have hx := E.1
  have hb := E.2.1
  have hK := C0.2.1
  have hA : ∀ q, s.heap.size ≤ q → lawA s q := fun q h => h
  obtain ⟨r, σ1, σ2, e1, e2, hI2⟩ := hCs.c42 σ hI (xs (i + 1).toNatClampNeg) (xs (i + 2).toNatClampNeg) (xs (i + 3).toNatClampNeg) (xs (i + 4).toNatClampNeg) (xs (i + 5).toNatClampNeg)
  refine lv_aload_n hx hb dL_law_2207 rfl (lv_at hl 3 rfl) ?_
  refine law_arg C0 hS hl h1 (by decide) dL_law_2208 dL_law_2209 dL_law_2211 dL_law_2212 dL_law_2213 ?_
  refine law_arg C0 hS hl h2 (by decide) dL_law_2214 dL_law_2215 dL_law_2217 dL_law_2218 dL_law_2219 ?_
  refine law_arg C0 hS hl h3 (by decide) dL_law_2220 dL_law_2221 dL_law_2223 dL_law_2224 dL_law_2225 ?_
  refine law_arg C0 hS hl h4 (by decide) dL_law_2226 dL_law_2227 dL_law_2229 dL_law_2230 dL_law_2231 ?_
  refine law_arg C0 hS hl h5 (by decide) dL_law_2232 dL_law_2233 dL_law_2235 dL_law_2236 dL_law_2237 ?_
  refine gVw_i E hK hP hD hS hA (cX11_copyc _ _ _ _ _ e1) kV_X11_copy wd_4_101 rfl rfl (q_main ks (adU ad bl) σ) rfl rfl rfl ⟨Nat.le_of_ble_eq_true rfl, Nat.le_of_ble_eq_true rfl⟩ ⟨by show _ ≤ 601024; omega, by show _ ≤ 7293034; omega⟩ hl.1 (Nat.le_of_ble_eq_true rfl) rfl dL_law_2238 (fun H locs hP hD hS => ?_)
  refine lv_aload_n hx hb dL_law_2241 rfl (lv_at hl 2 rfl) ?_
  refine law_arg C0 hS hl h1 (by decide) dL_law_2242 dL_law_2243 dL_law_2245 dL_law_2246 dL_law_2247 ?_
  refine law_arg C0 hS hl h2 (by decide) dL_law_2248 dL_law_2249 dL_law_2251 dL_law_2252 dL_law_2253 ?_
  refine law_arg C0 hS hl h3 (by decide) dL_law_2254 dL_law_2255 dL_law_2257 dL_law_2258 dL_law_2259 ?_
  refine law_arg C0 hS hl h4 (by decide) dL_law_2260 dL_law_2261 dL_law_2263 dL_law_2264 dL_law_2265 ?_
  refine law_arg C0 hS hl h5 (by decide) dL_law_2266 dL_law_2267 dL_law_2269 dL_law_2270 dL_law_2271 ?_
  refine gVw_i E hK hP hD hS hA (cX12_copyc _ _ _ _ _ e2) kV_X12_copy wd_7_41 rfl rfl (q_model ks (adU ad bl) σ1) rfl rfl rfl ⟨Nat.le_of_ble_eq_true rfl, Nat.le_of_ble_eq_true rfl⟩ ⟨by show _ ≤ 601024; omega, by show _ ≤ 7293034; omega⟩ hl.1 (Nat.le_of_ble_eq_true rfl) rfl dL_law_2272 (fun H locs hP hD hS => ?_)
  refine lv_icmp_eq (tgt := 2330) hx hb dL_law_2275 (by decide) (fun _ => ?_) (fun c0 => absurd rfl c0)
  exact kk _ _ _ _ _ _ _ (by omega) (by omega) hI2 hP hD hS hl
set_option maxHeartbeats 2000000 in
theorem lawc_43 (hCs : Cases Inv) (C0 : LawCtx p l s m c b L xs dC dI ks) {nC nS : Nat} (kk : LawK p l e s m below meth c b dC dI ks ad Q Inv nC nS i) (h1 : vp_in (i + 1) L) (h2 : vp_in (i + 2) L) (h3 : vp_in (i + 3) L) (h4 : vp_in (i + 4) L) (h5 : vp_in (i + 5) L) (hcl : cells + 1000 ≤ nC) (hsl : slots + 2000 ≤ nS) (hC9 : nC ≤ 601024) (hS9 : nS ≤ 7293034) (hI : Inv σ) (hP : va_P (dC, dI) vwCl (wG ks (adU ad bl) σ) H) (hD : va_D (lawA s) (wG ks (adU ad bl) σ)) (hS : va_S (lawA s) s.heap H locs) (hl : lv_has ls 8 [(4, .int i), (3, .ref (ad 13 2)), (2, .ref (ad 14 0)), (1, .ref (ad 0 0)), (0, .ref b)]) : W p l e room_1 s m #[.ref b] below meth c H locs cells slots Q (F0 m 2280 ls []) := by
  have E := C0.1
  have hx := E.1
  have hb := E.2.1
  have hK := C0.2.1
  have hA : ∀ q, s.heap.size ≤ q → lawA s q := fun q h => h
  obtain ⟨r, e1, e2⟩ := hCs.c43 σ hI (xs (i + 1).toNatClampNeg)
  refine lv_aload_n hx hb dL_law_2280 rfl (lv_at hl 3 rfl) ?_
  refine law_arg C0 hS hl h1 (by decide) dL_law_2281 dL_law_2282 dL_law_2284 dL_law_2285 dL_law_2286 ?_
  refine gVr_i E hK hP (cX11_costc _ e1) kV_X11_cost wd_4_110 rfl rfl (q_main ks (adU ad bl) σ) rfl rfl rfl ⟨Nat.le_of_ble_eq_true rfl, Nat.le_of_ble_eq_true rfl⟩ ⟨by show _ ≤ 601024; omega, by show _ ≤ 7293034; omega⟩ hl.1 (Nat.le_of_ble_eq_true rfl) rfl dL_law_2287 ?_
  refine lv_aload_n hx hb dL_law_2290 rfl (lv_at hl 2 rfl) ?_
  refine law_arg C0 hS hl h1 (by decide) dL_law_2291 dL_law_2292 dL_law_2294 dL_law_2295 dL_law_2296 ?_
  refine gVr_i E hK hP (cX12_costc _ e2) kV_X12_cost wd_7_45 rfl rfl (q_model ks (adU ad bl) σ) rfl rfl rfl ⟨Nat.le_of_ble_eq_true rfl, Nat.le_of_ble_eq_true rfl⟩ ⟨by show _ ≤ 601024; omega, by show _ ≤ 7293034; omega⟩ hl.1 (Nat.le_of_ble_eq_true rfl) rfl dL_law_2297 ?_
  refine lv_icmp_eq (tgt := 2330) hx hb dL_law_2300 (by decide) (fun _ => ?_) (fun c0 => absurd rfl c0)
  exact kk _ _ _ _ _ _ _ (by omega) (by omega) hI hP hD hS hl
set_option maxHeartbeats 2000000 in
theorem lawc_44 (hCs : Cases Inv) (C0 : LawCtx p l s m c b L xs dC dI ks) {nC nS : Nat} (kk : LawK p l e s m below meth c b dC dI ks ad Q Inv nC nS i) (h1 : vp_in (i + 1) L) (h2 : vp_in (i + 2) L) (h3 : vp_in (i + 3) L) (h4 : vp_in (i + 4) L) (h5 : vp_in (i + 5) L) (hcl : cells + 1000 ≤ nC) (hsl : slots + 2000 ≤ nS) (hC9 : nC ≤ 601024) (hS9 : nS ≤ 7293034) (hI : Inv σ) (hP : va_P (dC, dI) vwCl (wG ks (adU ad bl) σ) H) (hD : va_D (lawA s) (wG ks (adU ad bl) σ)) (hS : va_S (lawA s) s.heap H locs) (hl : lv_has ls 8 [(4, .int i), (3, .ref (ad 13 2)), (2, .ref (ad 14 0)), (1, .ref (ad 0 0)), (0, .ref b)]) : W p l e room_1 s m #[.ref b] below meth c H locs cells slots Q (F0 m 2305 ls []) := by
  have E := C0.1
  have hx := E.1
  have hb := E.2.1
  have hK := C0.2.1
  have hA : ∀ q, s.heap.size ≤ q → lawA s q := fun q h => h
  obtain ⟨r, e1, e2⟩ := hCs.c44 σ hI (xs (i + 1).toNatClampNeg)
  refine lv_aload_n hx hb dL_law_2305 rfl (lv_at hl 3 rfl) ?_
  refine law_arg C0 hS hl h1 (by decide) dL_law_2306 dL_law_2307 dL_law_2309 dL_law_2310 dL_law_2311 ?_
  refine gVt_i E hK hP hD hS hA C0.2.2.1 (cX11_tossc C0.2.2.2.2.2.2 _ e1) kVW_X11_toss wd_4_147 rfl rfl (q_main ks (adU ad bl) σ) rfl rfl rfl ⟨Nat.le_of_ble_eq_true rfl, Nat.le_of_ble_eq_true rfl⟩ ⟨by show _ ≤ 601024; omega, by show _ ≤ 7293034; omega⟩ hl.1 (Nat.le_of_ble_eq_true rfl) rfl dL_law_2312 (fun H locs hP hD hS => ?_)
  refine lv_aload_n hx hb dL_law_2315 rfl (lv_at hl 2 rfl) ?_
  refine law_arg C0 hS hl h1 (by decide) dL_law_2316 dL_law_2317 dL_law_2319 dL_law_2320 dL_law_2321 ?_
  refine gVr_i E hK hP (cX12_tossc _ e2) kV_X12_toss wd_7_52 rfl rfl (q_model ks (adU ad bl) σ) rfl rfl rfl ⟨Nat.le_of_ble_eq_true rfl, Nat.le_of_ble_eq_true rfl⟩ ⟨by show _ ≤ 601024; omega, by show _ ≤ 7293034; omega⟩ hl.1 (Nat.le_of_ble_eq_true rfl) rfl dL_law_2322 ?_
  refine lv_icmp_eq (tgt := 2330) hx hb dL_law_2325 (by decide) (fun _ => ?_) (fun c0 => absurd rfl c0)
  exact kk _ _ _ _ _ _ _ (by omega) (by omega) hI hP hD hS hl
end
