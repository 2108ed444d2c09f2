/-! calls -/
noncomputable def am_dsc (y : MethodName) (n : Nat) : Bool := decide (y.cls ≠ "java/lang/invoke/MethodHandle") && decide (y.cls ≠ "java/lang/invoke/VarHandle") && decide ((parseMethodDescriptor y.desc).map (fun d => d.parameters.length) = some n)
theorem am_dsc_of {y : MethodName} {n : Nat} (h : am_dsc y n = true) : y.cls ≠ "java/lang/invoke/MethodHandle" ∧ y.cls ≠ "java/lang/invoke/VarHandle" ∧ (parseMethodDescriptor y.desc).map (fun d => d.parameters.length) = some n := by
  unfold am_dsc at h
  rw [Bool.and_eq_true, Bool.and_eq_true] at h
  exact ⟨of_decide_eq_true h.1.1, of_decide_eq_true h.1.2, of_decide_eq_true h.2⟩
noncomputable def am_isLaw (y : MethodName) : Bool := decide (y = ⟨"CodeRulesLaw", "law", "([I)Z"⟩)
theorem am_law_j : ∀ j, j < 102 → am_isLaw (am_mNt (154 + j)) = true := by decide +kernel
theorem am_ini_j : ∀ j, j < 256 → am_isw (am_pZt j) (.initialized (am_mNt j).cls) = true := by decide +kernel
theorem am_cw_sm (mj : Nat) : am_sm mj < 256 := Nat.and_lt_two_pow mj (show 255 < 2 ^ 8 by decide)
theorem am_qW_of {mj : Nat} (h : am_isLaw (am_mN mj) = false) : Cond.initialized (am_mN mj).cls ∈ am_TB ∧ Cond.code (am_mN mj) (am_mB mj) (am_mL mj) (am_mR mj) ∈ am_TB := by
  refine ⟨am_isw_of (am_ini_j _ (am_cw_sm mj)), ?_⟩
  by_cases hq : am_sm mj < 154
  · exact am_cwA _ hq
  · have h1 := am_law_j (am_sm mj - 154) (by have := am_cw_sm mj; omega)
    rw [show 154 + (am_sm mj - 154) = am_sm mj by omega] at h1
    exact absurd (show am_isLaw (am_mN mj) = true from h1) (by rw [h]; decide)
noncomputable def am_qV (p j : Nat) (v : Nat × Nat) : Bool := am_lkM (am_pN p) j (am_mN v.1) (am_ps p j) && am_isw (am_pI v.1) (.instanceMethod (am_mN v.1)) && am_isw (am_pS v.1) (.selects (am_mN v.1).cls (am_mN v.1) (am_mN v.1)) && !am_isLaw (am_mN v.1) && am_dsc (am_mN v.1) v.2
theorem am_qV_ok1 : ∀ p, p < 8 → ∀ j, j < am_nJ → am_oq (am_kV0 p j) (am_qV p j) = true := by decide +kernel
theorem am_qV_ok2 : ∀ p, p < 8 → ∀ j, j < am_nJ → am_oq (am_kV0 (8 + p) j) (am_qV (8 + p) j) = true := by decide +kernel
theorem am_qV_ok : ∀ p, p < am_nP → ∀ j, j < am_nJ → am_oq (am_kV0 p j) (am_qV p j) = true := by
  intro p h j hj
  replace h : p < 16 := h
  by_cases h1 : p < 8
  · exact am_qV_ok1 p h1 j hj
  · have := am_qV_ok2 (p - 8) (by omega) j hj
    rw [show 8 + (p - 8) = p by omega] at this
    exact this
theorem am_kV_ok {mi j mj n : Nat} (h : am_kV (am_mP mi) j = some (mj, n)) : (Cond.methodLink (am_mO mi) j (am_mN mj) ∈ am_TB ∨ ∃ host, Cond.methodLinkNest (am_mO mi) j (am_mN mj) host ∈ am_NW) ∧ Cond.instanceMethod (am_mN mj) ∈ am_TB ∧ Cond.selects (am_mN mj).cls (am_mN mj) (am_mN mj) ∈ am_TB ∧ Cond.initialized (am_mN mj).cls ∈ am_TB ∧ Cond.code (am_mN mj) (am_mB mj) (am_mL mj) (am_mR mj) ∈ am_TB ∧ ((am_mN mj).cls ≠ "java/lang/invoke/MethodHandle" ∧ (am_mN mj).cls ≠ "java/lang/invoke/VarHandle" ∧ (parseMethodDescriptor (am_mN mj).desc).map (fun d => d.parameters.length) = some n) := by
  have h1 := am_b2_all am_qV_ok h
  unfold am_qV at h1
  simp only [Bool.and_eq_true, Bool.not_eq_true'] at h1
  obtain ⟨⟨⟨⟨h1, h2⟩, h3⟩, h4⟩, h6⟩ := h1
  have h7 := am_lkM_of h1
  rw [am_mP_ok] at h7
  exact ⟨h7, am_isw_of h2, am_isw_of h3, (am_qW_of h4).1, (am_qW_of h4).2, am_dsc_of h6⟩
noncomputable def am_qT (p j : Nat) (v : Nat × Nat) : Bool := am_lkM (am_pN p) j (am_mN v.1) (am_ps p j) && am_isw (am_pI v.1) (.static (am_mN v.1)) && !am_isLaw (am_mN v.1) && am_dsc (am_mN v.1) v.2
theorem am_qT_ok : ∀ p, p < am_nP → ∀ j, j < am_nJ → am_oq (am_kT0 p j) (am_qT p j) = true := by decide +kernel
theorem am_kT_ok {mi j mj n : Nat} (h : am_kT (am_mP mi) j = some (mj, n)) : (Cond.methodLink (am_mO mi) j (am_mN mj) ∈ am_TB ∨ ∃ host, Cond.methodLinkNest (am_mO mi) j (am_mN mj) host ∈ am_NW) ∧ Cond.static (am_mN mj) ∈ am_TB ∧ Cond.initialized (am_mN mj).cls ∈ am_TB ∧ Cond.code (am_mN mj) (am_mB mj) (am_mL mj) (am_mR mj) ∈ am_TB ∧ ((am_mN mj).cls ≠ "java/lang/invoke/MethodHandle" ∧ (am_mN mj).cls ≠ "java/lang/invoke/VarHandle" ∧ (parseMethodDescriptor (am_mN mj).desc).map (fun d => d.parameters.length) = some n) := by
  have h1 := am_b2_all am_qT_ok h
  unfold am_qT at h1
  simp only [Bool.and_eq_true, Bool.not_eq_true'] at h1
  obtain ⟨⟨⟨h1, h2⟩, h4⟩, h6⟩ := h1
  have h7 := am_lkM_of h1
  rw [am_mP_ok] at h7
  exact ⟨h7, am_isw_of h2, (am_qW_of h4).1, (am_qW_of h4).2, am_dsc_of h6⟩
noncomputable def am_qX (p j : Nat) (v : Nat × Nat) : Bool := am_lkM (am_pN p) j (am_mN v.1) (am_ps p j) && am_isw (am_pI v.1) (.instanceMethod (am_mN v.1)) && decide ((am_mN v.1).name = "<init>") && !am_isLaw (am_mN v.1) && am_dsc (am_mN v.1) v.2 && decide (am_mR v.1 = none)
theorem am_qX_ok : ∀ p, p < am_nP → ∀ j, j < am_nJ → am_oq (am_kX0 p j) (am_qX p j) = true := by decide +kernel
theorem am_kX_ok {mi j mj n : Nat} (h : am_kX (am_mP mi) j = some (mj, n)) : (Cond.methodLink (am_mO mi) j (am_mN mj) ∈ am_TB ∨ ∃ host, Cond.methodLinkNest (am_mO mi) j (am_mN mj) host ∈ am_NW) ∧ Cond.instanceMethod (am_mN mj) ∈ am_TB ∧ (am_mN mj).name = "<init>" ∧ Cond.initialized (am_mN mj).cls ∈ am_TB ∧ Cond.code (am_mN mj) (am_mB mj) (am_mL mj) (am_mR mj) ∈ am_TB ∧ ((am_mN mj).cls ≠ "java/lang/invoke/MethodHandle" ∧ (am_mN mj).cls ≠ "java/lang/invoke/VarHandle" ∧ (parseMethodDescriptor (am_mN mj).desc).map (fun d => d.parameters.length) = some n) ∧ am_mR mj = none := by
  have h1 := am_b2_all am_qX_ok h
  unfold am_qX at h1
  simp only [Bool.and_eq_true, Bool.not_eq_true', decide_eq_true_eq] at h1
  obtain ⟨⟨⟨⟨⟨h1, h2⟩, h3⟩, h4⟩, h6⟩, h8⟩ := h1
  have h7 := am_lkM_of h1
  rw [am_mP_ok] at h7
  exact ⟨h7, am_isw_of h2, h3, (am_qW_of h4).1, (am_qW_of h4).2, am_dsc_of h6, h8⟩
