/-! classes -/
noncomputable def am_qK (ci : Nat) : Bool := am_cf ci fun q => decide (q.1 = am_cN ci) && (List.range q.2.2).all fun k => am_isw (am_lp ci k) (u_lay q.1 q.2.1 k) && (parseFieldDescriptor (q.2.1 k).2.2.1).isSome && (List.range q.2.2).all fun b => Nat.beq k b || !decide ((q.2.1 k).2.1 = (q.2.1 b).2.1)
theorem am_qK_ok : ∀ ci, ci < am_cl.length → am_qK ci = true := by decide +kernel
theorem am_cl_ok {ci : Nat} {C : String} {T : u_T} {N : Nat} (h : am_cl[ci]? = some (C, T, N)) : (∀ w ∈ u_ws C T N, w ∈ am_TB) ∧ ∃ ty : Nat → FieldType, (∀ k, k < N → parseFieldDescriptor (T k).2.2.1 = some (ty k)) ∧ ∀ a, a < N → ∀ b, b < N → a ≠ b → (T a).2.1 ≠ (T b).2.1 := by
  obtain ⟨C', T', N', h2, h3⟩ := am_cf_of (am_qK_ok ci (List.getElem?_eq_some_iff.mp h).1)
  rw [h] at h2
  cases h2
  rw [Bool.and_eq_true, List.all_eq_true] at h3
  have h4 : ∀ k, k < N → (am_isw (am_lp ci k) (u_lay C T k) = true ∧ (parseFieldDescriptor (T k).2.2.1).isSome = true) ∧ ∀ b, b < N → (Nat.beq k b || !decide ((T k).2.1 = (T b).2.1)) = true := by
    intro k hk
    have := h3.2 k (List.mem_range.mpr hk)
    simp only [Bool.and_eq_true] at this
    exact ⟨this.1, fun b hb => (List.all_eq_true.mp this.2) b (List.mem_range.mpr hb)⟩
  refine ⟨fun w hw => ?_, fun k => (parseFieldDescriptor (T k).2.2.1).getD .int, fun k hk => ?_, fun a ha b hb hab e => ?_⟩
  · obtain ⟨k, hk, rfl⟩ := List.mem_map.mp hw
    exact am_isw_of (h4 k (List.mem_range.mp hk)).1.1
  · obtain ⟨v, hv⟩ := Option.isSome_iff_exists.mp (h4 k hk).1.2
    show _ = some ((parseFieldDescriptor (T k).2.2.1).getD .int)
    rw [hv]
    rfl
  · have := (h4 a ha).2 b hb
    rw [Bool.or_eq_true] at this
    rcases this with q | q
    · exact hab (Nat.eq_of_beq_eq_true q)
    · rw [decide_eq_true e] at q
      cases q
theorem am_cl_nm {ci : Nat} {q : vw_C} (h : am_cl[ci]? = some q) : q.1 = am_cN ci := by
  obtain ⟨C', T', N', h2, h3⟩ := am_cf_of (am_qK_ok ci (List.getElem?_eq_some_iff.mp h).1)
  rw [h] at h2
  cases h2
  rw [Bool.and_eq_true] at h3
  exact of_decide_eq_true h3.1
theorem am_mC_ok {mi : Nat} : am_cN (am_mC mi) = (am_mN mi).cls := of_decide_eq_true (am_mall (fun j => decide (am_cN (am_mCt j) = (am_mNt j).cls)) (by decide +kernel) mi)
theorem am_mN_plain (mi : Nat) : plainFor (am_mN mi) = true := am_mall (fun j => plainFor (am_mNt j)) (by decide +kernel) mi
theorem am_mI_ok {mi : Nat} (h : am_mI mi = true) : (am_mN mi).name = "<init>" := by
  have := am_mall (fun j => !am_mIt j || decide ((am_mNt j).name = "<init>")) (by decide +kernel) mi
  simp only [Bool.or_eq_true, Bool.not_eq_true', decide_eq_true_eq] at this
  rcases this with q | q
  · rw [show am_mIt (am_sm mi) = am_mI mi from rfl, h] at q
    cases q
  · exact q
theorem am_mL_le (mi : Nat) : am_mL mi ≤ 13 := Nat.le_of_ble_eq_true (am_mall (fun j => Nat.ble (am_mLt j) 13) (by decide +kernel) mi)
