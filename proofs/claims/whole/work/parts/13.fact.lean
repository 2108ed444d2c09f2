/-! what the tables keep -/
def am_isN : Cond → Bool
  | .fieldLinkNest _ _ _ _ _ _ => true
  | .methodLinkNest _ _ _ _ => true
  | _ => false
noncomputable def am_TB : List Cond := lw_tbl.filter goodWord
noncomputable def am_NW : List Cond := lw_tbl.filter am_isN
/-- the words in their five lists, behind those of private methods -/
noncomputable def am_chk (c : Nat) : List Cond := bif Nat.blt c 3 then (bif Nat.blt c 1 then k2_sels lw_privs else bif Nat.blt c 2 then tables_1_1 else tables_1_2) else bif Nat.blt c 4 then tables_1_3 else bif Nat.blt c 5 then tables_1_4 else tables_1_5
theorem am_chk_in {c : Nat} {w : Cond} (h : w ∈ am_chk c) : w ∈ lw_tbl := by
  unfold am_chk at h
  unfold lw_tbl tables_1
  cases h1 : Nat.blt c 3 <;> cases h2 : Nat.blt c 1 <;> cases h3 : Nat.blt c 2 <;> cases h4 : Nat.blt c 4 <;> cases h5 : Nat.blt c 5 <;> simp only [h1, h2, h3, h4, h5, cond_true, cond_false] at h <;> simp only [List.mem_append, h, true_or, or_true]
/-- the word at a place: the list's number times 1024, and the place in it -/
noncomputable def am_at (k : Nat) : Option Cond := (am_chk (k / 1024))[k % 1024]?
theorem am_at_in {k : Nat} {w : Cond} (h : am_at k = some w) : w ∈ lw_tbl := am_chk_in (List.mem_of_getElem? h)
noncomputable def am_isw (k : Nat) (w : Cond) : Bool := decide (am_at k = some w) && goodWord w
noncomputable def am_isn (k : Nat) (w : Cond) : Bool := decide (am_at k = some w) && am_isN w
theorem am_isw_of {k : Nat} {w : Cond} (h : am_isw k w = true) : w ∈ am_TB := by
  unfold am_isw at h
  rw [Bool.and_eq_true] at h
  exact List.mem_filter.mpr ⟨am_at_in (of_decide_eq_true h.1), h.2⟩
theorem am_isn_of {k : Nat} {w : Cond} (h : am_isn k w = true) : w ∈ am_NW := by
  unfold am_isn at h
  rw [Bool.and_eq_true] at h
  exact List.mem_filter.mpr ⟨am_at_in (of_decide_eq_true h.1), h.2⟩
noncomputable def am_mO (mi : Nat) : String := (am_mN mi).cls
noncomputable def am_lkF (own : String) (j : Nat) (f : String × String × String × Bool) (q : Nat × Bool × String) : Bool := match q.2.1 with
  | false => am_isw q.1 (.fieldLink own j f.1 f.2.1 f.2.2.1)
  | true => am_isn q.1 (.fieldLinkNest own j f.1 f.2.1 f.2.2.1 q.2.2)
theorem am_lkF_of {own : String} {j : Nat} {f : String × String × String × Bool} {q : Nat × Bool × String} (h : am_lkF own j f q = true) : Cond.fieldLink own j f.1 f.2.1 f.2.2.1 ∈ am_TB ∨ ∃ host, Cond.fieldLinkNest own j f.1 f.2.1 f.2.2.1 host ∈ am_NW := by
  unfold am_lkF at h
  split at h
  · exact Or.inl (am_isw_of h)
  · exact Or.inr ⟨_, am_isn_of h⟩
noncomputable def am_lkM (own : String) (j : Nat) (y : MethodName) (q : Nat × Bool × String) : Bool := match q.2.1 with
  | false => am_isw q.1 (.methodLink own j y)
  | true => am_isn q.1 (.methodLinkNest own j y q.2.2)
theorem am_lkM_of {own : String} {j : Nat} {y : MethodName} {q : Nat × Bool × String} (h : am_lkM own j y q = true) : Cond.methodLink own j y ∈ am_TB ∨ ∃ host, Cond.methodLinkNest own j y host ∈ am_NW := by
  unfold am_lkM at h
  split at h
  · exact Or.inl (am_isw_of h)
  · exact Or.inr ⟨_, am_isn_of h⟩
noncomputable def am_qF (p j : Nat) (v : Nat × Nat) : Bool := am_cf v.1 fun q => Nat.blt v.2 q.2.2 && am_lkF (am_pN p) j (q.2.1 v.2) (am_ps p j)
theorem am_qF_ok : ∀ p, p < am_nP → ∀ j, j < am_nJ → am_oq (am_kF0 p j) (am_qF p j) = true := by decide +kernel
theorem am_mP_ok (mi : Nat) : am_pN (am_mP mi) = am_mO mi := of_decide_eq_true (am_mall (fun j => decide (am_pN (am_mPt j) = (am_mNt j).cls)) (by decide +kernel) mi)
theorem am_kF_ok {mi j ci k : Nat} (h : am_kF (am_mP mi) j = some (ci, k)) : ∃ C T N, am_cl[ci]? = some (C, T, N) ∧ k < N ∧ (Cond.fieldLink (am_mO mi) j (T k).1 (T k).2.1 (T k).2.2.1 ∈ am_TB ∨ ∃ host, Cond.fieldLinkNest (am_mO mi) j (T k).1 (T k).2.1 (T k).2.2.1 host ∈ am_NW) := by
  have h1 := am_b2_all am_qF_ok h
  obtain ⟨C, T, N, h2, h3⟩ := am_cf_of h1
  rw [Bool.and_eq_true] at h3
  have h4 := am_lkF_of h3.2
  rw [am_mP_ok] at h4
  exact ⟨C, T, N, h2, Nat.le_of_ble_eq_true h3.1, h4⟩
noncomputable def am_qP (p j : Nat) (v : Nat × Nat × FieldType) : Bool := am_cf v.1 fun q => Nat.blt v.2.1 q.2.2 && am_isw (am_ps p j).1 (.fieldLink (am_pN p) j (q.2.1 v.2.1).1 (q.2.1 v.2.1).2.1 (q.2.1 v.2.1).2.2.1) && decide (parseFieldDescriptor (q.2.1 v.2.1).2.2.1 = some v.2.2)
theorem am_qP_ok : ∀ p, p < am_nP → ∀ j, j < am_nJ → am_oq (am_kP0 p j) (am_qP p j) = true := by decide +kernel
theorem am_kP_ok {mi pc nx t j ci k : Nat} {ty : FieldType} (hd : am_cd mi pc = some (.putfield j, nx, t)) (h : am_kP (am_mP mi) j = some (ci, k, ty)) : ∃ C T N, am_cl[ci]? = some (C, T, N) ∧ k < N ∧ Cond.fieldLink (am_mO mi) j (T k).1 (T k).2.1 (T k).2.2.1 ∈ am_TB ∧ ((T k).2.2.2 = false ∨ ((T k).2.2.2 = true ∧ am_mI mi = true ∧ (T k).1 = am_mO mi)) ∧ parseFieldDescriptor (T k).2.2.1 = some ty := by
  have h1 := am_b2_all am_qP_ok h
  obtain ⟨C, T, N, h2, h3⟩ := am_cf_of h1
  rw [Bool.and_eq_true, Bool.and_eq_true] at h3
  have h4 := am_isw_of h3.1.2
  rw [am_mP_ok] at h4
  refine ⟨C, T, N, h2, Nat.le_of_ble_eq_true h3.1.1, h4, ?_, of_decide_eq_true h3.2⟩
  obtain ⟨n, -, -, h5⟩ := am_cd_ok hd
  replace h5 : (match am_kP (am_mP mi) j with
    | some (ci, k, _) => am_cf ci fun q => !(q.2.1 k).2.2.2 || (am_mI mi && decide ((q.2.1 k).1 = am_pN (am_mP mi)))
    | none => true) = true := h5
  rw [h] at h5
  obtain ⟨C', T', N', h6, h7⟩ := am_cf_of h5
  rw [h2] at h6
  cases h6
  cases hf : (T k).2.2.2 with
  | false => exact Or.inl rfl
  | true =>
    simp only [hf, Bool.not_true, Bool.false_or, Bool.and_eq_true, decide_eq_true_eq] at h7
    exact Or.inr ⟨rfl, h7.1, h7.2.trans (am_mP_ok mi)⟩
/-- a new object's fields are plain values -/
noncomputable def am_pl : Value → Bool
  | .ref _ => false
  | .retAddr _ => false
  | _ => true
noncomputable def am_qD (ci : Nat) (q : vw_C) : Bool := Nat.beq (am_df ci).length q.2.2 && (List.range q.2.2).all fun k => match parseFieldDescriptor (q.2.1 k).2.2.1, (am_df ci)[k]? with
  | some ty, some v => decide (defaultValue ty = v) && am_pl v
  | _, _ => false
noncomputable def am_qC (p j : Nat) (ci : Nat) : Bool := am_cf ci fun q => am_isw (am_ps p j).1 (.classLink (am_pN p) j q.1) && am_isw (am_cP ci).1 (.instantiable q.1 q.2.2) && am_isw (am_cP ci).2 (.initialized q.1) && am_qD ci q
theorem am_qC_ok : ∀ p, p < am_nP → ∀ j, j < am_nJ → am_oq (am_kC0 p j) (am_qC p j) = true := by decide +kernel
theorem am_cv_pl {bs : Nat} {ad : Nat → Nat} {v : Value} (h : am_pl v = true) : am_cv bs ad v = v := by
  cases v <;> first | rfl | cases h
theorem am_kC_ok {mi j ci : Nat} (h : am_kC (am_mP mi) j = some ci) : ∃ C T N, am_cl[ci]? = some (C, T, N) ∧ Cond.classLink (am_mO mi) j C ∈ am_TB ∧ Cond.instantiable C N ∈ am_TB ∧ Cond.initialized C ∈ am_TB ∧ (am_df ci).length = N ∧ ∀ (bs : Nat) (ad : Nat → Nat) (ty : Nat → FieldType), (∀ k, k < N → parseFieldDescriptor (T k).2.2.1 = some (ty k)) → ∀ k, k < N → defaultValue (ty k) = vp_V ((am_df ci).map (am_cv bs ad)) k := by
  have h1 := am_b2_all am_qC_ok h
  obtain ⟨C, T, N, h2, h3⟩ := am_cf_of h1
  rw [Bool.and_eq_true, Bool.and_eq_true, Bool.and_eq_true] at h3
  have h4 := am_isw_of h3.1.1.1
  rw [am_mP_ok] at h4
  have h5 := h3.2
  unfold am_qD at h5
  rw [Bool.and_eq_true, List.all_eq_true] at h5
  refine ⟨C, T, N, h2, h4, am_isw_of h3.1.1.2, am_isw_of h3.1.2, Nat.eq_of_beq_eq_true h5.1, fun bs ad ty hty k hk => ?_⟩
  have h6 := h5.2 k (List.mem_range.mpr hk)
  rw [hty k hk] at h6
  split at h6
  · next ty1 v e1 e2 =>
    cases e1
    rw [Bool.and_eq_true] at h6
    simp only [vp_V, List.getD_eq_getElem?_getD, List.getElem?_map, e2, Option.map_some, Option.getD_some, am_cv_pl h6.2]
    exact of_decide_eq_true h6.1
  · cases h6
noncomputable def am_qQ (p j : Nat) (v : Nat × Nat) : Bool := am_isw (am_ps p j).1 (.fieldLink (am_pN p) j (am_rT v.1 v.2).1 (am_rT v.1 v.2).2.1 (am_rT v.1 v.2).2.2)
theorem am_qQ_ok : ∀ p, p < am_nP → ∀ j, j < am_nJ → am_oq (am_kQ0 p j) (am_qQ p j) = true := by decide +kernel
theorem am_kQ_ok {mi j ci k : Nat} (h : am_kQ (am_mP mi) j = some (ci, k)) : Cond.fieldLink (am_mO mi) j (am_rT ci k).1 (am_rT ci k).2.1 (am_rT ci k).2.2 ∈ am_TB := by
  have h1 := am_isw_of (am_b2_all am_qQ_ok h)
  rw [am_mP_ok] at h1
  exact h1
noncomputable def am_qI (p j : Nat) (v : Value) : Bool := match v with
  | .int x => am_isw (am_ps p j).1 (.constant (am_pN p) j x)
  | .retAddr n => match am_sk[(am_ps p j).1]? with
    | some q => decide (q.1 = am_pN p) && Nat.beq q.2.1 j && Nat.beq n (q.2.2.2 + 1)
    | none => false
  | _ => false
theorem am_qI_ok : ∀ p, p < am_nP → ∀ j, j < am_nJ → am_oq (am_kI0 p j) (am_qI p j) = true := by decide +kernel
theorem am_kI_ok {mi j : Nat} {v : Value} (h : am_kI (am_mP mi) j = some v) : (∃ x, v = .int x ∧ Cond.constant (am_mO mi) j x ∈ am_TB) ∨ ∃ q ∈ am_sk, q.1 = am_mO mi ∧ q.2.1 = j ∧ v = .retAddr (q.2.2.2 + 1) := by
  have h1 := am_b2_all am_qI_ok h
  unfold am_qI at h1
  split at h1
  · next x =>
    have h2 := am_isw_of h1
    rw [am_mP_ok] at h2
    exact Or.inl ⟨x, rfl, h2⟩
  · next n =>
    split at h1
    · next q hq =>
      rw [Bool.and_eq_true, Bool.and_eq_true] at h1
      exact Or.inr ⟨q, List.mem_of_getElem? hq, (of_decide_eq_true h1.1.1).trans (am_mP_ok mi), Nat.eq_of_beq_eq_true h1.1.2, by rw [Nat.eq_of_beq_eq_true h1.2]⟩
    · cases h1
  · cases h1
noncomputable def am_qL (p j : Nat) (v : Int64) : Bool := am_isw (am_ps p j).1 (.constantLong (am_pN p) j v)
theorem am_qL_ok : ∀ p, p < am_nP → ∀ j, j < am_nJ → am_oq (am_kL0 p j) (am_qL p j) = true := by decide +kernel
theorem am_kL_ok {mi j : Nat} {v : Int64} (h : am_kL (am_mP mi) j = some v) : Cond.constantLong (am_mO mi) j v ∈ am_TB := by
  have h1 := am_isw_of (am_b2_all am_qL_ok h)
  rw [am_mP_ok] at h1
  exact h1
/-- statics: the place in am_gs -/
noncomputable def am_qG (p j : Nat) (v : Value) : Bool := match am_gs[(am_ps p j).2.2.length]? with
  | some q => am_isw (am_ps p j).1 (.fieldLink (am_pN p) j q.1 q.2.1 q.2.2.1) && decide (v = q.2.2.2)
  | none => false
theorem am_qG_ok : ∀ p, p < am_nP → ∀ j, j < am_nJ → am_oq (am_kG0 p j) (am_qG p j) = true := by decide +kernel
theorem am_kG_ok {mi j : Nat} {v : Value} (h : am_kG (am_mP mi) j = some v) : ∃ q ∈ am_gs, Cond.fieldLink (am_mO mi) j q.1 q.2.1 q.2.2.1 ∈ am_TB ∧ v = q.2.2.2 := by
  have h1 := am_b2_all am_qG_ok h
  unfold am_qG at h1
  split at h1
  · next q hq =>
    rw [Bool.and_eq_true] at h1
    have h2 := am_isw_of h1.1
    rw [am_mP_ok] at h2
    exact ⟨q, List.mem_of_getElem? hq, h2, of_decide_eq_true h1.2⟩
  · cases h1
/-- Object's constructor, Math.min -/
noncomputable def am_qO (p j : Nat) (_ : Unit) : Bool := am_isw (am_ps p j).1 (.methodLink (am_pN p) j Lib.objectInit)
theorem am_qO_ok : ∀ p, p < am_nP → ∀ j, j < am_nJ → am_oq (am_kO0 p j) (am_qO p j) = true := by decide +kernel
theorem am_kO_ok {mi j : Nat} (h : (am_kOo (am_mP mi) j).isSome = true) : Cond.methodLink (am_mO mi) j Lib.objectInit ∈ am_TB := by
  obtain ⟨u, hu⟩ := Option.isSome_iff_exists.mp h
  have h1 := am_isw_of (am_b2_all am_qO_ok hu)
  rw [am_mP_ok] at h1
  exact h1
noncomputable def am_qN (p j : Nat) (_ : Unit) : Bool := am_isw (am_ps p j).1 (.methodLink (am_pN p) j Lib.Math.min.name)
theorem am_qN_ok : ∀ p, p < am_nP → ∀ j, j < am_nJ → am_oq (am_kN0 p j) (am_qN p j) = true := by decide +kernel
theorem am_kN_w : am_isw am_wM.1 (.static Lib.Math.min.name) = true ∧ am_isw am_wM.2.1 (.initialized "java/lang/Math") = true ∧ am_isw am_wM.2.2 (.code Lib.Math.min.name Lib.Math.min.code 2 (some .int)) = true := by decide +kernel
theorem am_kN_ok {mi j : Nat} (h : (am_kNo (am_mP mi) j).isSome = true) : Cond.methodLink (am_mO mi) j Lib.Math.min.name ∈ am_TB ∧ Cond.static Lib.Math.min.name ∈ am_TB ∧ Cond.initialized "java/lang/Math" ∈ am_TB ∧ Cond.code Lib.Math.min.name Lib.Math.min.code 2 (some .int) ∈ am_TB := by
  obtain ⟨u, hu⟩ := Option.isSome_iff_exists.mp h
  have h1 := am_isw_of (am_b2_all am_qN_ok hu)
  rw [am_mP_ok] at h1
  exact ⟨h1, am_isw_of am_kN_w.1, am_isw_of am_kN_w.2.1, am_isw_of am_kN_w.2.2⟩
theorem am_ob_i : Cond.instanceMethod Lib.objectInit ∈ am_TB := am_isw_of (k := am_wO.1) (by decide +kernel)
theorem am_ob_c : Cond.code Lib.objectInit ⟨#[0xb1]⟩ 1 none ∈ am_TB := am_isw_of (k := am_wO.2) (by decide +kernel)
theorem am_ac_int : Cond.arrayClass .int ∈ am_TB := am_isw_of (k := am_wA.1) (by decide +kernel)
theorem am_ac_boolean : Cond.arrayClass .boolean ∈ am_TB := am_isw_of (k := am_wA.2.1) (by decide +kernel)
theorem am_ac_long : Cond.arrayClass .long ∈ am_TB := am_isw_of (k := am_wA.2.2) (by decide +kernel)
