/-! RUNS: steps and calls, up to a return -/
noncomputable def am_fn (st : List Value) : Instr → Option (Option Value)
  | .ireturn => match st with
    | [.int x] => some (some (.int x))
    | _ => none
  | .lreturn => match st with
    | [.long x] => some (some (.long x))
    | _ => none
  | .return_ => match st with
    | [] => some none
    | _ => none
  | _ => none
/-- the answer is one of the method's type -/
noncomputable def am_fk (mi : Nat) (r : Option Value) : Prop := match r with
  | some (.int x) => ∃ ty, am_mR mi = some ty ∧ narrow ty (.int x) = .int x
  | some (.long _) => am_mR mi = some .long
  | none => am_mR mi = none
  | _ => False
noncomputable def am_rv (ro : Nat → Option am_C) (hp : am_H) (b : Value) (ci : Nat) : Bool := match am_gi ro hp b with
  | some (.inr (cj, _)) => Nat.beq cj ci
  | _ => false
noncomputable def am_iv (ro : Nat → Option am_C) (mi : Nat) (st : List Value) (hp : am_H) : Instr → Option (Nat × List Value × List Value)
  | .invokevirtual i => match am_kV (am_mP mi) i with
    | some (mj, n) => match st.drop n with
      | b :: rest => match am_rv ro hp b (am_mC mj) && am_rm rest && Nat.beq (st.take n).length n with
        | true => some (mj, b :: (st.take n).reverse, rest)
        | false => none
      | _ => none
    | none => none
  | .invokestatic i => match am_kT (am_mP mi) i with
    | some (mj, n) => match am_rm (st.drop n) && Nat.beq (st.take n).length n with
      | true => some (mj, (st.take n).reverse, st.drop n)
      | false => none
    | none => none
  | .invokespecial i => match am_kX (am_mP mi) i with
    | some (mj, n) => match st.drop n with
      | .ref b :: rest => match am_rm rest && Nat.beq (st.take n).length n with
        | true => some (mj, .ref b :: (st.take n).reverse, rest)
        | false => none
      | _ => none
    | none => none
  | _ => none
noncomputable def am_ev (ro : Nat → Option am_C) (call : Nat → List Value → am_H → Option Value → am_H → Prop) (mi : Nat) : Nat → Nat → List Value → List Value → am_H → Option Value → am_H → Prop
  | 0, pc, _, st, hp, r, hp' => ∃ i nx t, am_cd mi pc = some (i, nx, t) ∧ am_fn st i = some r ∧ am_fk mi r ∧ hp' = hp
  | k + 1, pc, L, st, hp, r, hp' => ∃ i nx t, am_cd mi pc = some (i, nx, t) ∧
      ((∃ pc1 L1 st1 hp1 φ, am_st ro mi pc nx t L st hp i = some (pc1, L1, st1, hp1, φ) ∧ am_ph φ ∧ am_ev ro call mi k pc1 L1 st1 hp1 r hp') ∨
       (∃ q st1, am_bc st i = some (q, st1) ∧ ((q ∧ am_ev ro call mi k t L st1 hp r hp') ∨ (¬ q ∧ am_ev ro call mi k nx L st1 hp r hp'))) ∨
       (∃ mj as rest r1 hp1, am_iv ro mi st hp i = some (mj, as, rest) ∧ call mj as hp r1 hp1 ∧ am_ev ro call mi k nx L (r1.toList ++ rest) hp1 r hp'))
/-- locals at the entry -/
noncomputable def am_lay : List Value → List Value
  | [] => []
  | v :: r => if v.category = 2 then v :: am_un :: am_lay r else v :: am_lay r
noncomputable def am_l0 (mi : Nat) (as : List Value) : List Value := am_lay as ++ List.replicate (am_mL mi - (am_lay as).length) am_un
/-- a method's run, at most d calls deep -/
noncomputable def am_run (ro : Nat → Option am_C) : Nat → Nat → List Value → am_H → Option Value → am_H → Prop
  | 0, _, _, _, _, _ => False
  | d + 1, mi, as, hp, r, hp' => (am_lay as).length ≤ am_mL mi ∧ ∃ k, am_ev ro (am_run ro d) mi k 0 (am_l0 mi as) [] hp r hp'
/-! the row of cells only grows -/
noncomputable def am_le (hp hp' : am_H) : Prop := hp.length ≤ hp'.length ∧ am_sz hp ≤ am_sz hp'
theorem am_le.rf {hp : am_H} : am_le hp hp := ⟨Nat.le_refl _, Nat.le_refl _⟩
theorem am_le.tr {a b d : am_H} (h : am_le a b) (g : am_le b d) : am_le a d := ⟨Nat.le_trans h.1 g.1, Nat.le_trans h.2 g.2⟩
theorem am_le.st {hp : am_H} {i : Nat} {x y : am_C} (h : hp[i]? = some x) (hs : am_cs y = am_cs x) : am_le hp (hp.set i y) := ⟨by rw [List.length_set]; exact Nat.le_refl _, by rw [am_sz_set hs h]; exact Nat.le_refl _⟩
theorem am_le.ap {hp : am_H} {x : am_C} : am_le hp (hp ++ [x]) := ⟨by simp, by rw [am_sz_app]; omega⟩
set_option maxHeartbeats 4000000 in
theorem am_st_le {ro : Nat → Option am_C} {mi pc nx t : Nat} {L st : List Value} {hp : am_H} {i : Instr} {pc' : Nat} {L' st' : List Value} {hp' : am_H} {φ : Option Prop} (h : am_st ro mi pc nx t L st hp i = some (pc', L', st', hp', φ)) : am_le hp hp' := by
  cases i with
  | putfield j =>
    obtain ⟨v, a, r, -, h⟩ := am_va_inv h
    obtain ⟨ci, kx, ty, hkp, h⟩ := am_kf_inv h
    obtain ⟨fs, hob, h⟩ := am_ov_inv h
    have hc := am_ob_inv hob
    obtain ⟨hlt, h⟩ := am_bt_inv h
    cases h
    exact am_le.st hc (by simp [am_cs])
  | iastore =>
    obtain ⟨x, j, a, r, -, h⟩ := am_iia_inv h
    obtain ⟨N, g, hc, h⟩ := am_ai_inv h
    cases h
    exact am_le.st hc rfl
  | lastore =>
    obtain ⟨x, j, a, r, -, h⟩ := am_lia_inv h
    obtain ⟨N, g, hc, h⟩ := am_al_inv h
    cases h
    exact am_le.st hc rfl
  | bastore =>
    obtain ⟨x, j, a, r, -, h⟩ := am_iia_inv h
    obtain ⟨N, g, hc, h⟩ := am_az_inv h
    cases h
    exact am_le.st hc rfl
  | newarray t =>
    obtain ⟨x, r, -, h⟩ := am_i1_inv h
    obtain ⟨ca, hca, h⟩ := am_ov_inv h
    cases h
    exact am_le.ap
  | new j =>
    obtain ⟨ci, hkc, h⟩ := am_ov_inv h
    cases h
    exact am_le.ap
  | _ => first
    | (cases h; done)
    | (cases h; exact am_le.rf)
    | (obtain ⟨v, hv, h⟩ := am_ov_inv h; cases h; exact am_le.rf)
    | (obtain ⟨x, hL, h⟩ := am_li_inv h; cases h; exact am_le.rf)
    | (obtain ⟨x, hL, h⟩ := am_ll_inv h; cases h; exact am_le.rf)
    | (obtain ⟨x, hL, ho, h⟩ := am_la_inv h; cases h; exact am_le.rf)
    | (obtain ⟨x, r, -, h⟩ := am_i1_inv h; cases h; exact am_le.rf)
    | (obtain ⟨x, r, -, h⟩ := am_l1_inv h; cases h; exact am_le.rf)
    | (obtain ⟨x, y, r, -, h⟩ := am_i2_inv h; cases h; exact am_le.rf)
    | (obtain ⟨x, y, r, -, h⟩ := am_l2_inv h; cases h; exact am_le.rf)
    | (obtain ⟨x, r, -, h⟩ := am_i1_inv h; obtain ⟨hp1, h⟩ := am_s1_inv h; cases h; exact am_le.rf)
    | (obtain ⟨x, r, -, ho, h⟩ := am_a1_inv h; obtain ⟨hp1, h⟩ := am_s1_inv h; cases h; exact am_le.rf)
    | (obtain ⟨x, r, -, h⟩ := am_l1_inv h; obtain ⟨hp1, h⟩ := am_s2_inv h; cases h; exact am_le.rf)
    | (obtain ⟨x, hL, h⟩ := am_li_inv h; obtain ⟨hp1, h⟩ := am_s1_inv h; cases h; exact am_le.rf)
    | (obtain ⟨v, r, -, h⟩ := am_v1_inv h; obtain ⟨hc, h⟩ := am_bt_inv h; cases h; exact am_le.rf)
    | (obtain ⟨v, w, r, -, h⟩ := am_v2_inv h; obtain ⟨hc, h⟩ := am_bt_inv h; cases h; exact am_le.rf)
    | (obtain ⟨v0, r, -, ho, h⟩ := am_a1_inv h; obtain ⟨v, hg, h⟩ := am_ov_inv h; cases h; exact am_le.rf)
    | (obtain ⟨x, v0, r, -, h⟩ := am_ia_inv h; obtain ⟨N, g, hc, h⟩ := am_ai_inv h; cases h; exact am_le.rf)
    | (obtain ⟨x, v0, r, -, h⟩ := am_ia_inv h; obtain ⟨N, g, hc, h⟩ := am_ab_inv h; cases h; exact am_le.rf)
    | (obtain ⟨x, v0, r, -, h⟩ := am_ia_inv h; obtain ⟨N, g, hc, h⟩ := am_al_inv h; cases h; exact am_le.rf)
    | (obtain ⟨v0, r, -, ho, h⟩ := am_a1_inv h; obtain ⟨N, hc, h⟩ := am_an_inv h; cases h; exact am_le.rf)
    | (obtain ⟨hko, h⟩ := am_bt_inv h; obtain ⟨v0, r, -, ho, h⟩ := am_a1_inv h; obtain ⟨hrm, h⟩ := am_bt_inv h; cases h; exact am_le.rf)
    | (obtain ⟨hko, h⟩ := am_bt_inv h; obtain ⟨x, y, r, -, h⟩ := am_i2_inv h; obtain ⟨hrm, h⟩ := am_bt_inv h; cases h; exact am_le.rf)
theorem am_ev_le {ro : Nat → Option am_C} {call : Nat → List Value → am_H → Option Value → am_H → Prop} (hcall : ∀ mj as hp r hp', call mj as hp r hp' → am_le hp hp') {mi : Nat} {r : Option Value} {hp' : am_H} : ∀ (k pc : Nat) (L st : List Value) (hp : am_H), am_ev ro call mi k pc L st hp r hp' → am_le hp hp' := by
  intro k
  induction k with
  | zero =>
    intro pc L st hp h
    obtain ⟨i, nx, t, -, -, -, rfl⟩ := h
    exact am_le.rf
  | succ k ih =>
    intro pc L st hp h
    obtain ⟨i, nx, t, hd, h | h | h⟩ := h
    · obtain ⟨pc1, L1, st1, hp1, φ, hs, -, h⟩ := h
      exact (am_st_le hs).tr (ih _ _ _ _ h)
    · obtain ⟨q, st1, -, ⟨-, h⟩ | ⟨-, h⟩⟩ := h
      · exact ih _ _ _ _ h
      · exact ih _ _ _ _ h
    · obtain ⟨mj, as, rest, r1, hp1, -, hc, h⟩ := h
      exact (hcall _ _ _ _ _ hc).tr (ih _ _ _ _ h)
theorem am_run_le {ro : Nat → Option am_C} : ∀ (d mi : Nat) (as : List Value) (hp : am_H) (r : Option Value) (hp' : am_H), am_run ro d mi as hp r hp' → am_le hp hp' := by
  intro d
  induction d with
  | zero => intro mi as hp r hp' h; cases h
  | succ d ih =>
    intro mi as hp r hp' h
    obtain ⟨-, k, h⟩ := h
    exact am_ev_le ih k _ _ _ _ h
