/-! PAPERS: needs, paper, lacks -/
theorem tb_hi {v i : Nat} (h : v < 1024) (hi : 10 ≤ i) : v.testBit i = false := Nat.testBit_lt_two_pow (Nat.lt_of_lt_of_le h (Nat.pow_le_pow_right (n := 2) (by decide) hi))
theorem lk_eq {v t : Nat} (h1 : v < 1024) : nI v &&& (nI t ^^^ (-1)) = nI (v &&& (t ^^^ 1023)) := by
  apply Int32.toBitVec_inj.mp
  show BitVec.ofNat 32 v &&& (BitVec.ofNat 32 t ^^^ BitVec.allOnes 32) = BitVec.ofNat 32 (v &&& (t ^^^ 1023))
  apply BitVec.eq_of_getLsbD_eq
  intro i hi
  simp only [BitVec.getLsbD_and, BitVec.getLsbD_xor, BitVec.getLsbD_ofNat, BitVec.getLsbD_allOnes, hi, decide_true, Bool.true_and, Nat.testBit_and, Nat.testBit_xor]
  by_cases h : i < 10
  · rw [show (1023 : Nat) = 2 ^ 10 - 1 from rfl, Nat.testBit_two_pow_sub_one]
    simp [h]
  · rw [tb_hi h1 (by omega)]
    rfl
theorem lk_lt {v t : Nat} (h1 : v < 1024) : v &&& t < 1024 := Nat.lt_of_le_of_lt Nat.and_le_left h1
theorem lk_bit {v t p : Nat} (hp : p < 10) : (v &&& (t ^^^ 1023)).testBit p = (v.testBit p && !t.testBit p) := by
  rw [Nat.testBit_and, Nat.testBit_xor, show (1023 : Nat) = 2 ^ 10 - 1 from rfl, Nat.testBit_two_pow_sub_one]
  simp [hp]
theorem sh_bit : ∀ v, v < 1024 → ∀ p, p < 10 → (nI v >>> (nI p &&& 31)) &&& 1 = nI (v.testBit p).toNat := by decide +kernel
theorem sh_one : ∀ p, p < 10 → (1 : Int32) <<< (nI p &&& 31) = nI (2 ^ p) := by decide +kernel
theorem or_eq {v p : Nat} : nI v ||| nI p = nI (v ||| p) := by
  apply Int32.toBitVec_inj.mp
  show BitVec.ofNat 32 v ||| BitVec.ofNat 32 p = BitVec.ofNat 32 (v ||| p)
  apply BitVec.eq_of_getLsbD_eq
  intro i hi
  simp only [BitVec.getLsbD_or, BitVec.getLsbD_ofNat, hi, decide_true, Bool.true_and, Nat.testBit_or]
theorem or_lt {v p : Nat} (h1 : v < 1024) (hp : p < 10) : v ||| 2 ^ p < 1024 := Nat.or_lt_two_pow (n := 10) h1 (Nat.pow_lt_pow_right (by decide) hp)
theorem or_bit {v p q : Nat} : (v ||| 2 ^ p).testBit q = (v.testBit q || decide (p = q)) := by rw [Nat.testBit_or, Nat.testBit_two_pow]
set_option maxRecDepth 100000 in
set_option maxHeartbeats 4000000 in
theorem sp_isin {ro : Nat → Option am_C} {v p : Nat} {hp : am_H} (hv : v < 1024) (h : p < 10) : am_run ro 1 44 [.int (nI v), .int (nI p)] hp (some (.int (nI (v.testBit p).toNat))) hp := by
  refine am_run_of rfl (am_wp_ok (inl := []) 20 0 44 [] 0 _ _ _ _ ?_)
  have e := sh_bit v hv p h
  cases hb : v.testBit p with
  | true =>
    rw [hb] at e
    refine am_br_f (show ¬ ¬ (nI v >>> (nI p &&& 31)) &&& 1 = 1 by rw [e]; exact fun z => z rfl) ?_
    exact And.intro rfl (And.intro rfl rfl)
  | false =>
    rw [hb] at e
    refine am_br_t (show ¬ (nI v >>> (nI p &&& 31)) &&& 1 = 1 by rw [e]; decide) ?_
    exact And.intro rfl (And.intro rfl rfl)
set_option maxRecDepth 100000 in
set_option maxHeartbeats 4000000 in
theorem sp_lacking {ro : Nat → Option am_C} {c : Bool} {a : Nat → Nat → Int32} {l : Nat → Int64} {f : Nat → Nat → Int32} {e v t : Nat} (he : e < 6) (ev : a 7 e = nI v) (et : a 8 e = nI t) (hv : v < 1024) : am_run ro 1 46 [.ref 6, .int (nI e)] (wd c a l f) (some (.int (nI (v &&& (t ^^^ 1023))))) (wd c a l f) := by
  have ee : (nI e).toNatClampNeg = e := nI_clamp (by omega)
  have hin : vp_in (nI e) 6 := vp_in_nI he (by decide)
  refine am_run_of rfl (am_wp_ok (inl := []) 20 0 46 [] 0 _ _ _ _ ?_)
  refine And.intro hin (And.intro hin ?_)
  refine And.intro (show some (Value.int (a 7 (nI e).toNatClampNeg &&& (a 8 (nI e).toNatClampNeg ^^^ (-1)))) = _ by rw [ee, ev, et, lk_eq hv]) rfl
set_option maxRecDepth 100000 in
set_option maxHeartbeats 4000000 in
theorem cs_dem_t {ro : Nat → Option am_C} {c : Bool} {a : Nat → Nat → Int32} {l : Nat → Int64} {f : Nat → Nat → Int32} {e p v : Nat} (he : e < 6) (hp : p < 10) (ev : a 7 e = nI v) (hv : v < 1024) (hb : v.testBit p = false) : am_run ro 2 43 [.ref 6, .int (nI e), .int (nI p)] (wd c a l f) (some (.int 1)) (wd c (u2 a 7 (upd (a 7) e (nI (v ||| 2 ^ p)))) l f) := by
  have ee : (nI e).toNatClampNeg = e := nI_clamp (by omega)
  have hin : vp_in (nI e) 6 := vp_in_nI he (by decide)
  refine am_run_of rfl (am_wp_ok (inl := []) 20 1 43 [9] 0 _ _ _ _ ?_)
  refine ⟨_, _, sp_below_t (nI_pos (by omega)) (nI_ge (b := 6) he (by decide)), ?_⟩
  refine am_br_f (by decide) ?_
  show am_T ro 1 43 9 [.ref 6, .int (nI e), .int (nI p)] [] (wd c a l f) _
  refine am_wp_ok (inl := []) 20 1 43 [18] _ _ _ _ _ ?_
  refine ⟨_, _, sp_below_t (nI_pos (by omega)) (nI_ge (b := 10) hp (by decide)), ?_⟩
  refine am_br_f (by decide) ?_
  show am_T ro 1 43 18 [.ref 6, .int (nI e), .int (nI p)] [] (wd c a l f) _
  refine am_wp_ok (inl := []) 20 1 43 [33] _ _ _ _ _ ?_
  refine And.intro hin ?_
  have hs : am_run ro 1 44 [.int (a 7 (nI e).toNatClampNeg), .int (nI p)] (wd c a l f) (some (.int 0)) (wd c a l f) := by
    rw [ee, ev]
    have := sp_isin (ro := ro) (hp := wd c a l f) hv hp
    rw [hb] at this
    exact this
  refine ⟨_, _, hs, ?_⟩
  refine am_br_t (by decide) ?_
  show am_T ro 1 43 33 [.ref 6, .int (nI e), .int (nI p)] [] (wd c a l f) _
  refine am_wp_ok (inl := []) 20 1 43 [] _ _ _ _ _ ?_
  refine And.intro hin (And.intro hin ?_)
  refine And.intro rfl (And.intro rfl ?_)
  show (wd c a l f).set 7 (.inl (.int, 6, .inl (upd (a 7) (nI e).toNatClampNeg (a 7 (nI e).toNatClampNeg ||| (1 <<< (nI p &&& 31)))))) = _
  rw [ws_7, ee, ev, sh_one p hp, or_eq]
set_option maxRecDepth 100000 in
set_option maxHeartbeats 4000000 in
theorem cs_dem_f {ro : Nat → Option am_C} {c : Bool} {a : Nat → Nat → Int32} {l : Nat → Int64} {f : Nat → Nat → Int32} {x y : Int32} (hc : ∀ e, e < 6 → ∃ v : Nat, v < 1024 ∧ a 7 e = nI v) (h : ¬ ∃ e p v : Nat, x = nI e ∧ y = nI p ∧ e < 6 ∧ p < 10 ∧ a 7 e = nI v ∧ v < 1024 ∧ v.testBit p = false) : am_run ro 2 43 [.ref 6, .int x, .int y] (wd c a l f) (some (.int 0)) (wd c a l f) := by
  refine am_run_of rfl (am_wp_ok (inl := []) 20 1 43 [9] 0 _ _ _ _ ?_)
  rcases bd x 6 (by decide) with ⟨e, he, rfl⟩ | hx
  · refine ⟨_, _, sp_below_t (nI_pos (by omega)) (nI_ge (b := 6) he (by decide)), ?_⟩
    refine am_br_f (by decide) ?_
    show am_T ro 1 43 9 [.ref 6, .int (nI e), .int y] [] (wd c a l f) _
    refine am_wp_ok (inl := []) 20 1 43 [18] _ _ _ _ _ ?_
    rcases bd y 10 (by decide) with ⟨p, hp, rfl⟩ | hy
    · refine ⟨_, _, sp_below_t (nI_pos (by omega)) (nI_ge (b := 10) hp (by decide)), ?_⟩
      refine am_br_f (by decide) ?_
      show am_T ro 1 43 18 [.ref 6, .int (nI e), .int (nI p)] [] (wd c a l f) _
      refine am_wp_ok (inl := []) 20 1 43 [33] _ _ _ _ _ ?_
      refine And.intro (vp_in_nI he (by decide)) ?_
      obtain ⟨v, hv, ev⟩ := hc e he
      have hb : v.testBit p = true := by
        cases hb : v.testBit p with
        | true => rfl
        | false => exact absurd ⟨e, p, v, rfl, rfl, he, hp, ev, hv, hb⟩ h
      have hs : am_run ro 1 44 [.int (a 7 (nI e).toNatClampNeg), .int (nI p)] (wd c a l f) (some (.int 1)) (wd c a l f) := by
        rw [nI_clamp (by omega), ev]
        have := sp_isin (ro := ro) (hp := wd c a l f) hv hp
        rw [hb] at this
        exact this
      refine ⟨_, _, hs, ?_⟩
      refine am_br_f (by decide) ?_
      exact And.intro rfl (And.intro rfl rfl)
    · refine ⟨_, _, sp_below_f hy, ?_⟩
      refine am_br_t (by decide) ?_
      exact And.intro rfl (And.intro rfl rfl)
  · refine ⟨_, _, sp_below_f hx, ?_⟩
    refine am_br_t (by decide) ?_
    exact And.intro rfl (And.intro rfl rfl)
/-! the reference -/
set_option maxRecDepth 100000 in
set_option maxHeartbeats 4000000 in
theorem sp_isp_t {ro : Nat → Option am_C} {e p : Nat} {hp : am_H} (he : e < 6) (h : p < 10) : am_run ro 2 139 [.int (nI e), .int (nI p)] hp (some (.int 1)) hp := by
  refine am_run_of rfl (am_wp_ok (inl := []) 20 1 139 [12] 0 _ _ _ _ ?_)
  refine ⟨_, _, in_t (j := e) (k := 5) (by omega) (by decide) rfl, ?_⟩
  refine am_br_f (by decide) ?_
  show am_T ro 1 139 12 [.int (nI e), .int (nI p)] [] hp _
  refine am_wp_ok (inl := []) 20 1 139 [] _ _ _ _ _ ?_
  refine ⟨_, _, in_t (j := p) (k := 9) (by omega) (by decide) rfl, ?_⟩
  refine am_br_f (by decide) ?_
  exact And.intro rfl (And.intro rfl rfl)
set_option maxRecDepth 100000 in
set_option maxHeartbeats 4000000 in
theorem sp_isp_f {ro : Nat → Option am_C} {x y : Int32} {hp : am_H} (h : ¬ ∃ e p : Nat, x = nI e ∧ y = nI p ∧ e < 6 ∧ p < 10) : am_run ro 2 139 [.int x, .int y] hp (some (.int 0)) hp := by
  refine am_run_of rfl (am_wp_ok (inl := []) 20 1 139 [12] 0 _ _ _ _ ?_)
  rcases bd x 6 (by decide) with ⟨e, he, rfl⟩ | hx
  · refine ⟨_, _, in_t (j := e) (k := 5) (by omega) (by decide) rfl, ?_⟩
    refine am_br_f (by decide) ?_
    show am_T ro 1 139 12 [.int (nI e), .int y] [] hp _
    refine am_wp_ok (inl := []) 20 1 139 [] _ _ _ _ _ ?_
    rcases bd y 10 (by decide) with ⟨p, hq, rfl⟩ | hy
    · exact absurd ⟨e, p, rfl, rfl, he, hq⟩ h
    · refine ⟨_, _, in_f (k := 9) hy (by decide) rfl, ?_⟩
      refine am_br_t (by decide) ?_
      exact And.intro rfl (And.intro rfl rfl)
  · refine ⟨_, _, in_f (k := 5) hx (by decide) rfl, ?_⟩
    refine am_br_t (by decide) ?_
    exact And.intro rfl (And.intro rfl rfl)
theorem pp_ix {e p : Nat} : 10 * nI e + nI p = nI (10 * e + p) := by rw [show (10 : Int32) = nI 10 from rfl, nI_mul, nI_add]
set_option maxRecDepth 100000 in
set_option maxHeartbeats 4000000 in
theorem mo_needs_t {ro : Nat → Option am_C} {c : Bool} {a : Nat → Nat → Int32} {l : Nat → Int64} {f : Nat → Nat → Int32} {e p : Nat} (he : e < 6) (hp : p < 10) (hb : a 74 (10 * e + p) = nI 0) : am_run ro 3 138 [.ref 60, .int (nI e), .int (nI p)] (wd c a l f) (some (.int 1)) (wd c (u2 a 74 (upd (a 74) (10 * e + p) (nI 1))) l f) := by
  have ec : (10 * nI e + nI p).toNatClampNeg = 10 * e + p := by rw [pp_ix]; exact nI_clamp (by omega)
  have hin : vp_in (10 * nI e + nI p) 60 := by rw [pp_ix]; exact vp_in_nI (by omega) (by decide)
  refine am_run_of rfl (am_wp_ok (inl := []) 20 2 138 [8] 0 _ _ _ _ ?_)
  refine ⟨_, _, sp_isp_t he hp, ?_⟩
  refine am_br_f (by decide) ?_
  show am_T ro 2 138 8 [.ref 60, .int (nI e), .int (nI p)] [] (wd c a l f) _
  refine am_wp_ok (inl := []) 20 2 138 [24] _ _ _ _ _ ?_
  refine And.intro hin ?_
  refine am_br_t (show a 74 (10 * nI e + nI p).toNatClampNeg = 0 by rw [ec, hb]; rfl) ?_
  show am_T ro 2 138 24 [.ref 60, .int (nI e), .int (nI p)] [] (wd c a l f) _
  refine am_wp_ok (inl := []) 20 2 138 [] _ _ _ _ _ ?_
  refine And.intro hin ?_
  refine And.intro rfl (And.intro rfl ?_)
  show (wd c a l f).set 74 (.inl (.boolean, 60, .inl (upd (a 74) (10 * nI e + nI p).toNatClampNeg (vp_nar .boolean 1)))) = _
  rw [ws_74, ec, show vp_nar .boolean 1 = nI 1 from rfl]
set_option maxRecDepth 100000 in
set_option maxHeartbeats 4000000 in
theorem mo_needs_f {ro : Nat → Option am_C} {c : Bool} {a : Nat → Nat → Int32} {l : Nat → Int64} {f : Nat → Nat → Int32} {x y : Int32} (hc : ∀ e p, e < 6 → p < 10 → a 74 (10 * e + p) = nI 0 ∨ a 74 (10 * e + p) = nI 1) (h : ¬ ∃ e p : Nat, x = nI e ∧ y = nI p ∧ e < 6 ∧ p < 10 ∧ a 74 (10 * e + p) = nI 0) : am_run ro 3 138 [.ref 60, .int x, .int y] (wd c a l f) (some (.int 0)) (wd c a l f) := by
  refine am_run_of rfl (am_wp_ok (inl := []) 20 2 138 [8] 0 _ _ _ _ ?_)
  by_cases hq : ∃ e p : Nat, x = nI e ∧ y = nI p ∧ e < 6 ∧ p < 10
  · obtain ⟨e, p, rfl, rfl, he, hp⟩ := hq
    refine ⟨_, _, sp_isp_t he hp, ?_⟩
    refine am_br_f (by decide) ?_
    show am_T ro 2 138 8 [.ref 60, .int (nI e), .int (nI p)] [] (wd c a l f) _
    refine am_wp_ok (inl := []) 20 2 138 [24] _ _ _ _ _ ?_
    refine And.intro (by rw [show am_ki 10 * nI e + nI p = nI (10 * e + p) from pp_ix]; exact vp_in_nI (by omega) (by decide)) ?_
    have e1 : a 74 (10 * e + p) = nI 1 := by
      rcases hc e p he hp with q | q
      · exact absurd ⟨e, p, rfl, rfl, he, hp, q⟩ h
      · exact q
    refine am_br_f (show ¬ a 74 (10 * nI e + nI p).toNatClampNeg = 0 by rw [pp_ix, nI_clamp (by omega), e1]; decide) ?_
    exact And.intro rfl (And.intro rfl rfl)
  · refine ⟨_, _, sp_isp_f hq, ?_⟩
    refine am_br_t (by decide) ?_
    exact And.intro rfl (And.intro rfl rfl)
set_option maxRecDepth 100000 in
set_option maxHeartbeats 4000000 in
theorem cl_needs {ro : Nat → Option am_C} {c : Bool} {a : Nat → Nat → Int32} {l : Nat → Int64} {f : Nat → Nat → Int32} {x y r : Int32} {hp : am_H} (h : am_run ro 11 43 [.ref 6, .int x, .int y] (wd c a l f) (some (.int r)) hp) (hr : narrow .boolean (.int r) = .int r) : am_run ro 12 16 [.ref 0, .int x, .int y] (wd c a l f) (some (.int r)) hp := by
  refine am_run_of rfl (am_wp_ok (inl := []) 60 11 16 [] 0 _ _ _ _ ?_)
  refine ⟨_, _, h, ?_⟩
  exact And.intro hr (And.intro rfl rfl)
theorem tb_01 (b : Bool) : nI b.toNat = nI 0 ∨ nI b.toNat = nI 1 := by cases b; exact Or.inl rfl; exact Or.inr rfl
theorem tb_0 {b : Bool} (h : nI b.toNat = nI 0) : b = false := by
  cases b
  · rfl
  · exact absurd h (by decide)
theorem op_needs {ro : Nat → Option am_C} (x y : Int32) : lp_op ro Rl 16 138 [.int x, .int y] := by
  intro c a l f hR
  obtain ⟨h1, h2, h3, h4, h5, h6⟩ := id hR
  by_cases hq : ∃ e p v : Nat, x = nI e ∧ y = nI p ∧ e < 6 ∧ p < 10 ∧ a 7 e = nI v ∧ v < 1024 ∧ v.testBit p = false
  · obtain ⟨e, p, v, rfl, rfl, he, hp, ev, hv, hb⟩ := hq
    obtain ⟨nd, th, g1, g2, g3, g4, g5⟩ := h3 e he
    have hnv : nd = v := (nI_eq (by omega) (by omega)).mp (g3.symm.trans ev)
    subst hnv
    have e74 : a 74 (10 * e + p) = nI 0 := by rw [(g5 p hp).1, hb]; rfl
    refine ⟨1, c, _, l, f, c, _, l, f, cl_needs (am_run_up (cs_dem_t he hp ev hv hb) (by decide)) rfl, am_run_up (mo_needs_t (a := u2 a 7 (upd (a 7) e (nI (nd ||| 2 ^ p)))) he hp e74) (by decide), ?_⟩
    refine ⟨h1, h2, fun i hi => ?_, h4, h5, by cases c <;> exact h6⟩
    show ∃ nd' th' : Nat, nd' < 1024 ∧ th' < 1024 ∧ upd (a 7) e (nI (nd ||| 2 ^ p)) i = nI nd' ∧ a 8 i = nI th' ∧ ∀ q, q < 10 → upd (a 74) (10 * e + p) (nI 1) (10 * i + q) = nI (nd'.testBit q).toNat ∧ a 75 (10 * i + q) = nI (th'.testBit q).toNat
    by_cases hie : i = e
    · subst hie
      refine ⟨nd ||| 2 ^ p, th, or_lt hv hp, g2, upd_same, g4, fun q hq => ⟨?_, (g5 q hq).2⟩⟩
      rw [or_bit]
      by_cases hqp : p = q
      · subst hqp
        rw [upd_same]
        simp
      · rw [upd_ne (by omega), (g5 q hq).1]
        simp [hqp]
    · obtain ⟨nd', th', k1, k2, k3, k4, k5⟩ := h3 i hi
      exact ⟨nd', th', k1, k2, by rw [upd_ne hie]; exact k3, k4, fun q hq => by rw [upd_ne (by omega)]; exact k5 q hq⟩
  · refine ⟨0, c, a, l, f, c, a, l, f, cl_needs (am_run_up (cs_dem_f (fun e he => by obtain ⟨nd, th, g1, g2, g3, g4, g5⟩ := h3 e he; exact ⟨nd, g1, g3⟩) hq) (by decide)) rfl, am_run_up (mo_needs_f (fun e p he hp => by obtain ⟨nd, th, g1, g2, g3, g4, g5⟩ := h3 e he; rw [(g5 p hp).1]; exact tb_01 _) (fun ⟨e, p, q1, q2, q3, q4, q5⟩ => ?_)) (by decide), hR⟩
    obtain ⟨nd, th, g1, g2, g3, g4, g5⟩ := h3 e q3
    rw [(g5 p q4).1] at q5
    exact hq ⟨e, p, nd, q1, q2, q3, q4, g3, g1, tb_0 q5⟩
