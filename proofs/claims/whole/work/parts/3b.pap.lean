/-! lacks, paper -/
def mq (b : Nat → Bool) (k : Int32) : Nat → Nat → Int32 → Int32
  | _, 0, _ => -1
  | p, m + 1, w => bif b p then (if w = k then nI p else mq b k (p + 1) m (w + 1)) else mq b k (p + 1) m w
theorem mq_f {b : Nat → Bool} {k : Int32} {p m : Nat} {w : Int32} (h : b p = false) : mq b k p (m + 1) w = mq b k (p + 1) m w := by
  show (bif b p then _ else _) = _
  rw [h]
  rfl
theorem mq_t {b : Nat → Bool} {k : Int32} {p m : Nat} {w : Int32} (h : b p = true) : mq b k p (m + 1) w = if w = k then nI p else mq b k (p + 1) m (w + 1) := by
  show (bif b p then _ else _) = _
  rw [h]
  rfl
theorem mq_neg {b : Nat → Bool} {k : Int32} : ∀ (m p : Nat) (w : Int32), (∀ q, p ≤ q → q < p + m → b q = false) → mq b k p m w = -1 := by
  intro m
  induction m with
  | zero => intro p w h; rfl
  | succ m ih =>
    intro p w h
    rw [mq_f (h p (by omega) (by omega))]
    exact ih (p + 1) w (fun q h1 h2 => h q (by omega) (by omega))
theorem mq_pos {b : Nat → Bool} {k : Int32} : ∀ (m p : Nat), (∃ q, p ≤ q ∧ q < p + m ∧ b q = true) → ∃ q : Nat, q < p + m ∧ mq b k p m k = nI q := by
  intro m
  induction m with
  | zero => intro p h; obtain ⟨q, h1, h2, -⟩ := h; omega
  | succ m ih =>
    intro p h
    cases hb : b p with
    | true => exact ⟨p, by omega, by rw [mq_t hb, if_pos rfl]⟩
    | false =>
      obtain ⟨q, h1, h2, h3⟩ := h
      have hne : q ≠ p := fun e => by rw [e, hb] at h3; cases h3
      obtain ⟨r, h4, h5⟩ := ih (p + 1) ⟨q, by omega, by omega, h3⟩
      exact ⟨r, by omega, by rw [mq_f hb]; exact h5⟩
set_option maxRecDepth 100000 in
set_option maxHeartbeats 4000000 in
theorem ms_loop {ro : Nat → Option am_C} {c : Bool} {a : Nat → Nat → Int32} {l : Nat → Int64} {f : Nat → Nat → Int32} {e v t : Nat} {k : Int32} (he : e < 6) (ev : a 7 e = nI v) (et : a 8 e = nI t) (hv : v < 1024) : ∀ (m p : Nat) (w : Int32), p + m = 10 → am_T ro 1 47 16 [.ref 6, .int (nI e), .int k, .int w, .int (nI p)] [] (wd c a l f) (fun r hp' => r = some (.int (mq (fun q => (v &&& (t ^^^ 1023)).testBit q) k p m w)) ∧ hp' = wd c a l f) := by
  intro m
  induction m with
  | zero =>
    intro p w h
    refine am_wp_ok (inl := []) 12 1 47 [] _ _ _ _ _ ?_
    refine am_br_t (show nI 10 ≤ nI p from nI_le (by omega) (by omega)) ?_
    exact And.intro rfl rfl
  | succ m ih =>
    intro p w h
    have nxt : ∀ w' : Int32, mq (fun q => (v &&& (t ^^^ 1023)).testBit q) k p (m + 1) w = mq (fun q => (v &&& (t ^^^ 1023)).testBit q) k (p + 1) m w' → am_T ro 1 47 47 [.ref 6, .int (nI e), .int k, .int w', .int (nI p)] [] (wd c a l f) (fun r hp' => r = some (.int (mq (fun q => (v &&& (t ^^^ 1023)).testBit q) k p (m + 1) w)) ∧ hp' = wd c a l f) := by
      intro w' hq
      refine am_wp_ok (inl := []) 5 1 47 [16] _ _ _ _ _ ?_
      show am_T ro 1 47 16 [.ref 6, .int (nI e), .int k, .int w', .int (nI p + 1)] [] (wd c a l f) _
      rw [nI_1, hq]
      exact ih (p + 1) w' (by omega)
    refine am_wp_ok (inl := []) 12 1 47 [23] _ _ _ _ _ ?_
    refine am_br_f (show ¬ nI 10 ≤ nI p from nI_ge (by omega) (by omega)) ?_
    show am_T ro 1 47 23 [.ref 6, .int (nI e), .int k, .int w, .int (nI p)] [] (wd c a l f) _
    refine am_wp_ok (inl := []) 20 1 47 [36, 47] _ _ _ _ _ ?_
    refine ⟨_, _, sp_lacking he ev et hv, ?_⟩
    refine ⟨_, _, sp_isin (v := v &&& (t ^^^ 1023)) (lk_lt hv) (show p < 10 by omega), ?_⟩
    cases hb : (v &&& (t ^^^ 1023)).testBit p with
    | false =>
      refine am_br_t (show nI false.toNat = 0 from rfl) ?_
      exact nxt w (mq_f hb)
    | true =>
      refine am_br_f (show ¬ nI true.toNat = 0 by decide) ?_
      show am_T ro 1 47 36 [.ref 6, .int (nI e), .int k, .int w, .int (nI p)] [] (wd c a l f) _
      refine am_wp_ok (inl := []) 20 1 47 [47] _ _ _ _ _ ?_
      by_cases hk : w = k
      · refine am_br_f (show ¬ ¬ w = k from fun z => z hk) ?_
        refine And.intro ?_ rfl
        rw [mq_t (b := fun q => (v &&& (t ^^^ 1023)).testBit q) hb, if_pos hk]
      · refine am_br_t hk ?_
        exact nxt (w + 1) (by rw [mq_t (b := fun q => (v &&& (t ^^^ 1023)).testBit q) hb, if_neg hk])
set_option maxRecDepth 100000 in
set_option maxHeartbeats 4000000 in
theorem cs_mis_t {ro : Nat → Option am_C} {c : Bool} {a : Nat → Nat → Int32} {l : Nat → Int64} {f : Nat → Nat → Int32} {e v t : Nat} {k : Int32} (he : e < 6) (ev : a 7 e = nI v) (et : a 8 e = nI t) (hv : v < 1024) : am_run ro 2 47 [.ref 6, .int (nI e), .int k] (wd c a l f) (some (.int (mq (fun q => (v &&& (t ^^^ 1023)).testBit q) k 0 10 0))) (wd c a l f) := by
  refine am_run_of rfl (am_wp_ok (inl := []) 20 1 47 [11] 0 _ _ _ _ ?_)
  refine ⟨_, _, sp_below_t (nI_pos (by omega)) (nI_ge (b := 6) he (by decide)), ?_⟩
  refine am_br_t (by decide) ?_
  show am_T ro 1 47 11 [.ref 6, .int (nI e), .int k, am_un, am_un] [] (wd c a l f) _
  refine am_wp_ok (inl := []) 20 1 47 [16] _ _ _ _ _ ?_
  exact ms_loop he ev et hv 10 0 0 (by omega)
set_option maxRecDepth 100000 in
set_option maxHeartbeats 4000000 in
theorem cs_mis_f {ro : Nat → Option am_C} {c : Bool} {a : Nat → Nat → Int32} {l : Nat → Int64} {f : Nat → Nat → Int32} {x k : Int32} (h : x < 0 ∨ nI 6 ≤ x) : am_run ro 2 47 [.ref 6, .int x, .int k] (wd c a l f) (some (.int (-1))) (wd c a l f) := by
  refine am_run_of rfl (am_wp_ok (inl := []) 20 1 47 [11] 0 _ _ _ _ ?_)
  refine ⟨_, _, sp_below_f h, ?_⟩
  refine am_br_f (by decide) ?_
  exact And.intro rfl rfl
set_option maxRecDepth 100000 in
set_option maxHeartbeats 4000000 in
theorem ml_loop {ro : Nat → Option am_C} {c : Bool} {a : Nat → Nat → Int32} {l : Nat → Int64} {f : Nat → Nat → Int32} {e v t : Nat} {k : Int32} (he : e < 6) (g : ∀ q, q < 10 → a 74 (10 * e + q) = nI (v.testBit q).toNat ∧ a 75 (10 * e + q) = nI (t.testBit q).toNat) : ∀ (m p : Nat) (w : Int32), p + m = 10 → am_T ro 1 141 19 [.ref 60, .int (nI e), .int k, .int w, .int (nI p)] [] (wd c a l f) (fun r hp' => r = some (.int (mq (fun q => (v &&& (t ^^^ 1023)).testBit q) k p m w)) ∧ hp' = wd c a l f) := by
  intro m
  induction m with
  | zero =>
    intro p w h
    refine am_wp_ok (inl := []) 12 1 141 [] _ _ _ _ _ ?_
    refine am_br_t (show nI 10 ≤ nI p from nI_le (by omega) (by omega)) ?_
    exact And.intro rfl rfl
  | succ m ih =>
    intro p w h
    have ec : (10 * nI e + nI p).toNatClampNeg = 10 * e + p := by rw [pp_ix]; exact nI_clamp (by omega)
    have hin : vp_in (10 * nI e + nI p) 60 := by rw [pp_ix]; exact vp_in_nI (by omega) (by decide)
    have g1 := g p (by omega)
    have nxt : ∀ w' : Int32, mq (fun q => (v &&& (t ^^^ 1023)).testBit q) k p (m + 1) w = mq (fun q => (v &&& (t ^^^ 1023)).testBit q) k (p + 1) m w' → am_T ro 1 141 67 [.ref 60, .int (nI e), .int k, .int w', .int (nI p)] [] (wd c a l f) (fun r hp' => r = some (.int (mq (fun q => (v &&& (t ^^^ 1023)).testBit q) k p (m + 1) w)) ∧ hp' = wd c a l f) := by
      intro w' hq
      refine am_wp_ok (inl := []) 5 1 141 [19] _ _ _ _ _ ?_
      show am_T ro 1 141 19 [.ref 60, .int (nI e), .int k, .int w', .int (nI p + 1)] [] (wd c a l f) _
      rw [nI_1, hq]
      exact ih (p + 1) w' (by omega)
    refine am_wp_ok (inl := []) 12 1 141 [26] _ _ _ _ _ ?_
    refine am_br_f (show ¬ nI 10 ≤ nI p from nI_ge (by omega) (by omega)) ?_
    show am_T ro 1 141 26 [.ref 60, .int (nI e), .int k, .int w, .int (nI p)] [] (wd c a l f) _
    refine am_wp_ok (inl := []) 20 1 141 [41, 67] _ _ _ _ _ ?_
    refine And.intro hin ?_
    cases hb : v.testBit p with
    | false =>
      refine am_br_t (show a 74 (10 * nI e + nI p).toNatClampNeg = 0 by rw [ec, g1.1, hb]; rfl) ?_
      exact nxt w (mq_f (show (v &&& (t ^^^ 1023)).testBit p = false by rw [lk_bit (by omega), hb]; rfl))
    | true =>
      refine am_br_f (show ¬ a 74 (10 * nI e + nI p).toNatClampNeg = 0 by rw [ec, g1.1, hb]; decide) ?_
      show am_T ro 1 141 41 [.ref 60, .int (nI e), .int k, .int w, .int (nI p)] [] (wd c a l f) _
      refine am_wp_ok (inl := []) 20 1 141 [56, 67] _ _ _ _ _ ?_
      refine And.intro hin ?_
      cases hc : t.testBit p with
      | true =>
        refine am_br_t (show ¬ a 75 (10 * nI e + nI p).toNatClampNeg = 0 by rw [ec, g1.2, hc]; decide) ?_
        exact nxt w (mq_f (show (v &&& (t ^^^ 1023)).testBit p = false by rw [lk_bit (by omega), hb, hc]; rfl))
      | false =>
        refine am_br_f (show ¬ ¬ a 75 (10 * nI e + nI p).toNatClampNeg = 0 by rw [ec, g1.2, hc]; exact fun z => z rfl) ?_
        have hd : (v &&& (t ^^^ 1023)).testBit p = true := by rw [lk_bit (by omega), hb, hc]; rfl
        show am_T ro 1 141 56 [.ref 60, .int (nI e), .int k, .int w, .int (nI p)] [] (wd c a l f) _
        refine am_wp_ok (inl := []) 20 1 141 [67] _ _ _ _ _ ?_
        by_cases hk : w = k
        · refine am_br_f (show ¬ ¬ w = k from fun z => z hk) ?_
          refine And.intro ?_ rfl
          rw [mq_t (b := fun q => (v &&& (t ^^^ 1023)).testBit q) hd, if_pos hk]
        · refine am_br_t hk ?_
          exact nxt (w + 1) (by rw [mq_t (b := fun q => (v &&& (t ^^^ 1023)).testBit q) hd, if_neg hk])
set_option maxRecDepth 100000 in
set_option maxHeartbeats 4000000 in
theorem mo_lac_t {ro : Nat → Option am_C} {c : Bool} {a : Nat → Nat → Int32} {l : Nat → Int64} {f : Nat → Nat → Int32} {e v t : Nat} {k : Int32} (he : e < 6) (g : ∀ q, q < 10 → a 74 (10 * e + q) = nI (v.testBit q).toNat ∧ a 75 (10 * e + q) = nI (t.testBit q).toNat) : am_run ro 2 141 [.ref 60, .int (nI e), .int k] (wd c a l f) (some (.int (mq (fun q => (v &&& (t ^^^ 1023)).testBit q) k 0 10 0))) (wd c a l f) := by
  refine am_run_of rfl (am_wp_ok (inl := []) 20 1 141 [14] 0 _ _ _ _ ?_)
  refine ⟨_, _, in_t (j := e) (k := 5) (by omega) (by decide) rfl, ?_⟩
  refine am_br_t (by decide) ?_
  show am_T ro 1 141 14 [.ref 60, .int (nI e), .int k, am_un, am_un] [] (wd c a l f) _
  refine am_wp_ok (inl := []) 20 1 141 [19] _ _ _ _ _ ?_
  exact ml_loop he g 10 0 0 (by omega)
set_option maxRecDepth 100000 in
set_option maxHeartbeats 4000000 in
theorem mo_lac_f {ro : Nat → Option am_C} {c : Bool} {a : Nat → Nat → Int32} {l : Nat → Int64} {f : Nat → Nat → Int32} {x k : Int32} (h : x < 0 ∨ nI 6 ≤ x) : am_run ro 2 141 [.ref 60, .int x, .int k] (wd c a l f) (some (.int (-1))) (wd c a l f) := by
  refine am_run_of rfl (am_wp_ok (inl := []) 20 1 141 [14] 0 _ _ _ _ ?_)
  refine ⟨_, _, in_f (k := 5) h (by decide) rfl, ?_⟩
  refine am_br_f (by decide) ?_
  exact And.intro rfl rfl
set_option maxRecDepth 100000 in
set_option maxHeartbeats 4000000 in
theorem cl_lacks {ro : Nat → Option am_C} {c : Bool} {a : Nat → Nat → Int32} {l : Nat → Int64} {f : Nat → Nat → Int32} {x y r : Int32} {hp : am_H} (h : am_run ro 11 47 [.ref 6, .int x, .int y] (wd c a l f) (some (.int r)) hp) : am_run ro 12 18 [.ref 0, .int x, .int y] (wd c a l f) (some (.int r)) hp := by
  refine am_run_of rfl (am_wp_ok (inl := []) 60 11 18 [] 0 _ _ _ _ ?_)
  refine ⟨_, _, h, ?_⟩
  exact And.intro rfl rfl
theorem op_lacks {ro : Nat → Option am_C} (x k : Int32) : lp_op ro Rl 18 141 [.int x, .int k] := by
  intro c a l f hR
  obtain ⟨h1, h2, h3, h4, h5, h6⟩ := id hR
  rcases bd x 6 (by decide) with ⟨e, he, rfl⟩ | hx
  · obtain ⟨nd, th, g1, g2, g3, g4, g5⟩ := h3 e he
    exact ⟨_, c, a, l, f, c, a, l, f, cl_lacks (am_run_up (cs_mis_t he g3 g4 g1) (by decide)), am_run_up (mo_lac_t he g5) (by decide), hR⟩
  · exact ⟨-1, c, a, l, f, c, a, l, f, cl_lacks (am_run_up (cs_mis_f hx) (by decide)), am_run_up (mo_lac_f hx) (by decide), hR⟩
/-! paper -/
theorem lk_zero {v : Nat} (h : v < 1024) (hq : ∀ q, q < 10 → v.testBit q = false) : v = 0 := by
  apply Nat.eq_of_testBit_eq
  intro i
  rw [Nat.zero_testBit]
  by_cases hi : i < 10
  · exact hq i hi
  · exact tb_hi h (by omega)
set_option maxRecDepth 100000 in
set_option maxHeartbeats 4000000 in
theorem cs_bri_t {ro : Nat → Option am_C} {c : Bool} {a : Nat → Nat → Int32} {l : Nat → Int64} {f : Nat → Nat → Int32} {e p v t : Nat} (he : e < 6) (hp : p < 10) (ev : a 7 e = nI v) (et : a 8 e = nI t) (hv : v < 1024) : am_run ro 2 45 [.ref 6, .int (nI e), .int (nI p)] (wd c a l f) (some (.int (nI (decide (v &&& ((t ||| 2 ^ p) ^^^ 1023) = 0)).toNat))) (wd c (u2 a 8 (upd (a 8) e (nI (t ||| 2 ^ p)))) l f) := by
  have ee : (nI e).toNatClampNeg = e := nI_clamp (by omega)
  have hin : vp_in (nI e) 6 := vp_in_nI he (by decide)
  refine am_run_of rfl (am_wp_ok (inl := []) 20 1 45 [9] 0 _ _ _ _ ?_)
  refine ⟨_, _, sp_below_t (nI_pos (by omega)) (nI_ge (b := 6) he (by decide)), ?_⟩
  refine am_br_f (by decide) ?_
  show am_T ro 1 45 9 [.ref 6, .int (nI e), .int (nI p)] [] (wd c a l f) _
  refine am_wp_ok (inl := []) 20 1 45 [20] _ _ _ _ _ ?_
  refine ⟨_, _, sp_below_t (nI_pos (by omega)) (nI_ge (b := 10) hp (by decide)), ?_⟩
  refine am_br_t (by decide) ?_
  show am_T ro 1 45 20 [.ref 6, .int (nI e), .int (nI p)] [] (wd c a l f) _
  refine am_wp_ok (inl := []) 20 1 45 [32] _ _ _ _ _ ?_
  refine And.intro hin (And.intro hin ?_)
  show am_T ro 1 45 32 [.ref 6, .int (nI e), .int (nI p)] [] ((wd c a l f).set 8 (.inl (.int, 6, .inl (upd (a 8) (nI e).toNatClampNeg (a 8 (nI e).toNatClampNeg ||| (1 <<< (nI p &&& 31))))))) _
  rw [ws_8, ee, et, sh_one p hp, or_eq]
  refine am_wp_ok (inl := []) 20 1 45 [] _ _ _ _ _ ?_
  refine ⟨_, _, sp_lacking (a := u2 a 8 (upd (a 8) e (nI (t ||| 2 ^ p)))) he ev (show upd (a 8) e (nI (t ||| 2 ^ p)) e = nI (t ||| 2 ^ p) from upd_same) hv, ?_⟩
  have hlt : v &&& ((t ||| 2 ^ p) ^^^ 1023) < 1024 := lk_lt hv
  by_cases hz : v &&& ((t ||| 2 ^ p) ^^^ 1023) = 0
  · refine am_br_f (show ¬ ¬ nI (v &&& ((t ||| 2 ^ p) ^^^ 1023)) = 0 by rw [hz]; exact fun z => z rfl) ?_
    rw [decide_eq_true hz]
    exact And.intro rfl (And.intro rfl rfl)
  · refine am_br_t (nI_ne0 (by omega) (by omega)) ?_
    rw [decide_eq_false hz]
    exact And.intro rfl (And.intro rfl rfl)
set_option maxRecDepth 100000 in
set_option maxHeartbeats 4000000 in
theorem cs_bri_f {ro : Nat → Option am_C} {c : Bool} {a : Nat → Nat → Int32} {l : Nat → Int64} {f : Nat → Nat → Int32} {x y : Int32} (h : ¬ ∃ e p : Nat, x = nI e ∧ y = nI p ∧ e < 6 ∧ p < 10) : am_run ro 2 45 [.ref 6, .int x, .int y] (wd c a l f) (some (.int 0)) (wd c a l f) := by
  refine am_run_of rfl (am_wp_ok (inl := []) 20 1 45 [9] 0 _ _ _ _ ?_)
  rcases bd x 6 (by decide) with ⟨e, he, rfl⟩ | hx
  · refine ⟨_, _, sp_below_t (nI_pos (by omega)) (nI_ge (b := 6) he (by decide)), ?_⟩
    refine am_br_f (by decide) ?_
    show am_T ro 1 45 9 [.ref 6, .int (nI e), .int y] [] (wd c a l f) _
    refine am_wp_ok (inl := []) 20 1 45 [20] _ _ _ _ _ ?_
    rcases bd y 10 (by decide) with ⟨p, hp, rfl⟩ | hy
    · exact absurd ⟨e, p, rfl, rfl, he, hp⟩ h
    · refine ⟨_, _, sp_below_f hy, ?_⟩
      refine am_br_f (by decide) ?_
      exact And.intro rfl (And.intro rfl rfl)
  · refine ⟨_, _, sp_below_f hx, ?_⟩
    refine am_br_t (by decide) ?_
    exact And.intro rfl (And.intro rfl rfl)
set_option maxRecDepth 100000 in
set_option maxHeartbeats 4000000 in
theorem mo_pap_t {ro : Nat → Option am_C} {c : Bool} {a : Nat → Nat → Int32} {l : Nat → Int64} {f : Nat → Nat → Int32} {e p v t : Nat} (he : e < 6) (hp : p < 10) (hv : v < 1024) (g : ∀ q, q < 10 → a 74 (10 * e + q) = nI (v.testBit q).toNat ∧ a 75 (10 * e + q) = nI (t.testBit q).toNat) : am_run ro 3 140 [.ref 60, .int (nI e), .int (nI p)] (wd c a l f) (some (.int (nI (decide (v &&& ((t ||| 2 ^ p) ^^^ 1023) = 0)).toNat))) (wd c (u2 a 75 (upd (a 75) (10 * e + p) (nI 1))) l f) := by
  have ec : (10 * nI e + nI p).toNatClampNeg = 10 * e + p := by rw [pp_ix]; exact nI_clamp (by omega)
  have hin : vp_in (10 * nI e + nI p) 60 := by rw [pp_ix]; exact vp_in_nI (by omega) (by decide)
  refine am_run_of rfl (am_wp_ok (inl := []) 20 2 140 [10] 0 _ _ _ _ ?_)
  refine ⟨_, _, sp_isp_t he hp, ?_⟩
  refine am_br_t (by decide) ?_
  show am_T ro 2 140 10 [.ref 60, .int (nI e), .int (nI p)] [] (wd c a l f) _
  refine am_wp_ok (inl := []) 20 2 140 [22] _ _ _ _ _ ?_
  refine And.intro hin ?_
  show am_T ro 2 140 22 [.ref 60, .int (nI e), .int (nI p)] [] ((wd c a l f).set 75 (.inl (.boolean, 60, .inl (upd (a 75) (10 * nI e + nI p).toNatClampNeg (vp_nar .boolean 1))))) _
  rw [ws_75, ec, show vp_nar .boolean 1 = nI 1 from rfl]
  refine am_wp_ok (inl := []) 20 2 140 [] _ _ _ _ _ ?_
  refine ⟨_, _, mo_lac_t (a := u2 a 75 (upd (a 75) (10 * e + p) (nI 1))) (v := v) (t := t ||| 2 ^ p) (k := nI 0) he (fun q hq => ?_), ?_⟩
  · refine ⟨(g q hq).1, ?_⟩
    show upd (a 75) (10 * e + p) (nI 1) (10 * e + q) = _
    rw [or_bit]
    by_cases hqp : p = q
    · subst hqp
      rw [upd_same]
      simp
    · rw [upd_ne (by omega), (g q hq).2]
      simp [hqp]
  · have hlt : v &&& ((t ||| 2 ^ p) ^^^ 1023) < 1024 := lk_lt hv
    by_cases hz : v &&& ((t ||| 2 ^ p) ^^^ 1023) = 0
    · have e1 : mq (fun q => (v &&& ((t ||| 2 ^ p) ^^^ 1023)).testBit q) (nI 0) 0 10 0 = -1 := mq_neg 10 0 0 (fun q _ _ => by show (v &&& ((t ||| 2 ^ p) ^^^ 1023)).testBit q = false; rw [hz, Nat.zero_testBit])
      refine am_br_f (show ¬ 0 ≤ mq (fun q => (v &&& ((t ||| 2 ^ p) ^^^ 1023)).testBit q) (nI 0) 0 10 0 by rw [e1]; decide) ?_
      rw [decide_eq_true hz]
      exact And.intro rfl (And.intro rfl rfl)
    · have hex : ∃ q, 0 ≤ q ∧ q < 0 + 10 ∧ (v &&& ((t ||| 2 ^ p) ^^^ 1023)).testBit q = true := by
        apply Classical.byContradiction
        intro hn
        refine hz (lk_zero hlt (fun q hq => ?_))
        cases hb : (v &&& ((t ||| 2 ^ p) ^^^ 1023)).testBit q with
        | false => rfl
        | true => exact absurd ⟨q, by omega, by omega, hb⟩ hn
      obtain ⟨r, hr, e1⟩ := mq_pos (b := fun q => (v &&& ((t ||| 2 ^ p) ^^^ 1023)).testBit q) (k := nI 0) 10 0 hex
      refine am_br_t (show 0 ≤ mq (fun q => (v &&& ((t ||| 2 ^ p) ^^^ 1023)).testBit q) (nI 0) 0 10 (nI 0) by rw [e1]; exact nI_pos' (by omega)) ?_
      rw [decide_eq_false hz]
      exact And.intro rfl (And.intro rfl rfl)
set_option maxRecDepth 100000 in
set_option maxHeartbeats 4000000 in
theorem mo_pap_f {ro : Nat → Option am_C} {c : Bool} {a : Nat → Nat → Int32} {l : Nat → Int64} {f : Nat → Nat → Int32} {x y : Int32} (h : ¬ ∃ e p : Nat, x = nI e ∧ y = nI p ∧ e < 6 ∧ p < 10) : am_run ro 3 140 [.ref 60, .int x, .int y] (wd c a l f) (some (.int 0)) (wd c a l f) := by
  refine am_run_of rfl (am_wp_ok (inl := []) 20 2 140 [10] 0 _ _ _ _ ?_)
  refine ⟨_, _, sp_isp_f h, ?_⟩
  refine am_br_f (by decide) ?_
  exact And.intro rfl (And.intro rfl rfl)
set_option maxRecDepth 100000 in
set_option maxHeartbeats 4000000 in
theorem cl_paper {ro : Nat → Option am_C} {c : Bool} {a : Nat → Nat → Int32} {l : Nat → Int64} {f : Nat → Nat → Int32} {x y r : Int32} {hp : am_H} (h : am_run ro 11 45 [.ref 6, .int x, .int y] (wd c a l f) (some (.int r)) hp) (hr : narrow .boolean (.int r) = .int r) : am_run ro 12 17 [.ref 0, .int x, .int y] (wd c a l f) (some (.int r)) hp := by
  refine am_run_of rfl (am_wp_ok (inl := []) 60 11 17 [] 0 _ _ _ _ ?_)
  refine ⟨_, _, h, ?_⟩
  exact And.intro hr (And.intro rfl rfl)
theorem op_paper {ro : Nat → Option am_C} (x y : Int32) : lp_op ro Rl 17 140 [.int x, .int y] := by
  intro c a l f hR
  obtain ⟨h1, h2, h3, h4, h5, h6⟩ := id hR
  by_cases hq : ∃ e p : Nat, x = nI e ∧ y = nI p ∧ e < 6 ∧ p < 10
  · obtain ⟨e, p, rfl, rfl, he, hp⟩ := hq
    obtain ⟨nd, th, g1, g2, g3, g4, g5⟩ := h3 e he
    refine ⟨_, c, _, l, f, c, _, l, f, cl_paper (am_run_up (cs_bri_t he hp g3 g4 g1) (by decide)) (nI_bo _), am_run_up (mo_pap_t (a := u2 a 8 (upd (a 8) e (nI (th ||| 2 ^ p)))) he hp g1 g5) (by decide), ?_⟩
    refine ⟨h1, h2, fun i hi => ?_, h4, h5, by cases c <;> exact h6⟩
    show ∃ nd' th' : Nat, nd' < 1024 ∧ th' < 1024 ∧ a 7 i = nI nd' ∧ upd (a 8) e (nI (th ||| 2 ^ p)) i = nI th' ∧ ∀ q, q < 10 → a 74 (10 * i + q) = nI (nd'.testBit q).toNat ∧ upd (a 75) (10 * e + p) (nI 1) (10 * i + q) = nI (th'.testBit q).toNat
    by_cases hie : i = e
    · subst hie
      refine ⟨nd, th ||| 2 ^ p, g1, or_lt g2 hp, g3, upd_same, fun q hq => ⟨(g5 q hq).1, ?_⟩⟩
      rw [or_bit]
      by_cases hqp : p = q
      · subst hqp
        rw [upd_same]
        simp
      · rw [upd_ne (by omega), (g5 q hq).2]
        simp [hqp]
    · obtain ⟨nd', th', k1, k2, k3, k4, k5⟩ := h3 i hi
      exact ⟨nd', th', k1, k2, k3, by rw [upd_ne hie]; exact k4, fun q hq => by rw [upd_ne (by omega)]; exact k5 q hq⟩
  · exact ⟨0, c, a, l, f, c, a, l, f, cl_paper (am_run_up (cs_bri_f hq) (by decide)) rfl, am_run_up (mo_pap_f hq) (by decide), hR⟩
