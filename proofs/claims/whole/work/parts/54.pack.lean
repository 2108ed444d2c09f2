/-! PACKED NAMES, taken apart: lettersOf, letter, least -/
theorem lN_div {v : Nat} (h : v < 2 ^ 62) : lN v / 27 = lN (v / 27) := by
  rw [show (27 : Int64) = Int64.ofNat 27 from rfl]
  exact (Int64.ofNat_div (a := v) (b := 27) (by omega) (by decide)).symm
theorem lN_rem {v : Nat} (h : v < 2 ^ 62) : lN v - lN v / 27 * 27 = lN (v % 27) := by
  rw [lN_div h, show (27 : Int64) = lN 27 from rfl, lN_mul, lN_sub (by omega)]
  exact congrArg lN (by omega)
/-- how many digits to the base 27 -/
def dc : Nat → Nat → Nat
  | 0, _ => 0
  | n + 1, v => if v = 0 then 0 else 1 + dc n (v / 27)
set_option maxRecDepth 100000 in
set_option maxHeartbeats 4000000 in
theorem lt_loop {ro : Nat → Option am_C} {hp : am_H} {v0 : Int64} : ∀ (n v w : Nat), v < 27 ^ n → v < 2 ^ 62 → am_T ro 0 134 4 [.long v0, am_un, .int (nI w), .long (lN v), am_un] [] hp (fun r hp' => r = some (.int (nI (w + dc n v))) ∧ hp' = hp) := by
  intro n
  induction n with
  | zero =>
    intro v w h1 h2
    have hv : v = 0 := by omega
    subst hv
    refine am_wp_ok (inl := []) 8 0 134 [] _ _ _ _ _ ?_
    refine am_br_t ((lg_cmp_le _ _).mpr (by decide)) ?_
    exact And.intro rfl rfl
  | succ n ih =>
    intro v w h1 h2
    by_cases hv : v = 0
    · subst hv
      refine am_wp_ok (inl := []) 8 0 134 [] _ _ _ _ _ ?_
      refine am_br_t ((lg_cmp_le _ _).mpr (by decide)) ?_
      exact And.intro rfl rfl
    · refine am_wp_ok (inl := []) 8 0 134 [10] _ _ _ _ _ ?_
      refine am_br_f (fun z => ?_) ?_
      · have z1 := (lg_cmp_le _ _).mp z
        have z2 : Int64.ofNat 0 < Int64.ofNat v := (Int64.ofNat_lt_iff_lt (by decide) (by omega)).mpr (by omega)
        exact absurd z1 (Int64.not_le.mpr z2)
      · show am_T ro 0 134 10 [.long v0, am_un, .int (nI w), .long (lN v), am_un] [] hp _
        refine am_wp_ok (inl := []) 8 0 134 [4] _ _ _ _ _ ?_
        refine And.intro (by decide) ?_
        show am_T ro 0 134 4 [.long v0, am_un, .int (nI w + 1), .long (lN v / 27), am_un] [] hp _
        rw [nI_1, lN_div h2, show dc (n + 1) v = 1 + dc n (v / 27) from if_neg hv, show w + (1 + dc n (v / 27)) = w + 1 + dc n (v / 27) by omega]
        exact ih (v / 27) (w + 1) (by rw [Nat.pow_succ] at h1; exact Nat.div_lt_of_lt_mul (by omega)) (by omega)
set_option maxRecDepth 100000 in
set_option maxHeartbeats 4000000 in
theorem mo_letters {ro : Nat → Option am_C} {hp : am_H} {n v : Nat} (h1 : v < 27 ^ n) (h2 : v < 2 ^ 62) : am_run ro 1 134 [.long (lN v)] hp (some (.int (nI (dc n v)))) hp := by
  refine am_run_of rfl (am_wp_ok (inl := []) 6 0 134 [4] 0 _ _ _ _ ?_)
  have := lt_loop (ro := ro) (hp := hp) (v0 := lN v) n v 0 h1 h2
  rw [Nat.zero_add] at this
  exact this
set_option maxRecDepth 100000 in
set_option maxHeartbeats 4000000 in
theorem le_loop {ro : Nat → Option am_C} {hp : am_H} {v0 : Int64} {x : Int32} {i : Nat} (hi : i < 1000) : ∀ (j v : Nat), j < 1000 → v < 2 ^ 62 → am_T ro 0 135 8 [.long v0, am_un, .int x, .int (nI i), .long (lN v), am_un, .int (nI (i + j))] [] hp (fun r hp' => r = some (.int (nI (v / 27 ^ j % 27))) ∧ hp' = hp) := by
  intro j
  induction j with
  | zero =>
    intro v hj h2
    refine am_wp_ok (inl := []) 8 0 135 [28] _ _ _ _ _ ?_
    refine am_br_t (nI_le (by omega) (by omega)) ?_
    show am_T ro 0 135 28 [.long v0, am_un, .int x, .int (nI i), .long (lN v), am_un, .int (nI (i + 0))] [] hp _
    refine am_wp_ok (inl := []) 8 0 135 [] _ _ _ _ _ ?_
    refine And.intro (by decide) ?_
    refine And.intro (show some (Value.int (lN v - lN v / 27 * 27).toInt32) = _ by rw [lN_rem h2, lN_i, Nat.pow_zero, Nat.div_one]) rfl
  | succ j ih =>
    intro v hj h2
    refine am_wp_ok (inl := []) 8 0 135 [14] _ _ _ _ _ ?_
    refine am_br_f (nI_ge (by omega) (by omega)) ?_
    show am_T ro 0 135 14 [.long v0, am_un, .int x, .int (nI i), .long (lN v), am_un, .int (nI (i + (j + 1)))] [] hp _
    refine am_wp_ok (inl := []) 8 0 135 [8] _ _ _ _ _ ?_
    refine And.intro (by decide) ?_
    show am_T ro 0 135 8 [.long v0, am_un, .int x, .int (nI i), .long (lN v / 27), am_un, .int (nI (i + (j + 1)) + -1)] [] hp _
    rw [lN_div h2, Int32.add_neg_eq_sub, show i + (j + 1) = i + j + 1 by omega, nI_pred, show v / 27 ^ (j + 1) = v / 27 / 27 ^ j by rw [Nat.pow_succ, Nat.mul_comm, ← Nat.div_div_eq_div_mul]]
    exact ih (v / 27) (by omega) (by omega)
set_option maxRecDepth 100000 in
set_option maxHeartbeats 4000000 in
theorem mo_letter {ro : Nat → Option am_C} {hp : am_H} {i j v : Nat} (hi : i < 1000) (hj : j < 1000) (h2 : v < 2 ^ 62) : am_run ro 1 135 [.long (lN v), .int (nI (i + j + 1)), .int (nI i)] hp (some (.int (nI (v / 27 ^ j % 27)))) hp := by
  refine am_run_of rfl (am_wp_ok (inl := []) 8 0 135 [8] 0 _ _ _ _ ?_)
  show am_T ro 0 135 8 [.long (lN v), am_un, .int (nI (i + j + 1)), .int (nI i), .long (lN v), am_un, .int (nI (i + j + 1) - 1)] [] hp _
  rw [nI_pred]
  exact le_loop hi j v hj h2
set_option maxRecDepth 100000 in
set_option maxHeartbeats 4000000 in
theorem mo_least {ro : Nat → Option am_C} {hp : am_H} {x y : Nat} (hx : x < 2 ^ 31) (hy : y < 2 ^ 31) : am_run ro 1 136 [.int (nI x), .int (nI y)] hp (some (.int (nI (min x y)))) hp := by
  refine am_run_of rfl (am_wp_ok (inl := []) 8 0 136 [] 0 _ _ _ _ ?_)
  by_cases h : x < y
  · refine am_br_f (nI_ge h hy) ?_
    exact And.intro (by rw [Nat.min_eq_left (by omega)]) rfl
  · refine am_br_t (nI_le (by omega) hx) ?_
    exact And.intro (by rw [Nat.min_eq_right (by omega)]) rfl
set_option maxRecDepth 100000 in
set_option maxHeartbeats 4000000 in
theorem la_16 {ro : Nat → Option am_C} {c : Bool} {a : Nat → Nat → Int32} {l : Nat → Int64} {f : Nat → Nat → Int32} {i j : Nat} (hi : i < 20) (hj : j < 8) : am_run ro 1 96 [.ref 32, .int (nI i), .int (nI j)] (wd c a l f) (some (.int (a 35 (8 * i + j)))) (wd c a l f) := by
  have e : nI i * 8 + nI j = nI (8 * i + j) := by
    rw [show (8 : Int32) = nI 8 from rfl, nI_mul, nI_add]
    exact congrArg nI (by omega)
  refine am_run_of rfl (am_wp_ok (inl := []) 10 0 96 [] 0 _ _ _ _ ?_)
  refine And.intro (show vp_in (nI i * 8 + nI j) 160 by rw [e]; exact vp_in_nI (by omega) (by decide)) ?_
  refine And.intro (show some (Value.int (a 35 (nI i * 8 + nI j).toNatClampNeg)) = _ by rw [e, nI_clamp (by omega)]) rfl
set_option maxRecDepth 100000 in
set_option maxHeartbeats 4000000 in
theorem la_38 {ro : Nat → Option am_C} {c : Bool} {a : Nat → Nat → Int32} {l : Nat → Int64} {f : Nat → Nat → Int32} {i j : Nat} (hi : i < 20) (hj : j < 8) : am_run ro 1 96 [.ref 54, .int (nI i), .int (nI j)] (wd c a l f) (some (.int (a 57 (8 * i + j)))) (wd c a l f) := by
  have e : nI i * 8 + nI j = nI (8 * i + j) := by
    rw [show (8 : Int32) = nI 8 from rfl, nI_mul, nI_add]
    exact congrArg nI (by omega)
  refine am_run_of rfl (am_wp_ok (inl := []) 10 0 96 [] 0 _ _ _ _ ?_)
  refine And.intro (show vp_in (nI i * 8 + nI j) 160 by rw [e]; exact vp_in_nI (by omega) (by decide)) ?_
  refine And.intro (show some (Value.int (a 57 (nI i * 8 + nI j).toNatClampNeg)) = _ by rw [e, nI_clamp (by omega)]) rfl
