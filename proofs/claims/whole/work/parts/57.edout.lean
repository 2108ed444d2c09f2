/-! the edits, all lines, in the class -/
set_option maxRecDepth 100000 in
set_option maxHeartbeats 4000000 in
theorem di_out_16 {ro : Nat → Option am_C} {c : Bool} {a : Nat → Nat → Int32} {l : Nat → Int64} {f : Nat → Nat → Int32} {s t nm m : Nat} (h2 : f 1 2 = nI s) (h3 : f 1 3 = nI t) (hst : s ≤ t) (ht : t ≤ 900) (hnm : nm < 20) (hm : m ≤ 8) : ∀ (n i : Nat) (R : Nat → Int32) (U5 U6 U7 U8 : Value), Nat.beq U5.category 1 = true → Nat.beq U6.category 1 = true → Nat.beq U7.category 1 = true → Nat.beq U8.category 1 = true → 1 ≤ i → i + n = t - s + 1 → am_T ro 1 99 34 [.ref 32, .int (nI nm), .ref 1, .int (nI m), .int (nI i), U5, U6, U7, U8] [] (wd c (u2 a 37 R) l f) (fun r hp' => r = some (.int (eo (fun i j => decide (a 2 (s + (i - 1)) = a 35 (8 * nm + (j - 1)))) m n i R m)) ∧ hp' = wd c (u2 a 37 (eo (fun i j => decide (a 2 (s + (i - 1)) = a 35 (8 * nm + (j - 1)))) m n i R)) l f) := by
  intro n
  induction n with
  | zero =>
    intro i R U5 U6 U7 U8 g5 g6 g7 g8 hi h
    refine am_wp_ok (inl := []) 6 1 99 [40] _ _ _ _ _ ?_
    refine ⟨_, _, sp_len h2 h3 hst, ?_⟩
    show am_T ro 1 99 40 [.ref 32, .int (nI nm), .ref 1, .int (nI m), .int (nI i), U5, U6, U7, U8] [.int (nI (t - s)), .int (nI i)] (wd c (u2 a 37 R) l f) _
    refine am_wp_ok (inl := []) 3 1 99 [152] _ _ _ _ _ ?_
    refine am_br_t (nI_lt (by omega) (by omega)) ?_
    show am_T ro 1 99 152 [.ref 32, .int (nI nm), .ref 1, .int (nI m), .int (nI i), U5, U6, U7, U8] [] (wd c (u2 a 37 R) l f) _
    refine am_wp_ok (inl := []) 6 1 99 [] _ _ _ _ _ ?_
    refine And.intro (vp_in_nI (by omega) (by decide)) ?_
    refine And.intro (show some (Value.int (R (nI m).toNatClampNeg)) = some (.int (R m)) by rw [nI_clamp (by omega)]) rfl
  | succ n ih =>
    intro i R U5 U6 U7 U8 g5 g6 g7 g8 hi h
    refine am_wp_ok (inl := []) 6 1 99 [40] _ _ _ _ _ ?_
    refine ⟨_, _, sp_len h2 h3 hst, ?_⟩
    show am_T ro 1 99 40 [.ref 32, .int (nI nm), .ref 1, .int (nI m), .int (nI i), U5, U6, U7, U8] [.int (nI (t - s)), .int (nI i)] (wd c (u2 a 37 R) l f) _
    refine am_wp_ok (inl := []) 3 1 99 [43] _ _ _ _ _ ?_
    refine am_br_f (nI_nlt (by omega) (by omega)) ?_
    show am_T ro 1 99 43 [.ref 32, .int (nI nm), .ref 1, .int (nI m), .int (nI i), U5, U6, U7, U8] [] (wd c (u2 a 37 R) l f) _
    refine am_wp_ok (inl := []) 6 1 99 [51] _ _ _ _ _ ?_
    refine And.intro (vp_in_nI (n := 0) (by decide) (by decide)) ?_
    show am_T ro 1 99 51 [.ref 32, .int (nI nm), .ref 1, .int (nI m), .int (nI i), .int (R (nI 0).toNatClampNeg), U6, U7, U8] [] (wd c (u2 a 37 R) l f) _
    rw [nI_clamp (show 0 < 2 ^ 31 by decide)]
    refine am_wp_ok (inl := []) 6 1 99 [59] _ _ _ _ _ ?_
    refine And.intro (vp_in_nI (n := 0) (by decide) (by decide)) ?_
    show am_T ro 1 99 59 [.ref 32, .int (nI nm), .ref 1, .int (nI m), .int (nI i), .int (R 0), U6, U7, U8] [] ((wd c (u2 a 37 R) l f).set 37 (.inl (.int, 9, .inl (upd R (nI 0).toNatClampNeg (nI i))))) _
    rw [ws_37, u2_u2, nI_clamp (show 0 < 2 ^ 31 by decide)]
    refine am_wp_ok (inl := []) 4 1 99 [62] _ _ _ _ _ ?_
    show am_T ro 1 99 62 [.ref 32, .int (nI nm), .ref 1, .int (nI m), .int (nI i), .int (R 0), .int (nI 1), U7, U8] [] (wd c (u2 a 37 (upd R 0 (nI i))) l f) _
    refine di_in_16 h2 h3 hst ht hi (by omega) hnm hm m 1 (R 0) (upd R 0 (nI i)) U7 U8 g7 g8 (by omega) (by omega) (fun cr' V7 V8 gv7 gv8 => ?_)
    refine am_wp_ok (inl := []) 4 1 99 [34] _ _ _ _ _ ?_
    show am_T ro 1 99 34 [.ref 32, .int (nI nm), .ref 1, .int (nI m), .int (nI i + 1), .int cr', .int (nI (m + 1)), V7, V8] [] (wd c (u2 a 37 (ei ((fun i j => decide (a 2 (s + (i - 1)) = a 35 (8 * nm + (j - 1)))) i) m 1 (R 0) (upd R 0 (nI i)))) l f) _
    rw [nI_1]
    exact ih (i + 1) _ _ _ _ _ rfl rfl gv7 gv8 (by omega) (by omega)
set_option maxRecDepth 100000 in
set_option maxHeartbeats 4000000 in
theorem di_out_38 {ro : Nat → Option am_C} {c : Bool} {a : Nat → Nat → Int32} {l : Nat → Int64} {f : Nat → Nat → Int32} {s t nm m : Nat} (h2 : f 1 2 = nI s) (h3 : f 1 3 = nI t) (hst : s ≤ t) (ht : t ≤ 900) (hnm : nm < 20) (hm : m ≤ 8) : ∀ (n i : Nat) (R : Nat → Int32) (U5 U6 U7 U8 : Value), Nat.beq U5.category 1 = true → Nat.beq U6.category 1 = true → Nat.beq U7.category 1 = true → Nat.beq U8.category 1 = true → 1 ≤ i → i + n = t - s + 1 → am_T ro 1 99 34 [.ref 54, .int (nI nm), .ref 1, .int (nI m), .int (nI i), U5, U6, U7, U8] [] (wd c (u2 a 59 R) l f) (fun r hp' => r = some (.int (eo (fun i j => decide (a 2 (s + (i - 1)) = a 57 (8 * nm + (j - 1)))) m n i R m)) ∧ hp' = wd c (u2 a 59 (eo (fun i j => decide (a 2 (s + (i - 1)) = a 57 (8 * nm + (j - 1)))) m n i R)) l f) := by
  intro n
  induction n with
  | zero =>
    intro i R U5 U6 U7 U8 g5 g6 g7 g8 hi h
    refine am_wp_ok (inl := []) 6 1 99 [40] _ _ _ _ _ ?_
    refine ⟨_, _, sp_len h2 h3 hst, ?_⟩
    show am_T ro 1 99 40 [.ref 54, .int (nI nm), .ref 1, .int (nI m), .int (nI i), U5, U6, U7, U8] [.int (nI (t - s)), .int (nI i)] (wd c (u2 a 59 R) l f) _
    refine am_wp_ok (inl := []) 3 1 99 [152] _ _ _ _ _ ?_
    refine am_br_t (nI_lt (by omega) (by omega)) ?_
    show am_T ro 1 99 152 [.ref 54, .int (nI nm), .ref 1, .int (nI m), .int (nI i), U5, U6, U7, U8] [] (wd c (u2 a 59 R) l f) _
    refine am_wp_ok (inl := []) 6 1 99 [] _ _ _ _ _ ?_
    refine And.intro (vp_in_nI (by omega) (by decide)) ?_
    refine And.intro (show some (Value.int (R (nI m).toNatClampNeg)) = some (.int (R m)) by rw [nI_clamp (by omega)]) rfl
  | succ n ih =>
    intro i R U5 U6 U7 U8 g5 g6 g7 g8 hi h
    refine am_wp_ok (inl := []) 6 1 99 [40] _ _ _ _ _ ?_
    refine ⟨_, _, sp_len h2 h3 hst, ?_⟩
    show am_T ro 1 99 40 [.ref 54, .int (nI nm), .ref 1, .int (nI m), .int (nI i), U5, U6, U7, U8] [.int (nI (t - s)), .int (nI i)] (wd c (u2 a 59 R) l f) _
    refine am_wp_ok (inl := []) 3 1 99 [43] _ _ _ _ _ ?_
    refine am_br_f (nI_nlt (by omega) (by omega)) ?_
    show am_T ro 1 99 43 [.ref 54, .int (nI nm), .ref 1, .int (nI m), .int (nI i), U5, U6, U7, U8] [] (wd c (u2 a 59 R) l f) _
    refine am_wp_ok (inl := []) 6 1 99 [51] _ _ _ _ _ ?_
    refine And.intro (vp_in_nI (n := 0) (by decide) (by decide)) ?_
    show am_T ro 1 99 51 [.ref 54, .int (nI nm), .ref 1, .int (nI m), .int (nI i), .int (R (nI 0).toNatClampNeg), U6, U7, U8] [] (wd c (u2 a 59 R) l f) _
    rw [nI_clamp (show 0 < 2 ^ 31 by decide)]
    refine am_wp_ok (inl := []) 6 1 99 [59] _ _ _ _ _ ?_
    refine And.intro (vp_in_nI (n := 0) (by decide) (by decide)) ?_
    show am_T ro 1 99 59 [.ref 54, .int (nI nm), .ref 1, .int (nI m), .int (nI i), .int (R 0), U6, U7, U8] [] ((wd c (u2 a 59 R) l f).set 59 (.inl (.int, 9, .inl (upd R (nI 0).toNatClampNeg (nI i))))) _
    rw [ws_59, u2_u2, nI_clamp (show 0 < 2 ^ 31 by decide)]
    refine am_wp_ok (inl := []) 4 1 99 [62] _ _ _ _ _ ?_
    show am_T ro 1 99 62 [.ref 54, .int (nI nm), .ref 1, .int (nI m), .int (nI i), .int (R 0), .int (nI 1), U7, U8] [] (wd c (u2 a 59 (upd R 0 (nI i))) l f) _
    refine di_in_38 h2 h3 hst ht hi (by omega) hnm hm m 1 (R 0) (upd R 0 (nI i)) U7 U8 g7 g8 (by omega) (by omega) (fun cr' V7 V8 gv7 gv8 => ?_)
    refine am_wp_ok (inl := []) 4 1 99 [34] _ _ _ _ _ ?_
    show am_T ro 1 99 34 [.ref 54, .int (nI nm), .ref 1, .int (nI m), .int (nI i + 1), .int cr', .int (nI (m + 1)), V7, V8] [] (wd c (u2 a 59 (ei ((fun i j => decide (a 2 (s + (i - 1)) = a 57 (8 * nm + (j - 1)))) i) m 1 (R 0) (upd R 0 (nI i)))) l f) _
    rw [nI_1]
    exact ih (i + 1) _ _ _ _ _ rfl rfl gv7 gv8 (by omega) (by omega)
