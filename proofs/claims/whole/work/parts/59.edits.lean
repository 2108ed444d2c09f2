/-! the edits, all lines, in the reference; both from their entry -/
set_option maxRecDepth 100000 in
set_option maxHeartbeats 4000000 in
theorem mi_out {ro : Nat → Option am_C} {c : Bool} {a : Nat → Nat → Int32} {l : Nat → Int64} {f : Nat → Nat → Int32} {v w T m : Nat} (hv : v < 2 ^ 62) (hw : w < 2 ^ 62) (hT : T ≤ 8) (hm : m ≤ 8) : ∀ (n i : Nat) (R : Nat → Int32) (U8 U9 U10 : Value), Nat.beq U8.category 1 = true → Nat.beq U9.category 1 = true → Nat.beq U10.category 1 = true → 1 ≤ i → i + n = T + 1 → am_T ro 1 133 40 [.ref 60, .long (lN v), am_un, .long (lN w), am_un, .int (nI T), .int (nI m), .int (nI i), U8, U9, U10] [] (wd c (u2 a 80 R) l f) (fun r hp' => r = some (.int (eo (fun i j => decide (v / 27 ^ (T - i) % 27 = w / 27 ^ (m - j) % 27)) m n i R m)) ∧ hp' = wd c (u2 a 80 (eo (fun i j => decide (v / 27 ^ (T - i) % 27 = w / 27 ^ (m - j) % 27)) m n i R)) l f) := by
  intro n
  induction n with
  | zero =>
    intro i R U8 U9 U10 g8 g9 g10 hi h
    refine am_wp_ok (inl := []) 6 1 133 [160] _ _ _ _ _ ?_
    refine am_br_t (nI_lt (by omega) (by omega)) ?_
    show am_T ro 1 133 160 [.ref 60, .long (lN v), am_un, .long (lN w), am_un, .int (nI T), .int (nI m), .int (nI i), U8, U9, U10] [] (wd c (u2 a 80 R) l f) _
    refine am_wp_ok (inl := []) 6 1 133 [] _ _ _ _ _ ?_
    refine And.intro (vp_in_nI (by omega) (by decide)) ?_
    refine And.intro (show some (Value.int (R (nI m).toNatClampNeg)) = some (.int (R m)) by rw [nI_clamp (by omega)]) rfl
  | succ n ih =>
    intro i R U8 U9 U10 g8 g9 g10 hi h
    refine am_wp_ok (inl := []) 6 1 133 [47] _ _ _ _ _ ?_
    refine am_br_f (nI_nlt (by omega) (by omega)) ?_
    show am_T ro 1 133 47 [.ref 60, .long (lN v), am_un, .long (lN w), am_un, .int (nI T), .int (nI m), .int (nI i), U8, U9, U10] [] (wd c (u2 a 80 R) l f) _
    refine am_wp_ok (inl := []) 6 1 133 [55] _ _ _ _ _ ?_
    refine And.intro (vp_in_nI (n := 0) (by decide) (by decide)) ?_
    show am_T ro 1 133 55 [.ref 60, .long (lN v), am_un, .long (lN w), am_un, .int (nI T), .int (nI m), .int (nI i), .int (R (nI 0).toNatClampNeg), U9, U10] [] (wd c (u2 a 80 R) l f) _
    rw [nI_clamp (show 0 < 2 ^ 31 by decide)]
    refine am_wp_ok (inl := []) 6 1 133 [63] _ _ _ _ _ ?_
    refine And.intro (vp_in_nI (n := 0) (by decide) (by decide)) ?_
    show am_T ro 1 133 63 [.ref 60, .long (lN v), am_un, .long (lN w), am_un, .int (nI T), .int (nI m), .int (nI i), .int (R 0), U9, U10] [] ((wd c (u2 a 80 R) l f).set 80 (.inl (.int, 9, .inl (upd R (nI 0).toNatClampNeg (nI i))))) _
    rw [ws_80, u2_u2, nI_clamp (show 0 < 2 ^ 31 by decide)]
    refine am_wp_ok (inl := []) 4 1 133 [66] _ _ _ _ _ ?_
    show am_T ro 1 133 66 [.ref 60, .long (lN v), am_un, .long (lN w), am_un, .int (nI T), .int (nI m), .int (nI i), .int (R 0), .int (nI 1), U10] [] (wd c (u2 a 80 (upd R 0 (nI i))) l f) _
    refine mi_in hv hw hT hi (by omega) hm m 1 (R 0) (upd R 0 (nI i)) U10 g10 (by omega) (by omega) (fun cr' V gv => ?_)
    refine am_wp_ok (inl := []) 4 1 133 [40] _ _ _ _ _ ?_
    show am_T ro 1 133 40 [.ref 60, .long (lN v), am_un, .long (lN w), am_un, .int (nI T), .int (nI m), .int (nI i + 1), .int cr', .int (nI (m + 1)), V] [] (wd c (u2 a 80 (ei ((fun i j => decide (v / 27 ^ (T - i) % 27 = w / 27 ^ (m - j) % 27)) i) m 1 (R 0) (upd R 0 (nI i)))) l f) _
    rw [nI_1]
    exact ih (i + 1) _ _ _ _ rfl rfl gv (by omega) (by omega)
theorem p8 {v : Nat} (h : v < 27 ^ 8) : v < 2 ^ 62 := Nat.lt_trans h (by decide)
set_option maxRecDepth 100000 in
set_option maxHeartbeats 4000000 in
theorem mo_edits {ro : Nat → Option am_C} {c : Bool} {a : Nat → Nat → Int32} {l : Nat → Int64} {f : Nat → Nat → Int32} {v w T m : Nat} (hv : v < 27 ^ 8) (hw : w < 27 ^ 8) (hT : dc 8 v = T) (hm : dc 8 w = m) (hT8 : T ≤ 8) (hm8 : m ≤ 8) : am_run ro 2 133 [.ref 60, .long (lN v), .long (lN w)] (wd c a l f) (some (.int (eo (fun i j => decide (v / 27 ^ (T - i) % 27 = w / 27 ^ (m - j) % 27)) m T 1 (fl 0 (m + 1) (a 80)) m))) (wd c (u2 a 80 (eo (fun i j => decide (v / 27 ^ (T - i) % 27 = w / 27 ^ (m - j) % 27)) m T 1 (fl 0 (m + 1) (a 80)))) l f) := by
  have h1 := mo_letters (ro := ro) (hp := wd c a l f) (n := 8) hv (p8 hv)
  have h2 := mo_letters (ro := ro) (hp := wd c a l f) (n := 8) hw (p8 hw)
  rw [hT] at h1
  rw [hm] at h2
  refine am_run_of rfl (am_wp_ok (inl := []) 3 1 133 [4] 0 _ _ _ _ ?_)
  refine ⟨_, _, h1, ?_⟩
  show am_T ro 1 133 4 [.ref 60, .long (lN v), am_un, .long (lN w), am_un, am_un, am_un, am_un, am_un, am_un, am_un] [.int (nI T)] (wd c a l f) _
  refine am_wp_ok (inl := []) 4 1 133 [10] _ _ _ _ _ ?_
  refine ⟨_, _, h2, ?_⟩
  show am_T ro 1 133 10 [.ref 60, .long (lN v), am_un, .long (lN w), am_un, .int (nI T), am_un, am_un, am_un, am_un, am_un] [.int (nI m)] (wd c a l f) _
  refine am_wp_ok (inl := []) 5 1 133 [15] _ _ _ _ _ ?_
  show am_T ro 1 133 15 [.ref 60, .long (lN v), am_un, .long (lN w), am_un, .int (nI T), .int (nI m), .int (nI 0), am_un, am_un, am_un] [] (wd c a l f) _
  rw [show wd c a l f = wd c (u2 a 80 (a 80)) l f by rw [u2_id]]
  refine me_fill hm8 (m + 1) 0 (a 80) (by omega) ?_
  refine am_wp_ok (inl := []) 3 1 133 [40] _ _ _ _ _ ?_
  exact mi_out (p8 hv) (p8 hw) hT8 hm8 T 1 _ am_un am_un am_un rfl rfl rfl (by omega) (by omega)
set_option maxRecDepth 100000 in
set_option maxHeartbeats 4000000 in
theorem cs_dist_16 {ro : Nat → Option am_C} {c : Bool} {a : Nat → Nat → Int32} {l : Nat → Int64} {f : Nat → Nat → Int32} {s t nm m : Nat} (h2 : f 1 2 = nI s) (h3 : f 1 3 = nI t) (hst : s ≤ t) (ht : t ≤ 900) (hnm : nm < 20) (hm : m ≤ 8) (em : a 34 nm = nI m) : am_run ro 2 99 [.ref 32, .int (nI nm), .ref 1] (wd c a l f) (some (.int (eo (fun i j => decide (a 2 (s + (i - 1)) = a 35 (8 * nm + (j - 1)))) m (t - s) 1 (fl 0 (m + 1) (a 37)) m))) (wd c (u2 a 37 (eo (fun i j => decide (a 2 (s + (i - 1)) = a 35 (8 * nm + (j - 1)))) m (t - s) 1 (fl 0 (m + 1) (a 37)))) l f) := by
  refine am_run_of rfl (am_wp_ok (inl := []) 8 1 99 [10] 0 _ _ _ _ ?_)
  refine And.intro (vp_in_nI (by omega) (by decide)) ?_
  show am_T ro 1 99 10 [.ref 32, .int (nI nm), .ref 1, .int (a 34 (nI nm).toNatClampNeg), .int (nI 0), am_un, am_un, am_un, am_un] [] (wd c a l f) _
  rw [nI_clamp (show nm < 2 ^ 31 by omega), em]
  have hw : wd c a l f = wd c (u2 a 37 (a 37)) l f := by rw [u2_id]
  rw [hw]
  refine di_fill_16 hm (m + 1) 0 (a 37) (by omega) ?_
  refine am_wp_ok (inl := []) 3 1 99 [34] _ _ _ _ _ ?_
  exact di_out_16 h2 h3 hst ht hnm hm (t - s) 1 _ am_un am_un am_un am_un rfl rfl rfl rfl (by omega) (by omega)
set_option maxRecDepth 100000 in
set_option maxHeartbeats 4000000 in
theorem cs_dist_38 {ro : Nat → Option am_C} {c : Bool} {a : Nat → Nat → Int32} {l : Nat → Int64} {f : Nat → Nat → Int32} {s t nm m : Nat} (h2 : f 1 2 = nI s) (h3 : f 1 3 = nI t) (hst : s ≤ t) (ht : t ≤ 900) (hnm : nm < 20) (hm : m ≤ 8) (em : a 56 nm = nI m) : am_run ro 2 99 [.ref 54, .int (nI nm), .ref 1] (wd c a l f) (some (.int (eo (fun i j => decide (a 2 (s + (i - 1)) = a 57 (8 * nm + (j - 1)))) m (t - s) 1 (fl 0 (m + 1) (a 59)) m))) (wd c (u2 a 59 (eo (fun i j => decide (a 2 (s + (i - 1)) = a 57 (8 * nm + (j - 1)))) m (t - s) 1 (fl 0 (m + 1) (a 59)))) l f) := by
  refine am_run_of rfl (am_wp_ok (inl := []) 8 1 99 [10] 0 _ _ _ _ ?_)
  refine And.intro (vp_in_nI (by omega) (by decide)) ?_
  show am_T ro 1 99 10 [.ref 54, .int (nI nm), .ref 1, .int (a 56 (nI nm).toNatClampNeg), .int (nI 0), am_un, am_un, am_un, am_un] [] (wd c a l f) _
  rw [nI_clamp (show nm < 2 ^ 31 by omega), em]
  have hw : wd c a l f = wd c (u2 a 59 (a 59)) l f := by rw [u2_id]
  rw [hw]
  refine di_fill_38 hm (m + 1) 0 (a 59) (by omega) ?_
  refine am_wp_ok (inl := []) 3 1 99 [34] _ _ _ _ _ ?_
  exact di_out_38 h2 h3 hst ht hnm hm (t - s) 1 _ am_un am_un am_un am_un rfl rfl rfl rfl (by omega) (by omega)
