set_option maxRecDepth 100000 in
set_option maxHeartbeats 4000000 in
theorem to_7 {ro : Nat → Option am_C} {c : Bool} {a : Nat → Nat → Int32} {l : Nat → Int64} {f : Nat → Nat → Int32} {k : Nat} {v : Int32} (hk : k < 16) (e : a 62 8 = nI k) (hw : f 60 27 = nI 7) {g : Bool} (hg : v < 0 ↔ g = false) : am_run ro 2 114 [.ref 60, .int v] (wd c a l f) (some (.int (nI g.toNat))) (wd c (u2 (u2 a 67 (upd (a 67) (16 + k) v)) 62 (upd (a 62) 8 (nI (k + 1)))) l (u3 (u3 f 60 26 (f 60 26 + 1)) 60 27 (0))) := by
  refine am_run_of rfl (to_st (k := 7) hw ?_)
  rw [show am_ts 4 (nI 7) 319 7 15 #[52, 104, 133, 319, 319, 319, 319, 222, 254] = 56 from by decide +kernel]
  refine am_wp_ok (inl := []) 10 1 114 [72] _ _ _ _ _ ?_
  refine And.intro (vp_in_nI (n := 8) (by decide) (by decide)) ?_
  refine And.intro (show vp_in (nI 16 + a 62 8) 32 by rw [e, nI_add]; exact vp_in_nI (by omega) (by decide)) ?_
  show am_T ro 1 114 72 [.ref 60, .int v, am_un, am_un] [] ((wd c a l f).set 67 (.inl (.int, 32, .inl (upd (a 67) (nI 16 + a 62 8).toNatClampNeg (v))))) _
  rw [ws_67, e, nI_add, nI_clamp (show 16 + k < 2 ^ 31 by omega)]
  refine am_wp_ok (inl := []) 9 1 114 [83] _ _ _ _ _ ?_
  refine And.intro (vp_in_nI (n := 8) (by decide) (by decide)) (And.intro (vp_in_nI (n := 8) (by decide) (by decide)) ?_)
  show am_T ro 1 114 83 [.ref 60, .int v, am_un, am_un] [] ((wd c (u2 a 67 (upd (a 67) (16 + k) v)) l f).set 62 (.inl (.int, 12, .inl (upd (a 62) 8 (a 62 8 + 1))))) _
  rw [ws_62, e, nI_1]
  refine am_wp_ok (inl := []) 8 1 114 [93] _ _ _ _ _ ?_
  show am_T ro 1 114 93 [.ref 60, .int v, am_un, am_un] [] ((wd c (u2 (u2 a 67 (upd (a 67) (16 + k) v)) 62 (upd (a 62) 8 (nI (k + 1)))) l f).set 60 (.inr (10, [.ref 61, .int (f 60 1), .int (f 60 2), .int (f 60 3), .ref 62, .ref 63, .ref 64, .ref 65, .ref 66, .ref 67, .ref 68, .ref 69, .ref 70, .ref 71, .ref 72, .ref 73, .ref 74, .ref 75, .int (f 60 18), .ref 76, .ref 77, .ref 78, .ref 79, .int (f 60 23), .ref 80, .ref 81, .int (f 60 26), .int (f 60 27), .int (f 60 28)].set 26 (.int (f 60 26 + 1))))) _
  rw [wf_60_26]
  refine am_wp_ok (inl := []) 4 1 114 [98] _ _ _ _ _ ?_
  show am_T ro 1 114 98 [.ref 60, .int v, am_un, am_un] [] ((wd c (u2 (u2 a 67 (upd (a 67) (16 + k) v)) 62 (upd (a 62) 8 (nI (k + 1)))) l (u3 f 60 26 (f 60 26 + 1))).set 60 (.inr (10, [.ref 61, .int ((u3 f 60 26 (f 60 26 + 1)) 60 1), .int ((u3 f 60 26 (f 60 26 + 1)) 60 2), .int ((u3 f 60 26 (f 60 26 + 1)) 60 3), .ref 62, .ref 63, .ref 64, .ref 65, .ref 66, .ref 67, .ref 68, .ref 69, .ref 70, .ref 71, .ref 72, .ref 73, .ref 74, .ref 75, .int ((u3 f 60 26 (f 60 26 + 1)) 60 18), .ref 76, .ref 77, .ref 78, .ref 79, .int ((u3 f 60 26 (f 60 26 + 1)) 60 23), .ref 80, .ref 81, .int ((u3 f 60 26 (f 60 26 + 1)) 60 26), .int ((u3 f 60 26 (f 60 26 + 1)) 60 27), .int ((u3 f 60 26 (f 60 26 + 1)) 60 28)].set 27 (.int (0))))) _
  rw [wf_60_27]
  refine am_wp_ok (inl := []) 6 1 114 [] _ _ _ _ _ ?_
  cases g with
  | false =>
    refine am_br_t (hg.mpr rfl) ?_
    exact And.intro rfl (And.intro rfl rfl)
  | true =>
    refine am_br_f (fun z => by have := hg.mp z; cases this) ?_
    exact And.intro rfl (And.intro rfl rfl)
set_option maxRecDepth 100000 in
set_option maxHeartbeats 4000000 in
theorem to_8t {ro : Nat → Option am_C} {c : Bool} {a : Nat → Nat → Int32} {l : Nat → Int64} {f : Nat → Nat → Int32} {k : Nat} {v : Int32} (hk : k ≤ 16) (e : a 62 9 = nI k) (hw : f 60 27 = nI 8) (h0 : ¬ v < 0) (hm : an (fun q => decide (a 68 (32 + q) = v)) 0 (2 * k) = false) : am_run ro 2 114 [.ref 60, .int v] (wd c a l f) (some (.int (nI 1))) (wd c a l (u3 (u3 f 60 28 (v)) 60 27 (9))) := by
  refine am_run_of rfl (to_st (k := 8) hw ?_)
  rw [show am_ts 4 (nI 8) 319 7 15 #[52, 104, 133, 319, 319, 319, 319, 222, 254] = 108 from by decide +kernel]
  refine am_wp_ok (inl := []) 4 1 114 [113] _ _ _ _ _ ?_
  show am_T ro 1 114 113 [.ref 60, .int v, am_un, am_un] [] ((wd c a l f).set 60 (.inr (10, [.ref 61, .int (f 60 1), .int (f 60 2), .int (f 60 3), .ref 62, .ref 63, .ref 64, .ref 65, .ref 66, .ref 67, .ref 68, .ref 69, .ref 70, .ref 71, .ref 72, .ref 73, .ref 74, .ref 75, .int (f 60 18), .ref 76, .ref 77, .ref 78, .ref 79, .int (f 60 23), .ref 80, .ref 81, .int (f 60 26), .int (f 60 27), .int (f 60 28)].set 28 (.int (v))))) _
  rw [wf_60_28]
  refine am_wp_ok (inl := []) 4 1 114 [119] _ _ _ _ _ ?_
  show am_T ro 1 114 119 [.ref 60, .int v, am_un, am_un] [] ((wd c a l (u3 f 60 28 (v))).set 60 (.inr (10, [.ref 61, .int ((u3 f 60 28 (v)) 60 1), .int ((u3 f 60 28 (v)) 60 2), .int ((u3 f 60 28 (v)) 60 3), .ref 62, .ref 63, .ref 64, .ref 65, .ref 66, .ref 67, .ref 68, .ref 69, .ref 70, .ref 71, .ref 72, .ref 73, .ref 74, .ref 75, .int ((u3 f 60 28 (v)) 60 18), .ref 76, .ref 77, .ref 78, .ref 79, .int ((u3 f 60 28 (v)) 60 23), .ref 80, .ref 81, .int ((u3 f 60 28 (v)) 60 26), .int ((u3 f 60 28 (v)) 60 27), .int ((u3 f 60 28 (v)) 60 28)].set 27 (.int (9))))) _
  rw [wf_60_27]
  refine am_wp_ok (inl := []) 3 1 114 [123] _ _ _ _ _ ?_
  refine am_br_f h0 ?_
  show am_T ro 1 114 123 [.ref 60, .int v, am_un, am_un] [] (wd c a l (u3 (u3 f 60 28 (v)) 60 27 (9))) _
  refine am_wp_ok (inl := []) 4 1 114 [128] _ _ _ _ _ ?_
  refine ⟨_, _, mo_im hk e, ?_⟩
  show am_T ro 1 114 128 [.ref 60, .int v, am_un, am_un] [.int (nI (an (fun q => decide (a 68 (32 + q) = v)) 0 (2 * k)).toNat)] (wd c a l (u3 (u3 f 60 28 (v)) 60 27 (9))) _
  rw [hm]
  refine am_wp_ok (inl := []) 6 1 114 [] _ _ _ _ _ ?_
  refine am_br_f (show ¬ ¬ nI 0 = 0 from fun z => z rfl) ?_
  exact And.intro rfl (And.intro rfl rfl)
set_option maxRecDepth 100000 in
set_option maxHeartbeats 4000000 in
theorem to_8n {ro : Nat → Option am_C} {c : Bool} {a : Nat → Nat → Int32} {l : Nat → Int64} {f : Nat → Nat → Int32} {k : Nat} {v : Int32} (hk : k ≤ 16) (e : a 62 9 = nI k) (hw : f 60 27 = nI 8) (h0 : v < 0) : am_run ro 2 114 [.ref 60, .int v] (wd c a l f) (some (.int (nI 0))) (wd c a l (u3 (u3 f 60 28 (v)) 60 27 (9))) := by
  refine am_run_of rfl (to_st (k := 8) hw ?_)
  rw [show am_ts 4 (nI 8) 319 7 15 #[52, 104, 133, 319, 319, 319, 319, 222, 254] = 108 from by decide +kernel]
  refine am_wp_ok (inl := []) 4 1 114 [113] _ _ _ _ _ ?_
  show am_T ro 1 114 113 [.ref 60, .int v, am_un, am_un] [] ((wd c a l f).set 60 (.inr (10, [.ref 61, .int (f 60 1), .int (f 60 2), .int (f 60 3), .ref 62, .ref 63, .ref 64, .ref 65, .ref 66, .ref 67, .ref 68, .ref 69, .ref 70, .ref 71, .ref 72, .ref 73, .ref 74, .ref 75, .int (f 60 18), .ref 76, .ref 77, .ref 78, .ref 79, .int (f 60 23), .ref 80, .ref 81, .int (f 60 26), .int (f 60 27), .int (f 60 28)].set 28 (.int (v))))) _
  rw [wf_60_28]
  refine am_wp_ok (inl := []) 4 1 114 [119] _ _ _ _ _ ?_
  show am_T ro 1 114 119 [.ref 60, .int v, am_un, am_un] [] ((wd c a l (u3 f 60 28 (v))).set 60 (.inr (10, [.ref 61, .int ((u3 f 60 28 (v)) 60 1), .int ((u3 f 60 28 (v)) 60 2), .int ((u3 f 60 28 (v)) 60 3), .ref 62, .ref 63, .ref 64, .ref 65, .ref 66, .ref 67, .ref 68, .ref 69, .ref 70, .ref 71, .ref 72, .ref 73, .ref 74, .ref 75, .int ((u3 f 60 28 (v)) 60 18), .ref 76, .ref 77, .ref 78, .ref 79, .int ((u3 f 60 28 (v)) 60 23), .ref 80, .ref 81, .int ((u3 f 60 28 (v)) 60 26), .int ((u3 f 60 28 (v)) 60 27), .int ((u3 f 60 28 (v)) 60 28)].set 27 (.int (9))))) _
  rw [wf_60_27]
  refine am_wp_ok (inl := []) 6 1 114 [] _ _ _ _ _ ?_
  refine am_br_t h0 ?_
  exact And.intro rfl (And.intro rfl rfl)
set_option maxRecDepth 100000 in
set_option maxHeartbeats 4000000 in
theorem to_8m {ro : Nat → Option am_C} {c : Bool} {a : Nat → Nat → Int32} {l : Nat → Int64} {f : Nat → Nat → Int32} {k : Nat} {v : Int32} (hk : k ≤ 16) (e : a 62 9 = nI k) (hw : f 60 27 = nI 8) (h0 : ¬ v < 0) (hm : an (fun q => decide (a 68 (32 + q) = v)) 0 (2 * k) = true) : am_run ro 2 114 [.ref 60, .int v] (wd c a l f) (some (.int (nI 0))) (wd c a l (u3 (u3 f 60 28 (v)) 60 27 (9))) := by
  refine am_run_of rfl (to_st (k := 8) hw ?_)
  rw [show am_ts 4 (nI 8) 319 7 15 #[52, 104, 133, 319, 319, 319, 319, 222, 254] = 108 from by decide +kernel]
  refine am_wp_ok (inl := []) 4 1 114 [113] _ _ _ _ _ ?_
  show am_T ro 1 114 113 [.ref 60, .int v, am_un, am_un] [] ((wd c a l f).set 60 (.inr (10, [.ref 61, .int (f 60 1), .int (f 60 2), .int (f 60 3), .ref 62, .ref 63, .ref 64, .ref 65, .ref 66, .ref 67, .ref 68, .ref 69, .ref 70, .ref 71, .ref 72, .ref 73, .ref 74, .ref 75, .int (f 60 18), .ref 76, .ref 77, .ref 78, .ref 79, .int (f 60 23), .ref 80, .ref 81, .int (f 60 26), .int (f 60 27), .int (f 60 28)].set 28 (.int (v))))) _
  rw [wf_60_28]
  refine am_wp_ok (inl := []) 4 1 114 [119] _ _ _ _ _ ?_
  show am_T ro 1 114 119 [.ref 60, .int v, am_un, am_un] [] ((wd c a l (u3 f 60 28 (v))).set 60 (.inr (10, [.ref 61, .int ((u3 f 60 28 (v)) 60 1), .int ((u3 f 60 28 (v)) 60 2), .int ((u3 f 60 28 (v)) 60 3), .ref 62, .ref 63, .ref 64, .ref 65, .ref 66, .ref 67, .ref 68, .ref 69, .ref 70, .ref 71, .ref 72, .ref 73, .ref 74, .ref 75, .int ((u3 f 60 28 (v)) 60 18), .ref 76, .ref 77, .ref 78, .ref 79, .int ((u3 f 60 28 (v)) 60 23), .ref 80, .ref 81, .int ((u3 f 60 28 (v)) 60 26), .int ((u3 f 60 28 (v)) 60 27), .int ((u3 f 60 28 (v)) 60 28)].set 27 (.int (9))))) _
  rw [wf_60_27]
  refine am_wp_ok (inl := []) 3 1 114 [123] _ _ _ _ _ ?_
  refine am_br_f h0 ?_
  show am_T ro 1 114 123 [.ref 60, .int v, am_un, am_un] [] (wd c a l (u3 (u3 f 60 28 (v)) 60 27 (9))) _
  refine am_wp_ok (inl := []) 4 1 114 [128] _ _ _ _ _ ?_
  refine ⟨_, _, mo_im hk e, ?_⟩
  show am_T ro 1 114 128 [.ref 60, .int v, am_un, am_un] [.int (nI (an (fun q => decide (a 68 (32 + q) = v)) 0 (2 * k)).toNat)] (wd c a l (u3 (u3 f 60 28 (v)) 60 27 (9))) _
  rw [hm]
  refine am_wp_ok (inl := []) 6 1 114 [] _ _ _ _ _ ?_
  refine am_br_t (show ¬ nI 1 = 0 by decide) ?_
  exact And.intro rfl (And.intro rfl rfl)
set_option maxRecDepth 100000 in
set_option maxHeartbeats 4000000 in
theorem to_9n {ro : Nat → Option am_C} {c : Bool} {a : Nat → Nat → Int32} {l : Nat → Int64} {f : Nat → Nat → Int32} {k : Nat} {v : Int32} (hk : k < 16) (e : a 62 9 = nI k) (hw : f 60 27 = nI 9) (h0 : v < 0) : am_run ro 2 114 [.ref 60, .int v] (wd c a l f) (some (.int (nI 0))) (wd c a l f) := by
  refine am_run_of rfl (to_st (k := 9) hw ?_)
  rw [show am_ts 4 (nI 9) 319 7 15 #[52, 104, 133, 319, 319, 319, 319, 222, 254] = 137 from by decide +kernel]
  refine am_wp_ok (inl := []) 6 1 114 [] _ _ _ _ _ ?_
  refine am_br_t h0 ?_
  exact And.intro rfl (And.intro rfl rfl)
set_option maxRecDepth 100000 in
set_option maxHeartbeats 4000000 in
theorem to_9e {ro : Nat → Option am_C} {c : Bool} {a : Nat → Nat → Int32} {l : Nat → Int64} {f : Nat → Nat → Int32} {k : Nat} {v : Int32} (hk : k < 16) (e : a 62 9 = nI k) (hw : f 60 27 = nI 9) (h0 : ¬ v < 0) (hf : v = f 60 28) : am_run ro 2 114 [.ref 60, .int v] (wd c a l f) (some (.int (nI 0))) (wd c a l f) := by
  refine am_run_of rfl (to_st (k := 9) hw ?_)
  rw [show am_ts 4 (nI 9) 319 7 15 #[52, 104, 133, 319, 319, 319, 319, 222, 254] = 137 from by decide +kernel]
  refine am_wp_ok (inl := []) 3 1 114 [141] _ _ _ _ _ ?_
  refine am_br_f h0 ?_
  show am_T ro 1 114 141 [.ref 60, .int v, am_un, am_un] [] (wd c a l f) _
  refine am_wp_ok (inl := []) 8 1 114 [] _ _ _ _ _ ?_
  refine am_br_t hf ?_
  exact And.intro rfl (And.intro rfl rfl)
set_option maxRecDepth 100000 in
set_option maxHeartbeats 4000000 in
theorem to_9m {ro : Nat → Option am_C} {c : Bool} {a : Nat → Nat → Int32} {l : Nat → Int64} {f : Nat → Nat → Int32} {k : Nat} {v : Int32} (hk : k < 16) (e : a 62 9 = nI k) (hw : f 60 27 = nI 9) (h0 : ¬ v < 0) (hf : ¬ v = f 60 28) (hm : an (fun q => decide (a 68 (32 + q) = v)) 0 (2 * k) = true) : am_run ro 2 114 [.ref 60, .int v] (wd c a l f) (some (.int (nI 0))) (wd c a l f) := by
  refine am_run_of rfl (to_st (k := 9) hw ?_)
  rw [show am_ts 4 (nI 9) 319 7 15 #[52, 104, 133, 319, 319, 319, 319, 222, 254] = 137 from by decide +kernel]
  refine am_wp_ok (inl := []) 3 1 114 [141] _ _ _ _ _ ?_
  refine am_br_f h0 ?_
  show am_T ro 1 114 141 [.ref 60, .int v, am_un, am_un] [] (wd c a l f) _
  refine am_wp_ok (inl := []) 5 1 114 [149] _ _ _ _ _ ?_
  refine am_br_f hf ?_
  show am_T ro 1 114 149 [.ref 60, .int v, am_un, am_un] [] (wd c a l f) _
  refine am_wp_ok (inl := []) 4 1 114 [154] _ _ _ _ _ ?_
  refine ⟨_, _, mo_im (by omega) e, ?_⟩
  show am_T ro 1 114 154 [.ref 60, .int v, am_un, am_un] [.int (nI (an (fun q => decide (a 68 (32 + q) = v)) 0 (2 * k)).toNat)] (wd c a l f) _
  rw [hm]
  refine am_wp_ok (inl := []) 4 1 114 [] _ _ _ _ _ ?_
  refine am_br_f (show ¬ nI 1 = 0 by decide) ?_
  exact And.intro rfl (And.intro rfl rfl)
set_option maxRecDepth 100000 in
set_option maxHeartbeats 4000000 in
theorem to_9t {ro : Nat → Option am_C} {c : Bool} {a : Nat → Nat → Int32} {l : Nat → Int64} {f : Nat → Nat → Int32} {k : Nat} {v : Int32} (hk : k < 16) (e : a 62 9 = nI k) (hw : f 60 27 = nI 9) (h0 : ¬ v < 0) (hf : ¬ v = f 60 28) (hm : an (fun q => decide (a 68 (32 + q) = v)) 0 (2 * k) = false) : am_run ro 2 114 [.ref 60, .int v] (wd c a l f) (some (.int (nI 1))) (wd c (u2 (u2 a 68 (upd (upd (a 68) (32 + 2 * k) (f 60 28)) (33 + 2 * k) v)) 62 (upd (a 62) 9 (nI (k + 1)))) l (u3 (u3 f 60 26 (f 60 26 + 1)) 60 27 (0))) := by
  refine am_run_of rfl (to_st (k := 9) hw ?_)
  rw [show am_ts 4 (nI 9) 319 7 15 #[52, 104, 133, 319, 319, 319, 319, 222, 254] = 137 from by decide +kernel]
  refine am_wp_ok (inl := []) 3 1 114 [141] _ _ _ _ _ ?_
  refine am_br_f h0 ?_
  show am_T ro 1 114 141 [.ref 60, .int v, am_un, am_un] [] (wd c a l f) _
  refine am_wp_ok (inl := []) 5 1 114 [149] _ _ _ _ _ ?_
  refine am_br_f hf ?_
  show am_T ro 1 114 149 [.ref 60, .int v, am_un, am_un] [] (wd c a l f) _
  refine am_wp_ok (inl := []) 4 1 114 [154] _ _ _ _ _ ?_
  refine ⟨_, _, mo_im (by omega) e, ?_⟩
  show am_T ro 1 114 154 [.ref 60, .int v, am_un, am_un] [.int (nI (an (fun q => decide (a 68 (32 + q) = v)) 0 (2 * k)).toNat)] (wd c a l f) _
  rw [hm]
  refine am_wp_ok (inl := []) 2 1 114 [159] _ _ _ _ _ ?_
  refine am_br_t (show nI 0 = 0 from rfl) ?_
  show am_T ro 1 114 159 [.ref 60, .int v, am_un, am_un] [] (wd c a l f) _
  refine am_wp_ok (inl := []) 16 1 114 [180] _ _ _ _ _ ?_
  refine And.intro (vp_in_nI (n := 9) (by decide) (by decide)) ?_
  refine And.intro (show vp_in (nI 32 + nI 2 * a 62 9) 64 by rw [e, nI_mul, nI_add]; exact vp_in_nI (by omega) (by decide)) ?_
  show am_T ro 1 114 180 [.ref 60, .int v, am_un, am_un] [] ((wd c a l f).set 68 (.inl (.int, 64, .inl (upd (a 68) (nI 32 + nI 2 * a 62 9).toNatClampNeg (f 60 28))))) _
  rw [ws_68, e, nI_mul, nI_add, nI_clamp (show 32 + 2 * k < 2 ^ 31 by omega)]
  refine am_wp_ok (inl := []) 16 1 114 [198] _ _ _ _ _ ?_
  refine And.intro (vp_in_nI (n := 9) (by decide) (by decide)) ?_
  refine And.intro (show vp_in (nI 33 + nI 2 * a 62 9) 64 by rw [e, nI_mul, nI_add]; exact vp_in_nI (by omega) (by decide)) ?_
  show am_T ro 1 114 198 [.ref 60, .int v, am_un, am_un] [] ((wd c (u2 a 68 (upd (a 68) (32 + 2 * k) (f 60 28))) l f).set 68 (.inl (.int, 64, .inl (upd (upd (a 68) (32 + 2 * k) (f 60 28)) (nI 33 + nI 2 * a 62 9).toNatClampNeg (v))))) _
  rw [ws_68, u2_u2, e, nI_mul, nI_add, nI_clamp (show 33 + 2 * k < 2 ^ 31 by omega)]
  refine am_wp_ok (inl := []) 9 1 114 [209] _ _ _ _ _ ?_
  refine And.intro (vp_in_nI (n := 9) (by decide) (by decide)) (And.intro (vp_in_nI (n := 9) (by decide) (by decide)) ?_)
  show am_T ro 1 114 209 [.ref 60, .int v, am_un, am_un] [] ((wd c (u2 a 68 (upd (upd (a 68) (32 + 2 * k) (f 60 28)) (33 + 2 * k) v)) l f).set 62 (.inl (.int, 12, .inl (upd (a 62) 9 (a 62 9 + 1))))) _
  rw [ws_62, e, nI_1]
  refine am_wp_ok (inl := []) 8 1 114 [219] _ _ _ _ _ ?_
  show am_T ro 1 114 219 [.ref 60, .int v, am_un, am_un] [] ((wd c (u2 (u2 a 68 (upd (upd (a 68) (32 + 2 * k) (f 60 28)) (33 + 2 * k) v)) 62 (upd (a 62) 9 (nI (k + 1)))) l f).set 60 (.inr (10, [.ref 61, .int (f 60 1), .int (f 60 2), .int (f 60 3), .ref 62, .ref 63, .ref 64, .ref 65, .ref 66, .ref 67, .ref 68, .ref 69, .ref 70, .ref 71, .ref 72, .ref 73, .ref 74, .ref 75, .int (f 60 18), .ref 76, .ref 77, .ref 78, .ref 79, .int (f 60 23), .ref 80, .ref 81, .int (f 60 26), .int (f 60 27), .int (f 60 28)].set 26 (.int (f 60 26 + 1))))) _
  rw [wf_60_26]
  refine am_wp_ok (inl := []) 4 1 114 [224] _ _ _ _ _ ?_
  show am_T ro 1 114 224 [.ref 60, .int v, am_un, am_un] [] ((wd c (u2 (u2 a 68 (upd (upd (a 68) (32 + 2 * k) (f 60 28)) (33 + 2 * k) v)) 62 (upd (a 62) 9 (nI (k + 1)))) l (u3 f 60 26 (f 60 26 + 1))).set 60 (.inr (10, [.ref 61, .int ((u3 f 60 26 (f 60 26 + 1)) 60 1), .int ((u3 f 60 26 (f 60 26 + 1)) 60 2), .int ((u3 f 60 26 (f 60 26 + 1)) 60 3), .ref 62, .ref 63, .ref 64, .ref 65, .ref 66, .ref 67, .ref 68, .ref 69, .ref 70, .ref 71, .ref 72, .ref 73, .ref 74, .ref 75, .int ((u3 f 60 26 (f 60 26 + 1)) 60 18), .ref 76, .ref 77, .ref 78, .ref 79, .int ((u3 f 60 26 (f 60 26 + 1)) 60 23), .ref 80, .ref 81, .int ((u3 f 60 26 (f 60 26 + 1)) 60 26), .int ((u3 f 60 26 (f 60 26 + 1)) 60 27), .int ((u3 f 60 26 (f 60 26 + 1)) 60 28)].set 27 (.int (0))))) _
  rw [wf_60_27]
  refine am_wp_ok (inl := []) 3 1 114 [] _ _ _ _ _ ?_
  exact And.intro rfl (And.intro rfl rfl)
set_option maxRecDepth 100000 in
set_option maxHeartbeats 4000000 in
theorem to_14 {ro : Nat → Option am_C} {c : Bool} {a : Nat → Nat → Int32} {l : Nat → Int64} {f : Nat → Nat → Int32} {k : Nat} {v : Int32} (hk : k < 20) (e : a 62 11 = nI k) (hw : f 60 27 = nI 14) {g : Bool} (hg : v < 0 ↔ g = false) : am_run ro 2 114 [.ref 60, .int v] (wd c a l f) (some (.int (nI g.toNat))) (wd c (u2 a 70 (upd (a 70) (20 + k) v)) l (u3 f 60 27 (15))) := by
  refine am_run_of rfl (to_st (k := 14) hw ?_)
  rw [show am_ts 4 (nI 14) 319 7 15 #[52, 104, 133, 319, 319, 319, 319, 222, 254] = 226 from by decide +kernel]
  refine am_wp_ok (inl := []) 10 1 114 [242] _ _ _ _ _ ?_
  refine And.intro (vp_in_nI (n := 11) (by decide) (by decide)) ?_
  refine And.intro (show vp_in (nI 20 + a 62 11) 40 by rw [e, nI_add]; exact vp_in_nI (by omega) (by decide)) ?_
  show am_T ro 1 114 242 [.ref 60, .int v, am_un, am_un] [] ((wd c a l f).set 70 (.inl (.int, 40, .inl (upd (a 70) (nI 20 + a 62 11).toNatClampNeg (v))))) _
  rw [ws_70, e, nI_add, nI_clamp (show 20 + k < 2 ^ 31 by omega)]
  refine am_wp_ok (inl := []) 4 1 114 [248] _ _ _ _ _ ?_
  show am_T ro 1 114 248 [.ref 60, .int v, am_un, am_un] [] ((wd c (u2 a 70 (upd (a 70) (20 + k) v)) l f).set 60 (.inr (10, [.ref 61, .int (f 60 1), .int (f 60 2), .int (f 60 3), .ref 62, .ref 63, .ref 64, .ref 65, .ref 66, .ref 67, .ref 68, .ref 69, .ref 70, .ref 71, .ref 72, .ref 73, .ref 74, .ref 75, .int (f 60 18), .ref 76, .ref 77, .ref 78, .ref 79, .int (f 60 23), .ref 80, .ref 81, .int (f 60 26), .int (f 60 27), .int (f 60 28)].set 27 (.int (15))))) _
  rw [wf_60_27]
  refine am_wp_ok (inl := []) 6 1 114 [] _ _ _ _ _ ?_
  cases g with
  | false =>
    refine am_br_t (hg.mpr rfl) ?_
    exact And.intro rfl (And.intro rfl rfl)
  | true =>
    refine am_br_f (fun z => by have := hg.mp z; cases this) ?_
    exact And.intro rfl (And.intro rfl rfl)
set_option maxRecDepth 100000 in
set_option maxHeartbeats 4000000 in
theorem to_15z {ro : Nat → Option am_C} {c : Bool} {a : Nat → Nat → Int32} {l : Nat → Int64} {f : Nat → Nat → Int32} {k : Nat} {v : Int32} {z : Int64} (hk : k < 20) (e : a 62 11 = nI k) (hw : f 60 27 = nI 15) (hz : am_run ro 1 116 [.ref 60] (wd c a l f) (some (.long z)) (wd c a l f)) (h0 : z = 0) : am_run ro 2 114 [.ref 60, .int v] (wd c a l f) (some (.int (nI 0))) (wd c a l f) := by
  refine am_run_of rfl (to_st (k := 15) hw ?_)
  rw [show am_ts 4 (nI 15) 319 7 15 #[52, 104, 133, 319, 319, 319, 319, 222, 254] = 258 from by decide +kernel]
  refine am_wp_ok (inl := []) 3 1 114 [262] _ _ _ _ _ ?_
  refine ⟨_, _, hz, ?_⟩
  show am_T ro 1 114 262 [.ref 60, .int v, am_un, am_un] [.long z] (wd c a l f) _
  refine am_wp_ok (inl := []) 2 1 114 [263] _ _ _ _ _ ?_
  show am_T ro 1 114 263 [.ref 60, .int v, .long z, am_un] [] (wd c a l f) _
  refine am_wp_ok (inl := []) 7 1 114 [] _ _ _ _ _ ?_
  refine am_br_t ((lg_cmp_eq _ _).mpr h0) ?_
  exact And.intro rfl (And.intro rfl rfl)
set_option maxRecDepth 100000 in
set_option maxHeartbeats 4000000 in
theorem to_15n {ro : Nat → Option am_C} {c : Bool} {a : Nat → Nat → Int32} {l : Nat → Int64} {f : Nat → Nat → Int32} {k : Nat} {v : Int32} {z : Int64} (hk : k < 20) (e : a 62 11 = nI k) (hw : f 60 27 = nI 15) (hz : am_run ro 1 116 [.ref 60] (wd c a l f) (some (.long z)) (wd c a l f)) (h0 : ¬ z = 0) (hn : an (fun q => decide (l (20 + q) = z)) 0 k = true) : am_run ro 2 114 [.ref 60, .int v] (wd c a l f) (some (.int (nI 0))) (wd c a l f) := by
  refine am_run_of rfl (to_st (k := 15) hw ?_)
  rw [show am_ts 4 (nI 15) 319 7 15 #[52, 104, 133, 319, 319, 319, 319, 222, 254] = 258 from by decide +kernel]
  refine am_wp_ok (inl := []) 3 1 114 [262] _ _ _ _ _ ?_
  refine ⟨_, _, hz, ?_⟩
  show am_T ro 1 114 262 [.ref 60, .int v, am_un, am_un] [.long z] (wd c a l f) _
  refine am_wp_ok (inl := []) 2 1 114 [263] _ _ _ _ _ ?_
  show am_T ro 1 114 263 [.ref 60, .int v, .long z, am_un] [] (wd c a l f) _
  refine am_wp_ok (inl := []) 5 1 114 [269] _ _ _ _ _ ?_
  refine am_br_f (fun y => h0 ((lg_cmp_eq _ _).mp y)) ?_
  show am_T ro 1 114 269 [.ref 60, .int v, .long z, am_un] [] (wd c a l f) _
  refine am_wp_ok (inl := []) 4 1 114 [274] _ _ _ _ _ ?_
  refine ⟨_, _, mo_in (by omega) e, ?_⟩
  show am_T ro 1 114 274 [.ref 60, .int v, .long z, am_un] [.int (nI (an (fun q => decide (l (20 + q) = z)) 0 k).toNat)] (wd c a l f) _
  rw [hn]
  refine am_wp_ok (inl := []) 4 1 114 [] _ _ _ _ _ ?_
  refine am_br_f (show ¬ nI 1 = 0 by decide) ?_
  exact And.intro rfl (And.intro rfl rfl)
set_option maxRecDepth 100000 in
set_option maxHeartbeats 4000000 in
theorem to_15t {ro : Nat → Option am_C} {c : Bool} {a : Nat → Nat → Int32} {l : Nat → Int64} {f : Nat → Nat → Int32} {k : Nat} {v : Int32} {z : Int64} (hk : k < 20) (e : a 62 11 = nI k) (hw : f 60 27 = nI 15) (hz : am_run ro 1 116 [.ref 60] (wd c a l f) (some (.long z)) (wd c a l f)) (h0 : ¬ z = 0) (hn : an (fun q => decide (l (20 + q) = z)) 0 k = false) : am_run ro 2 114 [.ref 60, .int v] (wd c a l f) (some (.int (nI 1))) (wd c (u2 a 62 (upd (a 62) 11 (nI (k + 1)))) (vp_updL l (20 + k) z) (u3 (u3 f 60 26 (f 60 26 + 1)) 60 27 (0))) := by
  refine am_run_of rfl (to_st (k := 15) hw ?_)
  rw [show am_ts 4 (nI 15) 319 7 15 #[52, 104, 133, 319, 319, 319, 319, 222, 254] = 258 from by decide +kernel]
  refine am_wp_ok (inl := []) 3 1 114 [262] _ _ _ _ _ ?_
  refine ⟨_, _, hz, ?_⟩
  show am_T ro 1 114 262 [.ref 60, .int v, am_un, am_un] [.long z] (wd c a l f) _
  refine am_wp_ok (inl := []) 2 1 114 [263] _ _ _ _ _ ?_
  show am_T ro 1 114 263 [.ref 60, .int v, .long z, am_un] [] (wd c a l f) _
  refine am_wp_ok (inl := []) 5 1 114 [269] _ _ _ _ _ ?_
  refine am_br_f (fun y => h0 ((lg_cmp_eq _ _).mp y)) ?_
  show am_T ro 1 114 269 [.ref 60, .int v, .long z, am_un] [] (wd c a l f) _
  refine am_wp_ok (inl := []) 4 1 114 [274] _ _ _ _ _ ?_
  refine ⟨_, _, mo_in (by omega) e, ?_⟩
  show am_T ro 1 114 274 [.ref 60, .int v, .long z, am_un] [.int (nI (an (fun q => decide (l (20 + q) = z)) 0 k).toNat)] (wd c a l f) _
  rw [hn]
  refine am_wp_ok (inl := []) 2 1 114 [279] _ _ _ _ _ ?_
  refine am_br_t (show nI 0 = 0 from rfl) ?_
  show am_T ro 1 114 279 [.ref 60, .int v, .long z, am_un] [] (wd c a l f) _
  refine am_wp_ok (inl := []) 10 1 114 [295] _ _ _ _ _ ?_
  refine And.intro (vp_in_nI (n := 11) (by decide) (by decide)) ?_
  refine And.intro (show vp_in (nI 20 + a 62 11) 40 by rw [e, nI_add]; exact vp_in_nI (by omega) (by decide)) ?_
  show am_T ro 1 114 295 [.ref 60, .int v, .long z, am_un] [] ((wd c a l f).set 71 (.inl (.long, 40, .inr (.inl (vp_updL l (nI 20 + a 62 11).toNatClampNeg z))))) _
  rw [ws_71, e, nI_add, nI_clamp (show 20 + k < 2 ^ 31 by omega)]
  refine am_wp_ok (inl := []) 9 1 114 [306] _ _ _ _ _ ?_
  refine And.intro (vp_in_nI (n := 11) (by decide) (by decide)) (And.intro (vp_in_nI (n := 11) (by decide) (by decide)) ?_)
  show am_T ro 1 114 306 [.ref 60, .int v, .long z, am_un] [] ((wd c a (vp_updL l (20 + k) z) f).set 62 (.inl (.int, 12, .inl (upd (a 62) 11 (a 62 11 + 1))))) _
  rw [ws_62, e, nI_1]
  refine am_wp_ok (inl := []) 8 1 114 [316] _ _ _ _ _ ?_
  show am_T ro 1 114 316 [.ref 60, .int v, .long z, am_un] [] ((wd c (u2 a 62 (upd (a 62) 11 (nI (k + 1)))) (vp_updL l (20 + k) z) f).set 60 (.inr (10, [.ref 61, .int (f 60 1), .int (f 60 2), .int (f 60 3), .ref 62, .ref 63, .ref 64, .ref 65, .ref 66, .ref 67, .ref 68, .ref 69, .ref 70, .ref 71, .ref 72, .ref 73, .ref 74, .ref 75, .int (f 60 18), .ref 76, .ref 77, .ref 78, .ref 79, .int (f 60 23), .ref 80, .ref 81, .int (f 60 26), .int (f 60 27), .int (f 60 28)].set 26 (.int (f 60 26 + 1))))) _
  rw [wf_60_26]
  refine am_wp_ok (inl := []) 4 1 114 [321] _ _ _ _ _ ?_
  show am_T ro 1 114 321 [.ref 60, .int v, .long z, am_un] [] ((wd c (u2 a 62 (upd (a 62) 11 (nI (k + 1)))) (vp_updL l (20 + k) z) (u3 f 60 26 (f 60 26 + 1))).set 60 (.inr (10, [.ref 61, .int ((u3 f 60 26 (f 60 26 + 1)) 60 1), .int ((u3 f 60 26 (f 60 26 + 1)) 60 2), .int ((u3 f 60 26 (f 60 26 + 1)) 60 3), .ref 62, .ref 63, .ref 64, .ref 65, .ref 66, .ref 67, .ref 68, .ref 69, .ref 70, .ref 71, .ref 72, .ref 73, .ref 74, .ref 75, .int ((u3 f 60 26 (f 60 26 + 1)) 60 18), .ref 76, .ref 77, .ref 78, .ref 79, .int ((u3 f 60 26 (f 60 26 + 1)) 60 23), .ref 80, .ref 81, .int ((u3 f 60 26 (f 60 26 + 1)) 60 26), .int ((u3 f 60 26 (f 60 26 + 1)) 60 27), .int ((u3 f 60 26 (f 60 26 + 1)) 60 28)].set 27 (.int (0))))) _
  rw [wf_60_27]
  refine am_wp_ok (inl := []) 3 1 114 [] _ _ _ _ _ ?_
  exact And.intro rfl (And.intro rfl rfl)
set_option maxRecDepth 100000 in
set_option maxHeartbeats 4000000 in
theorem tm_10 {ro : Nat → Option am_C} {c : Bool} {a : Nat → Nat → Int32} {l : Nat → Int64} {f : Nat → Nat → Int32} {k : Nat} {v : Int32} (hk : k < 20) (e : a 62 10 = nI k) (hw : f 60 27 = nI 10) {g : Bool} (hg : v < 0 ↔ g = false) : am_run ro 1 118 [.ref 60, .int v] (wd c a l f) (some (.int (nI g.toNat))) (wd c (u2 a 69 (upd (a 69) (80 + 4 * k + 0) v)) l (u3 f 60 27 (nI 11))) := by
  have ex : nI 80 + nI 4 * a 62 10 + f 60 27 - nI 10 = nI (80 + 4 * k + 0) := by
    rw [e, hw, nI_mul, nI_add, nI_add, nI_sub (by omega)]
    exact congrArg nI (by omega)
  refine am_run_of rfl ?_
  show am_T ro 0 118 0 [.ref 60, .int v] [] (wd c a l f) _
  refine am_wp_ok (inl := []) 17 0 118 [26] _ _ _ _ _ ?_
  refine And.intro (vp_in_nI (n := 10) (by decide) (by decide)) ?_
  refine And.intro (show vp_in (nI 80 + nI 4 * a 62 10 + f 60 27 - nI 10) 160 by rw [ex]; exact vp_in_nI (by omega) (by decide)) ?_
  show am_T ro 0 118 26 [.ref 60, .int v] [] ((wd c a l f).set 69 (.inl (.int, 160, .inl (upd (a 69) (nI 80 + nI 4 * a 62 10 + f 60 27 - nI 10).toNatClampNeg (v))))) _
  rw [ws_69, ex, nI_clamp (show 80 + 4 * k + 0 < 2 ^ 31 by omega)]
  refine am_wp_ok (inl := []) 8 0 118 [36] _ _ _ _ _ ?_
  show am_T ro 0 118 36 [.ref 60, .int v] [] ((wd c (u2 a 69 (upd (a 69) (80 + 4 * k + 0) v)) l f).set 60 (.inr (10, [.ref 61, .int (f 60 1), .int (f 60 2), .int (f 60 3), .ref 62, .ref 63, .ref 64, .ref 65, .ref 66, .ref 67, .ref 68, .ref 69, .ref 70, .ref 71, .ref 72, .ref 73, .ref 74, .ref 75, .int (f 60 18), .ref 76, .ref 77, .ref 78, .ref 79, .int (f 60 23), .ref 80, .ref 81, .int (f 60 26), .int (f 60 27), .int (f 60 28)].set 27 (.int (f 60 27 + 1))))) _
  rw [wf_60_27, show f 60 27 + 1 = nI 11 by rw [hw]; rfl]
  refine am_wp_ok (inl := []) 5 0 118 [81] _ _ _ _ _ ?_
  refine am_br_t (show ¬ nI 11 = nI 14 by decide) ?_
  show am_T ro 0 118 81 [.ref 60, .int v] [] (wd c (u2 a 69 (upd (a 69) (80 + 4 * k + 0) v)) l (u3 f 60 27 (nI 11))) _
  refine am_wp_ok (inl := []) 12 0 118 [] _ _ _ _ _ ?_
  cases g with
  | false =>
    refine am_br_t (hg.mpr rfl) ?_
    exact And.intro rfl (And.intro rfl rfl)
  | true =>
    refine am_br_f (fun z => by have := hg.mp z; cases this) ?_
    refine am_br_t (show ¬ nI 11 = nI 12 by decide) ?_
    exact And.intro rfl (And.intro rfl rfl)
set_option maxRecDepth 100000 in
set_option maxHeartbeats 4000000 in
theorem tm_11t {ro : Nat → Option am_C} {c : Bool} {a : Nat → Nat → Int32} {l : Nat → Int64} {f : Nat → Nat → Int32} {k : Nat} (hk : k < 20) (e : a 62 10 = nI k) (hw : f 60 27 = nI 11) {q : Nat} (hq : q < 10) : am_run ro 1 118 [.ref 60, .int (nI q)] (wd c a l f) (some (.int (nI 1))) (wd c (u2 a 69 (upd (a 69) (80 + 4 * k + 1) (nI q))) l (u3 f 60 27 (nI 12))) := by
  have ex : nI 80 + nI 4 * a 62 10 + f 60 27 - nI 10 = nI (80 + 4 * k + 1) := by
    rw [e, hw, nI_mul, nI_add, nI_add, nI_sub (by omega)]
    exact congrArg nI (by omega)
  refine am_run_of rfl ?_
  show am_T ro 0 118 0 [.ref 60, .int (nI q)] [] (wd c a l f) _
  refine am_wp_ok (inl := []) 17 0 118 [26] _ _ _ _ _ ?_
  refine And.intro (vp_in_nI (n := 10) (by decide) (by decide)) ?_
  refine And.intro (show vp_in (nI 80 + nI 4 * a 62 10 + f 60 27 - nI 10) 160 by rw [ex]; exact vp_in_nI (by omega) (by decide)) ?_
  show am_T ro 0 118 26 [.ref 60, .int (nI q)] [] ((wd c a l f).set 69 (.inl (.int, 160, .inl (upd (a 69) (nI 80 + nI 4 * a 62 10 + f 60 27 - nI 10).toNatClampNeg ((nI q)))))) _
  rw [ws_69, ex, nI_clamp (show 80 + 4 * k + 1 < 2 ^ 31 by omega)]
  refine am_wp_ok (inl := []) 8 0 118 [36] _ _ _ _ _ ?_
  show am_T ro 0 118 36 [.ref 60, .int (nI q)] [] ((wd c (u2 a 69 (upd (a 69) (80 + 4 * k + 1) (nI q))) l f).set 60 (.inr (10, [.ref 61, .int (f 60 1), .int (f 60 2), .int (f 60 3), .ref 62, .ref 63, .ref 64, .ref 65, .ref 66, .ref 67, .ref 68, .ref 69, .ref 70, .ref 71, .ref 72, .ref 73, .ref 74, .ref 75, .int (f 60 18), .ref 76, .ref 77, .ref 78, .ref 79, .int (f 60 23), .ref 80, .ref 81, .int (f 60 26), .int (f 60 27), .int (f 60 28)].set 27 (.int (f 60 27 + 1))))) _
  rw [wf_60_27, show f 60 27 + 1 = nI 12 by rw [hw]; rfl]
  refine am_wp_ok (inl := []) 5 0 118 [81] _ _ _ _ _ ?_
  refine am_br_t (show ¬ nI 12 = nI 14 by decide) ?_
  show am_T ro 0 118 81 [.ref 60, .int (nI q)] [] (wd c (u2 a 69 (upd (a 69) (80 + 4 * k + 1) (nI q))) l (u3 f 60 27 (nI 12))) _
  refine am_wp_ok (inl := []) 12 0 118 [] _ _ _ _ _ ?_
  refine am_br_f (nI_pos (by omega)) ?_
  refine am_br_f (show ¬ ¬ nI 12 = nI 12 from fun z => z rfl) ?_
  refine am_br_f (show ¬ nI 9 < nI q from nI_nlt (by omega) (by decide)) ?_
  exact And.intro rfl (And.intro rfl rfl)
set_option maxRecDepth 100000 in
set_option maxHeartbeats 4000000 in
theorem tm_11f {ro : Nat → Option am_C} {c : Bool} {a : Nat → Nat → Int32} {l : Nat → Int64} {f : Nat → Nat → Int32} {k : Nat} {v : Int32} (hk : k < 20) (e : a 62 10 = nI k) (hw : f 60 27 = nI 11) (hq : v < 0 ∨ nI 10 ≤ v) : am_run ro 1 118 [.ref 60, .int v] (wd c a l f) (some (.int (nI 0))) (wd c (u2 a 69 (upd (a 69) (80 + 4 * k + 1) v)) l (u3 f 60 27 (nI 12))) := by
  have ex : nI 80 + nI 4 * a 62 10 + f 60 27 - nI 10 = nI (80 + 4 * k + 1) := by
    rw [e, hw, nI_mul, nI_add, nI_add, nI_sub (by omega)]
    exact congrArg nI (by omega)
  refine am_run_of rfl ?_
  show am_T ro 0 118 0 [.ref 60, .int v] [] (wd c a l f) _
  refine am_wp_ok (inl := []) 17 0 118 [26] _ _ _ _ _ ?_
  refine And.intro (vp_in_nI (n := 10) (by decide) (by decide)) ?_
  refine And.intro (show vp_in (nI 80 + nI 4 * a 62 10 + f 60 27 - nI 10) 160 by rw [ex]; exact vp_in_nI (by omega) (by decide)) ?_
  show am_T ro 0 118 26 [.ref 60, .int v] [] ((wd c a l f).set 69 (.inl (.int, 160, .inl (upd (a 69) (nI 80 + nI 4 * a 62 10 + f 60 27 - nI 10).toNatClampNeg (v))))) _
  rw [ws_69, ex, nI_clamp (show 80 + 4 * k + 1 < 2 ^ 31 by omega)]
  refine am_wp_ok (inl := []) 8 0 118 [36] _ _ _ _ _ ?_
  show am_T ro 0 118 36 [.ref 60, .int v] [] ((wd c (u2 a 69 (upd (a 69) (80 + 4 * k + 1) v)) l f).set 60 (.inr (10, [.ref 61, .int (f 60 1), .int (f 60 2), .int (f 60 3), .ref 62, .ref 63, .ref 64, .ref 65, .ref 66, .ref 67, .ref 68, .ref 69, .ref 70, .ref 71, .ref 72, .ref 73, .ref 74, .ref 75, .int (f 60 18), .ref 76, .ref 77, .ref 78, .ref 79, .int (f 60 23), .ref 80, .ref 81, .int (f 60 26), .int (f 60 27), .int (f 60 28)].set 27 (.int (f 60 27 + 1))))) _
  rw [wf_60_27, show f 60 27 + 1 = nI 12 by rw [hw]; rfl]
  refine am_wp_ok (inl := []) 5 0 118 [81] _ _ _ _ _ ?_
  refine am_br_t (show ¬ nI 12 = nI 14 by decide) ?_
  show am_T ro 0 118 81 [.ref 60, .int v] [] (wd c (u2 a 69 (upd (a 69) (80 + 4 * k + 1) v)) l (u3 f 60 27 (nI 12))) _
  refine am_wp_ok (inl := []) 12 0 118 [] _ _ _ _ _ ?_
  by_cases h0 : v < 0
  · refine am_br_t h0 ?_
    exact And.intro rfl (And.intro rfl rfl)
  · refine am_br_f h0 ?_
    refine am_br_f (show ¬ ¬ nI 12 = nI 12 from fun z => z rfl) ?_
    refine am_br_t (show nI 9 < v from Int32.lt_of_lt_of_le (by decide) (hq.resolve_left h0)) ?_
    exact And.intro rfl (And.intro rfl rfl)
set_option maxRecDepth 100000 in
set_option maxHeartbeats 4000000 in
theorem tm_12 {ro : Nat → Option am_C} {c : Bool} {a : Nat → Nat → Int32} {l : Nat → Int64} {f : Nat → Nat → Int32} {k : Nat} {v : Int32} (hk : k < 20) (e : a 62 10 = nI k) (hw : f 60 27 = nI 12) {g : Bool} (hg : v < 0 ↔ g = false) : am_run ro 1 118 [.ref 60, .int v] (wd c a l f) (some (.int (nI g.toNat))) (wd c (u2 a 69 (upd (a 69) (80 + 4 * k + 2) v)) l (u3 f 60 27 (nI 13))) := by
  have ex : nI 80 + nI 4 * a 62 10 + f 60 27 - nI 10 = nI (80 + 4 * k + 2) := by
    rw [e, hw, nI_mul, nI_add, nI_add, nI_sub (by omega)]
    exact congrArg nI (by omega)
  refine am_run_of rfl ?_
  show am_T ro 0 118 0 [.ref 60, .int v] [] (wd c a l f) _
  refine am_wp_ok (inl := []) 17 0 118 [26] _ _ _ _ _ ?_
  refine And.intro (vp_in_nI (n := 10) (by decide) (by decide)) ?_
  refine And.intro (show vp_in (nI 80 + nI 4 * a 62 10 + f 60 27 - nI 10) 160 by rw [ex]; exact vp_in_nI (by omega) (by decide)) ?_
  show am_T ro 0 118 26 [.ref 60, .int v] [] ((wd c a l f).set 69 (.inl (.int, 160, .inl (upd (a 69) (nI 80 + nI 4 * a 62 10 + f 60 27 - nI 10).toNatClampNeg (v))))) _
  rw [ws_69, ex, nI_clamp (show 80 + 4 * k + 2 < 2 ^ 31 by omega)]
  refine am_wp_ok (inl := []) 8 0 118 [36] _ _ _ _ _ ?_
  show am_T ro 0 118 36 [.ref 60, .int v] [] ((wd c (u2 a 69 (upd (a 69) (80 + 4 * k + 2) v)) l f).set 60 (.inr (10, [.ref 61, .int (f 60 1), .int (f 60 2), .int (f 60 3), .ref 62, .ref 63, .ref 64, .ref 65, .ref 66, .ref 67, .ref 68, .ref 69, .ref 70, .ref 71, .ref 72, .ref 73, .ref 74, .ref 75, .int (f 60 18), .ref 76, .ref 77, .ref 78, .ref 79, .int (f 60 23), .ref 80, .ref 81, .int (f 60 26), .int (f 60 27), .int (f 60 28)].set 27 (.int (f 60 27 + 1))))) _
  rw [wf_60_27, show f 60 27 + 1 = nI 13 by rw [hw]; rfl]
  refine am_wp_ok (inl := []) 5 0 118 [81] _ _ _ _ _ ?_
  refine am_br_t (show ¬ nI 13 = nI 14 by decide) ?_
  show am_T ro 0 118 81 [.ref 60, .int v] [] (wd c (u2 a 69 (upd (a 69) (80 + 4 * k + 2) v)) l (u3 f 60 27 (nI 13))) _
  refine am_wp_ok (inl := []) 12 0 118 [] _ _ _ _ _ ?_
  cases g with
  | false =>
    refine am_br_t (hg.mpr rfl) ?_
    exact And.intro rfl (And.intro rfl rfl)
  | true =>
    refine am_br_f (fun z => by have := hg.mp z; cases this) ?_
    refine am_br_t (show ¬ nI 13 = nI 12 by decide) ?_
    exact And.intro rfl (And.intro rfl rfl)
set_option maxRecDepth 100000 in
set_option maxHeartbeats 4000000 in
theorem tm_13 {ro : Nat → Option am_C} {c : Bool} {a : Nat → Nat → Int32} {l : Nat → Int64} {f : Nat → Nat → Int32} {k : Nat} {v : Int32} (hk : k < 20) (e : a 62 10 = nI k) (hw : f 60 27 = nI 13) {g : Bool} (hg : v < 0 ↔ g = false) : am_run ro 1 118 [.ref 60, .int v] (wd c a l f) (some (.int (nI g.toNat))) (wd c (u2 (u2 a 69 (upd (a 69) (80 + 4 * k + 3) v)) 62 (upd (a 62) 10 (nI (k + 1)))) l (u3 (u3 (u3 f 60 27 (nI 14)) 60 26 (f 60 26 + 1)) 60 27 (0))) := by
  have ex : nI 80 + nI 4 * a 62 10 + f 60 27 - nI 10 = nI (80 + 4 * k + 3) := by
    rw [e, hw, nI_mul, nI_add, nI_add, nI_sub (by omega)]
    exact congrArg nI (by omega)
  refine am_run_of rfl ?_
  show am_T ro 0 118 0 [.ref 60, .int v] [] (wd c a l f) _
  refine am_wp_ok (inl := []) 17 0 118 [26] _ _ _ _ _ ?_
  refine And.intro (vp_in_nI (n := 10) (by decide) (by decide)) ?_
  refine And.intro (show vp_in (nI 80 + nI 4 * a 62 10 + f 60 27 - nI 10) 160 by rw [ex]; exact vp_in_nI (by omega) (by decide)) ?_
  show am_T ro 0 118 26 [.ref 60, .int v] [] ((wd c a l f).set 69 (.inl (.int, 160, .inl (upd (a 69) (nI 80 + nI 4 * a 62 10 + f 60 27 - nI 10).toNatClampNeg (v))))) _
  rw [ws_69, ex, nI_clamp (show 80 + 4 * k + 3 < 2 ^ 31 by omega)]
  refine am_wp_ok (inl := []) 8 0 118 [36] _ _ _ _ _ ?_
  show am_T ro 0 118 36 [.ref 60, .int v] [] ((wd c (u2 a 69 (upd (a 69) (80 + 4 * k + 3) v)) l f).set 60 (.inr (10, [.ref 61, .int (f 60 1), .int (f 60 2), .int (f 60 3), .ref 62, .ref 63, .ref 64, .ref 65, .ref 66, .ref 67, .ref 68, .ref 69, .ref 70, .ref 71, .ref 72, .ref 73, .ref 74, .ref 75, .int (f 60 18), .ref 76, .ref 77, .ref 78, .ref 79, .int (f 60 23), .ref 80, .ref 81, .int (f 60 26), .int (f 60 27), .int (f 60 28)].set 27 (.int (f 60 27 + 1))))) _
  rw [wf_60_27, show f 60 27 + 1 = nI 14 by rw [hw]; rfl]
  refine am_wp_ok (inl := []) 5 0 118 [45] _ _ _ _ _ ?_
  refine am_br_f (show ¬ ¬ nI 14 = nI 14 from fun z => z rfl) ?_
  show am_T ro 0 118 45 [.ref 60, .int v] [] (wd c (u2 a 69 (upd (a 69) (80 + 4 * k + 3) v)) l (u3 f 60 27 (nI 14))) _
  refine am_wp_ok (inl := []) 9 0 118 [56] _ _ _ _ _ ?_
  refine And.intro (vp_in_nI (n := 10) (by decide) (by decide)) (And.intro (vp_in_nI (n := 10) (by decide) (by decide)) ?_)
  show am_T ro 0 118 56 [.ref 60, .int v] [] ((wd c (u2 a 69 (upd (a 69) (80 + 4 * k + 3) v)) l (u3 f 60 27 (nI 14))).set 62 (.inl (.int, 12, .inl (upd (a 62) 10 (a 62 10 + 1))))) _
  rw [ws_62, e, nI_1]
  refine am_wp_ok (inl := []) 8 0 118 [66] _ _ _ _ _ ?_
  show am_T ro 0 118 66 [.ref 60, .int v] [] ((wd c (u2 (u2 a 69 (upd (a 69) (80 + 4 * k + 3) v)) 62 (upd (a 62) 10 (nI (k + 1)))) l (u3 f 60 27 (nI 14))).set 60 (.inr (10, [.ref 61, .int ((u3 f 60 27 (nI 14)) 60 1), .int ((u3 f 60 27 (nI 14)) 60 2), .int ((u3 f 60 27 (nI 14)) 60 3), .ref 62, .ref 63, .ref 64, .ref 65, .ref 66, .ref 67, .ref 68, .ref 69, .ref 70, .ref 71, .ref 72, .ref 73, .ref 74, .ref 75, .int ((u3 f 60 27 (nI 14)) 60 18), .ref 76, .ref 77, .ref 78, .ref 79, .int ((u3 f 60 27 (nI 14)) 60 23), .ref 80, .ref 81, .int ((u3 f 60 27 (nI 14)) 60 26), .int ((u3 f 60 27 (nI 14)) 60 27), .int ((u3 f 60 27 (nI 14)) 60 28)].set 26 (.int (f 60 26 + 1))))) _
  rw [wf_60_26]
  refine am_wp_ok (inl := []) 4 0 118 [71] _ _ _ _ _ ?_
  show am_T ro 0 118 71 [.ref 60, .int v] [] ((wd c (u2 (u2 a 69 (upd (a 69) (80 + 4 * k + 3) v)) 62 (upd (a 62) 10 (nI (k + 1)))) l (u3 (u3 f 60 27 (nI 14)) 60 26 (f 60 26 + 1))).set 60 (.inr (10, [.ref 61, .int ((u3 (u3 f 60 27 (nI 14)) 60 26 (f 60 26 + 1)) 60 1), .int ((u3 (u3 f 60 27 (nI 14)) 60 26 (f 60 26 + 1)) 60 2), .int ((u3 (u3 f 60 27 (nI 14)) 60 26 (f 60 26 + 1)) 60 3), .ref 62, .ref 63, .ref 64, .ref 65, .ref 66, .ref 67, .ref 68, .ref 69, .ref 70, .ref 71, .ref 72, .ref 73, .ref 74, .ref 75, .int ((u3 (u3 f 60 27 (nI 14)) 60 26 (f 60 26 + 1)) 60 18), .ref 76, .ref 77, .ref 78, .ref 79, .int ((u3 (u3 f 60 27 (nI 14)) 60 26 (f 60 26 + 1)) 60 23), .ref 80, .ref 81, .int ((u3 (u3 f 60 27 (nI 14)) 60 26 (f 60 26 + 1)) 60 26), .int ((u3 (u3 f 60 27 (nI 14)) 60 26 (f 60 26 + 1)) 60 27), .int ((u3 (u3 f 60 27 (nI 14)) 60 26 (f 60 26 + 1)) 60 28)].set 27 (.int (0))))) _
  rw [wf_60_27]
  refine am_wp_ok (inl := []) 6 0 118 [] _ _ _ _ _ ?_
  cases g with
  | false =>
    refine am_br_t (hg.mpr rfl) ?_
    exact And.intro rfl (And.intro rfl rfl)
  | true =>
    refine am_br_f (fun z => by have := hg.mp z; cases this) ?_
    exact And.intro rfl (And.intro rfl rfl)
set_option maxRecDepth 100000 in
set_option maxHeartbeats 4000000 in
theorem to_m {ro : Nat → Option am_C} {c : Bool} {a : Nat → Nat → Int32} {l : Nat → Int64} {f : Nat → Nat → Int32} {k : Nat} {v : Int32} {r : Bool} {hp : am_H} (h1 : 10 ≤ k) (h2 : k ≤ 13) (hw : f 60 27 = nI k) (h : am_run ro 1 118 [.ref 60, .int v] (wd c a l f) (some (.int (nI r.toNat))) hp) : am_run ro 2 114 [.ref 60, .int v] (wd c a l f) (some (.int (nI r.toNat))) hp := by
  refine am_run_of rfl (to_st (k := k) hw ?_)
  have ets : am_ts 4 (nI k) 319 7 15 #[52, 104, 133, 319, 319, 319, 319, 222, 254] = 323 := by
    have hk : k = 10 ∨ k = 11 ∨ k = 12 ∨ k = 13 := by omega
    rcases hk with rfl | rfl | rfl | rfl <;> decide +kernel
  rw [ets]
  refine am_wp_ok (inl := []) 4 1 114 [328] _ _ _ _ _ ?_
  refine ⟨_, _, h, ?_⟩
  refine am_wp_ok (inl := []) 2 1 114 [] _ _ _ _ _ ?_
  exact And.intro (nI_bo r) (And.intro rfl rfl)
