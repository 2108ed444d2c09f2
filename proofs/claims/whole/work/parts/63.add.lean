/-! what the class adds to its draft -/
set_option maxRecDepth 100000 in
set_option maxHeartbeats 4000000 in
theorem fu_70_16 {ro : Nat → Option am_C} {c : Bool} {a : Nat → Nat → Int32} {l : Nat → Int64} {f : Nat → Nat → Int32} {k : Nat} (hk : k < 2 ^ 31) (e : f 17 6 = nI k) : am_run ro 1 70 [.ref 17] (wd c a l f) (some (.int (nI (decide (30 ≤ k)).toNat))) (wd c a l f) := by
  refine am_run_of rfl (am_wp_ok (inl := []) 10 0 70 [] 0 _ _ _ _ ?_)
  by_cases h : k < 30
  · refine am_br_t (show f 17 6 < nI 30 by rw [e]; exact nI_lt h (by decide)) ?_
    rw [decide_eq_false (show ¬ 30 ≤ k by omega)]
    exact And.intro rfl (And.intro rfl rfl)
  · refine am_br_f (show ¬ f 17 6 < nI 30 by rw [e]; exact nI_nlt (by omega) hk) ?_
    rw [decide_eq_true (show 30 ≤ k by omega)]
    exact And.intro rfl (And.intro rfl rfl)
set_option maxRecDepth 100000 in
set_option maxHeartbeats 4000000 in
theorem fu_70_38 {ro : Nat → Option am_C} {c : Bool} {a : Nat → Nat → Int32} {l : Nat → Int64} {f : Nat → Nat → Int32} {k : Nat} (hk : k < 2 ^ 31) (e : f 39 6 = nI k) : am_run ro 1 70 [.ref 39] (wd c a l f) (some (.int (nI (decide (30 ≤ k)).toNat))) (wd c a l f) := by
  refine am_run_of rfl (am_wp_ok (inl := []) 10 0 70 [] 0 _ _ _ _ ?_)
  by_cases h : k < 30
  · refine am_br_t (show f 39 6 < nI 30 by rw [e]; exact nI_lt h (by decide)) ?_
    rw [decide_eq_false (show ¬ 30 ≤ k by omega)]
    exact And.intro rfl (And.intro rfl rfl)
  · refine am_br_f (show ¬ f 39 6 < nI 30 by rw [e]; exact nI_nlt (by omega) hk) ?_
    rw [decide_eq_true (show 30 ≤ k by omega)]
    exact And.intro rfl (And.intro rfl rfl)
theorem fu_70 (b : Bool) {ro : Nat → Option am_C} {c : Bool} {a : Nat → Nat → Int32} {l : Nat → Int64} {f : Nat → Nat → Int32} {k : Nat} (hk : k < 2 ^ 31) (e : f (ob b + 1) 6 = nI k) : am_run ro 1 70 [.ref (ob b + 1)] (wd c a l f) (some (.int (nI (decide (30 ≤ k)).toNat))) (wd c a l f) := by
  cases b
  · exact fu_70_16 hk e
  · exact fu_70_38 hk e
set_option maxRecDepth 100000 in
set_option maxHeartbeats 4000000 in
theorem fu_72_16 {ro : Nat → Option am_C} {c : Bool} {a : Nat → Nat → Int32} {l : Nat → Int64} {f : Nat → Nat → Int32} {k : Nat} (hk : k < 2 ^ 31) (e : f 17 7 = nI k) : am_run ro 1 72 [.ref 17] (wd c a l f) (some (.int (nI (decide (60 ≤ k)).toNat))) (wd c a l f) := by
  refine am_run_of rfl (am_wp_ok (inl := []) 10 0 72 [] 0 _ _ _ _ ?_)
  by_cases h : k < 60
  · refine am_br_t (show f 17 7 < nI 60 by rw [e]; exact nI_lt h (by decide)) ?_
    rw [decide_eq_false (show ¬ 60 ≤ k by omega)]
    exact And.intro rfl (And.intro rfl rfl)
  · refine am_br_f (show ¬ f 17 7 < nI 60 by rw [e]; exact nI_nlt (by omega) hk) ?_
    rw [decide_eq_true (show 60 ≤ k by omega)]
    exact And.intro rfl (And.intro rfl rfl)
set_option maxRecDepth 100000 in
set_option maxHeartbeats 4000000 in
theorem fu_72_38 {ro : Nat → Option am_C} {c : Bool} {a : Nat → Nat → Int32} {l : Nat → Int64} {f : Nat → Nat → Int32} {k : Nat} (hk : k < 2 ^ 31) (e : f 39 7 = nI k) : am_run ro 1 72 [.ref 39] (wd c a l f) (some (.int (nI (decide (60 ≤ k)).toNat))) (wd c a l f) := by
  refine am_run_of rfl (am_wp_ok (inl := []) 10 0 72 [] 0 _ _ _ _ ?_)
  by_cases h : k < 60
  · refine am_br_t (show f 39 7 < nI 60 by rw [e]; exact nI_lt h (by decide)) ?_
    rw [decide_eq_false (show ¬ 60 ≤ k by omega)]
    exact And.intro rfl (And.intro rfl rfl)
  · refine am_br_f (show ¬ f 39 7 < nI 60 by rw [e]; exact nI_nlt (by omega) hk) ?_
    rw [decide_eq_true (show 60 ≤ k by omega)]
    exact And.intro rfl (And.intro rfl rfl)
theorem fu_72 (b : Bool) {ro : Nat → Option am_C} {c : Bool} {a : Nat → Nat → Int32} {l : Nat → Int64} {f : Nat → Nat → Int32} {k : Nat} (hk : k < 2 ^ 31) (e : f (ob b + 1) 7 = nI k) : am_run ro 1 72 [.ref (ob b + 1)] (wd c a l f) (some (.int (nI (decide (60 ≤ k)).toNat))) (wd c a l f) := by
  cases b
  · exact fu_72_16 hk e
  · exact fu_72_38 hk e
set_option maxRecDepth 100000 in
set_option maxHeartbeats 4000000 in
theorem fu_81_16 {ro : Nat → Option am_C} {c : Bool} {a : Nat → Nat → Int32} {l : Nat → Int64} {f : Nat → Nat → Int32} {k : Nat} (hk : k < 2 ^ 31) (e : f 24 7 = nI k) : am_run ro 1 81 [.ref 24] (wd c a l f) (some (.int (nI (decide (16 ≤ k)).toNat))) (wd c a l f) := by
  refine am_run_of rfl (am_wp_ok (inl := []) 10 0 81 [] 0 _ _ _ _ ?_)
  by_cases h : k < 16
  · refine am_br_t (show f 24 7 < nI 16 by rw [e]; exact nI_lt h (by decide)) ?_
    rw [decide_eq_false (show ¬ 16 ≤ k by omega)]
    exact And.intro rfl (And.intro rfl rfl)
  · refine am_br_f (show ¬ f 24 7 < nI 16 by rw [e]; exact nI_nlt (by omega) hk) ?_
    rw [decide_eq_true (show 16 ≤ k by omega)]
    exact And.intro rfl (And.intro rfl rfl)
set_option maxRecDepth 100000 in
set_option maxHeartbeats 4000000 in
theorem fu_81_38 {ro : Nat → Option am_C} {c : Bool} {a : Nat → Nat → Int32} {l : Nat → Int64} {f : Nat → Nat → Int32} {k : Nat} (hk : k < 2 ^ 31) (e : f 46 7 = nI k) : am_run ro 1 81 [.ref 46] (wd c a l f) (some (.int (nI (decide (16 ≤ k)).toNat))) (wd c a l f) := by
  refine am_run_of rfl (am_wp_ok (inl := []) 10 0 81 [] 0 _ _ _ _ ?_)
  by_cases h : k < 16
  · refine am_br_t (show f 46 7 < nI 16 by rw [e]; exact nI_lt h (by decide)) ?_
    rw [decide_eq_false (show ¬ 16 ≤ k by omega)]
    exact And.intro rfl (And.intro rfl rfl)
  · refine am_br_f (show ¬ f 46 7 < nI 16 by rw [e]; exact nI_nlt (by omega) hk) ?_
    rw [decide_eq_true (show 16 ≤ k by omega)]
    exact And.intro rfl (And.intro rfl rfl)
theorem fu_81 (b : Bool) {ro : Nat → Option am_C} {c : Bool} {a : Nat → Nat → Int32} {l : Nat → Int64} {f : Nat → Nat → Int32} {k : Nat} (hk : k < 2 ^ 31) (e : f (ob b + 8) 7 = nI k) : am_run ro 1 81 [.ref (ob b + 8)] (wd c a l f) (some (.int (nI (decide (16 ≤ k)).toNat))) (wd c a l f) := by
  cases b
  · exact fu_81_16 hk e
  · exact fu_81_38 hk e
set_option maxRecDepth 100000 in
set_option maxHeartbeats 4000000 in
theorem fu_83_16 {ro : Nat → Option am_C} {c : Bool} {a : Nat → Nat → Int32} {l : Nat → Int64} {f : Nat → Nat → Int32} {k : Nat} (hk : k < 2 ^ 31) (e : f 24 8 = nI k) : am_run ro 1 83 [.ref 24] (wd c a l f) (some (.int (nI (decide (16 ≤ k)).toNat))) (wd c a l f) := by
  refine am_run_of rfl (am_wp_ok (inl := []) 10 0 83 [] 0 _ _ _ _ ?_)
  by_cases h : k < 16
  · refine am_br_t (show f 24 8 < nI 16 by rw [e]; exact nI_lt h (by decide)) ?_
    rw [decide_eq_false (show ¬ 16 ≤ k by omega)]
    exact And.intro rfl (And.intro rfl rfl)
  · refine am_br_f (show ¬ f 24 8 < nI 16 by rw [e]; exact nI_nlt (by omega) hk) ?_
    rw [decide_eq_true (show 16 ≤ k by omega)]
    exact And.intro rfl (And.intro rfl rfl)
set_option maxRecDepth 100000 in
set_option maxHeartbeats 4000000 in
theorem fu_83_38 {ro : Nat → Option am_C} {c : Bool} {a : Nat → Nat → Int32} {l : Nat → Int64} {f : Nat → Nat → Int32} {k : Nat} (hk : k < 2 ^ 31) (e : f 46 8 = nI k) : am_run ro 1 83 [.ref 46] (wd c a l f) (some (.int (nI (decide (16 ≤ k)).toNat))) (wd c a l f) := by
  refine am_run_of rfl (am_wp_ok (inl := []) 10 0 83 [] 0 _ _ _ _ ?_)
  by_cases h : k < 16
  · refine am_br_t (show f 46 8 < nI 16 by rw [e]; exact nI_lt h (by decide)) ?_
    rw [decide_eq_false (show ¬ 16 ≤ k by omega)]
    exact And.intro rfl (And.intro rfl rfl)
  · refine am_br_f (show ¬ f 46 8 < nI 16 by rw [e]; exact nI_nlt (by omega) hk) ?_
    rw [decide_eq_true (show 16 ≤ k by omega)]
    exact And.intro rfl (And.intro rfl rfl)
theorem fu_83 (b : Bool) {ro : Nat → Option am_C} {c : Bool} {a : Nat → Nat → Int32} {l : Nat → Int64} {f : Nat → Nat → Int32} {k : Nat} (hk : k < 2 ^ 31) (e : f (ob b + 8) 8 = nI k) : am_run ro 1 83 [.ref (ob b + 8)] (wd c a l f) (some (.int (nI (decide (16 ≤ k)).toNat))) (wd c a l f) := by
  cases b
  · exact fu_83_16 hk e
  · exact fu_83_38 hk e
set_option maxRecDepth 100000 in
set_option maxHeartbeats 4000000 in
theorem fu_87_16 {ro : Nat → Option am_C} {c : Bool} {a : Nat → Nat → Int32} {l : Nat → Int64} {f : Nat → Nat → Int32} {k : Nat} (hk : k < 2 ^ 31) (e : f 24 9 = nI k) : am_run ro 1 87 [.ref 24] (wd c a l f) (some (.int (nI (decide (20 ≤ k)).toNat))) (wd c a l f) := by
  refine am_run_of rfl (am_wp_ok (inl := []) 10 0 87 [] 0 _ _ _ _ ?_)
  by_cases h : k < 20
  · refine am_br_t (show f 24 9 < nI 20 by rw [e]; exact nI_lt h (by decide)) ?_
    rw [decide_eq_false (show ¬ 20 ≤ k by omega)]
    exact And.intro rfl (And.intro rfl rfl)
  · refine am_br_f (show ¬ f 24 9 < nI 20 by rw [e]; exact nI_nlt (by omega) hk) ?_
    rw [decide_eq_true (show 20 ≤ k by omega)]
    exact And.intro rfl (And.intro rfl rfl)
set_option maxRecDepth 100000 in
set_option maxHeartbeats 4000000 in
theorem fu_87_38 {ro : Nat → Option am_C} {c : Bool} {a : Nat → Nat → Int32} {l : Nat → Int64} {f : Nat → Nat → Int32} {k : Nat} (hk : k < 2 ^ 31) (e : f 46 9 = nI k) : am_run ro 1 87 [.ref 46] (wd c a l f) (some (.int (nI (decide (20 ≤ k)).toNat))) (wd c a l f) := by
  refine am_run_of rfl (am_wp_ok (inl := []) 10 0 87 [] 0 _ _ _ _ ?_)
  by_cases h : k < 20
  · refine am_br_t (show f 46 9 < nI 20 by rw [e]; exact nI_lt h (by decide)) ?_
    rw [decide_eq_false (show ¬ 20 ≤ k by omega)]
    exact And.intro rfl (And.intro rfl rfl)
  · refine am_br_f (show ¬ f 46 9 < nI 20 by rw [e]; exact nI_nlt (by omega) hk) ?_
    rw [decide_eq_true (show 20 ≤ k by omega)]
    exact And.intro rfl (And.intro rfl rfl)
theorem fu_87 (b : Bool) {ro : Nat → Option am_C} {c : Bool} {a : Nat → Nat → Int32} {l : Nat → Int64} {f : Nat → Nat → Int32} {k : Nat} (hk : k < 2 ^ 31) (e : f (ob b + 8) 9 = nI k) : am_run ro 1 87 [.ref (ob b + 8)] (wd c a l f) (some (.int (nI (decide (20 ≤ k)).toNat))) (wd c a l f) := by
  cases b
  · exact fu_87_16 hk e
  · exact fu_87_38 hk e
set_option maxRecDepth 100000 in
set_option maxHeartbeats 4000000 in
theorem fu_93_16 {ro : Nat → Option am_C} {c : Bool} {a : Nat → Nat → Int32} {l : Nat → Int64} {f : Nat → Nat → Int32} {k : Nat} (hk : k < 2 ^ 31) (e : f 32 5 = nI k) : am_run ro 1 93 [.ref 32] (wd c a l f) (some (.int (nI (decide (20 ≤ k)).toNat))) (wd c a l f) := by
  refine am_run_of rfl (am_wp_ok (inl := []) 10 0 93 [] 0 _ _ _ _ ?_)
  by_cases h : k < 20
  · refine am_br_t (show f 32 5 < nI 20 by rw [e]; exact nI_lt h (by decide)) ?_
    rw [decide_eq_false (show ¬ 20 ≤ k by omega)]
    exact And.intro rfl (And.intro rfl rfl)
  · refine am_br_f (show ¬ f 32 5 < nI 20 by rw [e]; exact nI_nlt (by omega) hk) ?_
    rw [decide_eq_true (show 20 ≤ k by omega)]
    exact And.intro rfl (And.intro rfl rfl)
set_option maxRecDepth 100000 in
set_option maxHeartbeats 4000000 in
theorem fu_93_38 {ro : Nat → Option am_C} {c : Bool} {a : Nat → Nat → Int32} {l : Nat → Int64} {f : Nat → Nat → Int32} {k : Nat} (hk : k < 2 ^ 31) (e : f 54 5 = nI k) : am_run ro 1 93 [.ref 54] (wd c a l f) (some (.int (nI (decide (20 ≤ k)).toNat))) (wd c a l f) := by
  refine am_run_of rfl (am_wp_ok (inl := []) 10 0 93 [] 0 _ _ _ _ ?_)
  by_cases h : k < 20
  · refine am_br_t (show f 54 5 < nI 20 by rw [e]; exact nI_lt h (by decide)) ?_
    rw [decide_eq_false (show ¬ 20 ≤ k by omega)]
    exact And.intro rfl (And.intro rfl rfl)
  · refine am_br_f (show ¬ f 54 5 < nI 20 by rw [e]; exact nI_nlt (by omega) hk) ?_
    rw [decide_eq_true (show 20 ≤ k by omega)]
    exact And.intro rfl (And.intro rfl rfl)
theorem fu_93 (b : Bool) {ro : Nat → Option am_C} {c : Bool} {a : Nat → Nat → Int32} {l : Nat → Int64} {f : Nat → Nat → Int32} {k : Nat} (hk : k < 2 ^ 31) (e : f (ob b + 16) 5 = nI k) : am_run ro 1 93 [.ref (ob b + 16)] (wd c a l f) (some (.int (nI (decide (20 ≤ k)).toNat))) (wd c a l f) := by
  cases b
  · exact fu_93_16 hk e
  · exact fu_93_38 hk e
set_option maxRecDepth 100000 in
set_option maxHeartbeats 4000000 in
theorem ad_gen_16 {ro : Nat → Option am_C} {c : Bool} {a : Nat → Nat → Int32} {l : Nat → Int64} {f : Nat → Nat → Int32} {x : Int32} {k : Nat} (h : k < 16) (e : f 24 7 = nI k) : am_run ro 2 82 [.ref 24, .int x] (wd c a l f) none (wd c (u2 a 25 (upd (a 25) k x)) l (u3 f 24 7 (nI (k + 1)))) := by
  refine am_run_of rfl (am_wp_ok (inl := []) 3 1 82 [4] 0 _ _ _ _ ?_)
  refine ⟨_, _, fu_81_16 (by omega) e, ?_⟩
  show am_T ro 1 82 4 [.ref 24, .int x] [.int (nI (decide (16 ≤ k)).toNat)] (wd c a l f) _
  rw [decide_eq_false (show ¬ 16 ≤ k by omega)]
  refine am_wp_ok (inl := []) 2 1 82 [8] _ _ _ _ _ ?_
  refine am_br_t (show nI 0 = 0 from rfl) ?_
  show am_T ro 1 82 8 [.ref 24, .int x] [] (wd c a l f) _
  refine am_wp_ok (inl := []) 7 1 82 [18] _ _ _ _ _ ?_
  refine And.intro (show vp_in (f 24 7) 16 by rw [e]; exact vp_in_nI (by omega) (by decide)) ?_
  show am_T ro 1 82 18 [.ref 24, .int x] [] ((wd c a l f).set 25 (.inl (.int, 16, .inl (upd (a 25) (f 24 7).toNatClampNeg x)))) _
  rw [ws_25, e, nI_clamp (show k < 2 ^ 31 by omega)]
  refine am_wp_ok (inl := []) 7 1 82 [28] _ _ _ _ _ ?_
  show am_T ro 1 82 28 [.ref 24, .int x] [] ((wd c (u2 a 25 (upd (a 25) k x)) l f).set 24 (.inr (8, [.ref 25, .ref 26, .ref 27, .ref 28, .ref 29, .ref 30, .ref 31, .int (f 24 7), .int (f 24 8), .int (f 24 9)].set 7 (.int (f 24 7 + 1))))) _
  rw [wf_24_7, e, nI_1]
  refine am_wp_ok (inl := []) 2 1 82 [] _ _ _ _ _ ?_
  exact And.intro rfl rfl
set_option maxRecDepth 100000 in
set_option maxHeartbeats 4000000 in
theorem ad_gen_38 {ro : Nat → Option am_C} {c : Bool} {a : Nat → Nat → Int32} {l : Nat → Int64} {f : Nat → Nat → Int32} {x : Int32} {k : Nat} (h : k < 16) (e : f 46 7 = nI k) : am_run ro 2 82 [.ref 46, .int x] (wd c a l f) none (wd c (u2 a 47 (upd (a 47) k x)) l (u3 f 46 7 (nI (k + 1)))) := by
  refine am_run_of rfl (am_wp_ok (inl := []) 3 1 82 [4] 0 _ _ _ _ ?_)
  refine ⟨_, _, fu_81_38 (by omega) e, ?_⟩
  show am_T ro 1 82 4 [.ref 46, .int x] [.int (nI (decide (16 ≤ k)).toNat)] (wd c a l f) _
  rw [decide_eq_false (show ¬ 16 ≤ k by omega)]
  refine am_wp_ok (inl := []) 2 1 82 [8] _ _ _ _ _ ?_
  refine am_br_t (show nI 0 = 0 from rfl) ?_
  show am_T ro 1 82 8 [.ref 46, .int x] [] (wd c a l f) _
  refine am_wp_ok (inl := []) 7 1 82 [18] _ _ _ _ _ ?_
  refine And.intro (show vp_in (f 46 7) 16 by rw [e]; exact vp_in_nI (by omega) (by decide)) ?_
  show am_T ro 1 82 18 [.ref 46, .int x] [] ((wd c a l f).set 47 (.inl (.int, 16, .inl (upd (a 47) (f 46 7).toNatClampNeg x)))) _
  rw [ws_47, e, nI_clamp (show k < 2 ^ 31 by omega)]
  refine am_wp_ok (inl := []) 7 1 82 [28] _ _ _ _ _ ?_
  show am_T ro 1 82 28 [.ref 46, .int x] [] ((wd c (u2 a 47 (upd (a 47) k x)) l f).set 46 (.inr (8, [.ref 47, .ref 48, .ref 49, .ref 50, .ref 51, .ref 52, .ref 53, .int (f 46 7), .int (f 46 8), .int (f 46 9)].set 7 (.int (f 46 7 + 1))))) _
  rw [wf_46_7, e, nI_1]
  refine am_wp_ok (inl := []) 2 1 82 [] _ _ _ _ _ ?_
  exact And.intro rfl rfl
theorem ad_gen (b : Bool) {ro : Nat → Option am_C} {c : Bool} {a : Nat → Nat → Int32} {l : Nat → Int64} {f : Nat → Nat → Int32} {x : Int32} {k : Nat} (h : k < 16) (e : f (ob b + 8) 7 = nI k) : am_run ro 2 82 [.ref (ob b + 8), .int x] (wd c a l f) none (wd c (u2 a (ob b + 9) (upd (a (ob b + 9)) k x)) l (u3 f (ob b + 8) 7 (nI (k + 1)))) := by
  cases b
  · exact ad_gen_16 h e
  · exact ad_gen_38 h e
set_option maxRecDepth 100000 in
set_option maxHeartbeats 4000000 in
theorem ad_mir_16 {ro : Nat → Option am_C} {c : Bool} {a : Nat → Nat → Int32} {l : Nat → Int64} {f : Nat → Nat → Int32} {x y : Int32} {k : Nat} (h : k < 16) (e : f 24 8 = nI k) : am_run ro 2 86 [.ref 24, .int x, .int y] (wd c a l f) none (wd c (u2 (u2 a 26 (upd (a 26) k x)) 27 (upd (a 27) k y)) l (u3 f 24 8 (nI (k + 1)))) := by
  refine am_run_of rfl (am_wp_ok (inl := []) 3 1 86 [4] 0 _ _ _ _ ?_)
  refine ⟨_, _, fu_83_16 (by omega) e, ?_⟩
  show am_T ro 1 86 4 [.ref 24, .int x, .int y] [.int (nI (decide (16 ≤ k)).toNat)] (wd c a l f) _
  rw [decide_eq_false (show ¬ 16 ≤ k by omega)]
  refine am_wp_ok (inl := []) 2 1 86 [8] _ _ _ _ _ ?_
  refine am_br_t (show nI 0 = 0 from rfl) ?_
  show am_T ro 1 86 8 [.ref 24, .int x, .int y] [] (wd c a l f) _
  refine am_wp_ok (inl := []) 7 1 86 [18] _ _ _ _ _ ?_
  refine And.intro (show vp_in (f 24 8) 16 by rw [e]; exact vp_in_nI (by omega) (by decide)) ?_
  show am_T ro 1 86 18 [.ref 24, .int x, .int y] [] ((wd c a l f).set 26 (.inl (.int, 16, .inl (upd (a 26) (f 24 8).toNatClampNeg x)))) _
  rw [ws_26, e, nI_clamp (show k < 2 ^ 31 by omega)]
  refine am_wp_ok (inl := []) 7 1 86 [28] _ _ _ _ _ ?_
  refine And.intro (show vp_in (f 24 8) 16 by rw [e]; exact vp_in_nI (by omega) (by decide)) ?_
  show am_T ro 1 86 28 [.ref 24, .int x, .int y] [] ((wd c (u2 a 26 (upd (a 26) k x)) l f).set 27 (.inl (.int, 16, .inl (upd (a 27) (f 24 8).toNatClampNeg y)))) _
  rw [ws_27, e, nI_clamp (show k < 2 ^ 31 by omega)]
  refine am_wp_ok (inl := []) 7 1 86 [38] _ _ _ _ _ ?_
  show am_T ro 1 86 38 [.ref 24, .int x, .int y] [] ((wd c (u2 (u2 a 26 (upd (a 26) k x)) 27 (upd (a 27) k y)) l f).set 24 (.inr (8, [.ref 25, .ref 26, .ref 27, .ref 28, .ref 29, .ref 30, .ref 31, .int (f 24 7), .int (f 24 8), .int (f 24 9)].set 8 (.int (f 24 8 + 1))))) _
  rw [wf_24_8, e, nI_1]
  refine am_wp_ok (inl := []) 2 1 86 [] _ _ _ _ _ ?_
  exact And.intro rfl rfl
set_option maxRecDepth 100000 in
set_option maxHeartbeats 4000000 in
theorem ad_mir_38 {ro : Nat → Option am_C} {c : Bool} {a : Nat → Nat → Int32} {l : Nat → Int64} {f : Nat → Nat → Int32} {x y : Int32} {k : Nat} (h : k < 16) (e : f 46 8 = nI k) : am_run ro 2 86 [.ref 46, .int x, .int y] (wd c a l f) none (wd c (u2 (u2 a 48 (upd (a 48) k x)) 49 (upd (a 49) k y)) l (u3 f 46 8 (nI (k + 1)))) := by
  refine am_run_of rfl (am_wp_ok (inl := []) 3 1 86 [4] 0 _ _ _ _ ?_)
  refine ⟨_, _, fu_83_38 (by omega) e, ?_⟩
  show am_T ro 1 86 4 [.ref 46, .int x, .int y] [.int (nI (decide (16 ≤ k)).toNat)] (wd c a l f) _
  rw [decide_eq_false (show ¬ 16 ≤ k by omega)]
  refine am_wp_ok (inl := []) 2 1 86 [8] _ _ _ _ _ ?_
  refine am_br_t (show nI 0 = 0 from rfl) ?_
  show am_T ro 1 86 8 [.ref 46, .int x, .int y] [] (wd c a l f) _
  refine am_wp_ok (inl := []) 7 1 86 [18] _ _ _ _ _ ?_
  refine And.intro (show vp_in (f 46 8) 16 by rw [e]; exact vp_in_nI (by omega) (by decide)) ?_
  show am_T ro 1 86 18 [.ref 46, .int x, .int y] [] ((wd c a l f).set 48 (.inl (.int, 16, .inl (upd (a 48) (f 46 8).toNatClampNeg x)))) _
  rw [ws_48, e, nI_clamp (show k < 2 ^ 31 by omega)]
  refine am_wp_ok (inl := []) 7 1 86 [28] _ _ _ _ _ ?_
  refine And.intro (show vp_in (f 46 8) 16 by rw [e]; exact vp_in_nI (by omega) (by decide)) ?_
  show am_T ro 1 86 28 [.ref 46, .int x, .int y] [] ((wd c (u2 a 48 (upd (a 48) k x)) l f).set 49 (.inl (.int, 16, .inl (upd (a 49) (f 46 8).toNatClampNeg y)))) _
  rw [ws_49, e, nI_clamp (show k < 2 ^ 31 by omega)]
  refine am_wp_ok (inl := []) 7 1 86 [38] _ _ _ _ _ ?_
  show am_T ro 1 86 38 [.ref 46, .int x, .int y] [] ((wd c (u2 (u2 a 48 (upd (a 48) k x)) 49 (upd (a 49) k y)) l f).set 46 (.inr (8, [.ref 47, .ref 48, .ref 49, .ref 50, .ref 51, .ref 52, .ref 53, .int (f 46 7), .int (f 46 8), .int (f 46 9)].set 8 (.int (f 46 8 + 1))))) _
  rw [wf_46_8, e, nI_1]
  refine am_wp_ok (inl := []) 2 1 86 [] _ _ _ _ _ ?_
  exact And.intro rfl rfl
theorem ad_mir (b : Bool) {ro : Nat → Option am_C} {c : Bool} {a : Nat → Nat → Int32} {l : Nat → Int64} {f : Nat → Nat → Int32} {x y : Int32} {k : Nat} (h : k < 16) (e : f (ob b + 8) 8 = nI k) : am_run ro 2 86 [.ref (ob b + 8), .int x, .int y] (wd c a l f) none (wd c (u2 (u2 a (ob b + 10) (upd (a (ob b + 10)) k x)) (ob b + 11) (upd (a (ob b + 11)) k y)) l (u3 f (ob b + 8) 8 (nI (k + 1)))) := by
  cases b
  · exact ad_mir_16 h e
  · exact ad_mir_38 h e
set_option maxRecDepth 100000 in
set_option maxHeartbeats 4000000 in
theorem ad_map_16 {ro : Nat → Option am_C} {c : Bool} {a : Nat → Nat → Int32} {l : Nat → Int64} {f : Nat → Nat → Int32} {x y z v : Int32} {k : Nat} (h : k < 20) (e : f 24 9 = nI k) : am_run ro 2 88 [.ref 24, .int x, .int y, .int z, .int v] (wd c a l f) none (wd c (u2 (u2 (u2 (u2 a 28 (upd (a 28) k x)) 29 (upd (a 29) k y)) 30 (upd (a 30) k z)) 31 (upd (a 31) k v)) l (u3 f 24 9 (nI (k + 1)))) := by
  refine am_run_of rfl (am_wp_ok (inl := []) 3 1 88 [4] 0 _ _ _ _ ?_)
  refine ⟨_, _, fu_87_16 (by omega) e, ?_⟩
  show am_T ro 1 88 4 [.ref 24, .int x, .int y, .int z, .int v] [.int (nI (decide (20 ≤ k)).toNat)] (wd c a l f) _
  rw [decide_eq_false (show ¬ 20 ≤ k by omega)]
  refine am_wp_ok (inl := []) 2 1 88 [8] _ _ _ _ _ ?_
  refine am_br_t (show nI 0 = 0 from rfl) ?_
  show am_T ro 1 88 8 [.ref 24, .int x, .int y, .int z, .int v] [] (wd c a l f) _
  refine am_wp_ok (inl := []) 7 1 88 [18] _ _ _ _ _ ?_
  refine And.intro (show vp_in (f 24 9) 20 by rw [e]; exact vp_in_nI (by omega) (by decide)) ?_
  show am_T ro 1 88 18 [.ref 24, .int x, .int y, .int z, .int v] [] ((wd c a l f).set 28 (.inl (.int, 20, .inl (upd (a 28) (f 24 9).toNatClampNeg x)))) _
  rw [ws_28, e, nI_clamp (show k < 2 ^ 31 by omega)]
  refine am_wp_ok (inl := []) 7 1 88 [28] _ _ _ _ _ ?_
  refine And.intro (show vp_in (f 24 9) 20 by rw [e]; exact vp_in_nI (by omega) (by decide)) ?_
  show am_T ro 1 88 28 [.ref 24, .int x, .int y, .int z, .int v] [] ((wd c (u2 a 28 (upd (a 28) k x)) l f).set 29 (.inl (.int, 20, .inl (upd (a 29) (f 24 9).toNatClampNeg y)))) _
  rw [ws_29, e, nI_clamp (show k < 2 ^ 31 by omega)]
  refine am_wp_ok (inl := []) 7 1 88 [38] _ _ _ _ _ ?_
  refine And.intro (show vp_in (f 24 9) 20 by rw [e]; exact vp_in_nI (by omega) (by decide)) ?_
  show am_T ro 1 88 38 [.ref 24, .int x, .int y, .int z, .int v] [] ((wd c (u2 (u2 a 28 (upd (a 28) k x)) 29 (upd (a 29) k y)) l f).set 30 (.inl (.int, 20, .inl (upd (a 30) (f 24 9).toNatClampNeg z)))) _
  rw [ws_30, e, nI_clamp (show k < 2 ^ 31 by omega)]
  refine am_wp_ok (inl := []) 7 1 88 [49] _ _ _ _ _ ?_
  refine And.intro (show vp_in (f 24 9) 20 by rw [e]; exact vp_in_nI (by omega) (by decide)) ?_
  show am_T ro 1 88 49 [.ref 24, .int x, .int y, .int z, .int v] [] ((wd c (u2 (u2 (u2 a 28 (upd (a 28) k x)) 29 (upd (a 29) k y)) 30 (upd (a 30) k z)) l f).set 31 (.inl (.int, 20, .inl (upd (a 31) (f 24 9).toNatClampNeg v)))) _
  rw [ws_31, e, nI_clamp (show k < 2 ^ 31 by omega)]
  refine am_wp_ok (inl := []) 7 1 88 [59] _ _ _ _ _ ?_
  show am_T ro 1 88 59 [.ref 24, .int x, .int y, .int z, .int v] [] ((wd c (u2 (u2 (u2 (u2 a 28 (upd (a 28) k x)) 29 (upd (a 29) k y)) 30 (upd (a 30) k z)) 31 (upd (a 31) k v)) l f).set 24 (.inr (8, [.ref 25, .ref 26, .ref 27, .ref 28, .ref 29, .ref 30, .ref 31, .int (f 24 7), .int (f 24 8), .int (f 24 9)].set 9 (.int (f 24 9 + 1))))) _
  rw [wf_24_9, e, nI_1]
  refine am_wp_ok (inl := []) 2 1 88 [] _ _ _ _ _ ?_
  exact And.intro rfl rfl
set_option maxRecDepth 100000 in
set_option maxHeartbeats 4000000 in
theorem ad_map_38 {ro : Nat → Option am_C} {c : Bool} {a : Nat → Nat → Int32} {l : Nat → Int64} {f : Nat → Nat → Int32} {x y z v : Int32} {k : Nat} (h : k < 20) (e : f 46 9 = nI k) : am_run ro 2 88 [.ref 46, .int x, .int y, .int z, .int v] (wd c a l f) none (wd c (u2 (u2 (u2 (u2 a 50 (upd (a 50) k x)) 51 (upd (a 51) k y)) 52 (upd (a 52) k z)) 53 (upd (a 53) k v)) l (u3 f 46 9 (nI (k + 1)))) := by
  refine am_run_of rfl (am_wp_ok (inl := []) 3 1 88 [4] 0 _ _ _ _ ?_)
  refine ⟨_, _, fu_87_38 (by omega) e, ?_⟩
  show am_T ro 1 88 4 [.ref 46, .int x, .int y, .int z, .int v] [.int (nI (decide (20 ≤ k)).toNat)] (wd c a l f) _
  rw [decide_eq_false (show ¬ 20 ≤ k by omega)]
  refine am_wp_ok (inl := []) 2 1 88 [8] _ _ _ _ _ ?_
  refine am_br_t (show nI 0 = 0 from rfl) ?_
  show am_T ro 1 88 8 [.ref 46, .int x, .int y, .int z, .int v] [] (wd c a l f) _
  refine am_wp_ok (inl := []) 7 1 88 [18] _ _ _ _ _ ?_
  refine And.intro (show vp_in (f 46 9) 20 by rw [e]; exact vp_in_nI (by omega) (by decide)) ?_
  show am_T ro 1 88 18 [.ref 46, .int x, .int y, .int z, .int v] [] ((wd c a l f).set 50 (.inl (.int, 20, .inl (upd (a 50) (f 46 9).toNatClampNeg x)))) _
  rw [ws_50, e, nI_clamp (show k < 2 ^ 31 by omega)]
  refine am_wp_ok (inl := []) 7 1 88 [28] _ _ _ _ _ ?_
  refine And.intro (show vp_in (f 46 9) 20 by rw [e]; exact vp_in_nI (by omega) (by decide)) ?_
  show am_T ro 1 88 28 [.ref 46, .int x, .int y, .int z, .int v] [] ((wd c (u2 a 50 (upd (a 50) k x)) l f).set 51 (.inl (.int, 20, .inl (upd (a 51) (f 46 9).toNatClampNeg y)))) _
  rw [ws_51, e, nI_clamp (show k < 2 ^ 31 by omega)]
  refine am_wp_ok (inl := []) 7 1 88 [38] _ _ _ _ _ ?_
  refine And.intro (show vp_in (f 46 9) 20 by rw [e]; exact vp_in_nI (by omega) (by decide)) ?_
  show am_T ro 1 88 38 [.ref 46, .int x, .int y, .int z, .int v] [] ((wd c (u2 (u2 a 50 (upd (a 50) k x)) 51 (upd (a 51) k y)) l f).set 52 (.inl (.int, 20, .inl (upd (a 52) (f 46 9).toNatClampNeg z)))) _
  rw [ws_52, e, nI_clamp (show k < 2 ^ 31 by omega)]
  refine am_wp_ok (inl := []) 7 1 88 [49] _ _ _ _ _ ?_
  refine And.intro (show vp_in (f 46 9) 20 by rw [e]; exact vp_in_nI (by omega) (by decide)) ?_
  show am_T ro 1 88 49 [.ref 46, .int x, .int y, .int z, .int v] [] ((wd c (u2 (u2 (u2 a 50 (upd (a 50) k x)) 51 (upd (a 51) k y)) 52 (upd (a 52) k z)) l f).set 53 (.inl (.int, 20, .inl (upd (a 53) (f 46 9).toNatClampNeg v)))) _
  rw [ws_53, e, nI_clamp (show k < 2 ^ 31 by omega)]
  refine am_wp_ok (inl := []) 7 1 88 [59] _ _ _ _ _ ?_
  show am_T ro 1 88 59 [.ref 46, .int x, .int y, .int z, .int v] [] ((wd c (u2 (u2 (u2 (u2 a 50 (upd (a 50) k x)) 51 (upd (a 51) k y)) 52 (upd (a 52) k z)) 53 (upd (a 53) k v)) l f).set 46 (.inr (8, [.ref 47, .ref 48, .ref 49, .ref 50, .ref 51, .ref 52, .ref 53, .int (f 46 7), .int (f 46 8), .int (f 46 9)].set 9 (.int (f 46 9 + 1))))) _
  rw [wf_46_9, e, nI_1]
  refine am_wp_ok (inl := []) 2 1 88 [] _ _ _ _ _ ?_
  exact And.intro rfl rfl
theorem ad_map (b : Bool) {ro : Nat → Option am_C} {c : Bool} {a : Nat → Nat → Int32} {l : Nat → Int64} {f : Nat → Nat → Int32} {x y z v : Int32} {k : Nat} (h : k < 20) (e : f (ob b + 8) 9 = nI k) : am_run ro 2 88 [.ref (ob b + 8), .int x, .int y, .int z, .int v] (wd c a l f) none (wd c (u2 (u2 (u2 (u2 a (ob b + 12) (upd (a (ob b + 12)) k x)) (ob b + 13) (upd (a (ob b + 13)) k y)) (ob b + 14) (upd (a (ob b + 14)) k z)) (ob b + 15) (upd (a (ob b + 15)) k v)) l (u3 f (ob b + 8) 9 (nI (k + 1)))) := by
  cases b
  · exact ad_map_16 h e
  · exact ad_map_38 h e
set_option maxRecDepth 100000 in
set_option maxHeartbeats 4000000 in
theorem ad_br_16 {ro : Nat → Option am_C} {c : Bool} {a : Nat → Nat → Int32} {l : Nat → Int64} {f : Nat → Nat → Int32} {x y : Int32} {nb nc : Nat} (h : nb < 30) (e : f 17 6 = nI nb) (e7 : f 17 7 = nI nc) : am_run ro 2 71 [.ref 17, .int x, .int y] (wd c a l f) none (wd c (u2 (u2 (u2 a 18 (upd (a 18) nb x)) 19 (upd (a 19) nb y)) 20 (upd (a 20) nb (nI nc))) l (u3 f 17 6 (nI (nb + 1)))) := by
  refine am_run_of rfl (am_wp_ok (inl := []) 3 1 71 [4] 0 _ _ _ _ ?_)
  refine ⟨_, _, fu_70_16 (by omega) e, ?_⟩
  show am_T ro 1 71 4 [.ref 17, .int x, .int y] [.int (nI (decide (30 ≤ nb)).toNat)] (wd c a l f) _
  rw [decide_eq_false (show ¬ 30 ≤ nb by omega)]
  refine am_wp_ok (inl := []) 2 1 71 [8] _ _ _ _ _ ?_
  refine am_br_t (show nI 0 = 0 from rfl) ?_
  show am_T ro 1 71 8 [.ref 17, .int x, .int y] [] (wd c a l f) _
  refine am_wp_ok (inl := []) 7 1 71 [18] _ _ _ _ _ ?_
  refine And.intro (show vp_in (f 17 6) 30 by rw [e]; exact vp_in_nI (by omega) (by decide)) ?_
  show am_T ro 1 71 18 [.ref 17, .int x, .int y] [] ((wd c a l f).set 18 (.inl (.int, 30, .inl (upd (a 18) (f 17 6).toNatClampNeg x)))) _
  rw [ws_18, e, nI_clamp (show nb < 2 ^ 31 by omega)]
  refine am_wp_ok (inl := []) 7 1 71 [28] _ _ _ _ _ ?_
  refine And.intro (show vp_in (f 17 6) 30 by rw [e]; exact vp_in_nI (by omega) (by decide)) ?_
  show am_T ro 1 71 28 [.ref 17, .int x, .int y] [] ((wd c (u2 a 18 (upd (a 18) nb x)) l f).set 19 (.inl (.int, 30, .inl (upd (a 19) (f 17 6).toNatClampNeg y)))) _
  rw [ws_19, e, nI_clamp (show nb < 2 ^ 31 by omega)]
  refine am_wp_ok (inl := []) 9 1 71 [41] _ _ _ _ _ ?_
  refine And.intro (show vp_in (f 17 6) 30 by rw [e]; exact vp_in_nI (by omega) (by decide)) ?_
  show am_T ro 1 71 41 [.ref 17, .int x, .int y] [] ((wd c (u2 (u2 a 18 (upd (a 18) nb x)) 19 (upd (a 19) nb y)) l f).set 20 (.inl (.int, 30, .inl (upd (a 20) (f 17 6).toNatClampNeg (f 17 7))))) _
  rw [ws_20, e, e7, nI_clamp (show nb < 2 ^ 31 by omega)]
  refine am_wp_ok (inl := []) 7 1 71 [51] _ _ _ _ _ ?_
  show am_T ro 1 71 51 [.ref 17, .int x, .int y] [] ((wd c (u2 (u2 (u2 a 18 (upd (a 18) nb x)) 19 (upd (a 19) nb y)) 20 (upd (a 20) nb (nI nc))) l f).set 17 (.inr (7, [.ref 18, .ref 19, .ref 20, .ref 21, .ref 22, .ref 23, .int (f 17 6), .int (f 17 7)].set 6 (.int (f 17 6 + 1))))) _
  rw [wf_17_6, e, nI_1]
  refine am_wp_ok (inl := []) 2 1 71 [] _ _ _ _ _ ?_
  exact And.intro rfl rfl
set_option maxRecDepth 100000 in
set_option maxHeartbeats 4000000 in
theorem ad_br_38 {ro : Nat → Option am_C} {c : Bool} {a : Nat → Nat → Int32} {l : Nat → Int64} {f : Nat → Nat → Int32} {x y : Int32} {nb nc : Nat} (h : nb < 30) (e : f 39 6 = nI nb) (e7 : f 39 7 = nI nc) : am_run ro 2 71 [.ref 39, .int x, .int y] (wd c a l f) none (wd c (u2 (u2 (u2 a 40 (upd (a 40) nb x)) 41 (upd (a 41) nb y)) 42 (upd (a 42) nb (nI nc))) l (u3 f 39 6 (nI (nb + 1)))) := by
  refine am_run_of rfl (am_wp_ok (inl := []) 3 1 71 [4] 0 _ _ _ _ ?_)
  refine ⟨_, _, fu_70_38 (by omega) e, ?_⟩
  show am_T ro 1 71 4 [.ref 39, .int x, .int y] [.int (nI (decide (30 ≤ nb)).toNat)] (wd c a l f) _
  rw [decide_eq_false (show ¬ 30 ≤ nb by omega)]
  refine am_wp_ok (inl := []) 2 1 71 [8] _ _ _ _ _ ?_
  refine am_br_t (show nI 0 = 0 from rfl) ?_
  show am_T ro 1 71 8 [.ref 39, .int x, .int y] [] (wd c a l f) _
  refine am_wp_ok (inl := []) 7 1 71 [18] _ _ _ _ _ ?_
  refine And.intro (show vp_in (f 39 6) 30 by rw [e]; exact vp_in_nI (by omega) (by decide)) ?_
  show am_T ro 1 71 18 [.ref 39, .int x, .int y] [] ((wd c a l f).set 40 (.inl (.int, 30, .inl (upd (a 40) (f 39 6).toNatClampNeg x)))) _
  rw [ws_40, e, nI_clamp (show nb < 2 ^ 31 by omega)]
  refine am_wp_ok (inl := []) 7 1 71 [28] _ _ _ _ _ ?_
  refine And.intro (show vp_in (f 39 6) 30 by rw [e]; exact vp_in_nI (by omega) (by decide)) ?_
  show am_T ro 1 71 28 [.ref 39, .int x, .int y] [] ((wd c (u2 a 40 (upd (a 40) nb x)) l f).set 41 (.inl (.int, 30, .inl (upd (a 41) (f 39 6).toNatClampNeg y)))) _
  rw [ws_41, e, nI_clamp (show nb < 2 ^ 31 by omega)]
  refine am_wp_ok (inl := []) 9 1 71 [41] _ _ _ _ _ ?_
  refine And.intro (show vp_in (f 39 6) 30 by rw [e]; exact vp_in_nI (by omega) (by decide)) ?_
  show am_T ro 1 71 41 [.ref 39, .int x, .int y] [] ((wd c (u2 (u2 a 40 (upd (a 40) nb x)) 41 (upd (a 41) nb y)) l f).set 42 (.inl (.int, 30, .inl (upd (a 42) (f 39 6).toNatClampNeg (f 39 7))))) _
  rw [ws_42, e, e7, nI_clamp (show nb < 2 ^ 31 by omega)]
  refine am_wp_ok (inl := []) 7 1 71 [51] _ _ _ _ _ ?_
  show am_T ro 1 71 51 [.ref 39, .int x, .int y] [] ((wd c (u2 (u2 (u2 a 40 (upd (a 40) nb x)) 41 (upd (a 41) nb y)) 42 (upd (a 42) nb (nI nc))) l f).set 39 (.inr (7, [.ref 40, .ref 41, .ref 42, .ref 43, .ref 44, .ref 45, .int (f 39 6), .int (f 39 7)].set 6 (.int (f 39 6 + 1))))) _
  rw [wf_39_6, e, nI_1]
  refine am_wp_ok (inl := []) 2 1 71 [] _ _ _ _ _ ?_
  exact And.intro rfl rfl
theorem ad_br (b : Bool) {ro : Nat → Option am_C} {c : Bool} {a : Nat → Nat → Int32} {l : Nat → Int64} {f : Nat → Nat → Int32} {x y : Int32} {nb nc : Nat} (h : nb < 30) (e : f (ob b + 1) 6 = nI nb) (e7 : f (ob b + 1) 7 = nI nc) : am_run ro 2 71 [.ref (ob b + 1), .int x, .int y] (wd c a l f) none (wd c (u2 (u2 (u2 a (ob b + 2) (upd (a (ob b + 2)) nb x)) (ob b + 3) (upd (a (ob b + 3)) nb y)) (ob b + 4) (upd (a (ob b + 4)) nb (nI nc))) l (u3 f (ob b + 1) 6 (nI (nb + 1)))) := by
  cases b
  · exact ad_br_16 h e e7
  · exact ad_br_38 h e e7
set_option maxRecDepth 100000 in
set_option maxHeartbeats 4000000 in
theorem ad_cn_16 {ro : Nat → Option am_C} {c : Bool} {a : Nat → Nat → Int32} {l : Nat → Int64} {f : Nat → Nat → Int32} {x y z : Int32} {nb nc : Nat} (h : nc < 60) (hb1 : 1 ≤ nb) (hb : nb ≤ 30) (e : f 17 7 = nI nc) (e6 : f 17 6 = nI nb) : am_run ro 2 73 [.ref 17, .int x, .int y, .int z] (wd c a l f) none (wd c (u2 (u2 (u2 (u2 a 21 (upd (a 21) nc x)) 22 (upd (a 22) nc y)) 23 (upd (a 23) nc z)) 20 (upd (a 20) (nb - 1) (nI (nc + 1)))) l (u3 f 17 7 (nI (nc + 1)))) := by
  refine am_run_of rfl (am_wp_ok (inl := []) 3 1 73 [4] 0 _ _ _ _ ?_)
  refine ⟨_, _, fu_72_16 (by omega) e, ?_⟩
  show am_T ro 1 73 4 [.ref 17, .int x, .int y, .int z] [.int (nI (decide (60 ≤ nc)).toNat)] (wd c a l f) _
  rw [decide_eq_false (show ¬ 60 ≤ nc by omega)]
  refine am_wp_ok (inl := []) 2 1 73 [7] _ _ _ _ _ ?_
  refine am_br_f (show ¬ ¬ nI 0 = 0 from fun z => z rfl) ?_
  show am_T ro 1 73 7 [.ref 17, .int x, .int y, .int z] [] (wd c a l f) _
  refine am_wp_ok (inl := []) 5 1 73 [15] _ _ _ _ _ ?_
  refine am_br_f (show ¬ f 17 6 < nI 1 by rw [e6]; exact nI_nlt hb1 (by omega)) ?_
  show am_T ro 1 73 15 [.ref 17, .int x, .int y, .int z] [] (wd c a l f) _
  refine am_wp_ok (inl := []) 5 1 73 [25] _ _ _ _ _ ?_
  refine am_br_t (show f 17 6 ≤ nI 30 by rw [e6]; exact nI_le hb (by decide)) ?_
  show am_T ro 1 73 25 [.ref 17, .int x, .int y, .int z] [] (wd c a l f) _
  refine am_wp_ok (inl := []) 7 1 73 [35] _ _ _ _ _ ?_
  refine And.intro (show vp_in (f 17 7) 60 by rw [e]; exact vp_in_nI (by omega) (by decide)) ?_
  show am_T ro 1 73 35 [.ref 17, .int x, .int y, .int z] [] ((wd c a l f).set 21 (.inl (.int, 60, .inl (upd (a 21) (f 17 7).toNatClampNeg x)))) _
  rw [ws_21, e, nI_clamp (show nc < 2 ^ 31 by omega)]
  refine am_wp_ok (inl := []) 7 1 73 [45] _ _ _ _ _ ?_
  refine And.intro (show vp_in (f 17 7) 60 by rw [e]; exact vp_in_nI (by omega) (by decide)) ?_
  show am_T ro 1 73 45 [.ref 17, .int x, .int y, .int z] [] ((wd c (u2 a 21 (upd (a 21) nc x)) l f).set 22 (.inl (.int, 60, .inl (upd (a 22) (f 17 7).toNatClampNeg y)))) _
  rw [ws_22, e, nI_clamp (show nc < 2 ^ 31 by omega)]
  refine am_wp_ok (inl := []) 7 1 73 [55] _ _ _ _ _ ?_
  refine And.intro (show vp_in (f 17 7) 60 by rw [e]; exact vp_in_nI (by omega) (by decide)) ?_
  show am_T ro 1 73 55 [.ref 17, .int x, .int y, .int z] [] ((wd c (u2 (u2 a 21 (upd (a 21) nc x)) 22 (upd (a 22) nc y)) l f).set 23 (.inl (.int, 60, .inl (upd (a 23) (f 17 7).toNatClampNeg z)))) _
  rw [ws_23, e, nI_clamp (show nc < 2 ^ 31 by omega)]
  refine am_wp_ok (inl := []) 7 1 73 [65] _ _ _ _ _ ?_
  show am_T ro 1 73 65 [.ref 17, .int x, .int y, .int z] [] ((wd c (u2 (u2 (u2 a 21 (upd (a 21) nc x)) 22 (upd (a 22) nc y)) 23 (upd (a 23) nc z)) l f).set 17 (.inr (7, [.ref 18, .ref 19, .ref 20, .ref 21, .ref 22, .ref 23, .int (f 17 6), .int (f 17 7)].set 7 (.int (f 17 7 + 1))))) _
  rw [wf_17_7, e, nI_1]
  have ei : f 17 6 - 1 = nI (nb - 1) := by
    rw [e6]
    exact nI_sub hb1
  refine am_wp_ok (inl := []) 10 1 73 [80] _ _ _ _ _ ?_
  refine And.intro (show vp_in (f 17 6 - 1) 30 by rw [ei]; exact vp_in_nI (by omega) (by decide)) ?_
  show am_T ro 1 73 80 [.ref 17, .int x, .int y, .int z] [] ((wd c (u2 (u2 (u2 a 21 (upd (a 21) nc x)) 22 (upd (a 22) nc y)) 23 (upd (a 23) nc z)) l (u3 f 17 7 (nI (nc + 1)))).set 20 (.inl (.int, 30, .inl (upd (a 20) (f 17 6 - 1).toNatClampNeg (nI (nc + 1)))))) _
  rw [ws_20, ei, nI_clamp (show nb - 1 < 2 ^ 31 by omega)]
  refine am_wp_ok (inl := []) 2 1 73 [] _ _ _ _ _ ?_
  exact And.intro rfl rfl
set_option maxRecDepth 100000 in
set_option maxHeartbeats 4000000 in
theorem ad_cn_38 {ro : Nat → Option am_C} {c : Bool} {a : Nat → Nat → Int32} {l : Nat → Int64} {f : Nat → Nat → Int32} {x y z : Int32} {nb nc : Nat} (h : nc < 60) (hb1 : 1 ≤ nb) (hb : nb ≤ 30) (e : f 39 7 = nI nc) (e6 : f 39 6 = nI nb) : am_run ro 2 73 [.ref 39, .int x, .int y, .int z] (wd c a l f) none (wd c (u2 (u2 (u2 (u2 a 43 (upd (a 43) nc x)) 44 (upd (a 44) nc y)) 45 (upd (a 45) nc z)) 42 (upd (a 42) (nb - 1) (nI (nc + 1)))) l (u3 f 39 7 (nI (nc + 1)))) := by
  refine am_run_of rfl (am_wp_ok (inl := []) 3 1 73 [4] 0 _ _ _ _ ?_)
  refine ⟨_, _, fu_72_38 (by omega) e, ?_⟩
  show am_T ro 1 73 4 [.ref 39, .int x, .int y, .int z] [.int (nI (decide (60 ≤ nc)).toNat)] (wd c a l f) _
  rw [decide_eq_false (show ¬ 60 ≤ nc by omega)]
  refine am_wp_ok (inl := []) 2 1 73 [7] _ _ _ _ _ ?_
  refine am_br_f (show ¬ ¬ nI 0 = 0 from fun z => z rfl) ?_
  show am_T ro 1 73 7 [.ref 39, .int x, .int y, .int z] [] (wd c a l f) _
  refine am_wp_ok (inl := []) 5 1 73 [15] _ _ _ _ _ ?_
  refine am_br_f (show ¬ f 39 6 < nI 1 by rw [e6]; exact nI_nlt hb1 (by omega)) ?_
  show am_T ro 1 73 15 [.ref 39, .int x, .int y, .int z] [] (wd c a l f) _
  refine am_wp_ok (inl := []) 5 1 73 [25] _ _ _ _ _ ?_
  refine am_br_t (show f 39 6 ≤ nI 30 by rw [e6]; exact nI_le hb (by decide)) ?_
  show am_T ro 1 73 25 [.ref 39, .int x, .int y, .int z] [] (wd c a l f) _
  refine am_wp_ok (inl := []) 7 1 73 [35] _ _ _ _ _ ?_
  refine And.intro (show vp_in (f 39 7) 60 by rw [e]; exact vp_in_nI (by omega) (by decide)) ?_
  show am_T ro 1 73 35 [.ref 39, .int x, .int y, .int z] [] ((wd c a l f).set 43 (.inl (.int, 60, .inl (upd (a 43) (f 39 7).toNatClampNeg x)))) _
  rw [ws_43, e, nI_clamp (show nc < 2 ^ 31 by omega)]
  refine am_wp_ok (inl := []) 7 1 73 [45] _ _ _ _ _ ?_
  refine And.intro (show vp_in (f 39 7) 60 by rw [e]; exact vp_in_nI (by omega) (by decide)) ?_
  show am_T ro 1 73 45 [.ref 39, .int x, .int y, .int z] [] ((wd c (u2 a 43 (upd (a 43) nc x)) l f).set 44 (.inl (.int, 60, .inl (upd (a 44) (f 39 7).toNatClampNeg y)))) _
  rw [ws_44, e, nI_clamp (show nc < 2 ^ 31 by omega)]
  refine am_wp_ok (inl := []) 7 1 73 [55] _ _ _ _ _ ?_
  refine And.intro (show vp_in (f 39 7) 60 by rw [e]; exact vp_in_nI (by omega) (by decide)) ?_
  show am_T ro 1 73 55 [.ref 39, .int x, .int y, .int z] [] ((wd c (u2 (u2 a 43 (upd (a 43) nc x)) 44 (upd (a 44) nc y)) l f).set 45 (.inl (.int, 60, .inl (upd (a 45) (f 39 7).toNatClampNeg z)))) _
  rw [ws_45, e, nI_clamp (show nc < 2 ^ 31 by omega)]
  refine am_wp_ok (inl := []) 7 1 73 [65] _ _ _ _ _ ?_
  show am_T ro 1 73 65 [.ref 39, .int x, .int y, .int z] [] ((wd c (u2 (u2 (u2 a 43 (upd (a 43) nc x)) 44 (upd (a 44) nc y)) 45 (upd (a 45) nc z)) l f).set 39 (.inr (7, [.ref 40, .ref 41, .ref 42, .ref 43, .ref 44, .ref 45, .int (f 39 6), .int (f 39 7)].set 7 (.int (f 39 7 + 1))))) _
  rw [wf_39_7, e, nI_1]
  have ei : f 39 6 - 1 = nI (nb - 1) := by
    rw [e6]
    exact nI_sub hb1
  refine am_wp_ok (inl := []) 10 1 73 [80] _ _ _ _ _ ?_
  refine And.intro (show vp_in (f 39 6 - 1) 30 by rw [ei]; exact vp_in_nI (by omega) (by decide)) ?_
  show am_T ro 1 73 80 [.ref 39, .int x, .int y, .int z] [] ((wd c (u2 (u2 (u2 a 43 (upd (a 43) nc x)) 44 (upd (a 44) nc y)) 45 (upd (a 45) nc z)) l (u3 f 39 7 (nI (nc + 1)))).set 42 (.inl (.int, 30, .inl (upd (a 42) (f 39 6 - 1).toNatClampNeg (nI (nc + 1)))))) _
  rw [ws_42, ei, nI_clamp (show nb - 1 < 2 ^ 31 by omega)]
  refine am_wp_ok (inl := []) 2 1 73 [] _ _ _ _ _ ?_
  exact And.intro rfl rfl
theorem ad_cn (b : Bool) {ro : Nat → Option am_C} {c : Bool} {a : Nat → Nat → Int32} {l : Nat → Int64} {f : Nat → Nat → Int32} {x y z : Int32} {nb nc : Nat} (h : nc < 60) (hb1 : 1 ≤ nb) (hb : nb ≤ 30) (e : f (ob b + 1) 7 = nI nc) (e6 : f (ob b + 1) 6 = nI nb) : am_run ro 2 73 [.ref (ob b + 1), .int x, .int y, .int z] (wd c a l f) none (wd c (u2 (u2 (u2 (u2 a (ob b + 5) (upd (a (ob b + 5)) nc x)) (ob b + 6) (upd (a (ob b + 6)) nc y)) (ob b + 7) (upd (a (ob b + 7)) nc z)) (ob b + 4) (upd (a (ob b + 4)) (nb - 1) (nI (nc + 1)))) l (u3 f (ob b + 1) 7 (nI (nc + 1)))) := by
  cases b
  · exact ad_cn_16 h hb1 hb e e6
  · exact ad_cn_38 h hb1 hb e e6
