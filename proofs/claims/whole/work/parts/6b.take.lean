/-! the class takes a map, a name -/
set_option maxRecDepth 100000 in
set_option maxHeartbeats 4000000 in
theorem tp_full_16 {ro : Nat → Option am_C} {c : Bool} {a : Nat → Nat → Int32} {l : Nat → Int64} {f : Nat → Nat → Int32} {n j w : Nat} {U : Nat → Nat} (hC : CT a f n U) (hj : j ≤ n) (h3 : f 1 3 = nI j) (h4 : f 1 4 = nI w) {k : Nat} (e : f 24 9 = nI k) (hk2 : k < 2 ^ 31) (hk : 20 ≤ k) : am_run ro 3 63 [.ref 16, .ref 1] (wd c a l f) (some (.int (nI 0))) (wd c a l f) := by
  have g0 : j ≤ n := hj
  refine am_run_of rfl (am_wp_ok (inl := []) 4 2 63 [7] 0 _ _ _ _ ?_)
  refine ⟨_, _, am_run_up (fu_87_16 (by omega) e) (by decide), ?_⟩
  show am_T ro 2 63 7 [.ref 16, .ref 1, am_un, am_un, am_un, am_un] [.int (nI (decide (20 ≤ k)).toNat)] (wd c a l f) _
  rw [decide_eq_true hk]
  refine am_wp_ok (inl := []) 4 2 63 [] _ _ _ _ _ ?_
  refine am_br_f (show ¬ nI 1 = 0 by decide) ?_
  exact And.intro rfl (And.intro rfl rfl)
set_option maxRecDepth 100000 in
set_option maxHeartbeats 4000000 in
theorem tp_full_38 {ro : Nat → Option am_C} {c : Bool} {a : Nat → Nat → Int32} {l : Nat → Int64} {f : Nat → Nat → Int32} {n j w : Nat} {U : Nat → Nat} (hC : CT a f n U) (hj : j ≤ n) (h3 : f 1 3 = nI j) (h4 : f 1 4 = nI w) {k : Nat} (e : f 46 9 = nI k) (hk2 : k < 2 ^ 31) (hk : 20 ≤ k) : am_run ro 3 63 [.ref 38, .ref 1] (wd c a l f) (some (.int (nI 0))) (wd c a l f) := by
  have g0 : j ≤ n := hj
  refine am_run_of rfl (am_wp_ok (inl := []) 4 2 63 [7] 0 _ _ _ _ ?_)
  refine ⟨_, _, am_run_up (fu_87_38 (by omega) e) (by decide), ?_⟩
  show am_T ro 2 63 7 [.ref 38, .ref 1, am_un, am_un, am_un, am_un] [.int (nI (decide (20 ≤ k)).toNat)] (wd c a l f) _
  rw [decide_eq_true hk]
  refine am_wp_ok (inl := []) 4 2 63 [] _ _ _ _ _ ?_
  refine am_br_f (show ¬ nI 1 = 0 by decide) ?_
  exact And.intro rfl (And.intro rfl rfl)
theorem tp_full (b : Bool) {ro : Nat → Option am_C} {c : Bool} {a : Nat → Nat → Int32} {l : Nat → Int64} {f : Nat → Nat → Int32} {n j w : Nat} {U : Nat → Nat} (hC : CT a f n U) (hj : j ≤ n) (h3 : f 1 3 = nI j) (h4 : f 1 4 = nI w) {k : Nat} (e : f (ob b + 8) 9 = nI k) (hk2 : k < 2 ^ 31) (hk : 20 ≤ k) : am_run ro 3 63 [.ref (ob b), .ref 1] (wd c a l f) (some (.int (nI 0))) (wd c a l f) := by
  cases b
  · exact tp_full_16 hC hj h3 h4 e hk2 hk
  · exact tp_full_38 hC hj h3 h4 e hk2 hk
set_option maxRecDepth 100000 in
set_option maxHeartbeats 4000000 in
theorem tp_bad1_16 {ro : Nat → Option am_C} {c : Bool} {a : Nat → Nat → Int32} {l : Nat → Int64} {f : Nat → Nat → Int32} {n j w : Nat} {U : Nat → Nat} (hC : CT a f n U) (hj : j ≤ n) (h3 : f 1 3 = nI j) (h4 : f 1 4 = nI w) {k : Nat} (e : f 24 9 = nI k) (hk : k < 20) (v1 : nv (uj U n j) (lj U n j) 1000000 = -1) : am_run ro 3 63 [.ref 16, .ref 1] (wd c a l f) (some (.int (nI 0))) (wd c a l (tx f (sj U n j) (ej U n j) (nI (w + 1)))) := by
  have g0 : j ≤ n := hj
  refine am_run_of rfl (am_wp_ok (inl := []) 4 2 63 [7] 0 _ _ _ _ ?_)
  refine ⟨_, _, am_run_up (fu_87_16 (by omega) e) (by decide), ?_⟩
  show am_T ro 2 63 7 [.ref 16, .ref 1, am_un, am_un, am_un, am_un] [.int (nI (decide (20 ≤ k)).toNat)] (wd c a l f) _
  rw [decide_eq_false (show ¬ 20 ≤ k by omega)]
  refine am_wp_ok (inl := []) 2 2 63 [12] _ _ _ _ _ ?_
  refine am_br_t (show nI 0 = 0 from rfl) ?_
  show am_T ro 2 63 12 [.ref 16, .ref 1, am_un, am_un, am_un, am_un] [] (wd c a l f) _
  refine am_wp_ok (inl := []) 4 2 63 [18] _ _ _ _ _ ?_
  refine ⟨_, _, am_run_up (c_num (b := 1000000) (f := f) (by decide) hC g0 (h3) (h4)) (by decide), ?_⟩
  show am_T ro 2 63 18 [.ref 16, .ref 1, am_un, am_un, am_un, am_un] [.int (nv (uj U n j) (lj U n j) 1000000)] (wd c a l (tx f (sj U n j) (ej U n j) (nI (w) + 1))) _
  rw [nI_1]
  rw [v1]
  refine am_wp_ok (inl := []) 7 2 63 [] _ _ _ _ _ ?_
  refine am_br_f (show ¬ ¬ (-1 : Int32) = -1 from fun z => z rfl) ?_
  exact And.intro rfl (And.intro rfl rfl)
set_option maxRecDepth 100000 in
set_option maxHeartbeats 4000000 in
theorem tp_bad1_38 {ro : Nat → Option am_C} {c : Bool} {a : Nat → Nat → Int32} {l : Nat → Int64} {f : Nat → Nat → Int32} {n j w : Nat} {U : Nat → Nat} (hC : CT a f n U) (hj : j ≤ n) (h3 : f 1 3 = nI j) (h4 : f 1 4 = nI w) {k : Nat} (e : f 46 9 = nI k) (hk : k < 20) (v1 : nv (uj U n j) (lj U n j) 1000000 = -1) : am_run ro 3 63 [.ref 38, .ref 1] (wd c a l f) (some (.int (nI 0))) (wd c a l (tx f (sj U n j) (ej U n j) (nI (w + 1)))) := by
  have g0 : j ≤ n := hj
  refine am_run_of rfl (am_wp_ok (inl := []) 4 2 63 [7] 0 _ _ _ _ ?_)
  refine ⟨_, _, am_run_up (fu_87_38 (by omega) e) (by decide), ?_⟩
  show am_T ro 2 63 7 [.ref 38, .ref 1, am_un, am_un, am_un, am_un] [.int (nI (decide (20 ≤ k)).toNat)] (wd c a l f) _
  rw [decide_eq_false (show ¬ 20 ≤ k by omega)]
  refine am_wp_ok (inl := []) 2 2 63 [12] _ _ _ _ _ ?_
  refine am_br_t (show nI 0 = 0 from rfl) ?_
  show am_T ro 2 63 12 [.ref 38, .ref 1, am_un, am_un, am_un, am_un] [] (wd c a l f) _
  refine am_wp_ok (inl := []) 4 2 63 [18] _ _ _ _ _ ?_
  refine ⟨_, _, am_run_up (c_num (b := 1000000) (f := f) (by decide) hC g0 (h3) (h4)) (by decide), ?_⟩
  show am_T ro 2 63 18 [.ref 38, .ref 1, am_un, am_un, am_un, am_un] [.int (nv (uj U n j) (lj U n j) 1000000)] (wd c a l (tx f (sj U n j) (ej U n j) (nI (w) + 1))) _
  rw [nI_1]
  rw [v1]
  refine am_wp_ok (inl := []) 7 2 63 [] _ _ _ _ _ ?_
  refine am_br_f (show ¬ ¬ (-1 : Int32) = -1 from fun z => z rfl) ?_
  exact And.intro rfl (And.intro rfl rfl)
theorem tp_bad1 (b : Bool) {ro : Nat → Option am_C} {c : Bool} {a : Nat → Nat → Int32} {l : Nat → Int64} {f : Nat → Nat → Int32} {n j w : Nat} {U : Nat → Nat} (hC : CT a f n U) (hj : j ≤ n) (h3 : f 1 3 = nI j) (h4 : f 1 4 = nI w) {k : Nat} (e : f (ob b + 8) 9 = nI k) (hk : k < 20) (v1 : nv (uj U n j) (lj U n j) 1000000 = -1) : am_run ro 3 63 [.ref (ob b), .ref 1] (wd c a l f) (some (.int (nI 0))) (wd c a l (tx f (sj U n j) (ej U n j) (nI (w + 1)))) := by
  cases b
  · exact tp_bad1_16 hC hj h3 h4 e hk v1
  · exact tp_bad1_38 hC hj h3 h4 e hk v1
set_option maxRecDepth 100000 in
set_option maxHeartbeats 4000000 in
theorem tp_bad2_16 {ro : Nat → Option am_C} {c : Bool} {a : Nat → Nat → Int32} {l : Nat → Int64} {f : Nat → Nat → Int32} {n j w : Nat} {U : Nat → Nat} (hC : CT a f n U) (hj : j ≤ n) (h3 : f 1 3 = nI j) (h4 : f 1 4 = nI w) {k : Nat} (e : f 24 9 = nI k) (hk : k < 20) {x : Nat} (hx : x < 1000000) (v1 : nv (uj U n j) (lj U n j) 1000000 = nI x) (v2 : nv (uj U n (ej U n j)) (lj U n (ej U n j)) 10 = -1) : am_run ro 3 63 [.ref 16, .ref 1] (wd c a l f) (some (.int (nI 0))) (wd c a l (tx f (sj U n (ej U n j)) (ej U n (ej U n j)) (nI (w + 1 + 1)))) := by
  have g0 : j ≤ n := hj
  have g1 : (ej U n j) ≤ n := (j_le (U := U) g0).2.2
  refine am_run_of rfl (am_wp_ok (inl := []) 4 2 63 [7] 0 _ _ _ _ ?_)
  refine ⟨_, _, am_run_up (fu_87_16 (by omega) e) (by decide), ?_⟩
  show am_T ro 2 63 7 [.ref 16, .ref 1, am_un, am_un, am_un, am_un] [.int (nI (decide (20 ≤ k)).toNat)] (wd c a l f) _
  rw [decide_eq_false (show ¬ 20 ≤ k by omega)]
  refine am_wp_ok (inl := []) 2 2 63 [12] _ _ _ _ _ ?_
  refine am_br_t (show nI 0 = 0 from rfl) ?_
  show am_T ro 2 63 12 [.ref 16, .ref 1, am_un, am_un, am_un, am_un] [] (wd c a l f) _
  refine am_wp_ok (inl := []) 4 2 63 [18] _ _ _ _ _ ?_
  refine ⟨_, _, am_run_up (c_num (b := 1000000) (f := f) (by decide) hC g0 (h3) (h4)) (by decide), ?_⟩
  show am_T ro 2 63 18 [.ref 16, .ref 1, am_un, am_un, am_un, am_un] [.int (nv (uj U n j) (lj U n j) 1000000)] (wd c a l (tx f (sj U n j) (ej U n j) (nI (w) + 1))) _
  rw [nI_1]
  rw [v1]
  refine am_wp_ok (inl := []) 5 2 63 [26] _ _ _ _ _ ?_
  refine am_br_t (nI_n1 (by omega)) ?_
  show am_T ro 2 63 26 [.ref 16, .ref 1, .int (nI x), am_un, am_un, am_un] [] (wd c a l (tx f (sj U n j) (ej U n j) (nI (w + 1)))) _
  refine am_wp_ok (inl := []) 4 2 63 [32] _ _ _ _ _ ?_
  refine ⟨_, _, am_run_up (c_num (b := 10) (f := (tx f (sj U n j) (ej U n j) (nI (w + 1)))) (by decide) hC g1 (rfl) (rfl)) (by decide), ?_⟩
  show am_T ro 2 63 32 [.ref 16, .ref 1, .int (nI x), am_un, am_un, am_un] [.int (nv (uj U n (ej U n j)) (lj U n (ej U n j)) 10)] (wd c a l (tx (tx f (sj U n j) (ej U n j) (nI (w + 1))) (sj U n (ej U n j)) (ej U n (ej U n j)) (nI (w + 1) + 1))) _
  rw [tx_tx, nI_1]
  rw [v2]
  refine am_wp_ok (inl := []) 7 2 63 [] _ _ _ _ _ ?_
  refine am_br_f (show ¬ ¬ (-1 : Int32) = -1 from fun z => z rfl) ?_
  exact And.intro rfl (And.intro rfl rfl)
set_option maxRecDepth 100000 in
set_option maxHeartbeats 4000000 in
theorem tp_bad2_38 {ro : Nat → Option am_C} {c : Bool} {a : Nat → Nat → Int32} {l : Nat → Int64} {f : Nat → Nat → Int32} {n j w : Nat} {U : Nat → Nat} (hC : CT a f n U) (hj : j ≤ n) (h3 : f 1 3 = nI j) (h4 : f 1 4 = nI w) {k : Nat} (e : f 46 9 = nI k) (hk : k < 20) {x : Nat} (hx : x < 1000000) (v1 : nv (uj U n j) (lj U n j) 1000000 = nI x) (v2 : nv (uj U n (ej U n j)) (lj U n (ej U n j)) 10 = -1) : am_run ro 3 63 [.ref 38, .ref 1] (wd c a l f) (some (.int (nI 0))) (wd c a l (tx f (sj U n (ej U n j)) (ej U n (ej U n j)) (nI (w + 1 + 1)))) := by
  have g0 : j ≤ n := hj
  have g1 : (ej U n j) ≤ n := (j_le (U := U) g0).2.2
  refine am_run_of rfl (am_wp_ok (inl := []) 4 2 63 [7] 0 _ _ _ _ ?_)
  refine ⟨_, _, am_run_up (fu_87_38 (by omega) e) (by decide), ?_⟩
  show am_T ro 2 63 7 [.ref 38, .ref 1, am_un, am_un, am_un, am_un] [.int (nI (decide (20 ≤ k)).toNat)] (wd c a l f) _
  rw [decide_eq_false (show ¬ 20 ≤ k by omega)]
  refine am_wp_ok (inl := []) 2 2 63 [12] _ _ _ _ _ ?_
  refine am_br_t (show nI 0 = 0 from rfl) ?_
  show am_T ro 2 63 12 [.ref 38, .ref 1, am_un, am_un, am_un, am_un] [] (wd c a l f) _
  refine am_wp_ok (inl := []) 4 2 63 [18] _ _ _ _ _ ?_
  refine ⟨_, _, am_run_up (c_num (b := 1000000) (f := f) (by decide) hC g0 (h3) (h4)) (by decide), ?_⟩
  show am_T ro 2 63 18 [.ref 38, .ref 1, am_un, am_un, am_un, am_un] [.int (nv (uj U n j) (lj U n j) 1000000)] (wd c a l (tx f (sj U n j) (ej U n j) (nI (w) + 1))) _
  rw [nI_1]
  rw [v1]
  refine am_wp_ok (inl := []) 5 2 63 [26] _ _ _ _ _ ?_
  refine am_br_t (nI_n1 (by omega)) ?_
  show am_T ro 2 63 26 [.ref 38, .ref 1, .int (nI x), am_un, am_un, am_un] [] (wd c a l (tx f (sj U n j) (ej U n j) (nI (w + 1)))) _
  refine am_wp_ok (inl := []) 4 2 63 [32] _ _ _ _ _ ?_
  refine ⟨_, _, am_run_up (c_num (b := 10) (f := (tx f (sj U n j) (ej U n j) (nI (w + 1)))) (by decide) hC g1 (rfl) (rfl)) (by decide), ?_⟩
  show am_T ro 2 63 32 [.ref 38, .ref 1, .int (nI x), am_un, am_un, am_un] [.int (nv (uj U n (ej U n j)) (lj U n (ej U n j)) 10)] (wd c a l (tx (tx f (sj U n j) (ej U n j) (nI (w + 1))) (sj U n (ej U n j)) (ej U n (ej U n j)) (nI (w + 1) + 1))) _
  rw [tx_tx, nI_1]
  rw [v2]
  refine am_wp_ok (inl := []) 7 2 63 [] _ _ _ _ _ ?_
  refine am_br_f (show ¬ ¬ (-1 : Int32) = -1 from fun z => z rfl) ?_
  exact And.intro rfl (And.intro rfl rfl)
theorem tp_bad2 (b : Bool) {ro : Nat → Option am_C} {c : Bool} {a : Nat → Nat → Int32} {l : Nat → Int64} {f : Nat → Nat → Int32} {n j w : Nat} {U : Nat → Nat} (hC : CT a f n U) (hj : j ≤ n) (h3 : f 1 3 = nI j) (h4 : f 1 4 = nI w) {k : Nat} (e : f (ob b + 8) 9 = nI k) (hk : k < 20) {x : Nat} (hx : x < 1000000) (v1 : nv (uj U n j) (lj U n j) 1000000 = nI x) (v2 : nv (uj U n (ej U n j)) (lj U n (ej U n j)) 10 = -1) : am_run ro 3 63 [.ref (ob b), .ref 1] (wd c a l f) (some (.int (nI 0))) (wd c a l (tx f (sj U n (ej U n j)) (ej U n (ej U n j)) (nI (w + 1 + 1)))) := by
  cases b
  · exact tp_bad2_16 hC hj h3 h4 e hk hx v1 v2
  · exact tp_bad2_38 hC hj h3 h4 e hk hx v1 v2
set_option maxRecDepth 100000 in
set_option maxHeartbeats 4000000 in
theorem tp_bad3_16 {ro : Nat → Option am_C} {c : Bool} {a : Nat → Nat → Int32} {l : Nat → Int64} {f : Nat → Nat → Int32} {n j w : Nat} {U : Nat → Nat} (hC : CT a f n U) (hj : j ≤ n) (h3 : f 1 3 = nI j) (h4 : f 1 4 = nI w) {k : Nat} (e : f 24 9 = nI k) (hk : k < 20) {x : Nat} (hx : x < 1000000) (v1 : nv (uj U n j) (lj U n j) 1000000 = nI x) {y : Nat} (hy : y < 1000000) (v2 : nv (uj U n (ej U n j)) (lj U n (ej U n j)) 10 = nI y) (v3 : nv (uj U n (ej U n (ej U n j))) (lj U n (ej U n (ej U n j))) 1000000 = -1) : am_run ro 3 63 [.ref 16, .ref 1] (wd c a l f) (some (.int (nI 0))) (wd c a l (tx f (sj U n (ej U n (ej U n j))) (ej U n (ej U n (ej U n j))) (nI (w + 1 + 1 + 1)))) := by
  have g0 : j ≤ n := hj
  have g1 : (ej U n j) ≤ n := (j_le (U := U) g0).2.2
  have g2 : (ej U n (ej U n j)) ≤ n := (j_le (U := U) g1).2.2
  refine am_run_of rfl (am_wp_ok (inl := []) 4 2 63 [7] 0 _ _ _ _ ?_)
  refine ⟨_, _, am_run_up (fu_87_16 (by omega) e) (by decide), ?_⟩
  show am_T ro 2 63 7 [.ref 16, .ref 1, am_un, am_un, am_un, am_un] [.int (nI (decide (20 ≤ k)).toNat)] (wd c a l f) _
  rw [decide_eq_false (show ¬ 20 ≤ k by omega)]
  refine am_wp_ok (inl := []) 2 2 63 [12] _ _ _ _ _ ?_
  refine am_br_t (show nI 0 = 0 from rfl) ?_
  show am_T ro 2 63 12 [.ref 16, .ref 1, am_un, am_un, am_un, am_un] [] (wd c a l f) _
  refine am_wp_ok (inl := []) 4 2 63 [18] _ _ _ _ _ ?_
  refine ⟨_, _, am_run_up (c_num (b := 1000000) (f := f) (by decide) hC g0 (h3) (h4)) (by decide), ?_⟩
  show am_T ro 2 63 18 [.ref 16, .ref 1, am_un, am_un, am_un, am_un] [.int (nv (uj U n j) (lj U n j) 1000000)] (wd c a l (tx f (sj U n j) (ej U n j) (nI (w) + 1))) _
  rw [nI_1]
  rw [v1]
  refine am_wp_ok (inl := []) 5 2 63 [26] _ _ _ _ _ ?_
  refine am_br_t (nI_n1 (by omega)) ?_
  show am_T ro 2 63 26 [.ref 16, .ref 1, .int (nI x), am_un, am_un, am_un] [] (wd c a l (tx f (sj U n j) (ej U n j) (nI (w + 1)))) _
  refine am_wp_ok (inl := []) 4 2 63 [32] _ _ _ _ _ ?_
  refine ⟨_, _, am_run_up (c_num (b := 10) (f := (tx f (sj U n j) (ej U n j) (nI (w + 1)))) (by decide) hC g1 (rfl) (rfl)) (by decide), ?_⟩
  show am_T ro 2 63 32 [.ref 16, .ref 1, .int (nI x), am_un, am_un, am_un] [.int (nv (uj U n (ej U n j)) (lj U n (ej U n j)) 10)] (wd c a l (tx (tx f (sj U n j) (ej U n j) (nI (w + 1))) (sj U n (ej U n j)) (ej U n (ej U n j)) (nI (w + 1) + 1))) _
  rw [tx_tx, nI_1]
  rw [v2]
  refine am_wp_ok (inl := []) 5 2 63 [40] _ _ _ _ _ ?_
  refine am_br_t (nI_n1 (by omega)) ?_
  show am_T ro 2 63 40 [.ref 16, .ref 1, .int (nI x), .int (nI y), am_un, am_un] [] (wd c a l (tx f (sj U n (ej U n j)) (ej U n (ej U n j)) (nI (w + 1 + 1)))) _
  refine am_wp_ok (inl := []) 4 2 63 [46] _ _ _ _ _ ?_
  refine ⟨_, _, am_run_up (c_num (b := 1000000) (f := (tx f (sj U n (ej U n j)) (ej U n (ej U n j)) (nI (w + 1 + 1)))) (by decide) hC g2 (rfl) (rfl)) (by decide), ?_⟩
  show am_T ro 2 63 46 [.ref 16, .ref 1, .int (nI x), .int (nI y), am_un, am_un] [.int (nv (uj U n (ej U n (ej U n j))) (lj U n (ej U n (ej U n j))) 1000000)] (wd c a l (tx (tx f (sj U n (ej U n j)) (ej U n (ej U n j)) (nI (w + 1 + 1))) (sj U n (ej U n (ej U n j))) (ej U n (ej U n (ej U n j))) (nI (w + 1 + 1) + 1))) _
  rw [tx_tx, nI_1]
  rw [v3]
  refine am_wp_ok (inl := []) 7 2 63 [] _ _ _ _ _ ?_
  refine am_br_f (show ¬ ¬ (-1 : Int32) = -1 from fun z => z rfl) ?_
  exact And.intro rfl (And.intro rfl rfl)
set_option maxRecDepth 100000 in
set_option maxHeartbeats 4000000 in
theorem tp_bad3_38 {ro : Nat → Option am_C} {c : Bool} {a : Nat → Nat → Int32} {l : Nat → Int64} {f : Nat → Nat → Int32} {n j w : Nat} {U : Nat → Nat} (hC : CT a f n U) (hj : j ≤ n) (h3 : f 1 3 = nI j) (h4 : f 1 4 = nI w) {k : Nat} (e : f 46 9 = nI k) (hk : k < 20) {x : Nat} (hx : x < 1000000) (v1 : nv (uj U n j) (lj U n j) 1000000 = nI x) {y : Nat} (hy : y < 1000000) (v2 : nv (uj U n (ej U n j)) (lj U n (ej U n j)) 10 = nI y) (v3 : nv (uj U n (ej U n (ej U n j))) (lj U n (ej U n (ej U n j))) 1000000 = -1) : am_run ro 3 63 [.ref 38, .ref 1] (wd c a l f) (some (.int (nI 0))) (wd c a l (tx f (sj U n (ej U n (ej U n j))) (ej U n (ej U n (ej U n j))) (nI (w + 1 + 1 + 1)))) := by
  have g0 : j ≤ n := hj
  have g1 : (ej U n j) ≤ n := (j_le (U := U) g0).2.2
  have g2 : (ej U n (ej U n j)) ≤ n := (j_le (U := U) g1).2.2
  refine am_run_of rfl (am_wp_ok (inl := []) 4 2 63 [7] 0 _ _ _ _ ?_)
  refine ⟨_, _, am_run_up (fu_87_38 (by omega) e) (by decide), ?_⟩
  show am_T ro 2 63 7 [.ref 38, .ref 1, am_un, am_un, am_un, am_un] [.int (nI (decide (20 ≤ k)).toNat)] (wd c a l f) _
  rw [decide_eq_false (show ¬ 20 ≤ k by omega)]
  refine am_wp_ok (inl := []) 2 2 63 [12] _ _ _ _ _ ?_
  refine am_br_t (show nI 0 = 0 from rfl) ?_
  show am_T ro 2 63 12 [.ref 38, .ref 1, am_un, am_un, am_un, am_un] [] (wd c a l f) _
  refine am_wp_ok (inl := []) 4 2 63 [18] _ _ _ _ _ ?_
  refine ⟨_, _, am_run_up (c_num (b := 1000000) (f := f) (by decide) hC g0 (h3) (h4)) (by decide), ?_⟩
  show am_T ro 2 63 18 [.ref 38, .ref 1, am_un, am_un, am_un, am_un] [.int (nv (uj U n j) (lj U n j) 1000000)] (wd c a l (tx f (sj U n j) (ej U n j) (nI (w) + 1))) _
  rw [nI_1]
  rw [v1]
  refine am_wp_ok (inl := []) 5 2 63 [26] _ _ _ _ _ ?_
  refine am_br_t (nI_n1 (by omega)) ?_
  show am_T ro 2 63 26 [.ref 38, .ref 1, .int (nI x), am_un, am_un, am_un] [] (wd c a l (tx f (sj U n j) (ej U n j) (nI (w + 1)))) _
  refine am_wp_ok (inl := []) 4 2 63 [32] _ _ _ _ _ ?_
  refine ⟨_, _, am_run_up (c_num (b := 10) (f := (tx f (sj U n j) (ej U n j) (nI (w + 1)))) (by decide) hC g1 (rfl) (rfl)) (by decide), ?_⟩
  show am_T ro 2 63 32 [.ref 38, .ref 1, .int (nI x), am_un, am_un, am_un] [.int (nv (uj U n (ej U n j)) (lj U n (ej U n j)) 10)] (wd c a l (tx (tx f (sj U n j) (ej U n j) (nI (w + 1))) (sj U n (ej U n j)) (ej U n (ej U n j)) (nI (w + 1) + 1))) _
  rw [tx_tx, nI_1]
  rw [v2]
  refine am_wp_ok (inl := []) 5 2 63 [40] _ _ _ _ _ ?_
  refine am_br_t (nI_n1 (by omega)) ?_
  show am_T ro 2 63 40 [.ref 38, .ref 1, .int (nI x), .int (nI y), am_un, am_un] [] (wd c a l (tx f (sj U n (ej U n j)) (ej U n (ej U n j)) (nI (w + 1 + 1)))) _
  refine am_wp_ok (inl := []) 4 2 63 [46] _ _ _ _ _ ?_
  refine ⟨_, _, am_run_up (c_num (b := 1000000) (f := (tx f (sj U n (ej U n j)) (ej U n (ej U n j)) (nI (w + 1 + 1)))) (by decide) hC g2 (rfl) (rfl)) (by decide), ?_⟩
  show am_T ro 2 63 46 [.ref 38, .ref 1, .int (nI x), .int (nI y), am_un, am_un] [.int (nv (uj U n (ej U n (ej U n j))) (lj U n (ej U n (ej U n j))) 1000000)] (wd c a l (tx (tx f (sj U n (ej U n j)) (ej U n (ej U n j)) (nI (w + 1 + 1))) (sj U n (ej U n (ej U n j))) (ej U n (ej U n (ej U n j))) (nI (w + 1 + 1) + 1))) _
  rw [tx_tx, nI_1]
  rw [v3]
  refine am_wp_ok (inl := []) 7 2 63 [] _ _ _ _ _ ?_
  refine am_br_f (show ¬ ¬ (-1 : Int32) = -1 from fun z => z rfl) ?_
  exact And.intro rfl (And.intro rfl rfl)
theorem tp_bad3 (b : Bool) {ro : Nat → Option am_C} {c : Bool} {a : Nat → Nat → Int32} {l : Nat → Int64} {f : Nat → Nat → Int32} {n j w : Nat} {U : Nat → Nat} (hC : CT a f n U) (hj : j ≤ n) (h3 : f 1 3 = nI j) (h4 : f 1 4 = nI w) {k : Nat} (e : f (ob b + 8) 9 = nI k) (hk : k < 20) {x : Nat} (hx : x < 1000000) (v1 : nv (uj U n j) (lj U n j) 1000000 = nI x) {y : Nat} (hy : y < 1000000) (v2 : nv (uj U n (ej U n j)) (lj U n (ej U n j)) 10 = nI y) (v3 : nv (uj U n (ej U n (ej U n j))) (lj U n (ej U n (ej U n j))) 1000000 = -1) : am_run ro 3 63 [.ref (ob b), .ref 1] (wd c a l f) (some (.int (nI 0))) (wd c a l (tx f (sj U n (ej U n (ej U n j))) (ej U n (ej U n (ej U n j))) (nI (w + 1 + 1 + 1)))) := by
  cases b
  · exact tp_bad3_16 hC hj h3 h4 e hk hx v1 hy v2 v3
  · exact tp_bad3_38 hC hj h3 h4 e hk hx v1 hy v2 v3
set_option maxRecDepth 100000 in
set_option maxHeartbeats 4000000 in
theorem tp_bad4_16 {ro : Nat → Option am_C} {c : Bool} {a : Nat → Nat → Int32} {l : Nat → Int64} {f : Nat → Nat → Int32} {n j w : Nat} {U : Nat → Nat} (hC : CT a f n U) (hj : j ≤ n) (h3 : f 1 3 = nI j) (h4 : f 1 4 = nI w) {k : Nat} (e : f 24 9 = nI k) (hk : k < 20) {x : Nat} (hx : x < 1000000) (v1 : nv (uj U n j) (lj U n j) 1000000 = nI x) {y : Nat} (hy : y < 1000000) (v2 : nv (uj U n (ej U n j)) (lj U n (ej U n j)) 10 = nI y) {z : Nat} (hz : z < 1000000) (v3 : nv (uj U n (ej U n (ej U n j))) (lj U n (ej U n (ej U n j))) 1000000 = nI z) (v4 : nv (uj U n (ej U n (ej U n (ej U n j)))) (lj U n (ej U n (ej U n (ej U n j)))) 1000000 = -1) : am_run ro 3 63 [.ref 16, .ref 1] (wd c a l f) (some (.int (nI 0))) (wd c a l (tx f (sj U n (ej U n (ej U n (ej U n j)))) (ej U n (ej U n (ej U n (ej U n j)))) (nI (w + 1 + 1 + 1 + 1)))) := by
  have g0 : j ≤ n := hj
  have g1 : (ej U n j) ≤ n := (j_le (U := U) g0).2.2
  have g2 : (ej U n (ej U n j)) ≤ n := (j_le (U := U) g1).2.2
  have g3 : (ej U n (ej U n (ej U n j))) ≤ n := (j_le (U := U) g2).2.2
  refine am_run_of rfl (am_wp_ok (inl := []) 4 2 63 [7] 0 _ _ _ _ ?_)
  refine ⟨_, _, am_run_up (fu_87_16 (by omega) e) (by decide), ?_⟩
  show am_T ro 2 63 7 [.ref 16, .ref 1, am_un, am_un, am_un, am_un] [.int (nI (decide (20 ≤ k)).toNat)] (wd c a l f) _
  rw [decide_eq_false (show ¬ 20 ≤ k by omega)]
  refine am_wp_ok (inl := []) 2 2 63 [12] _ _ _ _ _ ?_
  refine am_br_t (show nI 0 = 0 from rfl) ?_
  show am_T ro 2 63 12 [.ref 16, .ref 1, am_un, am_un, am_un, am_un] [] (wd c a l f) _
  refine am_wp_ok (inl := []) 4 2 63 [18] _ _ _ _ _ ?_
  refine ⟨_, _, am_run_up (c_num (b := 1000000) (f := f) (by decide) hC g0 (h3) (h4)) (by decide), ?_⟩
  show am_T ro 2 63 18 [.ref 16, .ref 1, am_un, am_un, am_un, am_un] [.int (nv (uj U n j) (lj U n j) 1000000)] (wd c a l (tx f (sj U n j) (ej U n j) (nI (w) + 1))) _
  rw [nI_1]
  rw [v1]
  refine am_wp_ok (inl := []) 5 2 63 [26] _ _ _ _ _ ?_
  refine am_br_t (nI_n1 (by omega)) ?_
  show am_T ro 2 63 26 [.ref 16, .ref 1, .int (nI x), am_un, am_un, am_un] [] (wd c a l (tx f (sj U n j) (ej U n j) (nI (w + 1)))) _
  refine am_wp_ok (inl := []) 4 2 63 [32] _ _ _ _ _ ?_
  refine ⟨_, _, am_run_up (c_num (b := 10) (f := (tx f (sj U n j) (ej U n j) (nI (w + 1)))) (by decide) hC g1 (rfl) (rfl)) (by decide), ?_⟩
  show am_T ro 2 63 32 [.ref 16, .ref 1, .int (nI x), am_un, am_un, am_un] [.int (nv (uj U n (ej U n j)) (lj U n (ej U n j)) 10)] (wd c a l (tx (tx f (sj U n j) (ej U n j) (nI (w + 1))) (sj U n (ej U n j)) (ej U n (ej U n j)) (nI (w + 1) + 1))) _
  rw [tx_tx, nI_1]
  rw [v2]
  refine am_wp_ok (inl := []) 5 2 63 [40] _ _ _ _ _ ?_
  refine am_br_t (nI_n1 (by omega)) ?_
  show am_T ro 2 63 40 [.ref 16, .ref 1, .int (nI x), .int (nI y), am_un, am_un] [] (wd c a l (tx f (sj U n (ej U n j)) (ej U n (ej U n j)) (nI (w + 1 + 1)))) _
  refine am_wp_ok (inl := []) 4 2 63 [46] _ _ _ _ _ ?_
  refine ⟨_, _, am_run_up (c_num (b := 1000000) (f := (tx f (sj U n (ej U n j)) (ej U n (ej U n j)) (nI (w + 1 + 1)))) (by decide) hC g2 (rfl) (rfl)) (by decide), ?_⟩
  show am_T ro 2 63 46 [.ref 16, .ref 1, .int (nI x), .int (nI y), am_un, am_un] [.int (nv (uj U n (ej U n (ej U n j))) (lj U n (ej U n (ej U n j))) 1000000)] (wd c a l (tx (tx f (sj U n (ej U n j)) (ej U n (ej U n j)) (nI (w + 1 + 1))) (sj U n (ej U n (ej U n j))) (ej U n (ej U n (ej U n j))) (nI (w + 1 + 1) + 1))) _
  rw [tx_tx, nI_1]
  rw [v3]
  refine am_wp_ok (inl := []) 5 2 63 [56] _ _ _ _ _ ?_
  refine am_br_t (nI_n1 (by omega)) ?_
  show am_T ro 2 63 56 [.ref 16, .ref 1, .int (nI x), .int (nI y), .int (nI z), am_un] [] (wd c a l (tx f (sj U n (ej U n (ej U n j))) (ej U n (ej U n (ej U n j))) (nI (w + 1 + 1 + 1)))) _
  refine am_wp_ok (inl := []) 4 2 63 [62] _ _ _ _ _ ?_
  refine ⟨_, _, am_run_up (c_num (b := 1000000) (f := (tx f (sj U n (ej U n (ej U n j))) (ej U n (ej U n (ej U n j))) (nI (w + 1 + 1 + 1)))) (by decide) hC g3 (rfl) (rfl)) (by decide), ?_⟩
  show am_T ro 2 63 62 [.ref 16, .ref 1, .int (nI x), .int (nI y), .int (nI z), am_un] [.int (nv (uj U n (ej U n (ej U n (ej U n j)))) (lj U n (ej U n (ej U n (ej U n j)))) 1000000)] (wd c a l (tx (tx f (sj U n (ej U n (ej U n j))) (ej U n (ej U n (ej U n j))) (nI (w + 1 + 1 + 1))) (sj U n (ej U n (ej U n (ej U n j)))) (ej U n (ej U n (ej U n (ej U n j)))) (nI (w + 1 + 1 + 1) + 1))) _
  rw [tx_tx, nI_1]
  rw [v4]
  refine am_wp_ok (inl := []) 7 2 63 [] _ _ _ _ _ ?_
  refine am_br_f (show ¬ ¬ (-1 : Int32) = -1 from fun z => z rfl) ?_
  exact And.intro rfl (And.intro rfl rfl)
set_option maxRecDepth 100000 in
set_option maxHeartbeats 4000000 in
theorem tp_bad4_38 {ro : Nat → Option am_C} {c : Bool} {a : Nat → Nat → Int32} {l : Nat → Int64} {f : Nat → Nat → Int32} {n j w : Nat} {U : Nat → Nat} (hC : CT a f n U) (hj : j ≤ n) (h3 : f 1 3 = nI j) (h4 : f 1 4 = nI w) {k : Nat} (e : f 46 9 = nI k) (hk : k < 20) {x : Nat} (hx : x < 1000000) (v1 : nv (uj U n j) (lj U n j) 1000000 = nI x) {y : Nat} (hy : y < 1000000) (v2 : nv (uj U n (ej U n j)) (lj U n (ej U n j)) 10 = nI y) {z : Nat} (hz : z < 1000000) (v3 : nv (uj U n (ej U n (ej U n j))) (lj U n (ej U n (ej U n j))) 1000000 = nI z) (v4 : nv (uj U n (ej U n (ej U n (ej U n j)))) (lj U n (ej U n (ej U n (ej U n j)))) 1000000 = -1) : am_run ro 3 63 [.ref 38, .ref 1] (wd c a l f) (some (.int (nI 0))) (wd c a l (tx f (sj U n (ej U n (ej U n (ej U n j)))) (ej U n (ej U n (ej U n (ej U n j)))) (nI (w + 1 + 1 + 1 + 1)))) := by
  have g0 : j ≤ n := hj
  have g1 : (ej U n j) ≤ n := (j_le (U := U) g0).2.2
  have g2 : (ej U n (ej U n j)) ≤ n := (j_le (U := U) g1).2.2
  have g3 : (ej U n (ej U n (ej U n j))) ≤ n := (j_le (U := U) g2).2.2
  refine am_run_of rfl (am_wp_ok (inl := []) 4 2 63 [7] 0 _ _ _ _ ?_)
  refine ⟨_, _, am_run_up (fu_87_38 (by omega) e) (by decide), ?_⟩
  show am_T ro 2 63 7 [.ref 38, .ref 1, am_un, am_un, am_un, am_un] [.int (nI (decide (20 ≤ k)).toNat)] (wd c a l f) _
  rw [decide_eq_false (show ¬ 20 ≤ k by omega)]
  refine am_wp_ok (inl := []) 2 2 63 [12] _ _ _ _ _ ?_
  refine am_br_t (show nI 0 = 0 from rfl) ?_
  show am_T ro 2 63 12 [.ref 38, .ref 1, am_un, am_un, am_un, am_un] [] (wd c a l f) _
  refine am_wp_ok (inl := []) 4 2 63 [18] _ _ _ _ _ ?_
  refine ⟨_, _, am_run_up (c_num (b := 1000000) (f := f) (by decide) hC g0 (h3) (h4)) (by decide), ?_⟩
  show am_T ro 2 63 18 [.ref 38, .ref 1, am_un, am_un, am_un, am_un] [.int (nv (uj U n j) (lj U n j) 1000000)] (wd c a l (tx f (sj U n j) (ej U n j) (nI (w) + 1))) _
  rw [nI_1]
  rw [v1]
  refine am_wp_ok (inl := []) 5 2 63 [26] _ _ _ _ _ ?_
  refine am_br_t (nI_n1 (by omega)) ?_
  show am_T ro 2 63 26 [.ref 38, .ref 1, .int (nI x), am_un, am_un, am_un] [] (wd c a l (tx f (sj U n j) (ej U n j) (nI (w + 1)))) _
  refine am_wp_ok (inl := []) 4 2 63 [32] _ _ _ _ _ ?_
  refine ⟨_, _, am_run_up (c_num (b := 10) (f := (tx f (sj U n j) (ej U n j) (nI (w + 1)))) (by decide) hC g1 (rfl) (rfl)) (by decide), ?_⟩
  show am_T ro 2 63 32 [.ref 38, .ref 1, .int (nI x), am_un, am_un, am_un] [.int (nv (uj U n (ej U n j)) (lj U n (ej U n j)) 10)] (wd c a l (tx (tx f (sj U n j) (ej U n j) (nI (w + 1))) (sj U n (ej U n j)) (ej U n (ej U n j)) (nI (w + 1) + 1))) _
  rw [tx_tx, nI_1]
  rw [v2]
  refine am_wp_ok (inl := []) 5 2 63 [40] _ _ _ _ _ ?_
  refine am_br_t (nI_n1 (by omega)) ?_
  show am_T ro 2 63 40 [.ref 38, .ref 1, .int (nI x), .int (nI y), am_un, am_un] [] (wd c a l (tx f (sj U n (ej U n j)) (ej U n (ej U n j)) (nI (w + 1 + 1)))) _
  refine am_wp_ok (inl := []) 4 2 63 [46] _ _ _ _ _ ?_
  refine ⟨_, _, am_run_up (c_num (b := 1000000) (f := (tx f (sj U n (ej U n j)) (ej U n (ej U n j)) (nI (w + 1 + 1)))) (by decide) hC g2 (rfl) (rfl)) (by decide), ?_⟩
  show am_T ro 2 63 46 [.ref 38, .ref 1, .int (nI x), .int (nI y), am_un, am_un] [.int (nv (uj U n (ej U n (ej U n j))) (lj U n (ej U n (ej U n j))) 1000000)] (wd c a l (tx (tx f (sj U n (ej U n j)) (ej U n (ej U n j)) (nI (w + 1 + 1))) (sj U n (ej U n (ej U n j))) (ej U n (ej U n (ej U n j))) (nI (w + 1 + 1) + 1))) _
  rw [tx_tx, nI_1]
  rw [v3]
  refine am_wp_ok (inl := []) 5 2 63 [56] _ _ _ _ _ ?_
  refine am_br_t (nI_n1 (by omega)) ?_
  show am_T ro 2 63 56 [.ref 38, .ref 1, .int (nI x), .int (nI y), .int (nI z), am_un] [] (wd c a l (tx f (sj U n (ej U n (ej U n j))) (ej U n (ej U n (ej U n j))) (nI (w + 1 + 1 + 1)))) _
  refine am_wp_ok (inl := []) 4 2 63 [62] _ _ _ _ _ ?_
  refine ⟨_, _, am_run_up (c_num (b := 1000000) (f := (tx f (sj U n (ej U n (ej U n j))) (ej U n (ej U n (ej U n j))) (nI (w + 1 + 1 + 1)))) (by decide) hC g3 (rfl) (rfl)) (by decide), ?_⟩
  show am_T ro 2 63 62 [.ref 38, .ref 1, .int (nI x), .int (nI y), .int (nI z), am_un] [.int (nv (uj U n (ej U n (ej U n (ej U n j)))) (lj U n (ej U n (ej U n (ej U n j)))) 1000000)] (wd c a l (tx (tx f (sj U n (ej U n (ej U n j))) (ej U n (ej U n (ej U n j))) (nI (w + 1 + 1 + 1))) (sj U n (ej U n (ej U n (ej U n j)))) (ej U n (ej U n (ej U n (ej U n j)))) (nI (w + 1 + 1 + 1) + 1))) _
  rw [tx_tx, nI_1]
  rw [v4]
  refine am_wp_ok (inl := []) 7 2 63 [] _ _ _ _ _ ?_
  refine am_br_f (show ¬ ¬ (-1 : Int32) = -1 from fun z => z rfl) ?_
  exact And.intro rfl (And.intro rfl rfl)
theorem tp_bad4 (b : Bool) {ro : Nat → Option am_C} {c : Bool} {a : Nat → Nat → Int32} {l : Nat → Int64} {f : Nat → Nat → Int32} {n j w : Nat} {U : Nat → Nat} (hC : CT a f n U) (hj : j ≤ n) (h3 : f 1 3 = nI j) (h4 : f 1 4 = nI w) {k : Nat} (e : f (ob b + 8) 9 = nI k) (hk : k < 20) {x : Nat} (hx : x < 1000000) (v1 : nv (uj U n j) (lj U n j) 1000000 = nI x) {y : Nat} (hy : y < 1000000) (v2 : nv (uj U n (ej U n j)) (lj U n (ej U n j)) 10 = nI y) {z : Nat} (hz : z < 1000000) (v3 : nv (uj U n (ej U n (ej U n j))) (lj U n (ej U n (ej U n j))) 1000000 = nI z) (v4 : nv (uj U n (ej U n (ej U n (ej U n j)))) (lj U n (ej U n (ej U n (ej U n j)))) 1000000 = -1) : am_run ro 3 63 [.ref (ob b), .ref 1] (wd c a l f) (some (.int (nI 0))) (wd c a l (tx f (sj U n (ej U n (ej U n (ej U n j)))) (ej U n (ej U n (ej U n (ej U n j)))) (nI (w + 1 + 1 + 1 + 1)))) := by
  cases b
  · exact tp_bad4_16 hC hj h3 h4 e hk hx v1 hy v2 hz v3 v4
  · exact tp_bad4_38 hC hj h3 h4 e hk hx v1 hy v2 hz v3 v4
set_option maxRecDepth 100000 in
set_option maxHeartbeats 4000000 in
theorem tp_ok_16 {ro : Nat → Option am_C} {c : Bool} {a : Nat → Nat → Int32} {l : Nat → Int64} {f : Nat → Nat → Int32} {n j w : Nat} {U : Nat → Nat} (hC : CT a f n U) (hj : j ≤ n) (h3 : f 1 3 = nI j) (h4 : f 1 4 = nI w) {k : Nat} (e : f 24 9 = nI k) (hk : k < 20) {x : Nat} (hx : x < 1000000) (v1 : nv (uj U n j) (lj U n j) 1000000 = nI x) {y : Nat} (hy : y < 1000000) (v2 : nv (uj U n (ej U n j)) (lj U n (ej U n j)) 10 = nI y) {z : Nat} (hz : z < 1000000) (v3 : nv (uj U n (ej U n (ej U n j))) (lj U n (ej U n (ej U n j))) 1000000 = nI z) {v : Nat} (hv : v < 1000000) (v4 : nv (uj U n (ej U n (ej U n (ej U n j)))) (lj U n (ej U n (ej U n (ej U n j)))) 1000000 = nI v) : am_run ro 3 63 [.ref 16, .ref 1] (wd c a l f) (some (.int (nI 1))) (wd c (u2 (u2 (u2 (u2 a 28 (upd (a 28) k (nI x))) 29 (upd (a 29) k (nI y))) 30 (upd (a 30) k (nI z))) 31 (upd (a 31) k (nI v))) l (tx (u3 f 24 9 (nI (k + 1))) (sj U n (ej U n (ej U n (ej U n (ej U n j))))) (ej U n (ej U n (ej U n (ej U n (ej U n j))))) (nI (w + 1 + 1 + 1 + 1 + 1)))) := by
  have g0 : j ≤ n := hj
  have g1 : (ej U n j) ≤ n := (j_le (U := U) g0).2.2
  have g2 : (ej U n (ej U n j)) ≤ n := (j_le (U := U) g1).2.2
  have g3 : (ej U n (ej U n (ej U n j))) ≤ n := (j_le (U := U) g2).2.2
  have g4 : (ej U n (ej U n (ej U n (ej U n j)))) ≤ n := (j_le (U := U) g3).2.2
  refine am_run_of rfl (am_wp_ok (inl := []) 4 2 63 [7] 0 _ _ _ _ ?_)
  refine ⟨_, _, am_run_up (fu_87_16 (by omega) e) (by decide), ?_⟩
  show am_T ro 2 63 7 [.ref 16, .ref 1, am_un, am_un, am_un, am_un] [.int (nI (decide (20 ≤ k)).toNat)] (wd c a l f) _
  rw [decide_eq_false (show ¬ 20 ≤ k by omega)]
  refine am_wp_ok (inl := []) 2 2 63 [12] _ _ _ _ _ ?_
  refine am_br_t (show nI 0 = 0 from rfl) ?_
  show am_T ro 2 63 12 [.ref 16, .ref 1, am_un, am_un, am_un, am_un] [] (wd c a l f) _
  refine am_wp_ok (inl := []) 4 2 63 [18] _ _ _ _ _ ?_
  refine ⟨_, _, am_run_up (c_num (b := 1000000) (f := f) (by decide) hC g0 (h3) (h4)) (by decide), ?_⟩
  show am_T ro 2 63 18 [.ref 16, .ref 1, am_un, am_un, am_un, am_un] [.int (nv (uj U n j) (lj U n j) 1000000)] (wd c a l (tx f (sj U n j) (ej U n j) (nI (w) + 1))) _
  rw [nI_1]
  rw [v1]
  refine am_wp_ok (inl := []) 5 2 63 [26] _ _ _ _ _ ?_
  refine am_br_t (nI_n1 (by omega)) ?_
  show am_T ro 2 63 26 [.ref 16, .ref 1, .int (nI x), am_un, am_un, am_un] [] (wd c a l (tx f (sj U n j) (ej U n j) (nI (w + 1)))) _
  refine am_wp_ok (inl := []) 4 2 63 [32] _ _ _ _ _ ?_
  refine ⟨_, _, am_run_up (c_num (b := 10) (f := (tx f (sj U n j) (ej U n j) (nI (w + 1)))) (by decide) hC g1 (rfl) (rfl)) (by decide), ?_⟩
  show am_T ro 2 63 32 [.ref 16, .ref 1, .int (nI x), am_un, am_un, am_un] [.int (nv (uj U n (ej U n j)) (lj U n (ej U n j)) 10)] (wd c a l (tx (tx f (sj U n j) (ej U n j) (nI (w + 1))) (sj U n (ej U n j)) (ej U n (ej U n j)) (nI (w + 1) + 1))) _
  rw [tx_tx, nI_1]
  rw [v2]
  refine am_wp_ok (inl := []) 5 2 63 [40] _ _ _ _ _ ?_
  refine am_br_t (nI_n1 (by omega)) ?_
  show am_T ro 2 63 40 [.ref 16, .ref 1, .int (nI x), .int (nI y), am_un, am_un] [] (wd c a l (tx f (sj U n (ej U n j)) (ej U n (ej U n j)) (nI (w + 1 + 1)))) _
  refine am_wp_ok (inl := []) 4 2 63 [46] _ _ _ _ _ ?_
  refine ⟨_, _, am_run_up (c_num (b := 1000000) (f := (tx f (sj U n (ej U n j)) (ej U n (ej U n j)) (nI (w + 1 + 1)))) (by decide) hC g2 (rfl) (rfl)) (by decide), ?_⟩
  show am_T ro 2 63 46 [.ref 16, .ref 1, .int (nI x), .int (nI y), am_un, am_un] [.int (nv (uj U n (ej U n (ej U n j))) (lj U n (ej U n (ej U n j))) 1000000)] (wd c a l (tx (tx f (sj U n (ej U n j)) (ej U n (ej U n j)) (nI (w + 1 + 1))) (sj U n (ej U n (ej U n j))) (ej U n (ej U n (ej U n j))) (nI (w + 1 + 1) + 1))) _
  rw [tx_tx, nI_1]
  rw [v3]
  refine am_wp_ok (inl := []) 5 2 63 [56] _ _ _ _ _ ?_
  refine am_br_t (nI_n1 (by omega)) ?_
  show am_T ro 2 63 56 [.ref 16, .ref 1, .int (nI x), .int (nI y), .int (nI z), am_un] [] (wd c a l (tx f (sj U n (ej U n (ej U n j))) (ej U n (ej U n (ej U n j))) (nI (w + 1 + 1 + 1)))) _
  refine am_wp_ok (inl := []) 4 2 63 [62] _ _ _ _ _ ?_
  refine ⟨_, _, am_run_up (c_num (b := 1000000) (f := (tx f (sj U n (ej U n (ej U n j))) (ej U n (ej U n (ej U n j))) (nI (w + 1 + 1 + 1)))) (by decide) hC g3 (rfl) (rfl)) (by decide), ?_⟩
  show am_T ro 2 63 62 [.ref 16, .ref 1, .int (nI x), .int (nI y), .int (nI z), am_un] [.int (nv (uj U n (ej U n (ej U n (ej U n j)))) (lj U n (ej U n (ej U n (ej U n j)))) 1000000)] (wd c a l (tx (tx f (sj U n (ej U n (ej U n j))) (ej U n (ej U n (ej U n j))) (nI (w + 1 + 1 + 1))) (sj U n (ej U n (ej U n (ej U n j)))) (ej U n (ej U n (ej U n (ej U n j)))) (nI (w + 1 + 1 + 1) + 1))) _
  rw [tx_tx, nI_1]
  rw [v4]
  refine am_wp_ok (inl := []) 5 2 63 [72] _ _ _ _ _ ?_
  refine am_br_t (nI_n1 (by omega)) ?_
  show am_T ro 2 63 72 [.ref 16, .ref 1, .int (nI x), .int (nI y), .int (nI z), .int (nI v)] [] (wd c a l (tx f (sj U n (ej U n (ej U n (ej U n j)))) (ej U n (ej U n (ej U n (ej U n j)))) (nI (w + 1 + 1 + 1 + 1)))) _
  refine am_wp_ok (inl := []) 8 2 63 [85] _ _ _ _ _ ?_
  refine ⟨_, _, ad_map_16 (f := (tx f (sj U n (ej U n (ej U n (ej U n j)))) (ej U n (ej U n (ej U n (ej U n j)))) (nI (w + 1 + 1 + 1 + 1)))) hk e, ?_⟩
  show am_T ro 2 63 85 [.ref 16, .ref 1, .int (nI x), .int (nI y), .int (nI z), .int (nI v)] [] (wd c (u2 (u2 (u2 (u2 a 28 (upd (a 28) k (nI x))) 29 (upd (a 29) k (nI y))) 30 (upd (a 30) k (nI z))) 31 (upd (a 31) k (nI v))) l (u3 (tx f (sj U n (ej U n (ej U n (ej U n j)))) (ej U n (ej U n (ej U n (ej U n j)))) (nI (w + 1 + 1 + 1 + 1))) 24 9 (nI (k + 1)))) _
  rw [tx_u3 rfl]
  refine am_wp_ok (inl := []) 3 2 63 [89] _ _ _ _ _ ?_
  refine ⟨_, _, am_run_up (c_next (f := (tx (u3 f 24 9 (nI (k + 1))) (sj U n (ej U n (ej U n (ej U n j)))) (ej U n (ej U n (ej U n (ej U n j)))) (nI (w + 1 + 1 + 1 + 1)))) hC g4 (rfl) (rfl)) (by decide), ?_⟩
  show am_T ro 2 63 89 [.ref 16, .ref 1, .int (nI x), .int (nI y), .int (nI z), .int (nI v)] [] (wd c (u2 (u2 (u2 (u2 a 28 (upd (a 28) k (nI x))) 29 (upd (a 29) k (nI y))) 30 (upd (a 30) k (nI z))) 31 (upd (a 31) k (nI v))) l (tx (tx (u3 f 24 9 (nI (k + 1))) (sj U n (ej U n (ej U n (ej U n j)))) (ej U n (ej U n (ej U n (ej U n j)))) (nI (w + 1 + 1 + 1 + 1))) (sj U n (ej U n (ej U n (ej U n (ej U n j))))) (ej U n (ej U n (ej U n (ej U n (ej U n j))))) (nI (w + 1 + 1 + 1 + 1) + 1))) _
  rw [tx_tx, nI_1]
  refine am_wp_ok (inl := []) 3 2 63 [] _ _ _ _ _ ?_
  exact And.intro rfl (And.intro rfl rfl)
set_option maxRecDepth 100000 in
set_option maxHeartbeats 4000000 in
theorem tp_ok_38 {ro : Nat → Option am_C} {c : Bool} {a : Nat → Nat → Int32} {l : Nat → Int64} {f : Nat → Nat → Int32} {n j w : Nat} {U : Nat → Nat} (hC : CT a f n U) (hj : j ≤ n) (h3 : f 1 3 = nI j) (h4 : f 1 4 = nI w) {k : Nat} (e : f 46 9 = nI k) (hk : k < 20) {x : Nat} (hx : x < 1000000) (v1 : nv (uj U n j) (lj U n j) 1000000 = nI x) {y : Nat} (hy : y < 1000000) (v2 : nv (uj U n (ej U n j)) (lj U n (ej U n j)) 10 = nI y) {z : Nat} (hz : z < 1000000) (v3 : nv (uj U n (ej U n (ej U n j))) (lj U n (ej U n (ej U n j))) 1000000 = nI z) {v : Nat} (hv : v < 1000000) (v4 : nv (uj U n (ej U n (ej U n (ej U n j)))) (lj U n (ej U n (ej U n (ej U n j)))) 1000000 = nI v) : am_run ro 3 63 [.ref 38, .ref 1] (wd c a l f) (some (.int (nI 1))) (wd c (u2 (u2 (u2 (u2 a 50 (upd (a 50) k (nI x))) 51 (upd (a 51) k (nI y))) 52 (upd (a 52) k (nI z))) 53 (upd (a 53) k (nI v))) l (tx (u3 f 46 9 (nI (k + 1))) (sj U n (ej U n (ej U n (ej U n (ej U n j))))) (ej U n (ej U n (ej U n (ej U n (ej U n j))))) (nI (w + 1 + 1 + 1 + 1 + 1)))) := by
  have g0 : j ≤ n := hj
  have g1 : (ej U n j) ≤ n := (j_le (U := U) g0).2.2
  have g2 : (ej U n (ej U n j)) ≤ n := (j_le (U := U) g1).2.2
  have g3 : (ej U n (ej U n (ej U n j))) ≤ n := (j_le (U := U) g2).2.2
  have g4 : (ej U n (ej U n (ej U n (ej U n j)))) ≤ n := (j_le (U := U) g3).2.2
  refine am_run_of rfl (am_wp_ok (inl := []) 4 2 63 [7] 0 _ _ _ _ ?_)
  refine ⟨_, _, am_run_up (fu_87_38 (by omega) e) (by decide), ?_⟩
  show am_T ro 2 63 7 [.ref 38, .ref 1, am_un, am_un, am_un, am_un] [.int (nI (decide (20 ≤ k)).toNat)] (wd c a l f) _
  rw [decide_eq_false (show ¬ 20 ≤ k by omega)]
  refine am_wp_ok (inl := []) 2 2 63 [12] _ _ _ _ _ ?_
  refine am_br_t (show nI 0 = 0 from rfl) ?_
  show am_T ro 2 63 12 [.ref 38, .ref 1, am_un, am_un, am_un, am_un] [] (wd c a l f) _
  refine am_wp_ok (inl := []) 4 2 63 [18] _ _ _ _ _ ?_
  refine ⟨_, _, am_run_up (c_num (b := 1000000) (f := f) (by decide) hC g0 (h3) (h4)) (by decide), ?_⟩
  show am_T ro 2 63 18 [.ref 38, .ref 1, am_un, am_un, am_un, am_un] [.int (nv (uj U n j) (lj U n j) 1000000)] (wd c a l (tx f (sj U n j) (ej U n j) (nI (w) + 1))) _
  rw [nI_1]
  rw [v1]
  refine am_wp_ok (inl := []) 5 2 63 [26] _ _ _ _ _ ?_
  refine am_br_t (nI_n1 (by omega)) ?_
  show am_T ro 2 63 26 [.ref 38, .ref 1, .int (nI x), am_un, am_un, am_un] [] (wd c a l (tx f (sj U n j) (ej U n j) (nI (w + 1)))) _
  refine am_wp_ok (inl := []) 4 2 63 [32] _ _ _ _ _ ?_
  refine ⟨_, _, am_run_up (c_num (b := 10) (f := (tx f (sj U n j) (ej U n j) (nI (w + 1)))) (by decide) hC g1 (rfl) (rfl)) (by decide), ?_⟩
  show am_T ro 2 63 32 [.ref 38, .ref 1, .int (nI x), am_un, am_un, am_un] [.int (nv (uj U n (ej U n j)) (lj U n (ej U n j)) 10)] (wd c a l (tx (tx f (sj U n j) (ej U n j) (nI (w + 1))) (sj U n (ej U n j)) (ej U n (ej U n j)) (nI (w + 1) + 1))) _
  rw [tx_tx, nI_1]
  rw [v2]
  refine am_wp_ok (inl := []) 5 2 63 [40] _ _ _ _ _ ?_
  refine am_br_t (nI_n1 (by omega)) ?_
  show am_T ro 2 63 40 [.ref 38, .ref 1, .int (nI x), .int (nI y), am_un, am_un] [] (wd c a l (tx f (sj U n (ej U n j)) (ej U n (ej U n j)) (nI (w + 1 + 1)))) _
  refine am_wp_ok (inl := []) 4 2 63 [46] _ _ _ _ _ ?_
  refine ⟨_, _, am_run_up (c_num (b := 1000000) (f := (tx f (sj U n (ej U n j)) (ej U n (ej U n j)) (nI (w + 1 + 1)))) (by decide) hC g2 (rfl) (rfl)) (by decide), ?_⟩
  show am_T ro 2 63 46 [.ref 38, .ref 1, .int (nI x), .int (nI y), am_un, am_un] [.int (nv (uj U n (ej U n (ej U n j))) (lj U n (ej U n (ej U n j))) 1000000)] (wd c a l (tx (tx f (sj U n (ej U n j)) (ej U n (ej U n j)) (nI (w + 1 + 1))) (sj U n (ej U n (ej U n j))) (ej U n (ej U n (ej U n j))) (nI (w + 1 + 1) + 1))) _
  rw [tx_tx, nI_1]
  rw [v3]
  refine am_wp_ok (inl := []) 5 2 63 [56] _ _ _ _ _ ?_
  refine am_br_t (nI_n1 (by omega)) ?_
  show am_T ro 2 63 56 [.ref 38, .ref 1, .int (nI x), .int (nI y), .int (nI z), am_un] [] (wd c a l (tx f (sj U n (ej U n (ej U n j))) (ej U n (ej U n (ej U n j))) (nI (w + 1 + 1 + 1)))) _
  refine am_wp_ok (inl := []) 4 2 63 [62] _ _ _ _ _ ?_
  refine ⟨_, _, am_run_up (c_num (b := 1000000) (f := (tx f (sj U n (ej U n (ej U n j))) (ej U n (ej U n (ej U n j))) (nI (w + 1 + 1 + 1)))) (by decide) hC g3 (rfl) (rfl)) (by decide), ?_⟩
  show am_T ro 2 63 62 [.ref 38, .ref 1, .int (nI x), .int (nI y), .int (nI z), am_un] [.int (nv (uj U n (ej U n (ej U n (ej U n j)))) (lj U n (ej U n (ej U n (ej U n j)))) 1000000)] (wd c a l (tx (tx f (sj U n (ej U n (ej U n j))) (ej U n (ej U n (ej U n j))) (nI (w + 1 + 1 + 1))) (sj U n (ej U n (ej U n (ej U n j)))) (ej U n (ej U n (ej U n (ej U n j)))) (nI (w + 1 + 1 + 1) + 1))) _
  rw [tx_tx, nI_1]
  rw [v4]
  refine am_wp_ok (inl := []) 5 2 63 [72] _ _ _ _ _ ?_
  refine am_br_t (nI_n1 (by omega)) ?_
  show am_T ro 2 63 72 [.ref 38, .ref 1, .int (nI x), .int (nI y), .int (nI z), .int (nI v)] [] (wd c a l (tx f (sj U n (ej U n (ej U n (ej U n j)))) (ej U n (ej U n (ej U n (ej U n j)))) (nI (w + 1 + 1 + 1 + 1)))) _
  refine am_wp_ok (inl := []) 8 2 63 [85] _ _ _ _ _ ?_
  refine ⟨_, _, ad_map_38 (f := (tx f (sj U n (ej U n (ej U n (ej U n j)))) (ej U n (ej U n (ej U n (ej U n j)))) (nI (w + 1 + 1 + 1 + 1)))) hk e, ?_⟩
  show am_T ro 2 63 85 [.ref 38, .ref 1, .int (nI x), .int (nI y), .int (nI z), .int (nI v)] [] (wd c (u2 (u2 (u2 (u2 a 50 (upd (a 50) k (nI x))) 51 (upd (a 51) k (nI y))) 52 (upd (a 52) k (nI z))) 53 (upd (a 53) k (nI v))) l (u3 (tx f (sj U n (ej U n (ej U n (ej U n j)))) (ej U n (ej U n (ej U n (ej U n j)))) (nI (w + 1 + 1 + 1 + 1))) 46 9 (nI (k + 1)))) _
  rw [tx_u3 rfl]
  refine am_wp_ok (inl := []) 3 2 63 [89] _ _ _ _ _ ?_
  refine ⟨_, _, am_run_up (c_next (f := (tx (u3 f 46 9 (nI (k + 1))) (sj U n (ej U n (ej U n (ej U n j)))) (ej U n (ej U n (ej U n (ej U n j)))) (nI (w + 1 + 1 + 1 + 1)))) hC g4 (rfl) (rfl)) (by decide), ?_⟩
  show am_T ro 2 63 89 [.ref 38, .ref 1, .int (nI x), .int (nI y), .int (nI z), .int (nI v)] [] (wd c (u2 (u2 (u2 (u2 a 50 (upd (a 50) k (nI x))) 51 (upd (a 51) k (nI y))) 52 (upd (a 52) k (nI z))) 53 (upd (a 53) k (nI v))) l (tx (tx (u3 f 46 9 (nI (k + 1))) (sj U n (ej U n (ej U n (ej U n j)))) (ej U n (ej U n (ej U n (ej U n j)))) (nI (w + 1 + 1 + 1 + 1))) (sj U n (ej U n (ej U n (ej U n (ej U n j))))) (ej U n (ej U n (ej U n (ej U n (ej U n j))))) (nI (w + 1 + 1 + 1 + 1) + 1))) _
  rw [tx_tx, nI_1]
  refine am_wp_ok (inl := []) 3 2 63 [] _ _ _ _ _ ?_
  exact And.intro rfl (And.intro rfl rfl)
theorem tp_ok (b : Bool) {ro : Nat → Option am_C} {c : Bool} {a : Nat → Nat → Int32} {l : Nat → Int64} {f : Nat → Nat → Int32} {n j w : Nat} {U : Nat → Nat} (hC : CT a f n U) (hj : j ≤ n) (h3 : f 1 3 = nI j) (h4 : f 1 4 = nI w) {k : Nat} (e : f (ob b + 8) 9 = nI k) (hk : k < 20) {x : Nat} (hx : x < 1000000) (v1 : nv (uj U n j) (lj U n j) 1000000 = nI x) {y : Nat} (hy : y < 1000000) (v2 : nv (uj U n (ej U n j)) (lj U n (ej U n j)) 10 = nI y) {z : Nat} (hz : z < 1000000) (v3 : nv (uj U n (ej U n (ej U n j))) (lj U n (ej U n (ej U n j))) 1000000 = nI z) {v : Nat} (hv : v < 1000000) (v4 : nv (uj U n (ej U n (ej U n (ej U n j)))) (lj U n (ej U n (ej U n (ej U n j)))) 1000000 = nI v) : am_run ro 3 63 [.ref (ob b), .ref 1] (wd c a l f) (some (.int (nI 1))) (wd c (u2 (u2 (u2 (u2 a (ob b + 12) (upd (a (ob b + 12)) k (nI x))) (ob b + 13) (upd (a (ob b + 13)) k (nI y))) (ob b + 14) (upd (a (ob b + 14)) k (nI z))) (ob b + 15) (upd (a (ob b + 15)) k (nI v))) l (tx (u3 f (ob b + 8) 9 (nI (k + 1))) (sj U n (ej U n (ej U n (ej U n (ej U n j))))) (ej U n (ej U n (ej U n (ej U n (ej U n j))))) (nI (w + 1 + 1 + 1 + 1 + 1)))) := by
  cases b
  · exact tp_ok_16 hC hj h3 h4 e hk hx v1 hy v2 hz v3 hv v4
  · exact tp_ok_38 hC hj h3 h4 e hk hx v1 hy v2 hz v3 hv v4
set_option maxRecDepth 100000 in
set_option maxHeartbeats 4000000 in
theorem tn_full_16 {ro : Nat → Option am_C} {c : Bool} {a : Nat → Nat → Int32} {l : Nat → Int64} {f : Nat → Nat → Int32} {n j w : Nat} {U : Nat → Nat} (hC : CT a f n U) (hj : j ≤ n) (h3 : f 1 3 = nI j) (h4 : f 1 4 = nI w) {k : Nat} (e : f 32 5 = nI k) (hk2 : k < 2 ^ 31) (hk : 20 ≤ k) : am_run ro 4 64 [.ref 16, .ref 1] (wd c a l f) (some (.int (nI 0))) (wd c a l f) := by
  have g0 : j ≤ n := hj
  refine am_run_of rfl (am_wp_ok (inl := []) 4 3 64 [7] 0 _ _ _ _ ?_)
  refine ⟨_, _, am_run_up (fu_93_16 (by omega) e) (by decide), ?_⟩
  show am_T ro 3 64 7 [.ref 16, .ref 1, am_un] [.int (nI (decide (20 ≤ k)).toNat)] (wd c a l f) _
  rw [decide_eq_true hk]
  refine am_wp_ok (inl := []) 4 3 64 [] _ _ _ _ _ ?_
  refine am_br_f (show ¬ nI 1 = 0 by decide) ?_
  exact And.intro rfl (And.intro rfl rfl)
set_option maxRecDepth 100000 in
set_option maxHeartbeats 4000000 in
theorem tn_full_38 {ro : Nat → Option am_C} {c : Bool} {a : Nat → Nat → Int32} {l : Nat → Int64} {f : Nat → Nat → Int32} {n j w : Nat} {U : Nat → Nat} (hC : CT a f n U) (hj : j ≤ n) (h3 : f 1 3 = nI j) (h4 : f 1 4 = nI w) {k : Nat} (e : f 54 5 = nI k) (hk2 : k < 2 ^ 31) (hk : 20 ≤ k) : am_run ro 4 64 [.ref 38, .ref 1] (wd c a l f) (some (.int (nI 0))) (wd c a l f) := by
  have g0 : j ≤ n := hj
  refine am_run_of rfl (am_wp_ok (inl := []) 4 3 64 [7] 0 _ _ _ _ ?_)
  refine ⟨_, _, am_run_up (fu_93_38 (by omega) e) (by decide), ?_⟩
  show am_T ro 3 64 7 [.ref 38, .ref 1, am_un] [.int (nI (decide (20 ≤ k)).toNat)] (wd c a l f) _
  rw [decide_eq_true hk]
  refine am_wp_ok (inl := []) 4 3 64 [] _ _ _ _ _ ?_
  refine am_br_f (show ¬ nI 1 = 0 by decide) ?_
  exact And.intro rfl (And.intro rfl rfl)
theorem tn_full (b : Bool) {ro : Nat → Option am_C} {c : Bool} {a : Nat → Nat → Int32} {l : Nat → Int64} {f : Nat → Nat → Int32} {n j w : Nat} {U : Nat → Nat} (hC : CT a f n U) (hj : j ≤ n) (h3 : f 1 3 = nI j) (h4 : f 1 4 = nI w) {k : Nat} (e : f (ob b + 16) 5 = nI k) (hk2 : k < 2 ^ 31) (hk : 20 ≤ k) : am_run ro 4 64 [.ref (ob b), .ref 1] (wd c a l f) (some (.int (nI 0))) (wd c a l f) := by
  cases b
  · exact tn_full_16 hC hj h3 h4 e hk2 hk
  · exact tn_full_38 hC hj h3 h4 e hk2 hk
set_option maxRecDepth 100000 in
set_option maxHeartbeats 4000000 in
theorem tn_bad_16 {ro : Nat → Option am_C} {c : Bool} {a : Nat → Nat → Int32} {l : Nat → Int64} {f : Nat → Nat → Int32} {n j w : Nat} {U : Nat → Nat} (hC : CT a f n U) (hj : j ≤ n) (h3 : f 1 3 = nI j) (h4 : f 1 4 = nI w) {k : Nat} (e : f 32 5 = nI k) (hk : k < 20) (v1 : nv (uj U n j) (lj U n j) 1000000 = -1) : am_run ro 4 64 [.ref 16, .ref 1] (wd c a l f) (some (.int (nI 0))) (wd c a l (tx f (sj U n j) (ej U n j) (nI (w + 1)))) := by
  have g0 : j ≤ n := hj
  refine am_run_of rfl (am_wp_ok (inl := []) 4 3 64 [7] 0 _ _ _ _ ?_)
  refine ⟨_, _, am_run_up (fu_93_16 (by omega) e) (by decide), ?_⟩
  show am_T ro 3 64 7 [.ref 16, .ref 1, am_un] [.int (nI (decide (20 ≤ k)).toNat)] (wd c a l f) _
  rw [decide_eq_false (show ¬ 20 ≤ k by omega)]
  refine am_wp_ok (inl := []) 2 3 64 [12] _ _ _ _ _ ?_
  refine am_br_t (show nI 0 = 0 from rfl) ?_
  show am_T ro 3 64 12 [.ref 16, .ref 1, am_un] [] (wd c a l f) _
  refine am_wp_ok (inl := []) 4 3 64 [18] _ _ _ _ _ ?_
  refine ⟨_, _, am_run_up (c_num (b := 1000000) (f := f) (by decide) hC g0 (h3) (h4)) (by decide), ?_⟩
  show am_T ro 3 64 18 [.ref 16, .ref 1, am_un] [.int (nv (uj U n j) (lj U n j) 1000000)] (wd c a l (tx f (sj U n j) (ej U n j) (nI (w) + 1))) _
  rw [nI_1]
  rw [v1]
  refine am_wp_ok (inl := []) 7 3 64 [] _ _ _ _ _ ?_
  refine am_br_f (show ¬ ¬ (-1 : Int32) = -1 from fun z => z rfl) ?_
  exact And.intro rfl (And.intro rfl rfl)
set_option maxRecDepth 100000 in
set_option maxHeartbeats 4000000 in
theorem tn_bad_38 {ro : Nat → Option am_C} {c : Bool} {a : Nat → Nat → Int32} {l : Nat → Int64} {f : Nat → Nat → Int32} {n j w : Nat} {U : Nat → Nat} (hC : CT a f n U) (hj : j ≤ n) (h3 : f 1 3 = nI j) (h4 : f 1 4 = nI w) {k : Nat} (e : f 54 5 = nI k) (hk : k < 20) (v1 : nv (uj U n j) (lj U n j) 1000000 = -1) : am_run ro 4 64 [.ref 38, .ref 1] (wd c a l f) (some (.int (nI 0))) (wd c a l (tx f (sj U n j) (ej U n j) (nI (w + 1)))) := by
  have g0 : j ≤ n := hj
  refine am_run_of rfl (am_wp_ok (inl := []) 4 3 64 [7] 0 _ _ _ _ ?_)
  refine ⟨_, _, am_run_up (fu_93_38 (by omega) e) (by decide), ?_⟩
  show am_T ro 3 64 7 [.ref 38, .ref 1, am_un] [.int (nI (decide (20 ≤ k)).toNat)] (wd c a l f) _
  rw [decide_eq_false (show ¬ 20 ≤ k by omega)]
  refine am_wp_ok (inl := []) 2 3 64 [12] _ _ _ _ _ ?_
  refine am_br_t (show nI 0 = 0 from rfl) ?_
  show am_T ro 3 64 12 [.ref 38, .ref 1, am_un] [] (wd c a l f) _
  refine am_wp_ok (inl := []) 4 3 64 [18] _ _ _ _ _ ?_
  refine ⟨_, _, am_run_up (c_num (b := 1000000) (f := f) (by decide) hC g0 (h3) (h4)) (by decide), ?_⟩
  show am_T ro 3 64 18 [.ref 38, .ref 1, am_un] [.int (nv (uj U n j) (lj U n j) 1000000)] (wd c a l (tx f (sj U n j) (ej U n j) (nI (w) + 1))) _
  rw [nI_1]
  rw [v1]
  refine am_wp_ok (inl := []) 7 3 64 [] _ _ _ _ _ ?_
  refine am_br_f (show ¬ ¬ (-1 : Int32) = -1 from fun z => z rfl) ?_
  exact And.intro rfl (And.intro rfl rfl)
theorem tn_bad (b : Bool) {ro : Nat → Option am_C} {c : Bool} {a : Nat → Nat → Int32} {l : Nat → Int64} {f : Nat → Nat → Int32} {n j w : Nat} {U : Nat → Nat} (hC : CT a f n U) (hj : j ≤ n) (h3 : f 1 3 = nI j) (h4 : f 1 4 = nI w) {k : Nat} (e : f (ob b + 16) 5 = nI k) (hk : k < 20) (v1 : nv (uj U n j) (lj U n j) 1000000 = -1) : am_run ro 4 64 [.ref (ob b), .ref 1] (wd c a l f) (some (.int (nI 0))) (wd c a l (tx f (sj U n j) (ej U n j) (nI (w + 1)))) := by
  cases b
  · exact tn_bad_16 hC hj h3 h4 e hk v1
  · exact tn_bad_38 hC hj h3 h4 e hk v1
set_option maxRecDepth 100000 in
set_option maxHeartbeats 4000000 in
theorem tn_nam_16 {ro : Nat → Option am_C} {c : Bool} {a : Nat → Nat → Int32} {l : Nat → Int64} {f : Nat → Nat → Int32} {n j w : Nat} {U : Nat → Nat} (hC : CT a f n U) (hj : j ≤ n) (h3 : f 1 3 = nI j) (h4 : f 1 4 = nI w) {k : Nat} (e : f 32 5 = nI k) {x : Nat} (hk : k < 20) (hx : x < 1000000) (v1 : nv (uj U n j) (lj U n j) 1000000 = nI x) (hm : nm (uj U n (ej U n j)) (lj U n (ej U n j)) = false) : am_run ro 4 64 [.ref 16, .ref 1] (wd c a l f) (some (.int (nI 0))) (wd c a l (tx f (sj U n (ej U n j)) (ej U n (ej U n j)) (nI (w + 1 + 1)))) := by
  have g0 : j ≤ n := hj
  have g1 : (ej U n j) ≤ n := (j_le (U := U) g0).2.2
  refine am_run_of rfl (am_wp_ok (inl := []) 4 3 64 [7] 0 _ _ _ _ ?_)
  refine ⟨_, _, am_run_up (fu_93_16 (by omega) e) (by decide), ?_⟩
  show am_T ro 3 64 7 [.ref 16, .ref 1, am_un] [.int (nI (decide (20 ≤ k)).toNat)] (wd c a l f) _
  rw [decide_eq_false (show ¬ 20 ≤ k by omega)]
  refine am_wp_ok (inl := []) 2 3 64 [12] _ _ _ _ _ ?_
  refine am_br_t (show nI 0 = 0 from rfl) ?_
  show am_T ro 3 64 12 [.ref 16, .ref 1, am_un] [] (wd c a l f) _
  refine am_wp_ok (inl := []) 4 3 64 [18] _ _ _ _ _ ?_
  refine ⟨_, _, am_run_up (c_num (b := 1000000) (f := f) (by decide) hC g0 (h3) (h4)) (by decide), ?_⟩
  show am_T ro 3 64 18 [.ref 16, .ref 1, am_un] [.int (nv (uj U n j) (lj U n j) 1000000)] (wd c a l (tx f (sj U n j) (ej U n j) (nI (w) + 1))) _
  rw [nI_1]
  rw [v1]
  refine am_wp_ok (inl := []) 5 3 64 [26] _ _ _ _ _ ?_
  refine am_br_t (nI_n1 (by omega)) ?_
  show am_T ro 3 64 26 [.ref 16, .ref 1, .int (nI x)] [] (wd c a l (tx f (sj U n j) (ej U n j) (nI (w + 1)))) _
  refine am_wp_ok (inl := []) 3 3 64 [30] _ _ _ _ _ ?_
  refine ⟨_, _, am_run_up (c_next (f := (tx f (sj U n j) (ej U n j) (nI (w + 1)))) hC g1 (rfl) (rfl)) (by decide), ?_⟩
  show am_T ro 3 64 30 [.ref 16, .ref 1, .int (nI x)] [] (wd c a l (tx (tx f (sj U n j) (ej U n j) (nI (w + 1))) (sj U n (ej U n j)) (ej U n (ej U n j)) (nI (w + 1) + 1))) _
  rw [tx_tx, nI_1]
  refine am_wp_ok (inl := []) 3 3 64 [34] _ _ _ _ _ ?_
  refine ⟨_, _, am_run_up (c_name (f := (tx f (sj U n (ej U n j)) (ej U n (ej U n j)) (nI (w + 1 + 1)))) hC g1 rfl rfl) (by decide), ?_⟩
  show am_T ro 3 64 34 [.ref 16, .ref 1, .int (nI x)] [.int (nI (nm (uj U n (ej U n j)) (lj U n (ej U n j))).toNat)] (wd c a l (tx f (sj U n (ej U n j)) (ej U n (ej U n j)) (nI (w + 1 + 1)))) _
  rw [hm]
  refine am_wp_ok (inl := []) 4 3 64 [] _ _ _ _ _ ?_
  refine am_br_t (show nI 0 = 0 from rfl) ?_
  exact And.intro rfl (And.intro rfl rfl)
set_option maxRecDepth 100000 in
set_option maxHeartbeats 4000000 in
theorem tn_nam_38 {ro : Nat → Option am_C} {c : Bool} {a : Nat → Nat → Int32} {l : Nat → Int64} {f : Nat → Nat → Int32} {n j w : Nat} {U : Nat → Nat} (hC : CT a f n U) (hj : j ≤ n) (h3 : f 1 3 = nI j) (h4 : f 1 4 = nI w) {k : Nat} (e : f 54 5 = nI k) {x : Nat} (hk : k < 20) (hx : x < 1000000) (v1 : nv (uj U n j) (lj U n j) 1000000 = nI x) (hm : nm (uj U n (ej U n j)) (lj U n (ej U n j)) = false) : am_run ro 4 64 [.ref 38, .ref 1] (wd c a l f) (some (.int (nI 0))) (wd c a l (tx f (sj U n (ej U n j)) (ej U n (ej U n j)) (nI (w + 1 + 1)))) := by
  have g0 : j ≤ n := hj
  have g1 : (ej U n j) ≤ n := (j_le (U := U) g0).2.2
  refine am_run_of rfl (am_wp_ok (inl := []) 4 3 64 [7] 0 _ _ _ _ ?_)
  refine ⟨_, _, am_run_up (fu_93_38 (by omega) e) (by decide), ?_⟩
  show am_T ro 3 64 7 [.ref 38, .ref 1, am_un] [.int (nI (decide (20 ≤ k)).toNat)] (wd c a l f) _
  rw [decide_eq_false (show ¬ 20 ≤ k by omega)]
  refine am_wp_ok (inl := []) 2 3 64 [12] _ _ _ _ _ ?_
  refine am_br_t (show nI 0 = 0 from rfl) ?_
  show am_T ro 3 64 12 [.ref 38, .ref 1, am_un] [] (wd c a l f) _
  refine am_wp_ok (inl := []) 4 3 64 [18] _ _ _ _ _ ?_
  refine ⟨_, _, am_run_up (c_num (b := 1000000) (f := f) (by decide) hC g0 (h3) (h4)) (by decide), ?_⟩
  show am_T ro 3 64 18 [.ref 38, .ref 1, am_un] [.int (nv (uj U n j) (lj U n j) 1000000)] (wd c a l (tx f (sj U n j) (ej U n j) (nI (w) + 1))) _
  rw [nI_1]
  rw [v1]
  refine am_wp_ok (inl := []) 5 3 64 [26] _ _ _ _ _ ?_
  refine am_br_t (nI_n1 (by omega)) ?_
  show am_T ro 3 64 26 [.ref 38, .ref 1, .int (nI x)] [] (wd c a l (tx f (sj U n j) (ej U n j) (nI (w + 1)))) _
  refine am_wp_ok (inl := []) 3 3 64 [30] _ _ _ _ _ ?_
  refine ⟨_, _, am_run_up (c_next (f := (tx f (sj U n j) (ej U n j) (nI (w + 1)))) hC g1 (rfl) (rfl)) (by decide), ?_⟩
  show am_T ro 3 64 30 [.ref 38, .ref 1, .int (nI x)] [] (wd c a l (tx (tx f (sj U n j) (ej U n j) (nI (w + 1))) (sj U n (ej U n j)) (ej U n (ej U n j)) (nI (w + 1) + 1))) _
  rw [tx_tx, nI_1]
  refine am_wp_ok (inl := []) 3 3 64 [34] _ _ _ _ _ ?_
  refine ⟨_, _, am_run_up (c_name (f := (tx f (sj U n (ej U n j)) (ej U n (ej U n j)) (nI (w + 1 + 1)))) hC g1 rfl rfl) (by decide), ?_⟩
  show am_T ro 3 64 34 [.ref 38, .ref 1, .int (nI x)] [.int (nI (nm (uj U n (ej U n j)) (lj U n (ej U n j))).toNat)] (wd c a l (tx f (sj U n (ej U n j)) (ej U n (ej U n j)) (nI (w + 1 + 1)))) _
  rw [hm]
  refine am_wp_ok (inl := []) 4 3 64 [] _ _ _ _ _ ?_
  refine am_br_t (show nI 0 = 0 from rfl) ?_
  exact And.intro rfl (And.intro rfl rfl)
theorem tn_nam (b : Bool) {ro : Nat → Option am_C} {c : Bool} {a : Nat → Nat → Int32} {l : Nat → Int64} {f : Nat → Nat → Int32} {n j w : Nat} {U : Nat → Nat} (hC : CT a f n U) (hj : j ≤ n) (h3 : f 1 3 = nI j) (h4 : f 1 4 = nI w) {k : Nat} (e : f (ob b + 16) 5 = nI k) {x : Nat} (hk : k < 20) (hx : x < 1000000) (v1 : nv (uj U n j) (lj U n j) 1000000 = nI x) (hm : nm (uj U n (ej U n j)) (lj U n (ej U n j)) = false) : am_run ro 4 64 [.ref (ob b), .ref 1] (wd c a l f) (some (.int (nI 0))) (wd c a l (tx f (sj U n (ej U n j)) (ej U n (ej U n j)) (nI (w + 1 + 1)))) := by
  cases b
  · exact tn_nam_16 hC hj h3 h4 e hk hx v1 hm
  · exact tn_nam_38 hC hj h3 h4 e hk hx v1 hm
set_option maxRecDepth 100000 in
set_option maxHeartbeats 4000000 in
theorem tn_dup_16 {ro : Nat → Option am_C} {c : Bool} {a : Nat → Nat → Int32} {l : Nat → Int64} {f : Nat → Nat → Int32} {n j w : Nat} {U : Nat → Nat} (hC : CT a f n U) (hj : j ≤ n) (h3 : f 1 3 = nI j) (h4 : f 1 4 = nI w) {k : Nat} (e : f 32 5 = nI k) {x : Nat} (hk : k < 20) (hx : x < 1000000) (v1 : nv (uj U n j) (lj U n j) 1000000 = nI x) (hm : nm (uj U n (ej U n j)) (lj U n (ej U n j)) = true) {P : Nat → Bool} (hP : ∀ i, i < k → ∃ q : Nat, q ≤ 8 ∧ a 34 i = nI q ∧ (decide (q = ej U n (ej U n j) - sj U n (ej U n j)) && al (fun p => decide (a 35 (8 * i + p) = a 2 (sj U n (ej U n j) + p))) 0 q) = P i) (hP2 : an P 0 k = true) : am_run ro 4 64 [.ref 16, .ref 1] (wd c a l f) (some (.int (nI 0))) (wd c a l (tx f (sj U n (ej U n j)) (ej U n (ej U n j)) (nI (w + 1 + 1)))) := by
  have g0 : j ≤ n := hj
  have g1 : (ej U n j) ≤ n := (j_le (U := U) g0).2.2
  have gw := j_le (U := U) g1
  have hn := hC.1
  refine am_run_of rfl (am_wp_ok (inl := []) 4 3 64 [7] 0 _ _ _ _ ?_)
  refine ⟨_, _, am_run_up (fu_93_16 (by omega) e) (by decide), ?_⟩
  show am_T ro 3 64 7 [.ref 16, .ref 1, am_un] [.int (nI (decide (20 ≤ k)).toNat)] (wd c a l f) _
  rw [decide_eq_false (show ¬ 20 ≤ k by omega)]
  refine am_wp_ok (inl := []) 2 3 64 [12] _ _ _ _ _ ?_
  refine am_br_t (show nI 0 = 0 from rfl) ?_
  show am_T ro 3 64 12 [.ref 16, .ref 1, am_un] [] (wd c a l f) _
  refine am_wp_ok (inl := []) 4 3 64 [18] _ _ _ _ _ ?_
  refine ⟨_, _, am_run_up (c_num (b := 1000000) (f := f) (by decide) hC g0 (h3) (h4)) (by decide), ?_⟩
  show am_T ro 3 64 18 [.ref 16, .ref 1, am_un] [.int (nv (uj U n j) (lj U n j) 1000000)] (wd c a l (tx f (sj U n j) (ej U n j) (nI (w) + 1))) _
  rw [nI_1]
  rw [v1]
  refine am_wp_ok (inl := []) 5 3 64 [26] _ _ _ _ _ ?_
  refine am_br_t (nI_n1 (by omega)) ?_
  show am_T ro 3 64 26 [.ref 16, .ref 1, .int (nI x)] [] (wd c a l (tx f (sj U n j) (ej U n j) (nI (w + 1)))) _
  refine am_wp_ok (inl := []) 3 3 64 [30] _ _ _ _ _ ?_
  refine ⟨_, _, am_run_up (c_next (f := (tx f (sj U n j) (ej U n j) (nI (w + 1)))) hC g1 (rfl) (rfl)) (by decide), ?_⟩
  show am_T ro 3 64 30 [.ref 16, .ref 1, .int (nI x)] [] (wd c a l (tx (tx f (sj U n j) (ej U n j) (nI (w + 1))) (sj U n (ej U n j)) (ej U n (ej U n j)) (nI (w + 1) + 1))) _
  rw [tx_tx, nI_1]
  refine am_wp_ok (inl := []) 3 3 64 [34] _ _ _ _ _ ?_
  refine ⟨_, _, am_run_up (c_name (f := (tx f (sj U n (ej U n j)) (ej U n (ej U n j)) (nI (w + 1 + 1)))) hC g1 rfl rfl) (by decide), ?_⟩
  show am_T ro 3 64 34 [.ref 16, .ref 1, .int (nI x)] [.int (nI (nm (uj U n (ej U n j)) (lj U n (ej U n j))).toNat)] (wd c a l (tx f (sj U n (ej U n j)) (ej U n (ej U n j)) (nI (w + 1 + 1)))) _
  rw [hm]
  refine am_wp_ok (inl := []) 2 3 64 [37] _ _ _ _ _ ?_
  refine am_br_f (show ¬ nI 1 = 0 by decide) ?_
  show am_T ro 3 64 37 [.ref 16, .ref 1, .int (nI x)] [] (wd c a l (tx f (sj U n (ej U n j)) (ej U n (ej U n j)) (nI (w + 1 + 1)))) _
  refine am_wp_ok (inl := []) 5 3 64 [45] _ _ _ _ _ ?_
  refine ⟨_, _, cs_has_16 (f := (tx f (sj U n (ej U n j)) (ej U n (ej U n j)) (nI (w + 1 + 1)))) (by omega) e rfl rfl gw.2.1 (by omega) hP, ?_⟩
  show am_T ro 3 64 45 [.ref 16, .ref 1, .int (nI x)] [.int (nI (an P 0 k).toNat)] (wd c a l (tx f (sj U n (ej U n j)) (ej U n (ej U n j)) (nI (w + 1 + 1)))) _
  rw [hP2]
  refine am_wp_ok (inl := []) 4 3 64 [] _ _ _ _ _ ?_
  refine am_br_f (show ¬ nI 1 = 0 by decide) ?_
  exact And.intro rfl (And.intro rfl rfl)
set_option maxRecDepth 100000 in
set_option maxHeartbeats 4000000 in
theorem tn_dup_38 {ro : Nat → Option am_C} {c : Bool} {a : Nat → Nat → Int32} {l : Nat → Int64} {f : Nat → Nat → Int32} {n j w : Nat} {U : Nat → Nat} (hC : CT a f n U) (hj : j ≤ n) (h3 : f 1 3 = nI j) (h4 : f 1 4 = nI w) {k : Nat} (e : f 54 5 = nI k) {x : Nat} (hk : k < 20) (hx : x < 1000000) (v1 : nv (uj U n j) (lj U n j) 1000000 = nI x) (hm : nm (uj U n (ej U n j)) (lj U n (ej U n j)) = true) {P : Nat → Bool} (hP : ∀ i, i < k → ∃ q : Nat, q ≤ 8 ∧ a 56 i = nI q ∧ (decide (q = ej U n (ej U n j) - sj U n (ej U n j)) && al (fun p => decide (a 57 (8 * i + p) = a 2 (sj U n (ej U n j) + p))) 0 q) = P i) (hP2 : an P 0 k = true) : am_run ro 4 64 [.ref 38, .ref 1] (wd c a l f) (some (.int (nI 0))) (wd c a l (tx f (sj U n (ej U n j)) (ej U n (ej U n j)) (nI (w + 1 + 1)))) := by
  have g0 : j ≤ n := hj
  have g1 : (ej U n j) ≤ n := (j_le (U := U) g0).2.2
  have gw := j_le (U := U) g1
  have hn := hC.1
  refine am_run_of rfl (am_wp_ok (inl := []) 4 3 64 [7] 0 _ _ _ _ ?_)
  refine ⟨_, _, am_run_up (fu_93_38 (by omega) e) (by decide), ?_⟩
  show am_T ro 3 64 7 [.ref 38, .ref 1, am_un] [.int (nI (decide (20 ≤ k)).toNat)] (wd c a l f) _
  rw [decide_eq_false (show ¬ 20 ≤ k by omega)]
  refine am_wp_ok (inl := []) 2 3 64 [12] _ _ _ _ _ ?_
  refine am_br_t (show nI 0 = 0 from rfl) ?_
  show am_T ro 3 64 12 [.ref 38, .ref 1, am_un] [] (wd c a l f) _
  refine am_wp_ok (inl := []) 4 3 64 [18] _ _ _ _ _ ?_
  refine ⟨_, _, am_run_up (c_num (b := 1000000) (f := f) (by decide) hC g0 (h3) (h4)) (by decide), ?_⟩
  show am_T ro 3 64 18 [.ref 38, .ref 1, am_un] [.int (nv (uj U n j) (lj U n j) 1000000)] (wd c a l (tx f (sj U n j) (ej U n j) (nI (w) + 1))) _
  rw [nI_1]
  rw [v1]
  refine am_wp_ok (inl := []) 5 3 64 [26] _ _ _ _ _ ?_
  refine am_br_t (nI_n1 (by omega)) ?_
  show am_T ro 3 64 26 [.ref 38, .ref 1, .int (nI x)] [] (wd c a l (tx f (sj U n j) (ej U n j) (nI (w + 1)))) _
  refine am_wp_ok (inl := []) 3 3 64 [30] _ _ _ _ _ ?_
  refine ⟨_, _, am_run_up (c_next (f := (tx f (sj U n j) (ej U n j) (nI (w + 1)))) hC g1 (rfl) (rfl)) (by decide), ?_⟩
  show am_T ro 3 64 30 [.ref 38, .ref 1, .int (nI x)] [] (wd c a l (tx (tx f (sj U n j) (ej U n j) (nI (w + 1))) (sj U n (ej U n j)) (ej U n (ej U n j)) (nI (w + 1) + 1))) _
  rw [tx_tx, nI_1]
  refine am_wp_ok (inl := []) 3 3 64 [34] _ _ _ _ _ ?_
  refine ⟨_, _, am_run_up (c_name (f := (tx f (sj U n (ej U n j)) (ej U n (ej U n j)) (nI (w + 1 + 1)))) hC g1 rfl rfl) (by decide), ?_⟩
  show am_T ro 3 64 34 [.ref 38, .ref 1, .int (nI x)] [.int (nI (nm (uj U n (ej U n j)) (lj U n (ej U n j))).toNat)] (wd c a l (tx f (sj U n (ej U n j)) (ej U n (ej U n j)) (nI (w + 1 + 1)))) _
  rw [hm]
  refine am_wp_ok (inl := []) 2 3 64 [37] _ _ _ _ _ ?_
  refine am_br_f (show ¬ nI 1 = 0 by decide) ?_
  show am_T ro 3 64 37 [.ref 38, .ref 1, .int (nI x)] [] (wd c a l (tx f (sj U n (ej U n j)) (ej U n (ej U n j)) (nI (w + 1 + 1)))) _
  refine am_wp_ok (inl := []) 5 3 64 [45] _ _ _ _ _ ?_
  refine ⟨_, _, cs_has_38 (f := (tx f (sj U n (ej U n j)) (ej U n (ej U n j)) (nI (w + 1 + 1)))) (by omega) e rfl rfl gw.2.1 (by omega) hP, ?_⟩
  show am_T ro 3 64 45 [.ref 38, .ref 1, .int (nI x)] [.int (nI (an P 0 k).toNat)] (wd c a l (tx f (sj U n (ej U n j)) (ej U n (ej U n j)) (nI (w + 1 + 1)))) _
  rw [hP2]
  refine am_wp_ok (inl := []) 4 3 64 [] _ _ _ _ _ ?_
  refine am_br_f (show ¬ nI 1 = 0 by decide) ?_
  exact And.intro rfl (And.intro rfl rfl)
theorem tn_dup (b : Bool) {ro : Nat → Option am_C} {c : Bool} {a : Nat → Nat → Int32} {l : Nat → Int64} {f : Nat → Nat → Int32} {n j w : Nat} {U : Nat → Nat} (hC : CT a f n U) (hj : j ≤ n) (h3 : f 1 3 = nI j) (h4 : f 1 4 = nI w) {k : Nat} (e : f (ob b + 16) 5 = nI k) {x : Nat} (hk : k < 20) (hx : x < 1000000) (v1 : nv (uj U n j) (lj U n j) 1000000 = nI x) (hm : nm (uj U n (ej U n j)) (lj U n (ej U n j)) = true) {P : Nat → Bool} (hP : ∀ i, i < k → ∃ q : Nat, q ≤ 8 ∧ a (ob b + 18) i = nI q ∧ (decide (q = ej U n (ej U n j) - sj U n (ej U n j)) && al (fun p => decide (a (ob b + 19) (8 * i + p) = a 2 (sj U n (ej U n j) + p))) 0 q) = P i) (hP2 : an P 0 k = true) : am_run ro 4 64 [.ref (ob b), .ref 1] (wd c a l f) (some (.int (nI 0))) (wd c a l (tx f (sj U n (ej U n j)) (ej U n (ej U n j)) (nI (w + 1 + 1)))) := by
  cases b
  · exact tn_dup_16 hC hj h3 h4 e hk hx v1 hm hP hP2
  · exact tn_dup_38 hC hj h3 h4 e hk hx v1 hm hP hP2
set_option maxRecDepth 100000 in
set_option maxHeartbeats 4000000 in
theorem tn_ok_16 {ro : Nat → Option am_C} {c : Bool} {a : Nat → Nat → Int32} {l : Nat → Int64} {f : Nat → Nat → Int32} {n j w : Nat} {U : Nat → Nat} (hC : CT a f n U) (hj : j ≤ n) (h3 : f 1 3 = nI j) (h4 : f 1 4 = nI w) {k : Nat} (e : f 32 5 = nI k) {x : Nat} (hk : k < 20) (hx : x < 1000000) (v1 : nv (uj U n j) (lj U n j) 1000000 = nI x) (hm : nm (uj U n (ej U n j)) (lj U n (ej U n j)) = true) {P : Nat → Bool} (hP : ∀ i, i < k → ∃ q : Nat, q ≤ 8 ∧ a 34 i = nI q ∧ (decide (q = ej U n (ej U n j) - sj U n (ej U n j)) && al (fun p => decide (a 35 (8 * i + p) = a 2 (sj U n (ej U n j) + p))) 0 q) = P i) (hP2 : an P 0 k = false) : am_run ro 4 64 [.ref 16, .ref 1] (wd c a l f) (some (.int (nI 1))) (wd c (u2 (u2 (u2 a 33 (upd (a 33) k (nI x))) 34 (upd (a 34) k (nI (ej U n (ej U n j) - sj U n (ej U n j))))) 35 (lw (fun q => a 2 (sj U n (ej U n j) + q)) (8 * k) 0 (ej U n (ej U n j) - sj U n (ej U n j)) (a 35))) l (tx (u3 f 32 5 (nI (k + 1))) (sj U n (ej U n (ej U n j))) (ej U n (ej U n (ej U n j))) (nI (w + 1 + 1 + 1)))) := by
  have g0 : j ≤ n := hj
  have g1 : (ej U n j) ≤ n := (j_le (U := U) g0).2.2
  have g2 : (ej U n (ej U n j)) ≤ n := (j_le (U := U) g1).2.2
  have gw := j_le (U := U) g1
  have hn := hC.1
  have h8 := (nm_t hm).2.1
  refine am_run_of rfl (am_wp_ok (inl := []) 4 3 64 [7] 0 _ _ _ _ ?_)
  refine ⟨_, _, am_run_up (fu_93_16 (by omega) e) (by decide), ?_⟩
  show am_T ro 3 64 7 [.ref 16, .ref 1, am_un] [.int (nI (decide (20 ≤ k)).toNat)] (wd c a l f) _
  rw [decide_eq_false (show ¬ 20 ≤ k by omega)]
  refine am_wp_ok (inl := []) 2 3 64 [12] _ _ _ _ _ ?_
  refine am_br_t (show nI 0 = 0 from rfl) ?_
  show am_T ro 3 64 12 [.ref 16, .ref 1, am_un] [] (wd c a l f) _
  refine am_wp_ok (inl := []) 4 3 64 [18] _ _ _ _ _ ?_
  refine ⟨_, _, am_run_up (c_num (b := 1000000) (f := f) (by decide) hC g0 (h3) (h4)) (by decide), ?_⟩
  show am_T ro 3 64 18 [.ref 16, .ref 1, am_un] [.int (nv (uj U n j) (lj U n j) 1000000)] (wd c a l (tx f (sj U n j) (ej U n j) (nI (w) + 1))) _
  rw [nI_1]
  rw [v1]
  refine am_wp_ok (inl := []) 5 3 64 [26] _ _ _ _ _ ?_
  refine am_br_t (nI_n1 (by omega)) ?_
  show am_T ro 3 64 26 [.ref 16, .ref 1, .int (nI x)] [] (wd c a l (tx f (sj U n j) (ej U n j) (nI (w + 1)))) _
  refine am_wp_ok (inl := []) 3 3 64 [30] _ _ _ _ _ ?_
  refine ⟨_, _, am_run_up (c_next (f := (tx f (sj U n j) (ej U n j) (nI (w + 1)))) hC g1 (rfl) (rfl)) (by decide), ?_⟩
  show am_T ro 3 64 30 [.ref 16, .ref 1, .int (nI x)] [] (wd c a l (tx (tx f (sj U n j) (ej U n j) (nI (w + 1))) (sj U n (ej U n j)) (ej U n (ej U n j)) (nI (w + 1) + 1))) _
  rw [tx_tx, nI_1]
  refine am_wp_ok (inl := []) 3 3 64 [34] _ _ _ _ _ ?_
  refine ⟨_, _, am_run_up (c_name (f := (tx f (sj U n (ej U n j)) (ej U n (ej U n j)) (nI (w + 1 + 1)))) hC g1 rfl rfl) (by decide), ?_⟩
  show am_T ro 3 64 34 [.ref 16, .ref 1, .int (nI x)] [.int (nI (nm (uj U n (ej U n j)) (lj U n (ej U n j))).toNat)] (wd c a l (tx f (sj U n (ej U n j)) (ej U n (ej U n j)) (nI (w + 1 + 1)))) _
  rw [hm]
  refine am_wp_ok (inl := []) 2 3 64 [37] _ _ _ _ _ ?_
  refine am_br_f (show ¬ nI 1 = 0 by decide) ?_
  show am_T ro 3 64 37 [.ref 16, .ref 1, .int (nI x)] [] (wd c a l (tx f (sj U n (ej U n j)) (ej U n (ej U n j)) (nI (w + 1 + 1)))) _
  refine am_wp_ok (inl := []) 5 3 64 [45] _ _ _ _ _ ?_
  refine ⟨_, _, cs_has_16 (f := (tx f (sj U n (ej U n j)) (ej U n (ej U n j)) (nI (w + 1 + 1)))) (by omega) e rfl rfl gw.2.1 (by omega) hP, ?_⟩
  show am_T ro 3 64 45 [.ref 16, .ref 1, .int (nI x)] [.int (nI (an P 0 k).toNat)] (wd c a l (tx f (sj U n (ej U n j)) (ej U n (ej U n j)) (nI (w + 1 + 1)))) _
  rw [hP2]
  refine am_wp_ok (inl := []) 2 3 64 [50] _ _ _ _ _ ?_
  refine am_br_t (show nI 0 = 0 from rfl) ?_
  show am_T ro 3 64 50 [.ref 16, .ref 1, .int (nI x)] [] (wd c a l (tx f (sj U n (ej U n j)) (ej U n (ej U n j)) (nI (w + 1 + 1)))) _
  refine am_wp_ok (inl := []) 6 3 64 [59] _ _ _ _ _ ?_
  refine ⟨_, _, am_run_up (ad_nm_16 (f := (tx f (sj U n (ej U n j)) (ej U n (ej U n j)) (nI (w + 1 + 1)))) hk e rfl rfl gw.2.1 (by omega) h8) (by decide), ?_⟩
  show am_T ro 3 64 59 [.ref 16, .ref 1, .int (nI x)] [] (wd c (u2 (u2 (u2 a 33 (upd (a 33) k (nI x))) 34 (upd (a 34) k (nI (ej U n (ej U n j) - sj U n (ej U n j))))) 35 (lw (fun q => a 2 (sj U n (ej U n j) + q)) (8 * k) 0 (ej U n (ej U n j) - sj U n (ej U n j)) (a 35))) l (u3 (tx f (sj U n (ej U n j)) (ej U n (ej U n j)) (nI (w + 1 + 1))) 32 5 (nI (k + 1)))) _
  rw [tx_u3 rfl]
  refine am_wp_ok (inl := []) 3 3 64 [63] _ _ _ _ _ ?_
  refine ⟨_, _, am_run_up (c_next (f := (tx (u3 f 32 5 (nI (k + 1))) (sj U n (ej U n j)) (ej U n (ej U n j)) (nI (w + 1 + 1)))) hC g2 (rfl) (rfl)) (by decide), ?_⟩
  show am_T ro 3 64 63 [.ref 16, .ref 1, .int (nI x)] [] (wd c (u2 (u2 (u2 a 33 (upd (a 33) k (nI x))) 34 (upd (a 34) k (nI (ej U n (ej U n j) - sj U n (ej U n j))))) 35 (lw (fun q => a 2 (sj U n (ej U n j) + q)) (8 * k) 0 (ej U n (ej U n j) - sj U n (ej U n j)) (a 35))) l (tx (tx (u3 f 32 5 (nI (k + 1))) (sj U n (ej U n j)) (ej U n (ej U n j)) (nI (w + 1 + 1))) (sj U n (ej U n (ej U n j))) (ej U n (ej U n (ej U n j))) (nI (w + 1 + 1) + 1))) _
  rw [tx_tx, nI_1]
  refine am_wp_ok (inl := []) 3 3 64 [] _ _ _ _ _ ?_
  exact And.intro rfl (And.intro rfl rfl)
set_option maxRecDepth 100000 in
set_option maxHeartbeats 4000000 in
theorem tn_ok_38 {ro : Nat → Option am_C} {c : Bool} {a : Nat → Nat → Int32} {l : Nat → Int64} {f : Nat → Nat → Int32} {n j w : Nat} {U : Nat → Nat} (hC : CT a f n U) (hj : j ≤ n) (h3 : f 1 3 = nI j) (h4 : f 1 4 = nI w) {k : Nat} (e : f 54 5 = nI k) {x : Nat} (hk : k < 20) (hx : x < 1000000) (v1 : nv (uj U n j) (lj U n j) 1000000 = nI x) (hm : nm (uj U n (ej U n j)) (lj U n (ej U n j)) = true) {P : Nat → Bool} (hP : ∀ i, i < k → ∃ q : Nat, q ≤ 8 ∧ a 56 i = nI q ∧ (decide (q = ej U n (ej U n j) - sj U n (ej U n j)) && al (fun p => decide (a 57 (8 * i + p) = a 2 (sj U n (ej U n j) + p))) 0 q) = P i) (hP2 : an P 0 k = false) : am_run ro 4 64 [.ref 38, .ref 1] (wd c a l f) (some (.int (nI 1))) (wd c (u2 (u2 (u2 a 55 (upd (a 55) k (nI x))) 56 (upd (a 56) k (nI (ej U n (ej U n j) - sj U n (ej U n j))))) 57 (lw (fun q => a 2 (sj U n (ej U n j) + q)) (8 * k) 0 (ej U n (ej U n j) - sj U n (ej U n j)) (a 57))) l (tx (u3 f 54 5 (nI (k + 1))) (sj U n (ej U n (ej U n j))) (ej U n (ej U n (ej U n j))) (nI (w + 1 + 1 + 1)))) := by
  have g0 : j ≤ n := hj
  have g1 : (ej U n j) ≤ n := (j_le (U := U) g0).2.2
  have g2 : (ej U n (ej U n j)) ≤ n := (j_le (U := U) g1).2.2
  have gw := j_le (U := U) g1
  have hn := hC.1
  have h8 := (nm_t hm).2.1
  refine am_run_of rfl (am_wp_ok (inl := []) 4 3 64 [7] 0 _ _ _ _ ?_)
  refine ⟨_, _, am_run_up (fu_93_38 (by omega) e) (by decide), ?_⟩
  show am_T ro 3 64 7 [.ref 38, .ref 1, am_un] [.int (nI (decide (20 ≤ k)).toNat)] (wd c a l f) _
  rw [decide_eq_false (show ¬ 20 ≤ k by omega)]
  refine am_wp_ok (inl := []) 2 3 64 [12] _ _ _ _ _ ?_
  refine am_br_t (show nI 0 = 0 from rfl) ?_
  show am_T ro 3 64 12 [.ref 38, .ref 1, am_un] [] (wd c a l f) _
  refine am_wp_ok (inl := []) 4 3 64 [18] _ _ _ _ _ ?_
  refine ⟨_, _, am_run_up (c_num (b := 1000000) (f := f) (by decide) hC g0 (h3) (h4)) (by decide), ?_⟩
  show am_T ro 3 64 18 [.ref 38, .ref 1, am_un] [.int (nv (uj U n j) (lj U n j) 1000000)] (wd c a l (tx f (sj U n j) (ej U n j) (nI (w) + 1))) _
  rw [nI_1]
  rw [v1]
  refine am_wp_ok (inl := []) 5 3 64 [26] _ _ _ _ _ ?_
  refine am_br_t (nI_n1 (by omega)) ?_
  show am_T ro 3 64 26 [.ref 38, .ref 1, .int (nI x)] [] (wd c a l (tx f (sj U n j) (ej U n j) (nI (w + 1)))) _
  refine am_wp_ok (inl := []) 3 3 64 [30] _ _ _ _ _ ?_
  refine ⟨_, _, am_run_up (c_next (f := (tx f (sj U n j) (ej U n j) (nI (w + 1)))) hC g1 (rfl) (rfl)) (by decide), ?_⟩
  show am_T ro 3 64 30 [.ref 38, .ref 1, .int (nI x)] [] (wd c a l (tx (tx f (sj U n j) (ej U n j) (nI (w + 1))) (sj U n (ej U n j)) (ej U n (ej U n j)) (nI (w + 1) + 1))) _
  rw [tx_tx, nI_1]
  refine am_wp_ok (inl := []) 3 3 64 [34] _ _ _ _ _ ?_
  refine ⟨_, _, am_run_up (c_name (f := (tx f (sj U n (ej U n j)) (ej U n (ej U n j)) (nI (w + 1 + 1)))) hC g1 rfl rfl) (by decide), ?_⟩
  show am_T ro 3 64 34 [.ref 38, .ref 1, .int (nI x)] [.int (nI (nm (uj U n (ej U n j)) (lj U n (ej U n j))).toNat)] (wd c a l (tx f (sj U n (ej U n j)) (ej U n (ej U n j)) (nI (w + 1 + 1)))) _
  rw [hm]
  refine am_wp_ok (inl := []) 2 3 64 [37] _ _ _ _ _ ?_
  refine am_br_f (show ¬ nI 1 = 0 by decide) ?_
  show am_T ro 3 64 37 [.ref 38, .ref 1, .int (nI x)] [] (wd c a l (tx f (sj U n (ej U n j)) (ej U n (ej U n j)) (nI (w + 1 + 1)))) _
  refine am_wp_ok (inl := []) 5 3 64 [45] _ _ _ _ _ ?_
  refine ⟨_, _, cs_has_38 (f := (tx f (sj U n (ej U n j)) (ej U n (ej U n j)) (nI (w + 1 + 1)))) (by omega) e rfl rfl gw.2.1 (by omega) hP, ?_⟩
  show am_T ro 3 64 45 [.ref 38, .ref 1, .int (nI x)] [.int (nI (an P 0 k).toNat)] (wd c a l (tx f (sj U n (ej U n j)) (ej U n (ej U n j)) (nI (w + 1 + 1)))) _
  rw [hP2]
  refine am_wp_ok (inl := []) 2 3 64 [50] _ _ _ _ _ ?_
  refine am_br_t (show nI 0 = 0 from rfl) ?_
  show am_T ro 3 64 50 [.ref 38, .ref 1, .int (nI x)] [] (wd c a l (tx f (sj U n (ej U n j)) (ej U n (ej U n j)) (nI (w + 1 + 1)))) _
  refine am_wp_ok (inl := []) 6 3 64 [59] _ _ _ _ _ ?_
  refine ⟨_, _, am_run_up (ad_nm_38 (f := (tx f (sj U n (ej U n j)) (ej U n (ej U n j)) (nI (w + 1 + 1)))) hk e rfl rfl gw.2.1 (by omega) h8) (by decide), ?_⟩
  show am_T ro 3 64 59 [.ref 38, .ref 1, .int (nI x)] [] (wd c (u2 (u2 (u2 a 55 (upd (a 55) k (nI x))) 56 (upd (a 56) k (nI (ej U n (ej U n j) - sj U n (ej U n j))))) 57 (lw (fun q => a 2 (sj U n (ej U n j) + q)) (8 * k) 0 (ej U n (ej U n j) - sj U n (ej U n j)) (a 57))) l (u3 (tx f (sj U n (ej U n j)) (ej U n (ej U n j)) (nI (w + 1 + 1))) 54 5 (nI (k + 1)))) _
  rw [tx_u3 rfl]
  refine am_wp_ok (inl := []) 3 3 64 [63] _ _ _ _ _ ?_
  refine ⟨_, _, am_run_up (c_next (f := (tx (u3 f 54 5 (nI (k + 1))) (sj U n (ej U n j)) (ej U n (ej U n j)) (nI (w + 1 + 1)))) hC g2 (rfl) (rfl)) (by decide), ?_⟩
  show am_T ro 3 64 63 [.ref 38, .ref 1, .int (nI x)] [] (wd c (u2 (u2 (u2 a 55 (upd (a 55) k (nI x))) 56 (upd (a 56) k (nI (ej U n (ej U n j) - sj U n (ej U n j))))) 57 (lw (fun q => a 2 (sj U n (ej U n j) + q)) (8 * k) 0 (ej U n (ej U n j) - sj U n (ej U n j)) (a 57))) l (tx (tx (u3 f 54 5 (nI (k + 1))) (sj U n (ej U n j)) (ej U n (ej U n j)) (nI (w + 1 + 1))) (sj U n (ej U n (ej U n j))) (ej U n (ej U n (ej U n j))) (nI (w + 1 + 1) + 1))) _
  rw [tx_tx, nI_1]
  refine am_wp_ok (inl := []) 3 3 64 [] _ _ _ _ _ ?_
  exact And.intro rfl (And.intro rfl rfl)
theorem tn_ok (b : Bool) {ro : Nat → Option am_C} {c : Bool} {a : Nat → Nat → Int32} {l : Nat → Int64} {f : Nat → Nat → Int32} {n j w : Nat} {U : Nat → Nat} (hC : CT a f n U) (hj : j ≤ n) (h3 : f 1 3 = nI j) (h4 : f 1 4 = nI w) {k : Nat} (e : f (ob b + 16) 5 = nI k) {x : Nat} (hk : k < 20) (hx : x < 1000000) (v1 : nv (uj U n j) (lj U n j) 1000000 = nI x) (hm : nm (uj U n (ej U n j)) (lj U n (ej U n j)) = true) {P : Nat → Bool} (hP : ∀ i, i < k → ∃ q : Nat, q ≤ 8 ∧ a (ob b + 18) i = nI q ∧ (decide (q = ej U n (ej U n j) - sj U n (ej U n j)) && al (fun p => decide (a (ob b + 19) (8 * i + p) = a 2 (sj U n (ej U n j) + p))) 0 q) = P i) (hP2 : an P 0 k = false) : am_run ro 4 64 [.ref (ob b), .ref 1] (wd c a l f) (some (.int (nI 1))) (wd c (u2 (u2 (u2 a (ob b + 17) (upd (a (ob b + 17)) k (nI x))) (ob b + 18) (upd (a (ob b + 18)) k (nI (ej U n (ej U n j) - sj U n (ej U n j))))) (ob b + 19) (lw (fun q => a 2 (sj U n (ej U n j) + q)) (8 * k) 0 (ej U n (ej U n j) - sj U n (ej U n j)) (a (ob b + 19)))) l (tx (u3 f (ob b + 16) 5 (nI (k + 1))) (sj U n (ej U n (ej U n j))) (ej U n (ej U n (ej U n j))) (nI (w + 1 + 1 + 1)))) := by
  cases b
  · exact tn_ok_16 hC hj h3 h4 e hk hx v1 hm hP hP2
  · exact tn_ok_38 hC hj h3 h4 e hk hx v1 hm hP hP2
