/-! the class takes a sentence -/
theorem nI_n1 {x : Nat} (h : x < 2 ^ 31) : ¬ nI x = -1 := fun z => nI_pos h (by rw [z]; decide)
set_option maxRecDepth 100000 in
set_option maxHeartbeats 4000000 in
theorem tg_full_16 {ro : Nat → Option am_C} {c : Bool} {a : Nat → Nat → Int32} {l : Nat → Int64} {f : Nat → Nat → Int32} {n j w : Nat} {U : Nat → Nat} (hC : CT a f n U) (hj : j ≤ n) (h3 : f 1 3 = nI j) (h4 : f 1 4 = nI w) {k : Nat} (e : f 24 7 = nI k) (hk2 : k < 2 ^ 31) (hk : 16 ≤ k) : am_run ro 3 61 [.ref 16, .ref 1] (wd c a l f) (some (.int (nI 0))) (wd c a l f) := by
  have g0 : j ≤ n := hj
  refine am_run_of rfl (am_wp_ok (inl := []) 4 2 61 [7] 0 _ _ _ _ ?_)
  refine ⟨_, _, am_run_up (fu_81_16 (by omega) e) (by decide), ?_⟩
  show am_T ro 2 61 7 [.ref 16, .ref 1, am_un] [.int (nI (decide (16 ≤ k)).toNat)] (wd c a l f) _
  rw [decide_eq_true hk]
  refine am_wp_ok (inl := []) 4 2 61 [] _ _ _ _ _ ?_
  refine am_br_f (show ¬ nI 1 = 0 by decide) ?_
  exact And.intro rfl (And.intro rfl rfl)
set_option maxRecDepth 100000 in
set_option maxHeartbeats 4000000 in
theorem tg_full_38 {ro : Nat → Option am_C} {c : Bool} {a : Nat → Nat → Int32} {l : Nat → Int64} {f : Nat → Nat → Int32} {n j w : Nat} {U : Nat → Nat} (hC : CT a f n U) (hj : j ≤ n) (h3 : f 1 3 = nI j) (h4 : f 1 4 = nI w) {k : Nat} (e : f 46 7 = nI k) (hk2 : k < 2 ^ 31) (hk : 16 ≤ k) : am_run ro 3 61 [.ref 38, .ref 1] (wd c a l f) (some (.int (nI 0))) (wd c a l f) := by
  have g0 : j ≤ n := hj
  refine am_run_of rfl (am_wp_ok (inl := []) 4 2 61 [7] 0 _ _ _ _ ?_)
  refine ⟨_, _, am_run_up (fu_81_38 (by omega) e) (by decide), ?_⟩
  show am_T ro 2 61 7 [.ref 38, .ref 1, am_un] [.int (nI (decide (16 ≤ k)).toNat)] (wd c a l f) _
  rw [decide_eq_true hk]
  refine am_wp_ok (inl := []) 4 2 61 [] _ _ _ _ _ ?_
  refine am_br_f (show ¬ nI 1 = 0 by decide) ?_
  exact And.intro rfl (And.intro rfl rfl)
theorem tg_full (b : Bool) {ro : Nat → Option am_C} {c : Bool} {a : Nat → Nat → Int32} {l : Nat → Int64} {f : Nat → Nat → Int32} {n j w : Nat} {U : Nat → Nat} (hC : CT a f n U) (hj : j ≤ n) (h3 : f 1 3 = nI j) (h4 : f 1 4 = nI w) {k : Nat} (e : f (ob b + 8) 7 = nI k) (hk2 : k < 2 ^ 31) (hk : 16 ≤ k) : am_run ro 3 61 [.ref (ob b), .ref 1] (wd c a l f) (some (.int (nI 0))) (wd c a l f) := by
  cases b
  · exact tg_full_16 hC hj h3 h4 e hk2 hk
  · exact tg_full_38 hC hj h3 h4 e hk2 hk
set_option maxRecDepth 100000 in
set_option maxHeartbeats 4000000 in
theorem tg_bad_16 {ro : Nat → Option am_C} {c : Bool} {a : Nat → Nat → Int32} {l : Nat → Int64} {f : Nat → Nat → Int32} {n j w : Nat} {U : Nat → Nat} (hC : CT a f n U) (hj : j ≤ n) (h3 : f 1 3 = nI j) (h4 : f 1 4 = nI w) {k : Nat} (e : f 24 7 = nI k) (hk : k < 16) (v1 : nv (uj U n j) (lj U n j) 1000000 = -1) : am_run ro 3 61 [.ref 16, .ref 1] (wd c a l f) (some (.int (nI 0))) (wd c a l (tx f (sj U n j) (ej U n j) (nI (w + 1)))) := by
  have g0 : j ≤ n := hj
  refine am_run_of rfl (am_wp_ok (inl := []) 4 2 61 [7] 0 _ _ _ _ ?_)
  refine ⟨_, _, am_run_up (fu_81_16 (by omega) e) (by decide), ?_⟩
  show am_T ro 2 61 7 [.ref 16, .ref 1, am_un] [.int (nI (decide (16 ≤ k)).toNat)] (wd c a l f) _
  rw [decide_eq_false (show ¬ 16 ≤ k by omega)]
  refine am_wp_ok (inl := []) 2 2 61 [12] _ _ _ _ _ ?_
  refine am_br_t (show nI 0 = 0 from rfl) ?_
  show am_T ro 2 61 12 [.ref 16, .ref 1, am_un] [] (wd c a l f) _
  refine am_wp_ok (inl := []) 4 2 61 [18] _ _ _ _ _ ?_
  refine ⟨_, _, am_run_up (c_num (b := 1000000) (f := f) (by decide) hC g0 (h3) (h4)) (by decide), ?_⟩
  show am_T ro 2 61 18 [.ref 16, .ref 1, am_un] [.int (nv (uj U n j) (lj U n j) 1000000)] (wd c a l (tx f (sj U n j) (ej U n j) (nI (w) + 1))) _
  rw [nI_1]
  rw [v1]
  refine am_wp_ok (inl := []) 7 2 61 [] _ _ _ _ _ ?_
  refine am_br_f (show ¬ ¬ (-1 : Int32) = -1 from fun z => z rfl) ?_
  exact And.intro rfl (And.intro rfl rfl)
set_option maxRecDepth 100000 in
set_option maxHeartbeats 4000000 in
theorem tg_bad_38 {ro : Nat → Option am_C} {c : Bool} {a : Nat → Nat → Int32} {l : Nat → Int64} {f : Nat → Nat → Int32} {n j w : Nat} {U : Nat → Nat} (hC : CT a f n U) (hj : j ≤ n) (h3 : f 1 3 = nI j) (h4 : f 1 4 = nI w) {k : Nat} (e : f 46 7 = nI k) (hk : k < 16) (v1 : nv (uj U n j) (lj U n j) 1000000 = -1) : am_run ro 3 61 [.ref 38, .ref 1] (wd c a l f) (some (.int (nI 0))) (wd c a l (tx f (sj U n j) (ej U n j) (nI (w + 1)))) := by
  have g0 : j ≤ n := hj
  refine am_run_of rfl (am_wp_ok (inl := []) 4 2 61 [7] 0 _ _ _ _ ?_)
  refine ⟨_, _, am_run_up (fu_81_38 (by omega) e) (by decide), ?_⟩
  show am_T ro 2 61 7 [.ref 38, .ref 1, am_un] [.int (nI (decide (16 ≤ k)).toNat)] (wd c a l f) _
  rw [decide_eq_false (show ¬ 16 ≤ k by omega)]
  refine am_wp_ok (inl := []) 2 2 61 [12] _ _ _ _ _ ?_
  refine am_br_t (show nI 0 = 0 from rfl) ?_
  show am_T ro 2 61 12 [.ref 38, .ref 1, am_un] [] (wd c a l f) _
  refine am_wp_ok (inl := []) 4 2 61 [18] _ _ _ _ _ ?_
  refine ⟨_, _, am_run_up (c_num (b := 1000000) (f := f) (by decide) hC g0 (h3) (h4)) (by decide), ?_⟩
  show am_T ro 2 61 18 [.ref 38, .ref 1, am_un] [.int (nv (uj U n j) (lj U n j) 1000000)] (wd c a l (tx f (sj U n j) (ej U n j) (nI (w) + 1))) _
  rw [nI_1]
  rw [v1]
  refine am_wp_ok (inl := []) 7 2 61 [] _ _ _ _ _ ?_
  refine am_br_f (show ¬ ¬ (-1 : Int32) = -1 from fun z => z rfl) ?_
  exact And.intro rfl (And.intro rfl rfl)
theorem tg_bad (b : Bool) {ro : Nat → Option am_C} {c : Bool} {a : Nat → Nat → Int32} {l : Nat → Int64} {f : Nat → Nat → Int32} {n j w : Nat} {U : Nat → Nat} (hC : CT a f n U) (hj : j ≤ n) (h3 : f 1 3 = nI j) (h4 : f 1 4 = nI w) {k : Nat} (e : f (ob b + 8) 7 = nI k) (hk : k < 16) (v1 : nv (uj U n j) (lj U n j) 1000000 = -1) : am_run ro 3 61 [.ref (ob b), .ref 1] (wd c a l f) (some (.int (nI 0))) (wd c a l (tx f (sj U n j) (ej U n j) (nI (w + 1)))) := by
  cases b
  · exact tg_bad_16 hC hj h3 h4 e hk v1
  · exact tg_bad_38 hC hj h3 h4 e hk v1
set_option maxRecDepth 100000 in
set_option maxHeartbeats 4000000 in
theorem tg_ok_16 {ro : Nat → Option am_C} {c : Bool} {a : Nat → Nat → Int32} {l : Nat → Int64} {f : Nat → Nat → Int32} {n j w : Nat} {U : Nat → Nat} (hC : CT a f n U) (hj : j ≤ n) (h3 : f 1 3 = nI j) (h4 : f 1 4 = nI w) {k : Nat} (e : f 24 7 = nI k) {x : Nat} (hk : k < 16) (hx : x < 1000000) (v1 : nv (uj U n j) (lj U n j) 1000000 = nI x) : am_run ro 3 61 [.ref 16, .ref 1] (wd c a l f) (some (.int (nI 1))) (wd c (u2 a 25 (upd (a 25) k (nI x))) l (tx (u3 f 24 7 (nI (k + 1))) (sj U n (ej U n j)) (ej U n (ej U n j)) (nI (w + 1 + 1)))) := by
  have g0 : j ≤ n := hj
  have g1 : (ej U n j) ≤ n := (j_le (U := U) g0).2.2
  refine am_run_of rfl (am_wp_ok (inl := []) 4 2 61 [7] 0 _ _ _ _ ?_)
  refine ⟨_, _, am_run_up (fu_81_16 (by omega) e) (by decide), ?_⟩
  show am_T ro 2 61 7 [.ref 16, .ref 1, am_un] [.int (nI (decide (16 ≤ k)).toNat)] (wd c a l f) _
  rw [decide_eq_false (show ¬ 16 ≤ k by omega)]
  refine am_wp_ok (inl := []) 2 2 61 [12] _ _ _ _ _ ?_
  refine am_br_t (show nI 0 = 0 from rfl) ?_
  show am_T ro 2 61 12 [.ref 16, .ref 1, am_un] [] (wd c a l f) _
  refine am_wp_ok (inl := []) 4 2 61 [18] _ _ _ _ _ ?_
  refine ⟨_, _, am_run_up (c_num (b := 1000000) (f := f) (by decide) hC g0 (h3) (h4)) (by decide), ?_⟩
  show am_T ro 2 61 18 [.ref 16, .ref 1, am_un] [.int (nv (uj U n j) (lj U n j) 1000000)] (wd c a l (tx f (sj U n j) (ej U n j) (nI (w) + 1))) _
  rw [nI_1]
  rw [v1]
  refine am_wp_ok (inl := []) 5 2 61 [26] _ _ _ _ _ ?_
  refine am_br_t (nI_n1 (by omega)) ?_
  show am_T ro 2 61 26 [.ref 16, .ref 1, .int (nI x)] [] (wd c a l (tx f (sj U n j) (ej U n j) (nI (w + 1)))) _
  refine am_wp_ok (inl := []) 5 2 61 [34] _ _ _ _ _ ?_
  refine ⟨_, _, ad_gen_16 (f := (tx f (sj U n j) (ej U n j) (nI (w + 1)))) hk e, ?_⟩
  show am_T ro 2 61 34 [.ref 16, .ref 1, .int (nI x)] [] (wd c (u2 a 25 (upd (a 25) k (nI x))) l (u3 (tx f (sj U n j) (ej U n j) (nI (w + 1))) 24 7 (nI (k + 1)))) _
  rw [tx_u3 rfl]
  refine am_wp_ok (inl := []) 3 2 61 [38] _ _ _ _ _ ?_
  refine ⟨_, _, am_run_up (c_next (f := (tx (u3 f 24 7 (nI (k + 1))) (sj U n j) (ej U n j) (nI (w + 1)))) hC g1 (rfl) (rfl)) (by decide), ?_⟩
  show am_T ro 2 61 38 [.ref 16, .ref 1, .int (nI x)] [] (wd c (u2 a 25 (upd (a 25) k (nI x))) l (tx (tx (u3 f 24 7 (nI (k + 1))) (sj U n j) (ej U n j) (nI (w + 1))) (sj U n (ej U n j)) (ej U n (ej U n j)) (nI (w + 1) + 1))) _
  rw [tx_tx, nI_1]
  refine am_wp_ok (inl := []) 3 2 61 [] _ _ _ _ _ ?_
  exact And.intro rfl (And.intro rfl rfl)
set_option maxRecDepth 100000 in
set_option maxHeartbeats 4000000 in
theorem tg_ok_38 {ro : Nat → Option am_C} {c : Bool} {a : Nat → Nat → Int32} {l : Nat → Int64} {f : Nat → Nat → Int32} {n j w : Nat} {U : Nat → Nat} (hC : CT a f n U) (hj : j ≤ n) (h3 : f 1 3 = nI j) (h4 : f 1 4 = nI w) {k : Nat} (e : f 46 7 = nI k) {x : Nat} (hk : k < 16) (hx : x < 1000000) (v1 : nv (uj U n j) (lj U n j) 1000000 = nI x) : am_run ro 3 61 [.ref 38, .ref 1] (wd c a l f) (some (.int (nI 1))) (wd c (u2 a 47 (upd (a 47) k (nI x))) l (tx (u3 f 46 7 (nI (k + 1))) (sj U n (ej U n j)) (ej U n (ej U n j)) (nI (w + 1 + 1)))) := by
  have g0 : j ≤ n := hj
  have g1 : (ej U n j) ≤ n := (j_le (U := U) g0).2.2
  refine am_run_of rfl (am_wp_ok (inl := []) 4 2 61 [7] 0 _ _ _ _ ?_)
  refine ⟨_, _, am_run_up (fu_81_38 (by omega) e) (by decide), ?_⟩
  show am_T ro 2 61 7 [.ref 38, .ref 1, am_un] [.int (nI (decide (16 ≤ k)).toNat)] (wd c a l f) _
  rw [decide_eq_false (show ¬ 16 ≤ k by omega)]
  refine am_wp_ok (inl := []) 2 2 61 [12] _ _ _ _ _ ?_
  refine am_br_t (show nI 0 = 0 from rfl) ?_
  show am_T ro 2 61 12 [.ref 38, .ref 1, am_un] [] (wd c a l f) _
  refine am_wp_ok (inl := []) 4 2 61 [18] _ _ _ _ _ ?_
  refine ⟨_, _, am_run_up (c_num (b := 1000000) (f := f) (by decide) hC g0 (h3) (h4)) (by decide), ?_⟩
  show am_T ro 2 61 18 [.ref 38, .ref 1, am_un] [.int (nv (uj U n j) (lj U n j) 1000000)] (wd c a l (tx f (sj U n j) (ej U n j) (nI (w) + 1))) _
  rw [nI_1]
  rw [v1]
  refine am_wp_ok (inl := []) 5 2 61 [26] _ _ _ _ _ ?_
  refine am_br_t (nI_n1 (by omega)) ?_
  show am_T ro 2 61 26 [.ref 38, .ref 1, .int (nI x)] [] (wd c a l (tx f (sj U n j) (ej U n j) (nI (w + 1)))) _
  refine am_wp_ok (inl := []) 5 2 61 [34] _ _ _ _ _ ?_
  refine ⟨_, _, ad_gen_38 (f := (tx f (sj U n j) (ej U n j) (nI (w + 1)))) hk e, ?_⟩
  show am_T ro 2 61 34 [.ref 38, .ref 1, .int (nI x)] [] (wd c (u2 a 47 (upd (a 47) k (nI x))) l (u3 (tx f (sj U n j) (ej U n j) (nI (w + 1))) 46 7 (nI (k + 1)))) _
  rw [tx_u3 rfl]
  refine am_wp_ok (inl := []) 3 2 61 [38] _ _ _ _ _ ?_
  refine ⟨_, _, am_run_up (c_next (f := (tx (u3 f 46 7 (nI (k + 1))) (sj U n j) (ej U n j) (nI (w + 1)))) hC g1 (rfl) (rfl)) (by decide), ?_⟩
  show am_T ro 2 61 38 [.ref 38, .ref 1, .int (nI x)] [] (wd c (u2 a 47 (upd (a 47) k (nI x))) l (tx (tx (u3 f 46 7 (nI (k + 1))) (sj U n j) (ej U n j) (nI (w + 1))) (sj U n (ej U n j)) (ej U n (ej U n j)) (nI (w + 1) + 1))) _
  rw [tx_tx, nI_1]
  refine am_wp_ok (inl := []) 3 2 61 [] _ _ _ _ _ ?_
  exact And.intro rfl (And.intro rfl rfl)
theorem tg_ok (b : Bool) {ro : Nat → Option am_C} {c : Bool} {a : Nat → Nat → Int32} {l : Nat → Int64} {f : Nat → Nat → Int32} {n j w : Nat} {U : Nat → Nat} (hC : CT a f n U) (hj : j ≤ n) (h3 : f 1 3 = nI j) (h4 : f 1 4 = nI w) {k : Nat} (e : f (ob b + 8) 7 = nI k) {x : Nat} (hk : k < 16) (hx : x < 1000000) (v1 : nv (uj U n j) (lj U n j) 1000000 = nI x) : am_run ro 3 61 [.ref (ob b), .ref 1] (wd c a l f) (some (.int (nI 1))) (wd c (u2 a (ob b + 9) (upd (a (ob b + 9)) k (nI x))) l (tx (u3 f (ob b + 8) 7 (nI (k + 1))) (sj U n (ej U n j)) (ej U n (ej U n j)) (nI (w + 1 + 1)))) := by
  cases b
  · exact tg_ok_16 hC hj h3 h4 e hk hx v1
  · exact tg_ok_38 hC hj h3 h4 e hk hx v1
set_option maxRecDepth 100000 in
set_option maxHeartbeats 4000000 in
theorem ti_full_16 {ro : Nat → Option am_C} {c : Bool} {a : Nat → Nat → Int32} {l : Nat → Int64} {f : Nat → Nat → Int32} {n j w : Nat} {U : Nat → Nat} (hC : CT a f n U) (hj : j ≤ n) (h3 : f 1 3 = nI j) (h4 : f 1 4 = nI w) {k : Nat} (e : f 24 8 = nI k) (hk2 : k < 2 ^ 31) (hk : 16 ≤ k) : am_run ro 3 62 [.ref 16, .ref 1] (wd c a l f) (some (.int (nI 0))) (wd c a l f) := by
  have g0 : j ≤ n := hj
  refine am_run_of rfl (am_wp_ok (inl := []) 4 2 62 [7] 0 _ _ _ _ ?_)
  refine ⟨_, _, am_run_up (fu_83_16 (by omega) e) (by decide), ?_⟩
  show am_T ro 2 62 7 [.ref 16, .ref 1, am_un, am_un] [.int (nI (decide (16 ≤ k)).toNat)] (wd c a l f) _
  rw [decide_eq_true hk]
  refine am_wp_ok (inl := []) 4 2 62 [] _ _ _ _ _ ?_
  refine am_br_f (show ¬ nI 1 = 0 by decide) ?_
  exact And.intro rfl (And.intro rfl rfl)
set_option maxRecDepth 100000 in
set_option maxHeartbeats 4000000 in
theorem ti_full_38 {ro : Nat → Option am_C} {c : Bool} {a : Nat → Nat → Int32} {l : Nat → Int64} {f : Nat → Nat → Int32} {n j w : Nat} {U : Nat → Nat} (hC : CT a f n U) (hj : j ≤ n) (h3 : f 1 3 = nI j) (h4 : f 1 4 = nI w) {k : Nat} (e : f 46 8 = nI k) (hk2 : k < 2 ^ 31) (hk : 16 ≤ k) : am_run ro 3 62 [.ref 38, .ref 1] (wd c a l f) (some (.int (nI 0))) (wd c a l f) := by
  have g0 : j ≤ n := hj
  refine am_run_of rfl (am_wp_ok (inl := []) 4 2 62 [7] 0 _ _ _ _ ?_)
  refine ⟨_, _, am_run_up (fu_83_38 (by omega) e) (by decide), ?_⟩
  show am_T ro 2 62 7 [.ref 38, .ref 1, am_un, am_un] [.int (nI (decide (16 ≤ k)).toNat)] (wd c a l f) _
  rw [decide_eq_true hk]
  refine am_wp_ok (inl := []) 4 2 62 [] _ _ _ _ _ ?_
  refine am_br_f (show ¬ nI 1 = 0 by decide) ?_
  exact And.intro rfl (And.intro rfl rfl)
theorem ti_full (b : Bool) {ro : Nat → Option am_C} {c : Bool} {a : Nat → Nat → Int32} {l : Nat → Int64} {f : Nat → Nat → Int32} {n j w : Nat} {U : Nat → Nat} (hC : CT a f n U) (hj : j ≤ n) (h3 : f 1 3 = nI j) (h4 : f 1 4 = nI w) {k : Nat} (e : f (ob b + 8) 8 = nI k) (hk2 : k < 2 ^ 31) (hk : 16 ≤ k) : am_run ro 3 62 [.ref (ob b), .ref 1] (wd c a l f) (some (.int (nI 0))) (wd c a l f) := by
  cases b
  · exact ti_full_16 hC hj h3 h4 e hk2 hk
  · exact ti_full_38 hC hj h3 h4 e hk2 hk
set_option maxRecDepth 100000 in
set_option maxHeartbeats 4000000 in
theorem ti_bad1_16 {ro : Nat → Option am_C} {c : Bool} {a : Nat → Nat → Int32} {l : Nat → Int64} {f : Nat → Nat → Int32} {n j w : Nat} {U : Nat → Nat} (hC : CT a f n U) (hj : j ≤ n) (h3 : f 1 3 = nI j) (h4 : f 1 4 = nI w) {k : Nat} (e : f 24 8 = nI k) (hk : k < 16) (v1 : nv (uj U n j) (lj U n j) 1000000 = -1) : am_run ro 3 62 [.ref 16, .ref 1] (wd c a l f) (some (.int (nI 0))) (wd c a l (tx f (sj U n j) (ej U n j) (nI (w + 1)))) := by
  have g0 : j ≤ n := hj
  refine am_run_of rfl (am_wp_ok (inl := []) 4 2 62 [7] 0 _ _ _ _ ?_)
  refine ⟨_, _, am_run_up (fu_83_16 (by omega) e) (by decide), ?_⟩
  show am_T ro 2 62 7 [.ref 16, .ref 1, am_un, am_un] [.int (nI (decide (16 ≤ k)).toNat)] (wd c a l f) _
  rw [decide_eq_false (show ¬ 16 ≤ k by omega)]
  refine am_wp_ok (inl := []) 2 2 62 [12] _ _ _ _ _ ?_
  refine am_br_t (show nI 0 = 0 from rfl) ?_
  show am_T ro 2 62 12 [.ref 16, .ref 1, am_un, am_un] [] (wd c a l f) _
  refine am_wp_ok (inl := []) 4 2 62 [18] _ _ _ _ _ ?_
  refine ⟨_, _, am_run_up (c_num (b := 1000000) (f := f) (by decide) hC g0 (h3) (h4)) (by decide), ?_⟩
  show am_T ro 2 62 18 [.ref 16, .ref 1, am_un, am_un] [.int (nv (uj U n j) (lj U n j) 1000000)] (wd c a l (tx f (sj U n j) (ej U n j) (nI (w) + 1))) _
  rw [nI_1]
  rw [v1]
  refine am_wp_ok (inl := []) 7 2 62 [] _ _ _ _ _ ?_
  refine am_br_t (show (-1 : Int32) = -1 from rfl) ?_
  exact And.intro rfl (And.intro rfl rfl)
set_option maxRecDepth 100000 in
set_option maxHeartbeats 4000000 in
theorem ti_bad1_38 {ro : Nat → Option am_C} {c : Bool} {a : Nat → Nat → Int32} {l : Nat → Int64} {f : Nat → Nat → Int32} {n j w : Nat} {U : Nat → Nat} (hC : CT a f n U) (hj : j ≤ n) (h3 : f 1 3 = nI j) (h4 : f 1 4 = nI w) {k : Nat} (e : f 46 8 = nI k) (hk : k < 16) (v1 : nv (uj U n j) (lj U n j) 1000000 = -1) : am_run ro 3 62 [.ref 38, .ref 1] (wd c a l f) (some (.int (nI 0))) (wd c a l (tx f (sj U n j) (ej U n j) (nI (w + 1)))) := by
  have g0 : j ≤ n := hj
  refine am_run_of rfl (am_wp_ok (inl := []) 4 2 62 [7] 0 _ _ _ _ ?_)
  refine ⟨_, _, am_run_up (fu_83_38 (by omega) e) (by decide), ?_⟩
  show am_T ro 2 62 7 [.ref 38, .ref 1, am_un, am_un] [.int (nI (decide (16 ≤ k)).toNat)] (wd c a l f) _
  rw [decide_eq_false (show ¬ 16 ≤ k by omega)]
  refine am_wp_ok (inl := []) 2 2 62 [12] _ _ _ _ _ ?_
  refine am_br_t (show nI 0 = 0 from rfl) ?_
  show am_T ro 2 62 12 [.ref 38, .ref 1, am_un, am_un] [] (wd c a l f) _
  refine am_wp_ok (inl := []) 4 2 62 [18] _ _ _ _ _ ?_
  refine ⟨_, _, am_run_up (c_num (b := 1000000) (f := f) (by decide) hC g0 (h3) (h4)) (by decide), ?_⟩
  show am_T ro 2 62 18 [.ref 38, .ref 1, am_un, am_un] [.int (nv (uj U n j) (lj U n j) 1000000)] (wd c a l (tx f (sj U n j) (ej U n j) (nI (w) + 1))) _
  rw [nI_1]
  rw [v1]
  refine am_wp_ok (inl := []) 7 2 62 [] _ _ _ _ _ ?_
  refine am_br_t (show (-1 : Int32) = -1 from rfl) ?_
  exact And.intro rfl (And.intro rfl rfl)
theorem ti_bad1 (b : Bool) {ro : Nat → Option am_C} {c : Bool} {a : Nat → Nat → Int32} {l : Nat → Int64} {f : Nat → Nat → Int32} {n j w : Nat} {U : Nat → Nat} (hC : CT a f n U) (hj : j ≤ n) (h3 : f 1 3 = nI j) (h4 : f 1 4 = nI w) {k : Nat} (e : f (ob b + 8) 8 = nI k) (hk : k < 16) (v1 : nv (uj U n j) (lj U n j) 1000000 = -1) : am_run ro 3 62 [.ref (ob b), .ref 1] (wd c a l f) (some (.int (nI 0))) (wd c a l (tx f (sj U n j) (ej U n j) (nI (w + 1)))) := by
  cases b
  · exact ti_bad1_16 hC hj h3 h4 e hk v1
  · exact ti_bad1_38 hC hj h3 h4 e hk v1
set_option maxRecDepth 100000 in
set_option maxHeartbeats 4000000 in
theorem ti_mir1_16 {ro : Nat → Option am_C} {c : Bool} {a : Nat → Nat → Int32} {l : Nat → Int64} {f : Nat → Nat → Int32} {n j w : Nat} {U : Nat → Nat} (hC : CT a f n U) (hj : j ≤ n) (h3 : f 1 3 = nI j) (h4 : f 1 4 = nI w) {k : Nat} (e : f 24 8 = nI k) (hg : ∀ i, i < k → ¬ a 27 i = -1) {x : Nat} (hk : k < 16) (hx : x < 1000000) (v1 : nv (uj U n j) (lj U n j) 1000000 = nI x) (m1 : an (fun q => decide (a 26 q = nI x) || decide (a 27 q = nI x)) 0 k = true) : am_run ro 3 62 [.ref 16, .ref 1] (wd c a l f) (some (.int (nI 0))) (wd c a l (tx f (sj U n j) (ej U n j) (nI (w + 1)))) := by
  have g0 : j ≤ n := hj
  refine am_run_of rfl (am_wp_ok (inl := []) 4 2 62 [7] 0 _ _ _ _ ?_)
  refine ⟨_, _, am_run_up (fu_83_16 (by omega) e) (by decide), ?_⟩
  show am_T ro 2 62 7 [.ref 16, .ref 1, am_un, am_un] [.int (nI (decide (16 ≤ k)).toNat)] (wd c a l f) _
  rw [decide_eq_false (show ¬ 16 ≤ k by omega)]
  refine am_wp_ok (inl := []) 2 2 62 [12] _ _ _ _ _ ?_
  refine am_br_t (show nI 0 = 0 from rfl) ?_
  show am_T ro 2 62 12 [.ref 16, .ref 1, am_un, am_un] [] (wd c a l f) _
  refine am_wp_ok (inl := []) 4 2 62 [18] _ _ _ _ _ ?_
  refine ⟨_, _, am_run_up (c_num (b := 1000000) (f := f) (by decide) hC g0 (h3) (h4)) (by decide), ?_⟩
  show am_T ro 2 62 18 [.ref 16, .ref 1, am_un, am_un] [.int (nv (uj U n j) (lj U n j) 1000000)] (wd c a l (tx f (sj U n j) (ej U n j) (nI (w) + 1))) _
  rw [nI_1]
  rw [v1]
  refine am_wp_ok (inl := []) 5 2 62 [24] _ _ _ _ _ ?_
  refine am_br_f (nI_n1 (by omega)) ?_
  show am_T ro 2 62 24 [.ref 16, .ref 1, .int (nI x), am_un] [] (wd c a l (tx f (sj U n j) (ej U n j) (nI (w + 1)))) _
  refine am_wp_ok (inl := []) 5 2 62 [32] _ _ _ _ _ ?_
  refine ⟨_, _, cs_im_16 (f := (tx f (sj U n j) (ej U n j) (nI (w + 1)))) (by omega) e hg, ?_⟩
  show am_T ro 2 62 32 [.ref 16, .ref 1, .int (nI x), am_un] [.int (nI (an (fun q => decide (a 26 q = nI x) || decide (a 27 q = nI x)) 0 k).toNat)] (wd c a l (tx f (sj U n j) (ej U n j) (nI (w + 1)))) _
  rw [m1]
  refine am_wp_ok (inl := []) 4 2 62 [] _ _ _ _ _ ?_
  refine am_br_f (show ¬ nI 1 = 0 by decide) ?_
  exact And.intro rfl (And.intro rfl rfl)
set_option maxRecDepth 100000 in
set_option maxHeartbeats 4000000 in
theorem ti_mir1_38 {ro : Nat → Option am_C} {c : Bool} {a : Nat → Nat → Int32} {l : Nat → Int64} {f : Nat → Nat → Int32} {n j w : Nat} {U : Nat → Nat} (hC : CT a f n U) (hj : j ≤ n) (h3 : f 1 3 = nI j) (h4 : f 1 4 = nI w) {k : Nat} (e : f 46 8 = nI k) (hg : ∀ i, i < k → ¬ a 49 i = -1) {x : Nat} (hk : k < 16) (hx : x < 1000000) (v1 : nv (uj U n j) (lj U n j) 1000000 = nI x) (m1 : an (fun q => decide (a 48 q = nI x) || decide (a 49 q = nI x)) 0 k = true) : am_run ro 3 62 [.ref 38, .ref 1] (wd c a l f) (some (.int (nI 0))) (wd c a l (tx f (sj U n j) (ej U n j) (nI (w + 1)))) := by
  have g0 : j ≤ n := hj
  refine am_run_of rfl (am_wp_ok (inl := []) 4 2 62 [7] 0 _ _ _ _ ?_)
  refine ⟨_, _, am_run_up (fu_83_38 (by omega) e) (by decide), ?_⟩
  show am_T ro 2 62 7 [.ref 38, .ref 1, am_un, am_un] [.int (nI (decide (16 ≤ k)).toNat)] (wd c a l f) _
  rw [decide_eq_false (show ¬ 16 ≤ k by omega)]
  refine am_wp_ok (inl := []) 2 2 62 [12] _ _ _ _ _ ?_
  refine am_br_t (show nI 0 = 0 from rfl) ?_
  show am_T ro 2 62 12 [.ref 38, .ref 1, am_un, am_un] [] (wd c a l f) _
  refine am_wp_ok (inl := []) 4 2 62 [18] _ _ _ _ _ ?_
  refine ⟨_, _, am_run_up (c_num (b := 1000000) (f := f) (by decide) hC g0 (h3) (h4)) (by decide), ?_⟩
  show am_T ro 2 62 18 [.ref 38, .ref 1, am_un, am_un] [.int (nv (uj U n j) (lj U n j) 1000000)] (wd c a l (tx f (sj U n j) (ej U n j) (nI (w) + 1))) _
  rw [nI_1]
  rw [v1]
  refine am_wp_ok (inl := []) 5 2 62 [24] _ _ _ _ _ ?_
  refine am_br_f (nI_n1 (by omega)) ?_
  show am_T ro 2 62 24 [.ref 38, .ref 1, .int (nI x), am_un] [] (wd c a l (tx f (sj U n j) (ej U n j) (nI (w + 1)))) _
  refine am_wp_ok (inl := []) 5 2 62 [32] _ _ _ _ _ ?_
  refine ⟨_, _, cs_im_38 (f := (tx f (sj U n j) (ej U n j) (nI (w + 1)))) (by omega) e hg, ?_⟩
  show am_T ro 2 62 32 [.ref 38, .ref 1, .int (nI x), am_un] [.int (nI (an (fun q => decide (a 48 q = nI x) || decide (a 49 q = nI x)) 0 k).toNat)] (wd c a l (tx f (sj U n j) (ej U n j) (nI (w + 1)))) _
  rw [m1]
  refine am_wp_ok (inl := []) 4 2 62 [] _ _ _ _ _ ?_
  refine am_br_f (show ¬ nI 1 = 0 by decide) ?_
  exact And.intro rfl (And.intro rfl rfl)
theorem ti_mir1 (b : Bool) {ro : Nat → Option am_C} {c : Bool} {a : Nat → Nat → Int32} {l : Nat → Int64} {f : Nat → Nat → Int32} {n j w : Nat} {U : Nat → Nat} (hC : CT a f n U) (hj : j ≤ n) (h3 : f 1 3 = nI j) (h4 : f 1 4 = nI w) {k : Nat} (e : f (ob b + 8) 8 = nI k) (hg : ∀ i, i < k → ¬ a (ob b + 11) i = -1) {x : Nat} (hk : k < 16) (hx : x < 1000000) (v1 : nv (uj U n j) (lj U n j) 1000000 = nI x) (m1 : an (fun q => decide (a (ob b + 10) q = nI x) || decide (a (ob b + 11) q = nI x)) 0 k = true) : am_run ro 3 62 [.ref (ob b), .ref 1] (wd c a l f) (some (.int (nI 0))) (wd c a l (tx f (sj U n j) (ej U n j) (nI (w + 1)))) := by
  cases b
  · exact ti_mir1_16 hC hj h3 h4 e hg hk hx v1 m1
  · exact ti_mir1_38 hC hj h3 h4 e hg hk hx v1 m1
set_option maxRecDepth 100000 in
set_option maxHeartbeats 4000000 in
theorem ti_bad2_16 {ro : Nat → Option am_C} {c : Bool} {a : Nat → Nat → Int32} {l : Nat → Int64} {f : Nat → Nat → Int32} {n j w : Nat} {U : Nat → Nat} (hC : CT a f n U) (hj : j ≤ n) (h3 : f 1 3 = nI j) (h4 : f 1 4 = nI w) {k : Nat} (e : f 24 8 = nI k) (hg : ∀ i, i < k → ¬ a 27 i = -1) {x : Nat} (hk : k < 16) (hx : x < 1000000) (v1 : nv (uj U n j) (lj U n j) 1000000 = nI x) (m1 : an (fun q => decide (a 26 q = nI x) || decide (a 27 q = nI x)) 0 k = false) (v2 : nv (uj U n (ej U n j)) (lj U n (ej U n j)) 1000000 = -1) : am_run ro 3 62 [.ref 16, .ref 1] (wd c a l f) (some (.int (nI 0))) (wd c a l (tx f (sj U n (ej U n j)) (ej U n (ej U n j)) (nI (w + 1 + 1)))) := by
  have g0 : j ≤ n := hj
  have g1 : (ej U n j) ≤ n := (j_le (U := U) g0).2.2
  refine am_run_of rfl (am_wp_ok (inl := []) 4 2 62 [7] 0 _ _ _ _ ?_)
  refine ⟨_, _, am_run_up (fu_83_16 (by omega) e) (by decide), ?_⟩
  show am_T ro 2 62 7 [.ref 16, .ref 1, am_un, am_un] [.int (nI (decide (16 ≤ k)).toNat)] (wd c a l f) _
  rw [decide_eq_false (show ¬ 16 ≤ k by omega)]
  refine am_wp_ok (inl := []) 2 2 62 [12] _ _ _ _ _ ?_
  refine am_br_t (show nI 0 = 0 from rfl) ?_
  show am_T ro 2 62 12 [.ref 16, .ref 1, am_un, am_un] [] (wd c a l f) _
  refine am_wp_ok (inl := []) 4 2 62 [18] _ _ _ _ _ ?_
  refine ⟨_, _, am_run_up (c_num (b := 1000000) (f := f) (by decide) hC g0 (h3) (h4)) (by decide), ?_⟩
  show am_T ro 2 62 18 [.ref 16, .ref 1, am_un, am_un] [.int (nv (uj U n j) (lj U n j) 1000000)] (wd c a l (tx f (sj U n j) (ej U n j) (nI (w) + 1))) _
  rw [nI_1]
  rw [v1]
  refine am_wp_ok (inl := []) 5 2 62 [24] _ _ _ _ _ ?_
  refine am_br_f (nI_n1 (by omega)) ?_
  show am_T ro 2 62 24 [.ref 16, .ref 1, .int (nI x), am_un] [] (wd c a l (tx f (sj U n j) (ej U n j) (nI (w + 1)))) _
  refine am_wp_ok (inl := []) 5 2 62 [32] _ _ _ _ _ ?_
  refine ⟨_, _, cs_im_16 (f := (tx f (sj U n j) (ej U n j) (nI (w + 1)))) (by omega) e hg, ?_⟩
  show am_T ro 2 62 32 [.ref 16, .ref 1, .int (nI x), am_un] [.int (nI (an (fun q => decide (a 26 q = nI x) || decide (a 27 q = nI x)) 0 k).toNat)] (wd c a l (tx f (sj U n j) (ej U n j) (nI (w + 1)))) _
  rw [m1]
  refine am_wp_ok (inl := []) 2 2 62 [37] _ _ _ _ _ ?_
  refine am_br_t (show nI 0 = 0 from rfl) ?_
  show am_T ro 2 62 37 [.ref 16, .ref 1, .int (nI x), am_un] [] (wd c a l (tx f (sj U n j) (ej U n j) (nI (w + 1)))) _
  refine am_wp_ok (inl := []) 4 2 62 [43] _ _ _ _ _ ?_
  refine ⟨_, _, am_run_up (c_num (b := 1000000) (f := (tx f (sj U n j) (ej U n j) (nI (w + 1)))) (by decide) hC g1 (rfl) (rfl)) (by decide), ?_⟩
  show am_T ro 2 62 43 [.ref 16, .ref 1, .int (nI x), am_un] [.int (nv (uj U n (ej U n j)) (lj U n (ej U n j)) 1000000)] (wd c a l (tx (tx f (sj U n j) (ej U n j) (nI (w + 1))) (sj U n (ej U n j)) (ej U n (ej U n j)) (nI (w + 1) + 1))) _
  rw [tx_tx, nI_1]
  rw [v2]
  refine am_wp_ok (inl := []) 7 2 62 [] _ _ _ _ _ ?_
  refine am_br_t (show (-1 : Int32) = -1 from rfl) ?_
  exact And.intro rfl (And.intro rfl rfl)
set_option maxRecDepth 100000 in
set_option maxHeartbeats 4000000 in
theorem ti_bad2_38 {ro : Nat → Option am_C} {c : Bool} {a : Nat → Nat → Int32} {l : Nat → Int64} {f : Nat → Nat → Int32} {n j w : Nat} {U : Nat → Nat} (hC : CT a f n U) (hj : j ≤ n) (h3 : f 1 3 = nI j) (h4 : f 1 4 = nI w) {k : Nat} (e : f 46 8 = nI k) (hg : ∀ i, i < k → ¬ a 49 i = -1) {x : Nat} (hk : k < 16) (hx : x < 1000000) (v1 : nv (uj U n j) (lj U n j) 1000000 = nI x) (m1 : an (fun q => decide (a 48 q = nI x) || decide (a 49 q = nI x)) 0 k = false) (v2 : nv (uj U n (ej U n j)) (lj U n (ej U n j)) 1000000 = -1) : am_run ro 3 62 [.ref 38, .ref 1] (wd c a l f) (some (.int (nI 0))) (wd c a l (tx f (sj U n (ej U n j)) (ej U n (ej U n j)) (nI (w + 1 + 1)))) := by
  have g0 : j ≤ n := hj
  have g1 : (ej U n j) ≤ n := (j_le (U := U) g0).2.2
  refine am_run_of rfl (am_wp_ok (inl := []) 4 2 62 [7] 0 _ _ _ _ ?_)
  refine ⟨_, _, am_run_up (fu_83_38 (by omega) e) (by decide), ?_⟩
  show am_T ro 2 62 7 [.ref 38, .ref 1, am_un, am_un] [.int (nI (decide (16 ≤ k)).toNat)] (wd c a l f) _
  rw [decide_eq_false (show ¬ 16 ≤ k by omega)]
  refine am_wp_ok (inl := []) 2 2 62 [12] _ _ _ _ _ ?_
  refine am_br_t (show nI 0 = 0 from rfl) ?_
  show am_T ro 2 62 12 [.ref 38, .ref 1, am_un, am_un] [] (wd c a l f) _
  refine am_wp_ok (inl := []) 4 2 62 [18] _ _ _ _ _ ?_
  refine ⟨_, _, am_run_up (c_num (b := 1000000) (f := f) (by decide) hC g0 (h3) (h4)) (by decide), ?_⟩
  show am_T ro 2 62 18 [.ref 38, .ref 1, am_un, am_un] [.int (nv (uj U n j) (lj U n j) 1000000)] (wd c a l (tx f (sj U n j) (ej U n j) (nI (w) + 1))) _
  rw [nI_1]
  rw [v1]
  refine am_wp_ok (inl := []) 5 2 62 [24] _ _ _ _ _ ?_
  refine am_br_f (nI_n1 (by omega)) ?_
  show am_T ro 2 62 24 [.ref 38, .ref 1, .int (nI x), am_un] [] (wd c a l (tx f (sj U n j) (ej U n j) (nI (w + 1)))) _
  refine am_wp_ok (inl := []) 5 2 62 [32] _ _ _ _ _ ?_
  refine ⟨_, _, cs_im_38 (f := (tx f (sj U n j) (ej U n j) (nI (w + 1)))) (by omega) e hg, ?_⟩
  show am_T ro 2 62 32 [.ref 38, .ref 1, .int (nI x), am_un] [.int (nI (an (fun q => decide (a 48 q = nI x) || decide (a 49 q = nI x)) 0 k).toNat)] (wd c a l (tx f (sj U n j) (ej U n j) (nI (w + 1)))) _
  rw [m1]
  refine am_wp_ok (inl := []) 2 2 62 [37] _ _ _ _ _ ?_
  refine am_br_t (show nI 0 = 0 from rfl) ?_
  show am_T ro 2 62 37 [.ref 38, .ref 1, .int (nI x), am_un] [] (wd c a l (tx f (sj U n j) (ej U n j) (nI (w + 1)))) _
  refine am_wp_ok (inl := []) 4 2 62 [43] _ _ _ _ _ ?_
  refine ⟨_, _, am_run_up (c_num (b := 1000000) (f := (tx f (sj U n j) (ej U n j) (nI (w + 1)))) (by decide) hC g1 (rfl) (rfl)) (by decide), ?_⟩
  show am_T ro 2 62 43 [.ref 38, .ref 1, .int (nI x), am_un] [.int (nv (uj U n (ej U n j)) (lj U n (ej U n j)) 1000000)] (wd c a l (tx (tx f (sj U n j) (ej U n j) (nI (w + 1))) (sj U n (ej U n j)) (ej U n (ej U n j)) (nI (w + 1) + 1))) _
  rw [tx_tx, nI_1]
  rw [v2]
  refine am_wp_ok (inl := []) 7 2 62 [] _ _ _ _ _ ?_
  refine am_br_t (show (-1 : Int32) = -1 from rfl) ?_
  exact And.intro rfl (And.intro rfl rfl)
theorem ti_bad2 (b : Bool) {ro : Nat → Option am_C} {c : Bool} {a : Nat → Nat → Int32} {l : Nat → Int64} {f : Nat → Nat → Int32} {n j w : Nat} {U : Nat → Nat} (hC : CT a f n U) (hj : j ≤ n) (h3 : f 1 3 = nI j) (h4 : f 1 4 = nI w) {k : Nat} (e : f (ob b + 8) 8 = nI k) (hg : ∀ i, i < k → ¬ a (ob b + 11) i = -1) {x : Nat} (hk : k < 16) (hx : x < 1000000) (v1 : nv (uj U n j) (lj U n j) 1000000 = nI x) (m1 : an (fun q => decide (a (ob b + 10) q = nI x) || decide (a (ob b + 11) q = nI x)) 0 k = false) (v2 : nv (uj U n (ej U n j)) (lj U n (ej U n j)) 1000000 = -1) : am_run ro 3 62 [.ref (ob b), .ref 1] (wd c a l f) (some (.int (nI 0))) (wd c a l (tx f (sj U n (ej U n j)) (ej U n (ej U n j)) (nI (w + 1 + 1)))) := by
  cases b
  · exact ti_bad2_16 hC hj h3 h4 e hg hk hx v1 m1 v2
  · exact ti_bad2_38 hC hj h3 h4 e hg hk hx v1 m1 v2
set_option maxRecDepth 100000 in
set_option maxHeartbeats 4000000 in
theorem ti_eq_16 {ro : Nat → Option am_C} {c : Bool} {a : Nat → Nat → Int32} {l : Nat → Int64} {f : Nat → Nat → Int32} {n j w : Nat} {U : Nat → Nat} (hC : CT a f n U) (hj : j ≤ n) (h3 : f 1 3 = nI j) (h4 : f 1 4 = nI w) {k : Nat} (e : f 24 8 = nI k) (hg : ∀ i, i < k → ¬ a 27 i = -1) {x y : Nat} (hk : k < 16) (hx : x < 1000000) (v1 : nv (uj U n j) (lj U n j) 1000000 = nI x) (m1 : an (fun q => decide (a 26 q = nI x) || decide (a 27 q = nI x)) 0 k = false) (hy : y < 1000000) (v2 : nv (uj U n (ej U n j)) (lj U n (ej U n j)) 1000000 = nI y) (hxy : y = x) : am_run ro 3 62 [.ref 16, .ref 1] (wd c a l f) (some (.int (nI 0))) (wd c a l (tx f (sj U n (ej U n j)) (ej U n (ej U n j)) (nI (w + 1 + 1)))) := by
  have g0 : j ≤ n := hj
  have g1 : (ej U n j) ≤ n := (j_le (U := U) g0).2.2
  refine am_run_of rfl (am_wp_ok (inl := []) 4 2 62 [7] 0 _ _ _ _ ?_)
  refine ⟨_, _, am_run_up (fu_83_16 (by omega) e) (by decide), ?_⟩
  show am_T ro 2 62 7 [.ref 16, .ref 1, am_un, am_un] [.int (nI (decide (16 ≤ k)).toNat)] (wd c a l f) _
  rw [decide_eq_false (show ¬ 16 ≤ k by omega)]
  refine am_wp_ok (inl := []) 2 2 62 [12] _ _ _ _ _ ?_
  refine am_br_t (show nI 0 = 0 from rfl) ?_
  show am_T ro 2 62 12 [.ref 16, .ref 1, am_un, am_un] [] (wd c a l f) _
  refine am_wp_ok (inl := []) 4 2 62 [18] _ _ _ _ _ ?_
  refine ⟨_, _, am_run_up (c_num (b := 1000000) (f := f) (by decide) hC g0 (h3) (h4)) (by decide), ?_⟩
  show am_T ro 2 62 18 [.ref 16, .ref 1, am_un, am_un] [.int (nv (uj U n j) (lj U n j) 1000000)] (wd c a l (tx f (sj U n j) (ej U n j) (nI (w) + 1))) _
  rw [nI_1]
  rw [v1]
  refine am_wp_ok (inl := []) 5 2 62 [24] _ _ _ _ _ ?_
  refine am_br_f (nI_n1 (by omega)) ?_
  show am_T ro 2 62 24 [.ref 16, .ref 1, .int (nI x), am_un] [] (wd c a l (tx f (sj U n j) (ej U n j) (nI (w + 1)))) _
  refine am_wp_ok (inl := []) 5 2 62 [32] _ _ _ _ _ ?_
  refine ⟨_, _, cs_im_16 (f := (tx f (sj U n j) (ej U n j) (nI (w + 1)))) (by omega) e hg, ?_⟩
  show am_T ro 2 62 32 [.ref 16, .ref 1, .int (nI x), am_un] [.int (nI (an (fun q => decide (a 26 q = nI x) || decide (a 27 q = nI x)) 0 k).toNat)] (wd c a l (tx f (sj U n j) (ej U n j) (nI (w + 1)))) _
  rw [m1]
  refine am_wp_ok (inl := []) 2 2 62 [37] _ _ _ _ _ ?_
  refine am_br_t (show nI 0 = 0 from rfl) ?_
  show am_T ro 2 62 37 [.ref 16, .ref 1, .int (nI x), am_un] [] (wd c a l (tx f (sj U n j) (ej U n j) (nI (w + 1)))) _
  refine am_wp_ok (inl := []) 4 2 62 [43] _ _ _ _ _ ?_
  refine ⟨_, _, am_run_up (c_num (b := 1000000) (f := (tx f (sj U n j) (ej U n j) (nI (w + 1)))) (by decide) hC g1 (rfl) (rfl)) (by decide), ?_⟩
  show am_T ro 2 62 43 [.ref 16, .ref 1, .int (nI x), am_un] [.int (nv (uj U n (ej U n j)) (lj U n (ej U n j)) 1000000)] (wd c a l (tx (tx f (sj U n j) (ej U n j) (nI (w + 1))) (sj U n (ej U n j)) (ej U n (ej U n j)) (nI (w + 1) + 1))) _
  rw [tx_tx, nI_1]
  rw [v2]
  refine am_wp_ok (inl := []) 5 2 62 [49] _ _ _ _ _ ?_
  refine am_br_f (nI_n1 (by omega)) ?_
  show am_T ro 2 62 49 [.ref 16, .ref 1, .int (nI x), .int (nI y)] [] (wd c a l (tx f (sj U n (ej U n j)) (ej U n (ej U n j)) (nI (w + 1 + 1)))) _
  refine am_wp_ok (inl := []) 7 2 62 [] _ _ _ _ _ ?_
  refine am_br_t (show nI y = nI x by rw [hxy]) ?_
  exact And.intro rfl (And.intro rfl rfl)
set_option maxRecDepth 100000 in
set_option maxHeartbeats 4000000 in
theorem ti_eq_38 {ro : Nat → Option am_C} {c : Bool} {a : Nat → Nat → Int32} {l : Nat → Int64} {f : Nat → Nat → Int32} {n j w : Nat} {U : Nat → Nat} (hC : CT a f n U) (hj : j ≤ n) (h3 : f 1 3 = nI j) (h4 : f 1 4 = nI w) {k : Nat} (e : f 46 8 = nI k) (hg : ∀ i, i < k → ¬ a 49 i = -1) {x y : Nat} (hk : k < 16) (hx : x < 1000000) (v1 : nv (uj U n j) (lj U n j) 1000000 = nI x) (m1 : an (fun q => decide (a 48 q = nI x) || decide (a 49 q = nI x)) 0 k = false) (hy : y < 1000000) (v2 : nv (uj U n (ej U n j)) (lj U n (ej U n j)) 1000000 = nI y) (hxy : y = x) : am_run ro 3 62 [.ref 38, .ref 1] (wd c a l f) (some (.int (nI 0))) (wd c a l (tx f (sj U n (ej U n j)) (ej U n (ej U n j)) (nI (w + 1 + 1)))) := by
  have g0 : j ≤ n := hj
  have g1 : (ej U n j) ≤ n := (j_le (U := U) g0).2.2
  refine am_run_of rfl (am_wp_ok (inl := []) 4 2 62 [7] 0 _ _ _ _ ?_)
  refine ⟨_, _, am_run_up (fu_83_38 (by omega) e) (by decide), ?_⟩
  show am_T ro 2 62 7 [.ref 38, .ref 1, am_un, am_un] [.int (nI (decide (16 ≤ k)).toNat)] (wd c a l f) _
  rw [decide_eq_false (show ¬ 16 ≤ k by omega)]
  refine am_wp_ok (inl := []) 2 2 62 [12] _ _ _ _ _ ?_
  refine am_br_t (show nI 0 = 0 from rfl) ?_
  show am_T ro 2 62 12 [.ref 38, .ref 1, am_un, am_un] [] (wd c a l f) _
  refine am_wp_ok (inl := []) 4 2 62 [18] _ _ _ _ _ ?_
  refine ⟨_, _, am_run_up (c_num (b := 1000000) (f := f) (by decide) hC g0 (h3) (h4)) (by decide), ?_⟩
  show am_T ro 2 62 18 [.ref 38, .ref 1, am_un, am_un] [.int (nv (uj U n j) (lj U n j) 1000000)] (wd c a l (tx f (sj U n j) (ej U n j) (nI (w) + 1))) _
  rw [nI_1]
  rw [v1]
  refine am_wp_ok (inl := []) 5 2 62 [24] _ _ _ _ _ ?_
  refine am_br_f (nI_n1 (by omega)) ?_
  show am_T ro 2 62 24 [.ref 38, .ref 1, .int (nI x), am_un] [] (wd c a l (tx f (sj U n j) (ej U n j) (nI (w + 1)))) _
  refine am_wp_ok (inl := []) 5 2 62 [32] _ _ _ _ _ ?_
  refine ⟨_, _, cs_im_38 (f := (tx f (sj U n j) (ej U n j) (nI (w + 1)))) (by omega) e hg, ?_⟩
  show am_T ro 2 62 32 [.ref 38, .ref 1, .int (nI x), am_un] [.int (nI (an (fun q => decide (a 48 q = nI x) || decide (a 49 q = nI x)) 0 k).toNat)] (wd c a l (tx f (sj U n j) (ej U n j) (nI (w + 1)))) _
  rw [m1]
  refine am_wp_ok (inl := []) 2 2 62 [37] _ _ _ _ _ ?_
  refine am_br_t (show nI 0 = 0 from rfl) ?_
  show am_T ro 2 62 37 [.ref 38, .ref 1, .int (nI x), am_un] [] (wd c a l (tx f (sj U n j) (ej U n j) (nI (w + 1)))) _
  refine am_wp_ok (inl := []) 4 2 62 [43] _ _ _ _ _ ?_
  refine ⟨_, _, am_run_up (c_num (b := 1000000) (f := (tx f (sj U n j) (ej U n j) (nI (w + 1)))) (by decide) hC g1 (rfl) (rfl)) (by decide), ?_⟩
  show am_T ro 2 62 43 [.ref 38, .ref 1, .int (nI x), am_un] [.int (nv (uj U n (ej U n j)) (lj U n (ej U n j)) 1000000)] (wd c a l (tx (tx f (sj U n j) (ej U n j) (nI (w + 1))) (sj U n (ej U n j)) (ej U n (ej U n j)) (nI (w + 1) + 1))) _
  rw [tx_tx, nI_1]
  rw [v2]
  refine am_wp_ok (inl := []) 5 2 62 [49] _ _ _ _ _ ?_
  refine am_br_f (nI_n1 (by omega)) ?_
  show am_T ro 2 62 49 [.ref 38, .ref 1, .int (nI x), .int (nI y)] [] (wd c a l (tx f (sj U n (ej U n j)) (ej U n (ej U n j)) (nI (w + 1 + 1)))) _
  refine am_wp_ok (inl := []) 7 2 62 [] _ _ _ _ _ ?_
  refine am_br_t (show nI y = nI x by rw [hxy]) ?_
  exact And.intro rfl (And.intro rfl rfl)
theorem ti_eq (b : Bool) {ro : Nat → Option am_C} {c : Bool} {a : Nat → Nat → Int32} {l : Nat → Int64} {f : Nat → Nat → Int32} {n j w : Nat} {U : Nat → Nat} (hC : CT a f n U) (hj : j ≤ n) (h3 : f 1 3 = nI j) (h4 : f 1 4 = nI w) {k : Nat} (e : f (ob b + 8) 8 = nI k) (hg : ∀ i, i < k → ¬ a (ob b + 11) i = -1) {x y : Nat} (hk : k < 16) (hx : x < 1000000) (v1 : nv (uj U n j) (lj U n j) 1000000 = nI x) (m1 : an (fun q => decide (a (ob b + 10) q = nI x) || decide (a (ob b + 11) q = nI x)) 0 k = false) (hy : y < 1000000) (v2 : nv (uj U n (ej U n j)) (lj U n (ej U n j)) 1000000 = nI y) (hxy : y = x) : am_run ro 3 62 [.ref (ob b), .ref 1] (wd c a l f) (some (.int (nI 0))) (wd c a l (tx f (sj U n (ej U n j)) (ej U n (ej U n j)) (nI (w + 1 + 1)))) := by
  cases b
  · exact ti_eq_16 hC hj h3 h4 e hg hk hx v1 m1 hy v2 hxy
  · exact ti_eq_38 hC hj h3 h4 e hg hk hx v1 m1 hy v2 hxy
set_option maxRecDepth 100000 in
set_option maxHeartbeats 4000000 in
theorem ti_mir2_16 {ro : Nat → Option am_C} {c : Bool} {a : Nat → Nat → Int32} {l : Nat → Int64} {f : Nat → Nat → Int32} {n j w : Nat} {U : Nat → Nat} (hC : CT a f n U) (hj : j ≤ n) (h3 : f 1 3 = nI j) (h4 : f 1 4 = nI w) {k : Nat} (e : f 24 8 = nI k) (hg : ∀ i, i < k → ¬ a 27 i = -1) {x y : Nat} (hk : k < 16) (hx : x < 1000000) (v1 : nv (uj U n j) (lj U n j) 1000000 = nI x) (m1 : an (fun q => decide (a 26 q = nI x) || decide (a 27 q = nI x)) 0 k = false) (hy : y < 1000000) (v2 : nv (uj U n (ej U n j)) (lj U n (ej U n j)) 1000000 = nI y) (hxy : ¬ y = x) (m2 : an (fun q => decide (a 26 q = nI y) || decide (a 27 q = nI y)) 0 k = true) : am_run ro 3 62 [.ref 16, .ref 1] (wd c a l f) (some (.int (nI 0))) (wd c a l (tx f (sj U n (ej U n j)) (ej U n (ej U n j)) (nI (w + 1 + 1)))) := by
  have g0 : j ≤ n := hj
  have g1 : (ej U n j) ≤ n := (j_le (U := U) g0).2.2
  refine am_run_of rfl (am_wp_ok (inl := []) 4 2 62 [7] 0 _ _ _ _ ?_)
  refine ⟨_, _, am_run_up (fu_83_16 (by omega) e) (by decide), ?_⟩
  show am_T ro 2 62 7 [.ref 16, .ref 1, am_un, am_un] [.int (nI (decide (16 ≤ k)).toNat)] (wd c a l f) _
  rw [decide_eq_false (show ¬ 16 ≤ k by omega)]
  refine am_wp_ok (inl := []) 2 2 62 [12] _ _ _ _ _ ?_
  refine am_br_t (show nI 0 = 0 from rfl) ?_
  show am_T ro 2 62 12 [.ref 16, .ref 1, am_un, am_un] [] (wd c a l f) _
  refine am_wp_ok (inl := []) 4 2 62 [18] _ _ _ _ _ ?_
  refine ⟨_, _, am_run_up (c_num (b := 1000000) (f := f) (by decide) hC g0 (h3) (h4)) (by decide), ?_⟩
  show am_T ro 2 62 18 [.ref 16, .ref 1, am_un, am_un] [.int (nv (uj U n j) (lj U n j) 1000000)] (wd c a l (tx f (sj U n j) (ej U n j) (nI (w) + 1))) _
  rw [nI_1]
  rw [v1]
  refine am_wp_ok (inl := []) 5 2 62 [24] _ _ _ _ _ ?_
  refine am_br_f (nI_n1 (by omega)) ?_
  show am_T ro 2 62 24 [.ref 16, .ref 1, .int (nI x), am_un] [] (wd c a l (tx f (sj U n j) (ej U n j) (nI (w + 1)))) _
  refine am_wp_ok (inl := []) 5 2 62 [32] _ _ _ _ _ ?_
  refine ⟨_, _, cs_im_16 (f := (tx f (sj U n j) (ej U n j) (nI (w + 1)))) (by omega) e hg, ?_⟩
  show am_T ro 2 62 32 [.ref 16, .ref 1, .int (nI x), am_un] [.int (nI (an (fun q => decide (a 26 q = nI x) || decide (a 27 q = nI x)) 0 k).toNat)] (wd c a l (tx f (sj U n j) (ej U n j) (nI (w + 1)))) _
  rw [m1]
  refine am_wp_ok (inl := []) 2 2 62 [37] _ _ _ _ _ ?_
  refine am_br_t (show nI 0 = 0 from rfl) ?_
  show am_T ro 2 62 37 [.ref 16, .ref 1, .int (nI x), am_un] [] (wd c a l (tx f (sj U n j) (ej U n j) (nI (w + 1)))) _
  refine am_wp_ok (inl := []) 4 2 62 [43] _ _ _ _ _ ?_
  refine ⟨_, _, am_run_up (c_num (b := 1000000) (f := (tx f (sj U n j) (ej U n j) (nI (w + 1)))) (by decide) hC g1 (rfl) (rfl)) (by decide), ?_⟩
  show am_T ro 2 62 43 [.ref 16, .ref 1, .int (nI x), am_un] [.int (nv (uj U n (ej U n j)) (lj U n (ej U n j)) 1000000)] (wd c a l (tx (tx f (sj U n j) (ej U n j) (nI (w + 1))) (sj U n (ej U n j)) (ej U n (ej U n j)) (nI (w + 1) + 1))) _
  rw [tx_tx, nI_1]
  rw [v2]
  refine am_wp_ok (inl := []) 5 2 62 [49] _ _ _ _ _ ?_
  refine am_br_f (nI_n1 (by omega)) ?_
  show am_T ro 2 62 49 [.ref 16, .ref 1, .int (nI x), .int (nI y)] [] (wd c a l (tx f (sj U n (ej U n j)) (ej U n (ej U n j)) (nI (w + 1 + 1)))) _
  refine am_wp_ok (inl := []) 4 2 62 [54] _ _ _ _ _ ?_
  refine am_br_f (show ¬ nI y = nI x by rw [nI_eq (by omega) (by omega)]; exact hxy) ?_
  show am_T ro 2 62 54 [.ref 16, .ref 1, .int (nI x), .int (nI y)] [] (wd c a l (tx f (sj U n (ej U n j)) (ej U n (ej U n j)) (nI (w + 1 + 1)))) _
  refine am_wp_ok (inl := []) 5 2 62 [62] _ _ _ _ _ ?_
  refine ⟨_, _, cs_im_16 (f := (tx f (sj U n (ej U n j)) (ej U n (ej U n j)) (nI (w + 1 + 1)))) (by omega) e hg, ?_⟩
  show am_T ro 2 62 62 [.ref 16, .ref 1, .int (nI x), .int (nI y)] [.int (nI (an (fun q => decide (a 26 q = nI y) || decide (a 27 q = nI y)) 0 k).toNat)] (wd c a l (tx f (sj U n (ej U n j)) (ej U n (ej U n j)) (nI (w + 1 + 1)))) _
  rw [m2]
  refine am_wp_ok (inl := []) 4 2 62 [] _ _ _ _ _ ?_
  refine am_br_f (show ¬ nI 1 = 0 by decide) ?_
  exact And.intro rfl (And.intro rfl rfl)
set_option maxRecDepth 100000 in
set_option maxHeartbeats 4000000 in
theorem ti_mir2_38 {ro : Nat → Option am_C} {c : Bool} {a : Nat → Nat → Int32} {l : Nat → Int64} {f : Nat → Nat → Int32} {n j w : Nat} {U : Nat → Nat} (hC : CT a f n U) (hj : j ≤ n) (h3 : f 1 3 = nI j) (h4 : f 1 4 = nI w) {k : Nat} (e : f 46 8 = nI k) (hg : ∀ i, i < k → ¬ a 49 i = -1) {x y : Nat} (hk : k < 16) (hx : x < 1000000) (v1 : nv (uj U n j) (lj U n j) 1000000 = nI x) (m1 : an (fun q => decide (a 48 q = nI x) || decide (a 49 q = nI x)) 0 k = false) (hy : y < 1000000) (v2 : nv (uj U n (ej U n j)) (lj U n (ej U n j)) 1000000 = nI y) (hxy : ¬ y = x) (m2 : an (fun q => decide (a 48 q = nI y) || decide (a 49 q = nI y)) 0 k = true) : am_run ro 3 62 [.ref 38, .ref 1] (wd c a l f) (some (.int (nI 0))) (wd c a l (tx f (sj U n (ej U n j)) (ej U n (ej U n j)) (nI (w + 1 + 1)))) := by
  have g0 : j ≤ n := hj
  have g1 : (ej U n j) ≤ n := (j_le (U := U) g0).2.2
  refine am_run_of rfl (am_wp_ok (inl := []) 4 2 62 [7] 0 _ _ _ _ ?_)
  refine ⟨_, _, am_run_up (fu_83_38 (by omega) e) (by decide), ?_⟩
  show am_T ro 2 62 7 [.ref 38, .ref 1, am_un, am_un] [.int (nI (decide (16 ≤ k)).toNat)] (wd c a l f) _
  rw [decide_eq_false (show ¬ 16 ≤ k by omega)]
  refine am_wp_ok (inl := []) 2 2 62 [12] _ _ _ _ _ ?_
  refine am_br_t (show nI 0 = 0 from rfl) ?_
  show am_T ro 2 62 12 [.ref 38, .ref 1, am_un, am_un] [] (wd c a l f) _
  refine am_wp_ok (inl := []) 4 2 62 [18] _ _ _ _ _ ?_
  refine ⟨_, _, am_run_up (c_num (b := 1000000) (f := f) (by decide) hC g0 (h3) (h4)) (by decide), ?_⟩
  show am_T ro 2 62 18 [.ref 38, .ref 1, am_un, am_un] [.int (nv (uj U n j) (lj U n j) 1000000)] (wd c a l (tx f (sj U n j) (ej U n j) (nI (w) + 1))) _
  rw [nI_1]
  rw [v1]
  refine am_wp_ok (inl := []) 5 2 62 [24] _ _ _ _ _ ?_
  refine am_br_f (nI_n1 (by omega)) ?_
  show am_T ro 2 62 24 [.ref 38, .ref 1, .int (nI x), am_un] [] (wd c a l (tx f (sj U n j) (ej U n j) (nI (w + 1)))) _
  refine am_wp_ok (inl := []) 5 2 62 [32] _ _ _ _ _ ?_
  refine ⟨_, _, cs_im_38 (f := (tx f (sj U n j) (ej U n j) (nI (w + 1)))) (by omega) e hg, ?_⟩
  show am_T ro 2 62 32 [.ref 38, .ref 1, .int (nI x), am_un] [.int (nI (an (fun q => decide (a 48 q = nI x) || decide (a 49 q = nI x)) 0 k).toNat)] (wd c a l (tx f (sj U n j) (ej U n j) (nI (w + 1)))) _
  rw [m1]
  refine am_wp_ok (inl := []) 2 2 62 [37] _ _ _ _ _ ?_
  refine am_br_t (show nI 0 = 0 from rfl) ?_
  show am_T ro 2 62 37 [.ref 38, .ref 1, .int (nI x), am_un] [] (wd c a l (tx f (sj U n j) (ej U n j) (nI (w + 1)))) _
  refine am_wp_ok (inl := []) 4 2 62 [43] _ _ _ _ _ ?_
  refine ⟨_, _, am_run_up (c_num (b := 1000000) (f := (tx f (sj U n j) (ej U n j) (nI (w + 1)))) (by decide) hC g1 (rfl) (rfl)) (by decide), ?_⟩
  show am_T ro 2 62 43 [.ref 38, .ref 1, .int (nI x), am_un] [.int (nv (uj U n (ej U n j)) (lj U n (ej U n j)) 1000000)] (wd c a l (tx (tx f (sj U n j) (ej U n j) (nI (w + 1))) (sj U n (ej U n j)) (ej U n (ej U n j)) (nI (w + 1) + 1))) _
  rw [tx_tx, nI_1]
  rw [v2]
  refine am_wp_ok (inl := []) 5 2 62 [49] _ _ _ _ _ ?_
  refine am_br_f (nI_n1 (by omega)) ?_
  show am_T ro 2 62 49 [.ref 38, .ref 1, .int (nI x), .int (nI y)] [] (wd c a l (tx f (sj U n (ej U n j)) (ej U n (ej U n j)) (nI (w + 1 + 1)))) _
  refine am_wp_ok (inl := []) 4 2 62 [54] _ _ _ _ _ ?_
  refine am_br_f (show ¬ nI y = nI x by rw [nI_eq (by omega) (by omega)]; exact hxy) ?_
  show am_T ro 2 62 54 [.ref 38, .ref 1, .int (nI x), .int (nI y)] [] (wd c a l (tx f (sj U n (ej U n j)) (ej U n (ej U n j)) (nI (w + 1 + 1)))) _
  refine am_wp_ok (inl := []) 5 2 62 [62] _ _ _ _ _ ?_
  refine ⟨_, _, cs_im_38 (f := (tx f (sj U n (ej U n j)) (ej U n (ej U n j)) (nI (w + 1 + 1)))) (by omega) e hg, ?_⟩
  show am_T ro 2 62 62 [.ref 38, .ref 1, .int (nI x), .int (nI y)] [.int (nI (an (fun q => decide (a 48 q = nI y) || decide (a 49 q = nI y)) 0 k).toNat)] (wd c a l (tx f (sj U n (ej U n j)) (ej U n (ej U n j)) (nI (w + 1 + 1)))) _
  rw [m2]
  refine am_wp_ok (inl := []) 4 2 62 [] _ _ _ _ _ ?_
  refine am_br_f (show ¬ nI 1 = 0 by decide) ?_
  exact And.intro rfl (And.intro rfl rfl)
theorem ti_mir2 (b : Bool) {ro : Nat → Option am_C} {c : Bool} {a : Nat → Nat → Int32} {l : Nat → Int64} {f : Nat → Nat → Int32} {n j w : Nat} {U : Nat → Nat} (hC : CT a f n U) (hj : j ≤ n) (h3 : f 1 3 = nI j) (h4 : f 1 4 = nI w) {k : Nat} (e : f (ob b + 8) 8 = nI k) (hg : ∀ i, i < k → ¬ a (ob b + 11) i = -1) {x y : Nat} (hk : k < 16) (hx : x < 1000000) (v1 : nv (uj U n j) (lj U n j) 1000000 = nI x) (m1 : an (fun q => decide (a (ob b + 10) q = nI x) || decide (a (ob b + 11) q = nI x)) 0 k = false) (hy : y < 1000000) (v2 : nv (uj U n (ej U n j)) (lj U n (ej U n j)) 1000000 = nI y) (hxy : ¬ y = x) (m2 : an (fun q => decide (a (ob b + 10) q = nI y) || decide (a (ob b + 11) q = nI y)) 0 k = true) : am_run ro 3 62 [.ref (ob b), .ref 1] (wd c a l f) (some (.int (nI 0))) (wd c a l (tx f (sj U n (ej U n j)) (ej U n (ej U n j)) (nI (w + 1 + 1)))) := by
  cases b
  · exact ti_mir2_16 hC hj h3 h4 e hg hk hx v1 m1 hy v2 hxy m2
  · exact ti_mir2_38 hC hj h3 h4 e hg hk hx v1 m1 hy v2 hxy m2
set_option maxRecDepth 100000 in
set_option maxHeartbeats 4000000 in
theorem ti_ok_16 {ro : Nat → Option am_C} {c : Bool} {a : Nat → Nat → Int32} {l : Nat → Int64} {f : Nat → Nat → Int32} {n j w : Nat} {U : Nat → Nat} (hC : CT a f n U) (hj : j ≤ n) (h3 : f 1 3 = nI j) (h4 : f 1 4 = nI w) {k : Nat} (e : f 24 8 = nI k) (hg : ∀ i, i < k → ¬ a 27 i = -1) {x y : Nat} (hk : k < 16) (hx : x < 1000000) (v1 : nv (uj U n j) (lj U n j) 1000000 = nI x) (m1 : an (fun q => decide (a 26 q = nI x) || decide (a 27 q = nI x)) 0 k = false) (hy : y < 1000000) (v2 : nv (uj U n (ej U n j)) (lj U n (ej U n j)) 1000000 = nI y) (hxy : ¬ y = x) (m2 : an (fun q => decide (a 26 q = nI y) || decide (a 27 q = nI y)) 0 k = false) : am_run ro 3 62 [.ref 16, .ref 1] (wd c a l f) (some (.int (nI 1))) (wd c (u2 (u2 a 26 (upd (a 26) k (nI x))) 27 (upd (a 27) k (nI y))) l (tx (u3 f 24 8 (nI (k + 1))) (sj U n (ej U n (ej U n j))) (ej U n (ej U n (ej U n j))) (nI (w + 1 + 1 + 1)))) := by
  have g0 : j ≤ n := hj
  have g1 : (ej U n j) ≤ n := (j_le (U := U) g0).2.2
  have g2 : (ej U n (ej U n j)) ≤ n := (j_le (U := U) g1).2.2
  refine am_run_of rfl (am_wp_ok (inl := []) 4 2 62 [7] 0 _ _ _ _ ?_)
  refine ⟨_, _, am_run_up (fu_83_16 (by omega) e) (by decide), ?_⟩
  show am_T ro 2 62 7 [.ref 16, .ref 1, am_un, am_un] [.int (nI (decide (16 ≤ k)).toNat)] (wd c a l f) _
  rw [decide_eq_false (show ¬ 16 ≤ k by omega)]
  refine am_wp_ok (inl := []) 2 2 62 [12] _ _ _ _ _ ?_
  refine am_br_t (show nI 0 = 0 from rfl) ?_
  show am_T ro 2 62 12 [.ref 16, .ref 1, am_un, am_un] [] (wd c a l f) _
  refine am_wp_ok (inl := []) 4 2 62 [18] _ _ _ _ _ ?_
  refine ⟨_, _, am_run_up (c_num (b := 1000000) (f := f) (by decide) hC g0 (h3) (h4)) (by decide), ?_⟩
  show am_T ro 2 62 18 [.ref 16, .ref 1, am_un, am_un] [.int (nv (uj U n j) (lj U n j) 1000000)] (wd c a l (tx f (sj U n j) (ej U n j) (nI (w) + 1))) _
  rw [nI_1]
  rw [v1]
  refine am_wp_ok (inl := []) 5 2 62 [24] _ _ _ _ _ ?_
  refine am_br_f (nI_n1 (by omega)) ?_
  show am_T ro 2 62 24 [.ref 16, .ref 1, .int (nI x), am_un] [] (wd c a l (tx f (sj U n j) (ej U n j) (nI (w + 1)))) _
  refine am_wp_ok (inl := []) 5 2 62 [32] _ _ _ _ _ ?_
  refine ⟨_, _, cs_im_16 (f := (tx f (sj U n j) (ej U n j) (nI (w + 1)))) (by omega) e hg, ?_⟩
  show am_T ro 2 62 32 [.ref 16, .ref 1, .int (nI x), am_un] [.int (nI (an (fun q => decide (a 26 q = nI x) || decide (a 27 q = nI x)) 0 k).toNat)] (wd c a l (tx f (sj U n j) (ej U n j) (nI (w + 1)))) _
  rw [m1]
  refine am_wp_ok (inl := []) 2 2 62 [37] _ _ _ _ _ ?_
  refine am_br_t (show nI 0 = 0 from rfl) ?_
  show am_T ro 2 62 37 [.ref 16, .ref 1, .int (nI x), am_un] [] (wd c a l (tx f (sj U n j) (ej U n j) (nI (w + 1)))) _
  refine am_wp_ok (inl := []) 4 2 62 [43] _ _ _ _ _ ?_
  refine ⟨_, _, am_run_up (c_num (b := 1000000) (f := (tx f (sj U n j) (ej U n j) (nI (w + 1)))) (by decide) hC g1 (rfl) (rfl)) (by decide), ?_⟩
  show am_T ro 2 62 43 [.ref 16, .ref 1, .int (nI x), am_un] [.int (nv (uj U n (ej U n j)) (lj U n (ej U n j)) 1000000)] (wd c a l (tx (tx f (sj U n j) (ej U n j) (nI (w + 1))) (sj U n (ej U n j)) (ej U n (ej U n j)) (nI (w + 1) + 1))) _
  rw [tx_tx, nI_1]
  rw [v2]
  refine am_wp_ok (inl := []) 5 2 62 [49] _ _ _ _ _ ?_
  refine am_br_f (nI_n1 (by omega)) ?_
  show am_T ro 2 62 49 [.ref 16, .ref 1, .int (nI x), .int (nI y)] [] (wd c a l (tx f (sj U n (ej U n j)) (ej U n (ej U n j)) (nI (w + 1 + 1)))) _
  refine am_wp_ok (inl := []) 4 2 62 [54] _ _ _ _ _ ?_
  refine am_br_f (show ¬ nI y = nI x by rw [nI_eq (by omega) (by omega)]; exact hxy) ?_
  show am_T ro 2 62 54 [.ref 16, .ref 1, .int (nI x), .int (nI y)] [] (wd c a l (tx f (sj U n (ej U n j)) (ej U n (ej U n j)) (nI (w + 1 + 1)))) _
  refine am_wp_ok (inl := []) 5 2 62 [62] _ _ _ _ _ ?_
  refine ⟨_, _, cs_im_16 (f := (tx f (sj U n (ej U n j)) (ej U n (ej U n j)) (nI (w + 1 + 1)))) (by omega) e hg, ?_⟩
  show am_T ro 2 62 62 [.ref 16, .ref 1, .int (nI x), .int (nI y)] [.int (nI (an (fun q => decide (a 26 q = nI y) || decide (a 27 q = nI y)) 0 k).toNat)] (wd c a l (tx f (sj U n (ej U n j)) (ej U n (ej U n j)) (nI (w + 1 + 1)))) _
  rw [m2]
  refine am_wp_ok (inl := []) 2 2 62 [67] _ _ _ _ _ ?_
  refine am_br_t (show nI 0 = 0 from rfl) ?_
  show am_T ro 2 62 67 [.ref 16, .ref 1, .int (nI x), .int (nI y)] [] (wd c a l (tx f (sj U n (ej U n j)) (ej U n (ej U n j)) (nI (w + 1 + 1)))) _
  refine am_wp_ok (inl := []) 6 2 62 [76] _ _ _ _ _ ?_
  refine ⟨_, _, ad_mir_16 (f := (tx f (sj U n (ej U n j)) (ej U n (ej U n j)) (nI (w + 1 + 1)))) hk e, ?_⟩
  show am_T ro 2 62 76 [.ref 16, .ref 1, .int (nI x), .int (nI y)] [] (wd c (u2 (u2 a 26 (upd (a 26) k (nI x))) 27 (upd (a 27) k (nI y))) l (u3 (tx f (sj U n (ej U n j)) (ej U n (ej U n j)) (nI (w + 1 + 1))) 24 8 (nI (k + 1)))) _
  rw [tx_u3 rfl]
  refine am_wp_ok (inl := []) 3 2 62 [80] _ _ _ _ _ ?_
  refine ⟨_, _, am_run_up (c_next (f := (tx (u3 f 24 8 (nI (k + 1))) (sj U n (ej U n j)) (ej U n (ej U n j)) (nI (w + 1 + 1)))) hC g2 (rfl) (rfl)) (by decide), ?_⟩
  show am_T ro 2 62 80 [.ref 16, .ref 1, .int (nI x), .int (nI y)] [] (wd c (u2 (u2 a 26 (upd (a 26) k (nI x))) 27 (upd (a 27) k (nI y))) l (tx (tx (u3 f 24 8 (nI (k + 1))) (sj U n (ej U n j)) (ej U n (ej U n j)) (nI (w + 1 + 1))) (sj U n (ej U n (ej U n j))) (ej U n (ej U n (ej U n j))) (nI (w + 1 + 1) + 1))) _
  rw [tx_tx, nI_1]
  refine am_wp_ok (inl := []) 3 2 62 [] _ _ _ _ _ ?_
  exact And.intro rfl (And.intro rfl rfl)
set_option maxRecDepth 100000 in
set_option maxHeartbeats 4000000 in
theorem ti_ok_38 {ro : Nat → Option am_C} {c : Bool} {a : Nat → Nat → Int32} {l : Nat → Int64} {f : Nat → Nat → Int32} {n j w : Nat} {U : Nat → Nat} (hC : CT a f n U) (hj : j ≤ n) (h3 : f 1 3 = nI j) (h4 : f 1 4 = nI w) {k : Nat} (e : f 46 8 = nI k) (hg : ∀ i, i < k → ¬ a 49 i = -1) {x y : Nat} (hk : k < 16) (hx : x < 1000000) (v1 : nv (uj U n j) (lj U n j) 1000000 = nI x) (m1 : an (fun q => decide (a 48 q = nI x) || decide (a 49 q = nI x)) 0 k = false) (hy : y < 1000000) (v2 : nv (uj U n (ej U n j)) (lj U n (ej U n j)) 1000000 = nI y) (hxy : ¬ y = x) (m2 : an (fun q => decide (a 48 q = nI y) || decide (a 49 q = nI y)) 0 k = false) : am_run ro 3 62 [.ref 38, .ref 1] (wd c a l f) (some (.int (nI 1))) (wd c (u2 (u2 a 48 (upd (a 48) k (nI x))) 49 (upd (a 49) k (nI y))) l (tx (u3 f 46 8 (nI (k + 1))) (sj U n (ej U n (ej U n j))) (ej U n (ej U n (ej U n j))) (nI (w + 1 + 1 + 1)))) := by
  have g0 : j ≤ n := hj
  have g1 : (ej U n j) ≤ n := (j_le (U := U) g0).2.2
  have g2 : (ej U n (ej U n j)) ≤ n := (j_le (U := U) g1).2.2
  refine am_run_of rfl (am_wp_ok (inl := []) 4 2 62 [7] 0 _ _ _ _ ?_)
  refine ⟨_, _, am_run_up (fu_83_38 (by omega) e) (by decide), ?_⟩
  show am_T ro 2 62 7 [.ref 38, .ref 1, am_un, am_un] [.int (nI (decide (16 ≤ k)).toNat)] (wd c a l f) _
  rw [decide_eq_false (show ¬ 16 ≤ k by omega)]
  refine am_wp_ok (inl := []) 2 2 62 [12] _ _ _ _ _ ?_
  refine am_br_t (show nI 0 = 0 from rfl) ?_
  show am_T ro 2 62 12 [.ref 38, .ref 1, am_un, am_un] [] (wd c a l f) _
  refine am_wp_ok (inl := []) 4 2 62 [18] _ _ _ _ _ ?_
  refine ⟨_, _, am_run_up (c_num (b := 1000000) (f := f) (by decide) hC g0 (h3) (h4)) (by decide), ?_⟩
  show am_T ro 2 62 18 [.ref 38, .ref 1, am_un, am_un] [.int (nv (uj U n j) (lj U n j) 1000000)] (wd c a l (tx f (sj U n j) (ej U n j) (nI (w) + 1))) _
  rw [nI_1]
  rw [v1]
  refine am_wp_ok (inl := []) 5 2 62 [24] _ _ _ _ _ ?_
  refine am_br_f (nI_n1 (by omega)) ?_
  show am_T ro 2 62 24 [.ref 38, .ref 1, .int (nI x), am_un] [] (wd c a l (tx f (sj U n j) (ej U n j) (nI (w + 1)))) _
  refine am_wp_ok (inl := []) 5 2 62 [32] _ _ _ _ _ ?_
  refine ⟨_, _, cs_im_38 (f := (tx f (sj U n j) (ej U n j) (nI (w + 1)))) (by omega) e hg, ?_⟩
  show am_T ro 2 62 32 [.ref 38, .ref 1, .int (nI x), am_un] [.int (nI (an (fun q => decide (a 48 q = nI x) || decide (a 49 q = nI x)) 0 k).toNat)] (wd c a l (tx f (sj U n j) (ej U n j) (nI (w + 1)))) _
  rw [m1]
  refine am_wp_ok (inl := []) 2 2 62 [37] _ _ _ _ _ ?_
  refine am_br_t (show nI 0 = 0 from rfl) ?_
  show am_T ro 2 62 37 [.ref 38, .ref 1, .int (nI x), am_un] [] (wd c a l (tx f (sj U n j) (ej U n j) (nI (w + 1)))) _
  refine am_wp_ok (inl := []) 4 2 62 [43] _ _ _ _ _ ?_
  refine ⟨_, _, am_run_up (c_num (b := 1000000) (f := (tx f (sj U n j) (ej U n j) (nI (w + 1)))) (by decide) hC g1 (rfl) (rfl)) (by decide), ?_⟩
  show am_T ro 2 62 43 [.ref 38, .ref 1, .int (nI x), am_un] [.int (nv (uj U n (ej U n j)) (lj U n (ej U n j)) 1000000)] (wd c a l (tx (tx f (sj U n j) (ej U n j) (nI (w + 1))) (sj U n (ej U n j)) (ej U n (ej U n j)) (nI (w + 1) + 1))) _
  rw [tx_tx, nI_1]
  rw [v2]
  refine am_wp_ok (inl := []) 5 2 62 [49] _ _ _ _ _ ?_
  refine am_br_f (nI_n1 (by omega)) ?_
  show am_T ro 2 62 49 [.ref 38, .ref 1, .int (nI x), .int (nI y)] [] (wd c a l (tx f (sj U n (ej U n j)) (ej U n (ej U n j)) (nI (w + 1 + 1)))) _
  refine am_wp_ok (inl := []) 4 2 62 [54] _ _ _ _ _ ?_
  refine am_br_f (show ¬ nI y = nI x by rw [nI_eq (by omega) (by omega)]; exact hxy) ?_
  show am_T ro 2 62 54 [.ref 38, .ref 1, .int (nI x), .int (nI y)] [] (wd c a l (tx f (sj U n (ej U n j)) (ej U n (ej U n j)) (nI (w + 1 + 1)))) _
  refine am_wp_ok (inl := []) 5 2 62 [62] _ _ _ _ _ ?_
  refine ⟨_, _, cs_im_38 (f := (tx f (sj U n (ej U n j)) (ej U n (ej U n j)) (nI (w + 1 + 1)))) (by omega) e hg, ?_⟩
  show am_T ro 2 62 62 [.ref 38, .ref 1, .int (nI x), .int (nI y)] [.int (nI (an (fun q => decide (a 48 q = nI y) || decide (a 49 q = nI y)) 0 k).toNat)] (wd c a l (tx f (sj U n (ej U n j)) (ej U n (ej U n j)) (nI (w + 1 + 1)))) _
  rw [m2]
  refine am_wp_ok (inl := []) 2 2 62 [67] _ _ _ _ _ ?_
  refine am_br_t (show nI 0 = 0 from rfl) ?_
  show am_T ro 2 62 67 [.ref 38, .ref 1, .int (nI x), .int (nI y)] [] (wd c a l (tx f (sj U n (ej U n j)) (ej U n (ej U n j)) (nI (w + 1 + 1)))) _
  refine am_wp_ok (inl := []) 6 2 62 [76] _ _ _ _ _ ?_
  refine ⟨_, _, ad_mir_38 (f := (tx f (sj U n (ej U n j)) (ej U n (ej U n j)) (nI (w + 1 + 1)))) hk e, ?_⟩
  show am_T ro 2 62 76 [.ref 38, .ref 1, .int (nI x), .int (nI y)] [] (wd c (u2 (u2 a 48 (upd (a 48) k (nI x))) 49 (upd (a 49) k (nI y))) l (u3 (tx f (sj U n (ej U n j)) (ej U n (ej U n j)) (nI (w + 1 + 1))) 46 8 (nI (k + 1)))) _
  rw [tx_u3 rfl]
  refine am_wp_ok (inl := []) 3 2 62 [80] _ _ _ _ _ ?_
  refine ⟨_, _, am_run_up (c_next (f := (tx (u3 f 46 8 (nI (k + 1))) (sj U n (ej U n j)) (ej U n (ej U n j)) (nI (w + 1 + 1)))) hC g2 (rfl) (rfl)) (by decide), ?_⟩
  show am_T ro 2 62 80 [.ref 38, .ref 1, .int (nI x), .int (nI y)] [] (wd c (u2 (u2 a 48 (upd (a 48) k (nI x))) 49 (upd (a 49) k (nI y))) l (tx (tx (u3 f 46 8 (nI (k + 1))) (sj U n (ej U n j)) (ej U n (ej U n j)) (nI (w + 1 + 1))) (sj U n (ej U n (ej U n j))) (ej U n (ej U n (ej U n j))) (nI (w + 1 + 1) + 1))) _
  rw [tx_tx, nI_1]
  refine am_wp_ok (inl := []) 3 2 62 [] _ _ _ _ _ ?_
  exact And.intro rfl (And.intro rfl rfl)
theorem ti_ok (b : Bool) {ro : Nat → Option am_C} {c : Bool} {a : Nat → Nat → Int32} {l : Nat → Int64} {f : Nat → Nat → Int32} {n j w : Nat} {U : Nat → Nat} (hC : CT a f n U) (hj : j ≤ n) (h3 : f 1 3 = nI j) (h4 : f 1 4 = nI w) {k : Nat} (e : f (ob b + 8) 8 = nI k) (hg : ∀ i, i < k → ¬ a (ob b + 11) i = -1) {x y : Nat} (hk : k < 16) (hx : x < 1000000) (v1 : nv (uj U n j) (lj U n j) 1000000 = nI x) (m1 : an (fun q => decide (a (ob b + 10) q = nI x) || decide (a (ob b + 11) q = nI x)) 0 k = false) (hy : y < 1000000) (v2 : nv (uj U n (ej U n j)) (lj U n (ej U n j)) 1000000 = nI y) (hxy : ¬ y = x) (m2 : an (fun q => decide (a (ob b + 10) q = nI y) || decide (a (ob b + 11) q = nI y)) 0 k = false) : am_run ro 3 62 [.ref (ob b), .ref 1] (wd c a l f) (some (.int (nI 1))) (wd c (u2 (u2 a (ob b + 10) (upd (a (ob b + 10)) k (nI x))) (ob b + 11) (upd (a (ob b + 11)) k (nI y))) l (tx (u3 f (ob b + 8) 8 (nI (k + 1))) (sj U n (ej U n (ej U n j))) (ej U n (ej U n (ej U n j))) (nI (w + 1 + 1 + 1)))) := by
  cases b
  · exact ti_ok_16 hC hj h3 h4 e hg hk hx v1 m1 hy v2 hxy m2
  · exact ti_ok_38 hC hj h3 h4 e hg hk hx v1 m1 hy v2 hxy m2
