/-! which sentence it is -/
set_option maxRecDepth 100000 in
set_option maxHeartbeats 4000000 in
theorem se_0_16 {N : Nat} {xs : Nat → Int32} {c : Bool} {a : Nat → Nat → Int32} {l : Nat → Int64} {f : Nat → Nat → Int32} {n j : Nat} {U : Nat → Nat} (hC : CT a f n U) (hj : j ≤ n) (h2 : f 1 2 = nI (sj U n j)) (h3 : f 1 3 = nI (ej U n j)) (w0 : sw (uj U n j) (lj U n j) vt_0 4 = true) {r : Bool} {hp : am_H} (h : am_run (wd_ro N xs) 7 59 [.ref 16, .ref 1] (wd c a l f) (some (.int (nI r.toNat))) hp) : am_run (wd_ro N xs) 8 58 [.ref 16, .ref 1] (wd c a l f) (some (.int (nI r.toNat))) hp := by
  refine am_run_of rfl (am_wp_ok (inl := []) 4 7 58 [6] 0 _ _ _ _ ?_)
  refine ⟨_, _, am_run_up (c_says_0 hC hj h2 h3) (by decide), ?_⟩
  show am_T (wd_ro N xs) 7 58 6 [.ref 16, .ref 1] [.int (nI (sw (uj U n j) (lj U n j) vt_0 4).toNat)] (wd c a l f) _
  rw [w0]
  refine am_wp_ok (inl := []) 2 7 58 [9] _ _ _ _ _ ?_
  refine am_br_f (show ¬ nI 1 = 0 by decide) ?_
  show am_T (wd_ro N xs) 7 58 9 [.ref 16, .ref 1] [] (wd c a l f) _
  refine am_wp_ok (inl := []) 4 7 58 [14] _ _ _ _ _ ?_
  refine ⟨_, _, h, ?_⟩
  refine am_wp_ok (inl := []) 2 7 58 [] _ _ _ _ _ ?_
  exact And.intro (nI_bo r) (And.intro rfl rfl)
set_option maxRecDepth 100000 in
set_option maxHeartbeats 4000000 in
theorem se_0_38 {N : Nat} {xs : Nat → Int32} {c : Bool} {a : Nat → Nat → Int32} {l : Nat → Int64} {f : Nat → Nat → Int32} {n j : Nat} {U : Nat → Nat} (hC : CT a f n U) (hj : j ≤ n) (h2 : f 1 2 = nI (sj U n j)) (h3 : f 1 3 = nI (ej U n j)) (w0 : sw (uj U n j) (lj U n j) vt_0 4 = true) {r : Bool} {hp : am_H} (h : am_run (wd_ro N xs) 7 59 [.ref 38, .ref 1] (wd c a l f) (some (.int (nI r.toNat))) hp) : am_run (wd_ro N xs) 8 58 [.ref 38, .ref 1] (wd c a l f) (some (.int (nI r.toNat))) hp := by
  refine am_run_of rfl (am_wp_ok (inl := []) 4 7 58 [6] 0 _ _ _ _ ?_)
  refine ⟨_, _, am_run_up (c_says_0 hC hj h2 h3) (by decide), ?_⟩
  show am_T (wd_ro N xs) 7 58 6 [.ref 38, .ref 1] [.int (nI (sw (uj U n j) (lj U n j) vt_0 4).toNat)] (wd c a l f) _
  rw [w0]
  refine am_wp_ok (inl := []) 2 7 58 [9] _ _ _ _ _ ?_
  refine am_br_f (show ¬ nI 1 = 0 by decide) ?_
  show am_T (wd_ro N xs) 7 58 9 [.ref 38, .ref 1] [] (wd c a l f) _
  refine am_wp_ok (inl := []) 4 7 58 [14] _ _ _ _ _ ?_
  refine ⟨_, _, h, ?_⟩
  refine am_wp_ok (inl := []) 2 7 58 [] _ _ _ _ _ ?_
  exact And.intro (nI_bo r) (And.intro rfl rfl)
theorem se_0 (b : Bool) {N : Nat} {xs : Nat → Int32} {c : Bool} {a : Nat → Nat → Int32} {l : Nat → Int64} {f : Nat → Nat → Int32} {n j : Nat} {U : Nat → Nat} (hC : CT a f n U) (hj : j ≤ n) (h2 : f 1 2 = nI (sj U n j)) (h3 : f 1 3 = nI (ej U n j)) (w0 : sw (uj U n j) (lj U n j) vt_0 4 = true) {r : Bool} {hp : am_H} (h : am_run (wd_ro N xs) 7 59 [.ref (ob b), .ref 1] (wd c a l f) (some (.int (nI r.toNat))) hp) : am_run (wd_ro N xs) 8 58 [.ref (ob b), .ref 1] (wd c a l f) (some (.int (nI r.toNat))) hp := by
  cases b
  · exact se_0_16 hC hj h2 h3 w0 h
  · exact se_0_38 hC hj h2 h3 w0 h
set_option maxRecDepth 100000 in
set_option maxHeartbeats 4000000 in
theorem se_5_16 {N : Nat} {xs : Nat → Int32} {c : Bool} {a : Nat → Nat → Int32} {l : Nat → Int64} {f : Nat → Nat → Int32} {n j : Nat} {U : Nat → Nat} (hC : CT a f n U) (hj : j ≤ n) (h2 : f 1 2 = nI (sj U n j)) (h3 : f 1 3 = nI (ej U n j)) (w0 : sw (uj U n j) (lj U n j) vt_0 4 = false) (w5 : sw (uj U n j) (lj U n j) vt_5 7 = true) {r : Bool} {hp : am_H} (h : am_run (wd_ro N xs) 7 61 [.ref 16, .ref 1] (wd c a l f) (some (.int (nI r.toNat))) hp) : am_run (wd_ro N xs) 8 58 [.ref 16, .ref 1] (wd c a l f) (some (.int (nI r.toNat))) hp := by
  refine am_run_of rfl (am_wp_ok (inl := []) 4 7 58 [6] 0 _ _ _ _ ?_)
  refine ⟨_, _, am_run_up (c_says_0 hC hj h2 h3) (by decide), ?_⟩
  show am_T (wd_ro N xs) 7 58 6 [.ref 16, .ref 1] [.int (nI (sw (uj U n j) (lj U n j) vt_0 4).toNat)] (wd c a l f) _
  rw [w0]
  refine am_wp_ok (inl := []) 2 7 58 [15] _ _ _ _ _ ?_
  refine am_br_t (show nI 0 = 0 from rfl) ?_
  show am_T (wd_ro N xs) 7 58 15 [.ref 16, .ref 1] [] (wd c a l f) _
  refine am_wp_ok (inl := []) 4 7 58 [21] _ _ _ _ _ ?_
  refine ⟨_, _, am_run_up (c_says_5 hC hj h2 h3) (by decide), ?_⟩
  show am_T (wd_ro N xs) 7 58 21 [.ref 16, .ref 1] [.int (nI (sw (uj U n j) (lj U n j) vt_5 7).toNat)] (wd c a l f) _
  rw [w5]
  refine am_wp_ok (inl := []) 2 7 58 [24] _ _ _ _ _ ?_
  refine am_br_f (show ¬ nI 1 = 0 by decide) ?_
  show am_T (wd_ro N xs) 7 58 24 [.ref 16, .ref 1] [] (wd c a l f) _
  refine am_wp_ok (inl := []) 4 7 58 [29] _ _ _ _ _ ?_
  refine ⟨_, _, h, ?_⟩
  refine am_wp_ok (inl := []) 2 7 58 [] _ _ _ _ _ ?_
  exact And.intro (nI_bo r) (And.intro rfl rfl)
set_option maxRecDepth 100000 in
set_option maxHeartbeats 4000000 in
theorem se_5_38 {N : Nat} {xs : Nat → Int32} {c : Bool} {a : Nat → Nat → Int32} {l : Nat → Int64} {f : Nat → Nat → Int32} {n j : Nat} {U : Nat → Nat} (hC : CT a f n U) (hj : j ≤ n) (h2 : f 1 2 = nI (sj U n j)) (h3 : f 1 3 = nI (ej U n j)) (w0 : sw (uj U n j) (lj U n j) vt_0 4 = false) (w5 : sw (uj U n j) (lj U n j) vt_5 7 = true) {r : Bool} {hp : am_H} (h : am_run (wd_ro N xs) 7 61 [.ref 38, .ref 1] (wd c a l f) (some (.int (nI r.toNat))) hp) : am_run (wd_ro N xs) 8 58 [.ref 38, .ref 1] (wd c a l f) (some (.int (nI r.toNat))) hp := by
  refine am_run_of rfl (am_wp_ok (inl := []) 4 7 58 [6] 0 _ _ _ _ ?_)
  refine ⟨_, _, am_run_up (c_says_0 hC hj h2 h3) (by decide), ?_⟩
  show am_T (wd_ro N xs) 7 58 6 [.ref 38, .ref 1] [.int (nI (sw (uj U n j) (lj U n j) vt_0 4).toNat)] (wd c a l f) _
  rw [w0]
  refine am_wp_ok (inl := []) 2 7 58 [15] _ _ _ _ _ ?_
  refine am_br_t (show nI 0 = 0 from rfl) ?_
  show am_T (wd_ro N xs) 7 58 15 [.ref 38, .ref 1] [] (wd c a l f) _
  refine am_wp_ok (inl := []) 4 7 58 [21] _ _ _ _ _ ?_
  refine ⟨_, _, am_run_up (c_says_5 hC hj h2 h3) (by decide), ?_⟩
  show am_T (wd_ro N xs) 7 58 21 [.ref 38, .ref 1] [.int (nI (sw (uj U n j) (lj U n j) vt_5 7).toNat)] (wd c a l f) _
  rw [w5]
  refine am_wp_ok (inl := []) 2 7 58 [24] _ _ _ _ _ ?_
  refine am_br_f (show ¬ nI 1 = 0 by decide) ?_
  show am_T (wd_ro N xs) 7 58 24 [.ref 38, .ref 1] [] (wd c a l f) _
  refine am_wp_ok (inl := []) 4 7 58 [29] _ _ _ _ _ ?_
  refine ⟨_, _, h, ?_⟩
  refine am_wp_ok (inl := []) 2 7 58 [] _ _ _ _ _ ?_
  exact And.intro (nI_bo r) (And.intro rfl rfl)
theorem se_5 (b : Bool) {N : Nat} {xs : Nat → Int32} {c : Bool} {a : Nat → Nat → Int32} {l : Nat → Int64} {f : Nat → Nat → Int32} {n j : Nat} {U : Nat → Nat} (hC : CT a f n U) (hj : j ≤ n) (h2 : f 1 2 = nI (sj U n j)) (h3 : f 1 3 = nI (ej U n j)) (w0 : sw (uj U n j) (lj U n j) vt_0 4 = false) (w5 : sw (uj U n j) (lj U n j) vt_5 7 = true) {r : Bool} {hp : am_H} (h : am_run (wd_ro N xs) 7 61 [.ref (ob b), .ref 1] (wd c a l f) (some (.int (nI r.toNat))) hp) : am_run (wd_ro N xs) 8 58 [.ref (ob b), .ref 1] (wd c a l f) (some (.int (nI r.toNat))) hp := by
  cases b
  · exact se_5_16 hC hj h2 h3 w0 w5 h
  · exact se_5_38 hC hj h2 h3 w0 w5 h
set_option maxRecDepth 100000 in
set_option maxHeartbeats 4000000 in
theorem se_6_16 {N : Nat} {xs : Nat → Int32} {c : Bool} {a : Nat → Nat → Int32} {l : Nat → Int64} {f : Nat → Nat → Int32} {n j : Nat} {U : Nat → Nat} (hC : CT a f n U) (hj : j ≤ n) (h2 : f 1 2 = nI (sj U n j)) (h3 : f 1 3 = nI (ej U n j)) (w0 : sw (uj U n j) (lj U n j) vt_0 4 = false) (w5 : sw (uj U n j) (lj U n j) vt_5 7 = false) (w6 : sw (uj U n j) (lj U n j) vt_6 6 = true) {r : Bool} {hp : am_H} (h : am_run (wd_ro N xs) 7 62 [.ref 16, .ref 1] (wd c a l f) (some (.int (nI r.toNat))) hp) : am_run (wd_ro N xs) 8 58 [.ref 16, .ref 1] (wd c a l f) (some (.int (nI r.toNat))) hp := by
  refine am_run_of rfl (am_wp_ok (inl := []) 4 7 58 [6] 0 _ _ _ _ ?_)
  refine ⟨_, _, am_run_up (c_says_0 hC hj h2 h3) (by decide), ?_⟩
  show am_T (wd_ro N xs) 7 58 6 [.ref 16, .ref 1] [.int (nI (sw (uj U n j) (lj U n j) vt_0 4).toNat)] (wd c a l f) _
  rw [w0]
  refine am_wp_ok (inl := []) 2 7 58 [15] _ _ _ _ _ ?_
  refine am_br_t (show nI 0 = 0 from rfl) ?_
  show am_T (wd_ro N xs) 7 58 15 [.ref 16, .ref 1] [] (wd c a l f) _
  refine am_wp_ok (inl := []) 4 7 58 [21] _ _ _ _ _ ?_
  refine ⟨_, _, am_run_up (c_says_5 hC hj h2 h3) (by decide), ?_⟩
  show am_T (wd_ro N xs) 7 58 21 [.ref 16, .ref 1] [.int (nI (sw (uj U n j) (lj U n j) vt_5 7).toNat)] (wd c a l f) _
  rw [w5]
  refine am_wp_ok (inl := []) 2 7 58 [30] _ _ _ _ _ ?_
  refine am_br_t (show nI 0 = 0 from rfl) ?_
  show am_T (wd_ro N xs) 7 58 30 [.ref 16, .ref 1] [] (wd c a l f) _
  refine am_wp_ok (inl := []) 4 7 58 [36] _ _ _ _ _ ?_
  refine ⟨_, _, am_run_up (c_says_6 hC hj h2 h3) (by decide), ?_⟩
  show am_T (wd_ro N xs) 7 58 36 [.ref 16, .ref 1] [.int (nI (sw (uj U n j) (lj U n j) vt_6 6).toNat)] (wd c a l f) _
  rw [w6]
  refine am_wp_ok (inl := []) 2 7 58 [39] _ _ _ _ _ ?_
  refine am_br_f (show ¬ nI 1 = 0 by decide) ?_
  show am_T (wd_ro N xs) 7 58 39 [.ref 16, .ref 1] [] (wd c a l f) _
  refine am_wp_ok (inl := []) 4 7 58 [44] _ _ _ _ _ ?_
  refine ⟨_, _, h, ?_⟩
  refine am_wp_ok (inl := []) 2 7 58 [] _ _ _ _ _ ?_
  exact And.intro (nI_bo r) (And.intro rfl rfl)
set_option maxRecDepth 100000 in
set_option maxHeartbeats 4000000 in
theorem se_6_38 {N : Nat} {xs : Nat → Int32} {c : Bool} {a : Nat → Nat → Int32} {l : Nat → Int64} {f : Nat → Nat → Int32} {n j : Nat} {U : Nat → Nat} (hC : CT a f n U) (hj : j ≤ n) (h2 : f 1 2 = nI (sj U n j)) (h3 : f 1 3 = nI (ej U n j)) (w0 : sw (uj U n j) (lj U n j) vt_0 4 = false) (w5 : sw (uj U n j) (lj U n j) vt_5 7 = false) (w6 : sw (uj U n j) (lj U n j) vt_6 6 = true) {r : Bool} {hp : am_H} (h : am_run (wd_ro N xs) 7 62 [.ref 38, .ref 1] (wd c a l f) (some (.int (nI r.toNat))) hp) : am_run (wd_ro N xs) 8 58 [.ref 38, .ref 1] (wd c a l f) (some (.int (nI r.toNat))) hp := by
  refine am_run_of rfl (am_wp_ok (inl := []) 4 7 58 [6] 0 _ _ _ _ ?_)
  refine ⟨_, _, am_run_up (c_says_0 hC hj h2 h3) (by decide), ?_⟩
  show am_T (wd_ro N xs) 7 58 6 [.ref 38, .ref 1] [.int (nI (sw (uj U n j) (lj U n j) vt_0 4).toNat)] (wd c a l f) _
  rw [w0]
  refine am_wp_ok (inl := []) 2 7 58 [15] _ _ _ _ _ ?_
  refine am_br_t (show nI 0 = 0 from rfl) ?_
  show am_T (wd_ro N xs) 7 58 15 [.ref 38, .ref 1] [] (wd c a l f) _
  refine am_wp_ok (inl := []) 4 7 58 [21] _ _ _ _ _ ?_
  refine ⟨_, _, am_run_up (c_says_5 hC hj h2 h3) (by decide), ?_⟩
  show am_T (wd_ro N xs) 7 58 21 [.ref 38, .ref 1] [.int (nI (sw (uj U n j) (lj U n j) vt_5 7).toNat)] (wd c a l f) _
  rw [w5]
  refine am_wp_ok (inl := []) 2 7 58 [30] _ _ _ _ _ ?_
  refine am_br_t (show nI 0 = 0 from rfl) ?_
  show am_T (wd_ro N xs) 7 58 30 [.ref 38, .ref 1] [] (wd c a l f) _
  refine am_wp_ok (inl := []) 4 7 58 [36] _ _ _ _ _ ?_
  refine ⟨_, _, am_run_up (c_says_6 hC hj h2 h3) (by decide), ?_⟩
  show am_T (wd_ro N xs) 7 58 36 [.ref 38, .ref 1] [.int (nI (sw (uj U n j) (lj U n j) vt_6 6).toNat)] (wd c a l f) _
  rw [w6]
  refine am_wp_ok (inl := []) 2 7 58 [39] _ _ _ _ _ ?_
  refine am_br_f (show ¬ nI 1 = 0 by decide) ?_
  show am_T (wd_ro N xs) 7 58 39 [.ref 38, .ref 1] [] (wd c a l f) _
  refine am_wp_ok (inl := []) 4 7 58 [44] _ _ _ _ _ ?_
  refine ⟨_, _, h, ?_⟩
  refine am_wp_ok (inl := []) 2 7 58 [] _ _ _ _ _ ?_
  exact And.intro (nI_bo r) (And.intro rfl rfl)
theorem se_6 (b : Bool) {N : Nat} {xs : Nat → Int32} {c : Bool} {a : Nat → Nat → Int32} {l : Nat → Int64} {f : Nat → Nat → Int32} {n j : Nat} {U : Nat → Nat} (hC : CT a f n U) (hj : j ≤ n) (h2 : f 1 2 = nI (sj U n j)) (h3 : f 1 3 = nI (ej U n j)) (w0 : sw (uj U n j) (lj U n j) vt_0 4 = false) (w5 : sw (uj U n j) (lj U n j) vt_5 7 = false) (w6 : sw (uj U n j) (lj U n j) vt_6 6 = true) {r : Bool} {hp : am_H} (h : am_run (wd_ro N xs) 7 62 [.ref (ob b), .ref 1] (wd c a l f) (some (.int (nI r.toNat))) hp) : am_run (wd_ro N xs) 8 58 [.ref (ob b), .ref 1] (wd c a l f) (some (.int (nI r.toNat))) hp := by
  cases b
  · exact se_6_16 hC hj h2 h3 w0 w5 w6 h
  · exact se_6_38 hC hj h2 h3 w0 w5 w6 h
set_option maxRecDepth 100000 in
set_option maxHeartbeats 4000000 in
theorem se_7_16 {N : Nat} {xs : Nat → Int32} {c : Bool} {a : Nat → Nat → Int32} {l : Nat → Int64} {f : Nat → Nat → Int32} {n j : Nat} {U : Nat → Nat} (hC : CT a f n U) (hj : j ≤ n) (h2 : f 1 2 = nI (sj U n j)) (h3 : f 1 3 = nI (ej U n j)) (w0 : sw (uj U n j) (lj U n j) vt_0 4 = false) (w5 : sw (uj U n j) (lj U n j) vt_5 7 = false) (w6 : sw (uj U n j) (lj U n j) vt_6 6 = false) (w7 : sw (uj U n j) (lj U n j) vt_7 3 = true) {r : Bool} {hp : am_H} (h : am_run (wd_ro N xs) 7 63 [.ref 16, .ref 1] (wd c a l f) (some (.int (nI r.toNat))) hp) : am_run (wd_ro N xs) 8 58 [.ref 16, .ref 1] (wd c a l f) (some (.int (nI r.toNat))) hp := by
  refine am_run_of rfl (am_wp_ok (inl := []) 4 7 58 [6] 0 _ _ _ _ ?_)
  refine ⟨_, _, am_run_up (c_says_0 hC hj h2 h3) (by decide), ?_⟩
  show am_T (wd_ro N xs) 7 58 6 [.ref 16, .ref 1] [.int (nI (sw (uj U n j) (lj U n j) vt_0 4).toNat)] (wd c a l f) _
  rw [w0]
  refine am_wp_ok (inl := []) 2 7 58 [15] _ _ _ _ _ ?_
  refine am_br_t (show nI 0 = 0 from rfl) ?_
  show am_T (wd_ro N xs) 7 58 15 [.ref 16, .ref 1] [] (wd c a l f) _
  refine am_wp_ok (inl := []) 4 7 58 [21] _ _ _ _ _ ?_
  refine ⟨_, _, am_run_up (c_says_5 hC hj h2 h3) (by decide), ?_⟩
  show am_T (wd_ro N xs) 7 58 21 [.ref 16, .ref 1] [.int (nI (sw (uj U n j) (lj U n j) vt_5 7).toNat)] (wd c a l f) _
  rw [w5]
  refine am_wp_ok (inl := []) 2 7 58 [30] _ _ _ _ _ ?_
  refine am_br_t (show nI 0 = 0 from rfl) ?_
  show am_T (wd_ro N xs) 7 58 30 [.ref 16, .ref 1] [] (wd c a l f) _
  refine am_wp_ok (inl := []) 4 7 58 [36] _ _ _ _ _ ?_
  refine ⟨_, _, am_run_up (c_says_6 hC hj h2 h3) (by decide), ?_⟩
  show am_T (wd_ro N xs) 7 58 36 [.ref 16, .ref 1] [.int (nI (sw (uj U n j) (lj U n j) vt_6 6).toNat)] (wd c a l f) _
  rw [w6]
  refine am_wp_ok (inl := []) 2 7 58 [45] _ _ _ _ _ ?_
  refine am_br_t (show nI 0 = 0 from rfl) ?_
  show am_T (wd_ro N xs) 7 58 45 [.ref 16, .ref 1] [] (wd c a l f) _
  refine am_wp_ok (inl := []) 4 7 58 [51] _ _ _ _ _ ?_
  refine ⟨_, _, am_run_up (c_says_7 hC hj h2 h3) (by decide), ?_⟩
  show am_T (wd_ro N xs) 7 58 51 [.ref 16, .ref 1] [.int (nI (sw (uj U n j) (lj U n j) vt_7 3).toNat)] (wd c a l f) _
  rw [w7]
  refine am_wp_ok (inl := []) 2 7 58 [54] _ _ _ _ _ ?_
  refine am_br_f (show ¬ nI 1 = 0 by decide) ?_
  show am_T (wd_ro N xs) 7 58 54 [.ref 16, .ref 1] [] (wd c a l f) _
  refine am_wp_ok (inl := []) 4 7 58 [59] _ _ _ _ _ ?_
  refine ⟨_, _, h, ?_⟩
  refine am_wp_ok (inl := []) 2 7 58 [] _ _ _ _ _ ?_
  exact And.intro (nI_bo r) (And.intro rfl rfl)
set_option maxRecDepth 100000 in
set_option maxHeartbeats 4000000 in
theorem se_7_38 {N : Nat} {xs : Nat → Int32} {c : Bool} {a : Nat → Nat → Int32} {l : Nat → Int64} {f : Nat → Nat → Int32} {n j : Nat} {U : Nat → Nat} (hC : CT a f n U) (hj : j ≤ n) (h2 : f 1 2 = nI (sj U n j)) (h3 : f 1 3 = nI (ej U n j)) (w0 : sw (uj U n j) (lj U n j) vt_0 4 = false) (w5 : sw (uj U n j) (lj U n j) vt_5 7 = false) (w6 : sw (uj U n j) (lj U n j) vt_6 6 = false) (w7 : sw (uj U n j) (lj U n j) vt_7 3 = true) {r : Bool} {hp : am_H} (h : am_run (wd_ro N xs) 7 63 [.ref 38, .ref 1] (wd c a l f) (some (.int (nI r.toNat))) hp) : am_run (wd_ro N xs) 8 58 [.ref 38, .ref 1] (wd c a l f) (some (.int (nI r.toNat))) hp := by
  refine am_run_of rfl (am_wp_ok (inl := []) 4 7 58 [6] 0 _ _ _ _ ?_)
  refine ⟨_, _, am_run_up (c_says_0 hC hj h2 h3) (by decide), ?_⟩
  show am_T (wd_ro N xs) 7 58 6 [.ref 38, .ref 1] [.int (nI (sw (uj U n j) (lj U n j) vt_0 4).toNat)] (wd c a l f) _
  rw [w0]
  refine am_wp_ok (inl := []) 2 7 58 [15] _ _ _ _ _ ?_
  refine am_br_t (show nI 0 = 0 from rfl) ?_
  show am_T (wd_ro N xs) 7 58 15 [.ref 38, .ref 1] [] (wd c a l f) _
  refine am_wp_ok (inl := []) 4 7 58 [21] _ _ _ _ _ ?_
  refine ⟨_, _, am_run_up (c_says_5 hC hj h2 h3) (by decide), ?_⟩
  show am_T (wd_ro N xs) 7 58 21 [.ref 38, .ref 1] [.int (nI (sw (uj U n j) (lj U n j) vt_5 7).toNat)] (wd c a l f) _
  rw [w5]
  refine am_wp_ok (inl := []) 2 7 58 [30] _ _ _ _ _ ?_
  refine am_br_t (show nI 0 = 0 from rfl) ?_
  show am_T (wd_ro N xs) 7 58 30 [.ref 38, .ref 1] [] (wd c a l f) _
  refine am_wp_ok (inl := []) 4 7 58 [36] _ _ _ _ _ ?_
  refine ⟨_, _, am_run_up (c_says_6 hC hj h2 h3) (by decide), ?_⟩
  show am_T (wd_ro N xs) 7 58 36 [.ref 38, .ref 1] [.int (nI (sw (uj U n j) (lj U n j) vt_6 6).toNat)] (wd c a l f) _
  rw [w6]
  refine am_wp_ok (inl := []) 2 7 58 [45] _ _ _ _ _ ?_
  refine am_br_t (show nI 0 = 0 from rfl) ?_
  show am_T (wd_ro N xs) 7 58 45 [.ref 38, .ref 1] [] (wd c a l f) _
  refine am_wp_ok (inl := []) 4 7 58 [51] _ _ _ _ _ ?_
  refine ⟨_, _, am_run_up (c_says_7 hC hj h2 h3) (by decide), ?_⟩
  show am_T (wd_ro N xs) 7 58 51 [.ref 38, .ref 1] [.int (nI (sw (uj U n j) (lj U n j) vt_7 3).toNat)] (wd c a l f) _
  rw [w7]
  refine am_wp_ok (inl := []) 2 7 58 [54] _ _ _ _ _ ?_
  refine am_br_f (show ¬ nI 1 = 0 by decide) ?_
  show am_T (wd_ro N xs) 7 58 54 [.ref 38, .ref 1] [] (wd c a l f) _
  refine am_wp_ok (inl := []) 4 7 58 [59] _ _ _ _ _ ?_
  refine ⟨_, _, h, ?_⟩
  refine am_wp_ok (inl := []) 2 7 58 [] _ _ _ _ _ ?_
  exact And.intro (nI_bo r) (And.intro rfl rfl)
theorem se_7 (b : Bool) {N : Nat} {xs : Nat → Int32} {c : Bool} {a : Nat → Nat → Int32} {l : Nat → Int64} {f : Nat → Nat → Int32} {n j : Nat} {U : Nat → Nat} (hC : CT a f n U) (hj : j ≤ n) (h2 : f 1 2 = nI (sj U n j)) (h3 : f 1 3 = nI (ej U n j)) (w0 : sw (uj U n j) (lj U n j) vt_0 4 = false) (w5 : sw (uj U n j) (lj U n j) vt_5 7 = false) (w6 : sw (uj U n j) (lj U n j) vt_6 6 = false) (w7 : sw (uj U n j) (lj U n j) vt_7 3 = true) {r : Bool} {hp : am_H} (h : am_run (wd_ro N xs) 7 63 [.ref (ob b), .ref 1] (wd c a l f) (some (.int (nI r.toNat))) hp) : am_run (wd_ro N xs) 8 58 [.ref (ob b), .ref 1] (wd c a l f) (some (.int (nI r.toNat))) hp := by
  cases b
  · exact se_7_16 hC hj h2 h3 w0 w5 w6 w7 h
  · exact se_7_38 hC hj h2 h3 w0 w5 w6 w7 h
set_option maxRecDepth 100000 in
set_option maxHeartbeats 4000000 in
theorem se_8_16 {N : Nat} {xs : Nat → Int32} {c : Bool} {a : Nat → Nat → Int32} {l : Nat → Int64} {f : Nat → Nat → Int32} {n j : Nat} {U : Nat → Nat} (hC : CT a f n U) (hj : j ≤ n) (h2 : f 1 2 = nI (sj U n j)) (h3 : f 1 3 = nI (ej U n j)) (w0 : sw (uj U n j) (lj U n j) vt_0 4 = false) (w5 : sw (uj U n j) (lj U n j) vt_5 7 = false) (w6 : sw (uj U n j) (lj U n j) vt_6 6 = false) (w7 : sw (uj U n j) (lj U n j) vt_7 3 = false) (w8 : sw (uj U n j) (lj U n j) vt_8 4 = true) {r : Bool} {hp : am_H} (h : am_run (wd_ro N xs) 7 64 [.ref 16, .ref 1] (wd c a l f) (some (.int (nI r.toNat))) hp) : am_run (wd_ro N xs) 8 58 [.ref 16, .ref 1] (wd c a l f) (some (.int (nI r.toNat))) hp := by
  refine am_run_of rfl (am_wp_ok (inl := []) 4 7 58 [6] 0 _ _ _ _ ?_)
  refine ⟨_, _, am_run_up (c_says_0 hC hj h2 h3) (by decide), ?_⟩
  show am_T (wd_ro N xs) 7 58 6 [.ref 16, .ref 1] [.int (nI (sw (uj U n j) (lj U n j) vt_0 4).toNat)] (wd c a l f) _
  rw [w0]
  refine am_wp_ok (inl := []) 2 7 58 [15] _ _ _ _ _ ?_
  refine am_br_t (show nI 0 = 0 from rfl) ?_
  show am_T (wd_ro N xs) 7 58 15 [.ref 16, .ref 1] [] (wd c a l f) _
  refine am_wp_ok (inl := []) 4 7 58 [21] _ _ _ _ _ ?_
  refine ⟨_, _, am_run_up (c_says_5 hC hj h2 h3) (by decide), ?_⟩
  show am_T (wd_ro N xs) 7 58 21 [.ref 16, .ref 1] [.int (nI (sw (uj U n j) (lj U n j) vt_5 7).toNat)] (wd c a l f) _
  rw [w5]
  refine am_wp_ok (inl := []) 2 7 58 [30] _ _ _ _ _ ?_
  refine am_br_t (show nI 0 = 0 from rfl) ?_
  show am_T (wd_ro N xs) 7 58 30 [.ref 16, .ref 1] [] (wd c a l f) _
  refine am_wp_ok (inl := []) 4 7 58 [36] _ _ _ _ _ ?_
  refine ⟨_, _, am_run_up (c_says_6 hC hj h2 h3) (by decide), ?_⟩
  show am_T (wd_ro N xs) 7 58 36 [.ref 16, .ref 1] [.int (nI (sw (uj U n j) (lj U n j) vt_6 6).toNat)] (wd c a l f) _
  rw [w6]
  refine am_wp_ok (inl := []) 2 7 58 [45] _ _ _ _ _ ?_
  refine am_br_t (show nI 0 = 0 from rfl) ?_
  show am_T (wd_ro N xs) 7 58 45 [.ref 16, .ref 1] [] (wd c a l f) _
  refine am_wp_ok (inl := []) 4 7 58 [51] _ _ _ _ _ ?_
  refine ⟨_, _, am_run_up (c_says_7 hC hj h2 h3) (by decide), ?_⟩
  show am_T (wd_ro N xs) 7 58 51 [.ref 16, .ref 1] [.int (nI (sw (uj U n j) (lj U n j) vt_7 3).toNat)] (wd c a l f) _
  rw [w7]
  refine am_wp_ok (inl := []) 2 7 58 [60] _ _ _ _ _ ?_
  refine am_br_t (show nI 0 = 0 from rfl) ?_
  show am_T (wd_ro N xs) 7 58 60 [.ref 16, .ref 1] [] (wd c a l f) _
  refine am_wp_ok (inl := []) 4 7 58 [66] _ _ _ _ _ ?_
  refine ⟨_, _, am_run_up (c_says_8 hC hj h2 h3) (by decide), ?_⟩
  show am_T (wd_ro N xs) 7 58 66 [.ref 16, .ref 1] [.int (nI (sw (uj U n j) (lj U n j) vt_8 4).toNat)] (wd c a l f) _
  rw [w8]
  refine am_wp_ok (inl := []) 2 7 58 [69] _ _ _ _ _ ?_
  refine am_br_f (show ¬ nI 1 = 0 by decide) ?_
  show am_T (wd_ro N xs) 7 58 69 [.ref 16, .ref 1] [] (wd c a l f) _
  refine am_wp_ok (inl := []) 4 7 58 [74] _ _ _ _ _ ?_
  refine ⟨_, _, h, ?_⟩
  show am_T (wd_ro N xs) 7 58 74 [.ref 16, .ref 1] [.int (nI r.toNat)] hp _
  refine am_wp_ok (inl := []) 5 7 58 [] _ _ _ _ _ ?_
  cases r with
  | true =>
    refine am_br_f (show ¬ nI 1 = 0 by decide) ?_
    exact And.intro rfl (And.intro rfl rfl)
  | false =>
    refine am_br_t (show nI 0 = 0 from rfl) ?_
    exact And.intro rfl (And.intro rfl rfl)
set_option maxRecDepth 100000 in
set_option maxHeartbeats 4000000 in
theorem se_8_38 {N : Nat} {xs : Nat → Int32} {c : Bool} {a : Nat → Nat → Int32} {l : Nat → Int64} {f : Nat → Nat → Int32} {n j : Nat} {U : Nat → Nat} (hC : CT a f n U) (hj : j ≤ n) (h2 : f 1 2 = nI (sj U n j)) (h3 : f 1 3 = nI (ej U n j)) (w0 : sw (uj U n j) (lj U n j) vt_0 4 = false) (w5 : sw (uj U n j) (lj U n j) vt_5 7 = false) (w6 : sw (uj U n j) (lj U n j) vt_6 6 = false) (w7 : sw (uj U n j) (lj U n j) vt_7 3 = false) (w8 : sw (uj U n j) (lj U n j) vt_8 4 = true) {r : Bool} {hp : am_H} (h : am_run (wd_ro N xs) 7 64 [.ref 38, .ref 1] (wd c a l f) (some (.int (nI r.toNat))) hp) : am_run (wd_ro N xs) 8 58 [.ref 38, .ref 1] (wd c a l f) (some (.int (nI r.toNat))) hp := by
  refine am_run_of rfl (am_wp_ok (inl := []) 4 7 58 [6] 0 _ _ _ _ ?_)
  refine ⟨_, _, am_run_up (c_says_0 hC hj h2 h3) (by decide), ?_⟩
  show am_T (wd_ro N xs) 7 58 6 [.ref 38, .ref 1] [.int (nI (sw (uj U n j) (lj U n j) vt_0 4).toNat)] (wd c a l f) _
  rw [w0]
  refine am_wp_ok (inl := []) 2 7 58 [15] _ _ _ _ _ ?_
  refine am_br_t (show nI 0 = 0 from rfl) ?_
  show am_T (wd_ro N xs) 7 58 15 [.ref 38, .ref 1] [] (wd c a l f) _
  refine am_wp_ok (inl := []) 4 7 58 [21] _ _ _ _ _ ?_
  refine ⟨_, _, am_run_up (c_says_5 hC hj h2 h3) (by decide), ?_⟩
  show am_T (wd_ro N xs) 7 58 21 [.ref 38, .ref 1] [.int (nI (sw (uj U n j) (lj U n j) vt_5 7).toNat)] (wd c a l f) _
  rw [w5]
  refine am_wp_ok (inl := []) 2 7 58 [30] _ _ _ _ _ ?_
  refine am_br_t (show nI 0 = 0 from rfl) ?_
  show am_T (wd_ro N xs) 7 58 30 [.ref 38, .ref 1] [] (wd c a l f) _
  refine am_wp_ok (inl := []) 4 7 58 [36] _ _ _ _ _ ?_
  refine ⟨_, _, am_run_up (c_says_6 hC hj h2 h3) (by decide), ?_⟩
  show am_T (wd_ro N xs) 7 58 36 [.ref 38, .ref 1] [.int (nI (sw (uj U n j) (lj U n j) vt_6 6).toNat)] (wd c a l f) _
  rw [w6]
  refine am_wp_ok (inl := []) 2 7 58 [45] _ _ _ _ _ ?_
  refine am_br_t (show nI 0 = 0 from rfl) ?_
  show am_T (wd_ro N xs) 7 58 45 [.ref 38, .ref 1] [] (wd c a l f) _
  refine am_wp_ok (inl := []) 4 7 58 [51] _ _ _ _ _ ?_
  refine ⟨_, _, am_run_up (c_says_7 hC hj h2 h3) (by decide), ?_⟩
  show am_T (wd_ro N xs) 7 58 51 [.ref 38, .ref 1] [.int (nI (sw (uj U n j) (lj U n j) vt_7 3).toNat)] (wd c a l f) _
  rw [w7]
  refine am_wp_ok (inl := []) 2 7 58 [60] _ _ _ _ _ ?_
  refine am_br_t (show nI 0 = 0 from rfl) ?_
  show am_T (wd_ro N xs) 7 58 60 [.ref 38, .ref 1] [] (wd c a l f) _
  refine am_wp_ok (inl := []) 4 7 58 [66] _ _ _ _ _ ?_
  refine ⟨_, _, am_run_up (c_says_8 hC hj h2 h3) (by decide), ?_⟩
  show am_T (wd_ro N xs) 7 58 66 [.ref 38, .ref 1] [.int (nI (sw (uj U n j) (lj U n j) vt_8 4).toNat)] (wd c a l f) _
  rw [w8]
  refine am_wp_ok (inl := []) 2 7 58 [69] _ _ _ _ _ ?_
  refine am_br_f (show ¬ nI 1 = 0 by decide) ?_
  show am_T (wd_ro N xs) 7 58 69 [.ref 38, .ref 1] [] (wd c a l f) _
  refine am_wp_ok (inl := []) 4 7 58 [74] _ _ _ _ _ ?_
  refine ⟨_, _, h, ?_⟩
  show am_T (wd_ro N xs) 7 58 74 [.ref 38, .ref 1] [.int (nI r.toNat)] hp _
  refine am_wp_ok (inl := []) 5 7 58 [] _ _ _ _ _ ?_
  cases r with
  | true =>
    refine am_br_f (show ¬ nI 1 = 0 by decide) ?_
    exact And.intro rfl (And.intro rfl rfl)
  | false =>
    refine am_br_t (show nI 0 = 0 from rfl) ?_
    exact And.intro rfl (And.intro rfl rfl)
theorem se_8 (b : Bool) {N : Nat} {xs : Nat → Int32} {c : Bool} {a : Nat → Nat → Int32} {l : Nat → Int64} {f : Nat → Nat → Int32} {n j : Nat} {U : Nat → Nat} (hC : CT a f n U) (hj : j ≤ n) (h2 : f 1 2 = nI (sj U n j)) (h3 : f 1 3 = nI (ej U n j)) (w0 : sw (uj U n j) (lj U n j) vt_0 4 = false) (w5 : sw (uj U n j) (lj U n j) vt_5 7 = false) (w6 : sw (uj U n j) (lj U n j) vt_6 6 = false) (w7 : sw (uj U n j) (lj U n j) vt_7 3 = false) (w8 : sw (uj U n j) (lj U n j) vt_8 4 = true) {r : Bool} {hp : am_H} (h : am_run (wd_ro N xs) 7 64 [.ref (ob b), .ref 1] (wd c a l f) (some (.int (nI r.toNat))) hp) : am_run (wd_ro N xs) 8 58 [.ref (ob b), .ref 1] (wd c a l f) (some (.int (nI r.toNat))) hp := by
  cases b
  · exact se_8_16 hC hj h2 h3 w0 w5 w6 w7 w8 h
  · exact se_8_38 hC hj h2 h3 w0 w5 w6 w7 w8 h
set_option maxRecDepth 100000 in
set_option maxHeartbeats 4000000 in
theorem se_n_16 {N : Nat} {xs : Nat → Int32} {c : Bool} {a : Nat → Nat → Int32} {l : Nat → Int64} {f : Nat → Nat → Int32} {n j : Nat} {U : Nat → Nat} (hC : CT a f n U) (hj : j ≤ n) (h2 : f 1 2 = nI (sj U n j)) (h3 : f 1 3 = nI (ej U n j)) (w0 : sw (uj U n j) (lj U n j) vt_0 4 = false) (w5 : sw (uj U n j) (lj U n j) vt_5 7 = false) (w6 : sw (uj U n j) (lj U n j) vt_6 6 = false) (w7 : sw (uj U n j) (lj U n j) vt_7 3 = false) (w8 : sw (uj U n j) (lj U n j) vt_8 4 = false) : am_run (wd_ro N xs) 8 58 [.ref 16, .ref 1] (wd c a l f) (some (.int (nI 0))) (wd c a l f) := by
  refine am_run_of rfl (am_wp_ok (inl := []) 4 7 58 [6] 0 _ _ _ _ ?_)
  refine ⟨_, _, am_run_up (c_says_0 hC hj h2 h3) (by decide), ?_⟩
  show am_T (wd_ro N xs) 7 58 6 [.ref 16, .ref 1] [.int (nI (sw (uj U n j) (lj U n j) vt_0 4).toNat)] (wd c a l f) _
  rw [w0]
  refine am_wp_ok (inl := []) 2 7 58 [15] _ _ _ _ _ ?_
  refine am_br_t (show nI 0 = 0 from rfl) ?_
  show am_T (wd_ro N xs) 7 58 15 [.ref 16, .ref 1] [] (wd c a l f) _
  refine am_wp_ok (inl := []) 4 7 58 [21] _ _ _ _ _ ?_
  refine ⟨_, _, am_run_up (c_says_5 hC hj h2 h3) (by decide), ?_⟩
  show am_T (wd_ro N xs) 7 58 21 [.ref 16, .ref 1] [.int (nI (sw (uj U n j) (lj U n j) vt_5 7).toNat)] (wd c a l f) _
  rw [w5]
  refine am_wp_ok (inl := []) 2 7 58 [30] _ _ _ _ _ ?_
  refine am_br_t (show nI 0 = 0 from rfl) ?_
  show am_T (wd_ro N xs) 7 58 30 [.ref 16, .ref 1] [] (wd c a l f) _
  refine am_wp_ok (inl := []) 4 7 58 [36] _ _ _ _ _ ?_
  refine ⟨_, _, am_run_up (c_says_6 hC hj h2 h3) (by decide), ?_⟩
  show am_T (wd_ro N xs) 7 58 36 [.ref 16, .ref 1] [.int (nI (sw (uj U n j) (lj U n j) vt_6 6).toNat)] (wd c a l f) _
  rw [w6]
  refine am_wp_ok (inl := []) 2 7 58 [45] _ _ _ _ _ ?_
  refine am_br_t (show nI 0 = 0 from rfl) ?_
  show am_T (wd_ro N xs) 7 58 45 [.ref 16, .ref 1] [] (wd c a l f) _
  refine am_wp_ok (inl := []) 4 7 58 [51] _ _ _ _ _ ?_
  refine ⟨_, _, am_run_up (c_says_7 hC hj h2 h3) (by decide), ?_⟩
  show am_T (wd_ro N xs) 7 58 51 [.ref 16, .ref 1] [.int (nI (sw (uj U n j) (lj U n j) vt_7 3).toNat)] (wd c a l f) _
  rw [w7]
  refine am_wp_ok (inl := []) 2 7 58 [60] _ _ _ _ _ ?_
  refine am_br_t (show nI 0 = 0 from rfl) ?_
  show am_T (wd_ro N xs) 7 58 60 [.ref 16, .ref 1] [] (wd c a l f) _
  refine am_wp_ok (inl := []) 4 7 58 [66] _ _ _ _ _ ?_
  refine ⟨_, _, am_run_up (c_says_8 hC hj h2 h3) (by decide), ?_⟩
  show am_T (wd_ro N xs) 7 58 66 [.ref 16, .ref 1] [.int (nI (sw (uj U n j) (lj U n j) vt_8 4).toNat)] (wd c a l f) _
  rw [w8]
  refine am_wp_ok (inl := []) 5 7 58 [] _ _ _ _ _ ?_
  refine am_br_t (show nI 0 = 0 from rfl) ?_
  exact And.intro rfl (And.intro rfl rfl)
set_option maxRecDepth 100000 in
set_option maxHeartbeats 4000000 in
theorem se_n_38 {N : Nat} {xs : Nat → Int32} {c : Bool} {a : Nat → Nat → Int32} {l : Nat → Int64} {f : Nat → Nat → Int32} {n j : Nat} {U : Nat → Nat} (hC : CT a f n U) (hj : j ≤ n) (h2 : f 1 2 = nI (sj U n j)) (h3 : f 1 3 = nI (ej U n j)) (w0 : sw (uj U n j) (lj U n j) vt_0 4 = false) (w5 : sw (uj U n j) (lj U n j) vt_5 7 = false) (w6 : sw (uj U n j) (lj U n j) vt_6 6 = false) (w7 : sw (uj U n j) (lj U n j) vt_7 3 = false) (w8 : sw (uj U n j) (lj U n j) vt_8 4 = false) : am_run (wd_ro N xs) 8 58 [.ref 38, .ref 1] (wd c a l f) (some (.int (nI 0))) (wd c a l f) := by
  refine am_run_of rfl (am_wp_ok (inl := []) 4 7 58 [6] 0 _ _ _ _ ?_)
  refine ⟨_, _, am_run_up (c_says_0 hC hj h2 h3) (by decide), ?_⟩
  show am_T (wd_ro N xs) 7 58 6 [.ref 38, .ref 1] [.int (nI (sw (uj U n j) (lj U n j) vt_0 4).toNat)] (wd c a l f) _
  rw [w0]
  refine am_wp_ok (inl := []) 2 7 58 [15] _ _ _ _ _ ?_
  refine am_br_t (show nI 0 = 0 from rfl) ?_
  show am_T (wd_ro N xs) 7 58 15 [.ref 38, .ref 1] [] (wd c a l f) _
  refine am_wp_ok (inl := []) 4 7 58 [21] _ _ _ _ _ ?_
  refine ⟨_, _, am_run_up (c_says_5 hC hj h2 h3) (by decide), ?_⟩
  show am_T (wd_ro N xs) 7 58 21 [.ref 38, .ref 1] [.int (nI (sw (uj U n j) (lj U n j) vt_5 7).toNat)] (wd c a l f) _
  rw [w5]
  refine am_wp_ok (inl := []) 2 7 58 [30] _ _ _ _ _ ?_
  refine am_br_t (show nI 0 = 0 from rfl) ?_
  show am_T (wd_ro N xs) 7 58 30 [.ref 38, .ref 1] [] (wd c a l f) _
  refine am_wp_ok (inl := []) 4 7 58 [36] _ _ _ _ _ ?_
  refine ⟨_, _, am_run_up (c_says_6 hC hj h2 h3) (by decide), ?_⟩
  show am_T (wd_ro N xs) 7 58 36 [.ref 38, .ref 1] [.int (nI (sw (uj U n j) (lj U n j) vt_6 6).toNat)] (wd c a l f) _
  rw [w6]
  refine am_wp_ok (inl := []) 2 7 58 [45] _ _ _ _ _ ?_
  refine am_br_t (show nI 0 = 0 from rfl) ?_
  show am_T (wd_ro N xs) 7 58 45 [.ref 38, .ref 1] [] (wd c a l f) _
  refine am_wp_ok (inl := []) 4 7 58 [51] _ _ _ _ _ ?_
  refine ⟨_, _, am_run_up (c_says_7 hC hj h2 h3) (by decide), ?_⟩
  show am_T (wd_ro N xs) 7 58 51 [.ref 38, .ref 1] [.int (nI (sw (uj U n j) (lj U n j) vt_7 3).toNat)] (wd c a l f) _
  rw [w7]
  refine am_wp_ok (inl := []) 2 7 58 [60] _ _ _ _ _ ?_
  refine am_br_t (show nI 0 = 0 from rfl) ?_
  show am_T (wd_ro N xs) 7 58 60 [.ref 38, .ref 1] [] (wd c a l f) _
  refine am_wp_ok (inl := []) 4 7 58 [66] _ _ _ _ _ ?_
  refine ⟨_, _, am_run_up (c_says_8 hC hj h2 h3) (by decide), ?_⟩
  show am_T (wd_ro N xs) 7 58 66 [.ref 38, .ref 1] [.int (nI (sw (uj U n j) (lj U n j) vt_8 4).toNat)] (wd c a l f) _
  rw [w8]
  refine am_wp_ok (inl := []) 5 7 58 [] _ _ _ _ _ ?_
  refine am_br_t (show nI 0 = 0 from rfl) ?_
  exact And.intro rfl (And.intro rfl rfl)
theorem se_n (b : Bool) {N : Nat} {xs : Nat → Int32} {c : Bool} {a : Nat → Nat → Int32} {l : Nat → Int64} {f : Nat → Nat → Int32} {n j : Nat} {U : Nat → Nat} (hC : CT a f n U) (hj : j ≤ n) (h2 : f 1 2 = nI (sj U n j)) (h3 : f 1 3 = nI (ej U n j)) (w0 : sw (uj U n j) (lj U n j) vt_0 4 = false) (w5 : sw (uj U n j) (lj U n j) vt_5 7 = false) (w6 : sw (uj U n j) (lj U n j) vt_6 6 = false) (w7 : sw (uj U n j) (lj U n j) vt_7 3 = false) (w8 : sw (uj U n j) (lj U n j) vt_8 4 = false) : am_run (wd_ro N xs) 8 58 [.ref (ob b), .ref 1] (wd c a l f) (some (.int (nI 0))) (wd c a l f) := by
  cases b
  · exact se_n_16 hC hj h2 h3 w0 w5 w6 w7 w8
  · exact se_n_38 hC hj h2 h3 w0 w5 w6 w7 w8
