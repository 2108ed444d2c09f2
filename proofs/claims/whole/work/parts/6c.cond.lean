/-! the class takes a condition, a branch; which sentence it is -/
theorem oq_sw {u : Nat → Nat} {T : Nat} : oq u T = (sw u T vt_2 1 || sw u T vt_3 1 || sw u T vt_4 1) := by
  unfold oq sw
  by_cases h : T = 1
  · subst h
    show (true && (decide (u 0 = 60) || decide (u 0 = 61) || decide (u 0 = 62))) = ((true && (decide (60 = u 0) && true)) || (true && (decide (61 = u 0) && true)) || (true && (decide (62 = u 0) && true)))
    rw [show decide (60 = u 0) = decide (u 0 = 60) from decide_eq_decide.mpr eq_comm, show decide (61 = u 0) = decide (u 0 = 61) from decide_eq_decide.mpr eq_comm, show decide (62 = u 0) = decide (u 0 = 62) from decide_eq_decide.mpr eq_comm]
    cases decide (u 0 = 60) <;> cases decide (u 0 = 61) <;> cases decide (u 0 = 62) <;> rfl
  · rw [decide_eq_false h, decide_eq_false (show ¬ 1 = T from fun z => h z.symm)]
    rfl
theorem oq_1 {u : Nat → Nat} {T : Nat} (h : oq u T = true) : T = 1 := by
  unfold oq at h
  rw [Bool.and_eq_true] at h
  exact of_decide_eq_true h.1
set_option maxRecDepth 100000 in
set_option maxHeartbeats 4000000 in
theorem op_t_16 {N : Nat} {xs : Nat → Int32} {c : Bool} {a : Nat → Nat → Int32} {l : Nat → Int64} {f : Nat → Nat → Int32} {n j : Nat} {U : Nat → Nat} {X2 X3 X4 : Value} {K : Option Value → am_H → Prop} (hC : CT a f n U) (hj : j ≤ n) (h2 : f 1 2 = nI (sj U n j)) (h3 : f 1 3 = nI (ej U n j)) (ho : oq (uj U n j) (lj U n j) = true) (kq : am_T (wd_ro N xs) 5 60 59 [.ref 16, .ref 1, X2, X3, X4] [] (wd c a l f) K) : am_T (wd_ro N xs) 5 60 30 [.ref 16, .ref 1, X2, X3, X4] [] (wd c a l f) K := by
  rw [oq_sw] at ho
  refine am_wp_ok (inl := []) 4 5 60 [36] _ _ _ _ _ ?_
  refine ⟨_, _, c_says_2 hC hj h2 h3, ?_⟩
  show am_T (wd_ro N xs) 5 60 36 [.ref 16, .ref 1, X2, X3, X4] [.int (nI (sw (uj U n j) (lj U n j) vt_2 1).toNat)] (wd c a l f) K
  cases w2 : sw (uj U n j) (lj U n j) vt_2 1 with
  | true =>
    refine am_wp_ok (inl := []) 2 5 60 [59] _ _ _ _ _ ?_
    exact am_br_t (show ¬ nI 1 = 0 by decide) kq
  | false =>
    refine am_wp_ok (inl := []) 2 5 60 [39] _ _ _ _ _ ?_
    refine am_br_f (show ¬ ¬ nI 0 = 0 from fun z => z rfl) ?_
    show am_T (wd_ro N xs) 5 60 39 [.ref 16, .ref 1, X2, X3, X4] [] (wd c a l f) K
    refine am_wp_ok (inl := []) 4 5 60 [45] _ _ _ _ _ ?_
    refine ⟨_, _, c_says_3 hC hj h2 h3, ?_⟩
    show am_T (wd_ro N xs) 5 60 45 [.ref 16, .ref 1, X2, X3, X4] [.int (nI (sw (uj U n j) (lj U n j) vt_3 1).toNat)] (wd c a l f) K
    cases w3 : sw (uj U n j) (lj U n j) vt_3 1 with
    | true =>
      refine am_wp_ok (inl := []) 2 5 60 [59] _ _ _ _ _ ?_
      exact am_br_t (show ¬ nI 1 = 0 by decide) kq
    | false =>
      refine am_wp_ok (inl := []) 2 5 60 [48] _ _ _ _ _ ?_
      refine am_br_f (show ¬ ¬ nI 0 = 0 from fun z => z rfl) ?_
      show am_T (wd_ro N xs) 5 60 48 [.ref 16, .ref 1, X2, X3, X4] [] (wd c a l f) K
      refine am_wp_ok (inl := []) 4 5 60 [54] _ _ _ _ _ ?_
      refine ⟨_, _, c_says_4 hC hj h2 h3, ?_⟩
      show am_T (wd_ro N xs) 5 60 54 [.ref 16, .ref 1, X2, X3, X4] [.int (nI (sw (uj U n j) (lj U n j) vt_4 1).toNat)] (wd c a l f) K
      rw [w2, w3, Bool.false_or, Bool.false_or] at ho
      rw [ho]
      refine am_wp_ok (inl := []) 2 5 60 [59] _ _ _ _ _ ?_
      exact am_br_t (show ¬ nI 1 = 0 by decide) kq
set_option maxRecDepth 100000 in
set_option maxHeartbeats 4000000 in
theorem op_f_16 {N : Nat} {xs : Nat → Int32} {c : Bool} {a : Nat → Nat → Int32} {l : Nat → Int64} {f : Nat → Nat → Int32} {n j : Nat} {U : Nat → Nat} {X2 X3 X4 : Value} {K : Option Value → am_H → Prop} (hC : CT a f n U) (hj : j ≤ n) (h2 : f 1 2 = nI (sj U n j)) (h3 : f 1 3 = nI (ej U n j)) (ho : oq (uj U n j) (lj U n j) = false) (kq : K (some (.int (nI 0))) (wd c a l f)) : am_T (wd_ro N xs) 5 60 30 [.ref 16, .ref 1, X2, X3, X4] [] (wd c a l f) K := by
  rw [oq_sw, Bool.or_eq_false_iff, Bool.or_eq_false_iff] at ho
  obtain ⟨⟨w2, w3⟩, w4⟩ := ho
  refine am_wp_ok (inl := []) 4 5 60 [36] _ _ _ _ _ ?_
  refine ⟨_, _, c_says_2 hC hj h2 h3, ?_⟩
  show am_T (wd_ro N xs) 5 60 36 [.ref 16, .ref 1, X2, X3, X4] [.int (nI (sw (uj U n j) (lj U n j) vt_2 1).toNat)] (wd c a l f) K
  rw [w2]
  refine am_wp_ok (inl := []) 2 5 60 [39] _ _ _ _ _ ?_
  refine am_br_f (show ¬ ¬ nI 0 = 0 from fun z => z rfl) ?_
  show am_T (wd_ro N xs) 5 60 39 [.ref 16, .ref 1, X2, X3, X4] [] (wd c a l f) K
  refine am_wp_ok (inl := []) 4 5 60 [45] _ _ _ _ _ ?_
  refine ⟨_, _, c_says_3 hC hj h2 h3, ?_⟩
  show am_T (wd_ro N xs) 5 60 45 [.ref 16, .ref 1, X2, X3, X4] [.int (nI (sw (uj U n j) (lj U n j) vt_3 1).toNat)] (wd c a l f) K
  rw [w3]
  refine am_wp_ok (inl := []) 2 5 60 [48] _ _ _ _ _ ?_
  refine am_br_f (show ¬ ¬ nI 0 = 0 from fun z => z rfl) ?_
  show am_T (wd_ro N xs) 5 60 48 [.ref 16, .ref 1, X2, X3, X4] [] (wd c a l f) K
  refine am_wp_ok (inl := []) 4 5 60 [54] _ _ _ _ _ ?_
  refine ⟨_, _, c_says_4 hC hj h2 h3, ?_⟩
  show am_T (wd_ro N xs) 5 60 54 [.ref 16, .ref 1, X2, X3, X4] [.int (nI (sw (uj U n j) (lj U n j) vt_4 1).toNat)] (wd c a l f) K
  rw [w4]
  refine am_wp_ok (inl := []) 4 5 60 [] _ _ _ _ _ ?_
  refine am_br_f (show ¬ ¬ nI 0 = 0 from fun z => z rfl) ?_
  exact And.intro rfl kq
set_option maxRecDepth 100000 in
set_option maxHeartbeats 4000000 in
theorem op_t_38 {N : Nat} {xs : Nat → Int32} {c : Bool} {a : Nat → Nat → Int32} {l : Nat → Int64} {f : Nat → Nat → Int32} {n j : Nat} {U : Nat → Nat} {X2 X3 X4 : Value} {K : Option Value → am_H → Prop} (hC : CT a f n U) (hj : j ≤ n) (h2 : f 1 2 = nI (sj U n j)) (h3 : f 1 3 = nI (ej U n j)) (ho : oq (uj U n j) (lj U n j) = true) (kq : am_T (wd_ro N xs) 5 60 59 [.ref 38, .ref 1, X2, X3, X4] [] (wd c a l f) K) : am_T (wd_ro N xs) 5 60 30 [.ref 38, .ref 1, X2, X3, X4] [] (wd c a l f) K := by
  rw [oq_sw] at ho
  refine am_wp_ok (inl := []) 4 5 60 [36] _ _ _ _ _ ?_
  refine ⟨_, _, c_says_2 hC hj h2 h3, ?_⟩
  show am_T (wd_ro N xs) 5 60 36 [.ref 38, .ref 1, X2, X3, X4] [.int (nI (sw (uj U n j) (lj U n j) vt_2 1).toNat)] (wd c a l f) K
  cases w2 : sw (uj U n j) (lj U n j) vt_2 1 with
  | true =>
    refine am_wp_ok (inl := []) 2 5 60 [59] _ _ _ _ _ ?_
    exact am_br_t (show ¬ nI 1 = 0 by decide) kq
  | false =>
    refine am_wp_ok (inl := []) 2 5 60 [39] _ _ _ _ _ ?_
    refine am_br_f (show ¬ ¬ nI 0 = 0 from fun z => z rfl) ?_
    show am_T (wd_ro N xs) 5 60 39 [.ref 38, .ref 1, X2, X3, X4] [] (wd c a l f) K
    refine am_wp_ok (inl := []) 4 5 60 [45] _ _ _ _ _ ?_
    refine ⟨_, _, c_says_3 hC hj h2 h3, ?_⟩
    show am_T (wd_ro N xs) 5 60 45 [.ref 38, .ref 1, X2, X3, X4] [.int (nI (sw (uj U n j) (lj U n j) vt_3 1).toNat)] (wd c a l f) K
    cases w3 : sw (uj U n j) (lj U n j) vt_3 1 with
    | true =>
      refine am_wp_ok (inl := []) 2 5 60 [59] _ _ _ _ _ ?_
      exact am_br_t (show ¬ nI 1 = 0 by decide) kq
    | false =>
      refine am_wp_ok (inl := []) 2 5 60 [48] _ _ _ _ _ ?_
      refine am_br_f (show ¬ ¬ nI 0 = 0 from fun z => z rfl) ?_
      show am_T (wd_ro N xs) 5 60 48 [.ref 38, .ref 1, X2, X3, X4] [] (wd c a l f) K
      refine am_wp_ok (inl := []) 4 5 60 [54] _ _ _ _ _ ?_
      refine ⟨_, _, c_says_4 hC hj h2 h3, ?_⟩
      show am_T (wd_ro N xs) 5 60 54 [.ref 38, .ref 1, X2, X3, X4] [.int (nI (sw (uj U n j) (lj U n j) vt_4 1).toNat)] (wd c a l f) K
      rw [w2, w3, Bool.false_or, Bool.false_or] at ho
      rw [ho]
      refine am_wp_ok (inl := []) 2 5 60 [59] _ _ _ _ _ ?_
      exact am_br_t (show ¬ nI 1 = 0 by decide) kq
set_option maxRecDepth 100000 in
set_option maxHeartbeats 4000000 in
theorem op_f_38 {N : Nat} {xs : Nat → Int32} {c : Bool} {a : Nat → Nat → Int32} {l : Nat → Int64} {f : Nat → Nat → Int32} {n j : Nat} {U : Nat → Nat} {X2 X3 X4 : Value} {K : Option Value → am_H → Prop} (hC : CT a f n U) (hj : j ≤ n) (h2 : f 1 2 = nI (sj U n j)) (h3 : f 1 3 = nI (ej U n j)) (ho : oq (uj U n j) (lj U n j) = false) (kq : K (some (.int (nI 0))) (wd c a l f)) : am_T (wd_ro N xs) 5 60 30 [.ref 38, .ref 1, X2, X3, X4] [] (wd c a l f) K := by
  rw [oq_sw, Bool.or_eq_false_iff, Bool.or_eq_false_iff] at ho
  obtain ⟨⟨w2, w3⟩, w4⟩ := ho
  refine am_wp_ok (inl := []) 4 5 60 [36] _ _ _ _ _ ?_
  refine ⟨_, _, c_says_2 hC hj h2 h3, ?_⟩
  show am_T (wd_ro N xs) 5 60 36 [.ref 38, .ref 1, X2, X3, X4] [.int (nI (sw (uj U n j) (lj U n j) vt_2 1).toNat)] (wd c a l f) K
  rw [w2]
  refine am_wp_ok (inl := []) 2 5 60 [39] _ _ _ _ _ ?_
  refine am_br_f (show ¬ ¬ nI 0 = 0 from fun z => z rfl) ?_
  show am_T (wd_ro N xs) 5 60 39 [.ref 38, .ref 1, X2, X3, X4] [] (wd c a l f) K
  refine am_wp_ok (inl := []) 4 5 60 [45] _ _ _ _ _ ?_
  refine ⟨_, _, c_says_3 hC hj h2 h3, ?_⟩
  show am_T (wd_ro N xs) 5 60 45 [.ref 38, .ref 1, X2, X3, X4] [.int (nI (sw (uj U n j) (lj U n j) vt_3 1).toNat)] (wd c a l f) K
  rw [w3]
  refine am_wp_ok (inl := []) 2 5 60 [48] _ _ _ _ _ ?_
  refine am_br_f (show ¬ ¬ nI 0 = 0 from fun z => z rfl) ?_
  show am_T (wd_ro N xs) 5 60 48 [.ref 38, .ref 1, X2, X3, X4] [] (wd c a l f) K
  refine am_wp_ok (inl := []) 4 5 60 [54] _ _ _ _ _ ?_
  refine ⟨_, _, c_says_4 hC hj h2 h3, ?_⟩
  show am_T (wd_ro N xs) 5 60 54 [.ref 38, .ref 1, X2, X3, X4] [.int (nI (sw (uj U n j) (lj U n j) vt_4 1).toNat)] (wd c a l f) K
  rw [w4]
  refine am_wp_ok (inl := []) 4 5 60 [] _ _ _ _ _ ?_
  refine am_br_f (show ¬ ¬ nI 0 = 0 from fun z => z rfl) ?_
  exact And.intro rfl kq
set_option maxRecDepth 100000 in
set_option maxHeartbeats 4000000 in
theorem tc_full_16 {N : Nat} {xs : Nat → Int32} {c : Bool} {a : Nat → Nat → Int32} {l : Nat → Int64} {f : Nat → Nat → Int32} {n j w : Nat} {U : Nat → Nat} (hC : CT a f n U) (hj : j ≤ n) (h3 : f 1 3 = nI j) (h4 : f 1 4 = nI w) {k : Nat} (e : f 17 7 = nI k) (hk2 : k < 2 ^ 31) (hk : 60 ≤ k) : am_run (wd_ro N xs) 6 60 [.ref 16, .ref 1] (wd c a l f) (some (.int (nI 0))) (wd c a l f) := by
  have g0 : j ≤ n := hj
  refine am_run_of rfl (am_wp_ok (inl := []) 4 5 60 [7] 0 _ _ _ _ ?_)
  refine ⟨_, _, am_run_up (fu_72_16 (by omega) e) (by decide), ?_⟩
  show am_T (wd_ro N xs) 5 60 7 [.ref 16, .ref 1, am_un, am_un, am_un] [.int (nI (decide (60 ≤ k)).toNat)] (wd c a l f) _
  rw [decide_eq_true hk]
  refine am_wp_ok (inl := []) 4 5 60 [] _ _ _ _ _ ?_
  refine am_br_f (show ¬ nI 1 = 0 by decide) ?_
  exact And.intro rfl (And.intro rfl rfl)
set_option maxRecDepth 100000 in
set_option maxHeartbeats 4000000 in
theorem tc_full_38 {N : Nat} {xs : Nat → Int32} {c : Bool} {a : Nat → Nat → Int32} {l : Nat → Int64} {f : Nat → Nat → Int32} {n j w : Nat} {U : Nat → Nat} (hC : CT a f n U) (hj : j ≤ n) (h3 : f 1 3 = nI j) (h4 : f 1 4 = nI w) {k : Nat} (e : f 39 7 = nI k) (hk2 : k < 2 ^ 31) (hk : 60 ≤ k) : am_run (wd_ro N xs) 6 60 [.ref 38, .ref 1] (wd c a l f) (some (.int (nI 0))) (wd c a l f) := by
  have g0 : j ≤ n := hj
  refine am_run_of rfl (am_wp_ok (inl := []) 4 5 60 [7] 0 _ _ _ _ ?_)
  refine ⟨_, _, am_run_up (fu_72_38 (by omega) e) (by decide), ?_⟩
  show am_T (wd_ro N xs) 5 60 7 [.ref 38, .ref 1, am_un, am_un, am_un] [.int (nI (decide (60 ≤ k)).toNat)] (wd c a l f) _
  rw [decide_eq_true hk]
  refine am_wp_ok (inl := []) 4 5 60 [] _ _ _ _ _ ?_
  refine am_br_f (show ¬ nI 1 = 0 by decide) ?_
  exact And.intro rfl (And.intro rfl rfl)
theorem tc_full (b : Bool) {N : Nat} {xs : Nat → Int32} {c : Bool} {a : Nat → Nat → Int32} {l : Nat → Int64} {f : Nat → Nat → Int32} {n j w : Nat} {U : Nat → Nat} (hC : CT a f n U) (hj : j ≤ n) (h3 : f 1 3 = nI j) (h4 : f 1 4 = nI w) {k : Nat} (e : f (ob b + 1) 7 = nI k) (hk2 : k < 2 ^ 31) (hk : 60 ≤ k) : am_run (wd_ro N xs) 6 60 [.ref (ob b), .ref 1] (wd c a l f) (some (.int (nI 0))) (wd c a l f) := by
  cases b
  · exact tc_full_16 hC hj h3 h4 e hk2 hk
  · exact tc_full_38 hC hj h3 h4 e hk2 hk
set_option maxRecDepth 100000 in
set_option maxHeartbeats 4000000 in
theorem tc_bad1_16 {N : Nat} {xs : Nat → Int32} {c : Bool} {a : Nat → Nat → Int32} {l : Nat → Int64} {f : Nat → Nat → Int32} {n j w : Nat} {U : Nat → Nat} (hC : CT a f n U) (hj : j ≤ n) (h3 : f 1 3 = nI j) (h4 : f 1 4 = nI w) {k : Nat} (e : f 17 7 = nI k) (hk : k < 60) (v1 : nv (uj U n j) (lj U n j) 10 = -1) : am_run (wd_ro N xs) 6 60 [.ref 16, .ref 1] (wd c a l f) (some (.int (nI 0))) (wd c a l (tx f (sj U n j) (ej U n j) (nI (w + 1)))) := by
  have g0 : j ≤ n := hj
  refine am_run_of rfl (am_wp_ok (inl := []) 4 5 60 [7] 0 _ _ _ _ ?_)
  refine ⟨_, _, am_run_up (fu_72_16 (by omega) e) (by decide), ?_⟩
  show am_T (wd_ro N xs) 5 60 7 [.ref 16, .ref 1, am_un, am_un, am_un] [.int (nI (decide (60 ≤ k)).toNat)] (wd c a l f) _
  rw [decide_eq_false (show ¬ 60 ≤ k by omega)]
  refine am_wp_ok (inl := []) 2 5 60 [12] _ _ _ _ _ ?_
  refine am_br_t (show nI 0 = 0 from rfl) ?_
  show am_T (wd_ro N xs) 5 60 12 [.ref 16, .ref 1, am_un, am_un, am_un] [] (wd c a l f) _
  refine am_wp_ok (inl := []) 4 5 60 [18] _ _ _ _ _ ?_
  refine ⟨_, _, am_run_up (c_num (b := 10) (f := f) (by decide) hC g0 (h3) (h4)) (by decide), ?_⟩
  show am_T (wd_ro N xs) 5 60 18 [.ref 16, .ref 1, am_un, am_un, am_un] [.int (nv (uj U n j) (lj U n j) 10)] (wd c a l (tx f (sj U n j) (ej U n j) (nI (w) + 1))) _
  rw [nI_1]
  rw [v1]
  refine am_wp_ok (inl := []) 7 5 60 [] _ _ _ _ _ ?_
  refine am_br_f (show ¬ ¬ (-1 : Int32) = -1 from fun z => z rfl) ?_
  exact And.intro rfl (And.intro rfl rfl)
set_option maxRecDepth 100000 in
set_option maxHeartbeats 4000000 in
theorem tc_bad1_38 {N : Nat} {xs : Nat → Int32} {c : Bool} {a : Nat → Nat → Int32} {l : Nat → Int64} {f : Nat → Nat → Int32} {n j w : Nat} {U : Nat → Nat} (hC : CT a f n U) (hj : j ≤ n) (h3 : f 1 3 = nI j) (h4 : f 1 4 = nI w) {k : Nat} (e : f 39 7 = nI k) (hk : k < 60) (v1 : nv (uj U n j) (lj U n j) 10 = -1) : am_run (wd_ro N xs) 6 60 [.ref 38, .ref 1] (wd c a l f) (some (.int (nI 0))) (wd c a l (tx f (sj U n j) (ej U n j) (nI (w + 1)))) := by
  have g0 : j ≤ n := hj
  refine am_run_of rfl (am_wp_ok (inl := []) 4 5 60 [7] 0 _ _ _ _ ?_)
  refine ⟨_, _, am_run_up (fu_72_38 (by omega) e) (by decide), ?_⟩
  show am_T (wd_ro N xs) 5 60 7 [.ref 38, .ref 1, am_un, am_un, am_un] [.int (nI (decide (60 ≤ k)).toNat)] (wd c a l f) _
  rw [decide_eq_false (show ¬ 60 ≤ k by omega)]
  refine am_wp_ok (inl := []) 2 5 60 [12] _ _ _ _ _ ?_
  refine am_br_t (show nI 0 = 0 from rfl) ?_
  show am_T (wd_ro N xs) 5 60 12 [.ref 38, .ref 1, am_un, am_un, am_un] [] (wd c a l f) _
  refine am_wp_ok (inl := []) 4 5 60 [18] _ _ _ _ _ ?_
  refine ⟨_, _, am_run_up (c_num (b := 10) (f := f) (by decide) hC g0 (h3) (h4)) (by decide), ?_⟩
  show am_T (wd_ro N xs) 5 60 18 [.ref 38, .ref 1, am_un, am_un, am_un] [.int (nv (uj U n j) (lj U n j) 10)] (wd c a l (tx f (sj U n j) (ej U n j) (nI (w) + 1))) _
  rw [nI_1]
  rw [v1]
  refine am_wp_ok (inl := []) 7 5 60 [] _ _ _ _ _ ?_
  refine am_br_f (show ¬ ¬ (-1 : Int32) = -1 from fun z => z rfl) ?_
  exact And.intro rfl (And.intro rfl rfl)
theorem tc_bad1 (b : Bool) {N : Nat} {xs : Nat → Int32} {c : Bool} {a : Nat → Nat → Int32} {l : Nat → Int64} {f : Nat → Nat → Int32} {n j w : Nat} {U : Nat → Nat} (hC : CT a f n U) (hj : j ≤ n) (h3 : f 1 3 = nI j) (h4 : f 1 4 = nI w) {k : Nat} (e : f (ob b + 1) 7 = nI k) (hk : k < 60) (v1 : nv (uj U n j) (lj U n j) 10 = -1) : am_run (wd_ro N xs) 6 60 [.ref (ob b), .ref 1] (wd c a l f) (some (.int (nI 0))) (wd c a l (tx f (sj U n j) (ej U n j) (nI (w + 1)))) := by
  cases b
  · exact tc_bad1_16 hC hj h3 h4 e hk v1
  · exact tc_bad1_38 hC hj h3 h4 e hk v1
set_option maxRecDepth 100000 in
set_option maxHeartbeats 4000000 in
theorem tc_op_16 {N : Nat} {xs : Nat → Int32} {c : Bool} {a : Nat → Nat → Int32} {l : Nat → Int64} {f : Nat → Nat → Int32} {n j w : Nat} {U : Nat → Nat} (hC : CT a f n U) (hj : j ≤ n) (h3 : f 1 3 = nI j) (h4 : f 1 4 = nI w) {k : Nat} (e : f 17 7 = nI k) {x : Nat} (hk : k < 60) (hx : x < 10) (v1 : nv (uj U n j) (lj U n j) 10 = nI x) (ho : oq (uj U n (ej U n j)) (lj U n (ej U n j)) = false) : am_run (wd_ro N xs) 6 60 [.ref 16, .ref 1] (wd c a l f) (some (.int (nI 0))) (wd c a l (tx f (sj U n (ej U n j)) (ej U n (ej U n j)) (nI (w + 1 + 1)))) := by
  have g0 : j ≤ n := hj
  have g1 : (ej U n j) ≤ n := (j_le (U := U) g0).2.2
  refine am_run_of rfl (am_wp_ok (inl := []) 4 5 60 [7] 0 _ _ _ _ ?_)
  refine ⟨_, _, am_run_up (fu_72_16 (by omega) e) (by decide), ?_⟩
  show am_T (wd_ro N xs) 5 60 7 [.ref 16, .ref 1, am_un, am_un, am_un] [.int (nI (decide (60 ≤ k)).toNat)] (wd c a l f) _
  rw [decide_eq_false (show ¬ 60 ≤ k by omega)]
  refine am_wp_ok (inl := []) 2 5 60 [12] _ _ _ _ _ ?_
  refine am_br_t (show nI 0 = 0 from rfl) ?_
  show am_T (wd_ro N xs) 5 60 12 [.ref 16, .ref 1, am_un, am_un, am_un] [] (wd c a l f) _
  refine am_wp_ok (inl := []) 4 5 60 [18] _ _ _ _ _ ?_
  refine ⟨_, _, am_run_up (c_num (b := 10) (f := f) (by decide) hC g0 (h3) (h4)) (by decide), ?_⟩
  show am_T (wd_ro N xs) 5 60 18 [.ref 16, .ref 1, am_un, am_un, am_un] [.int (nv (uj U n j) (lj U n j) 10)] (wd c a l (tx f (sj U n j) (ej U n j) (nI (w) + 1))) _
  rw [nI_1]
  rw [v1]
  refine am_wp_ok (inl := []) 5 5 60 [26] _ _ _ _ _ ?_
  refine am_br_t (nI_n1 (by omega)) ?_
  show am_T (wd_ro N xs) 5 60 26 [.ref 16, .ref 1, .int (nI x), am_un, am_un] [] (wd c a l (tx f (sj U n j) (ej U n j) (nI (w + 1)))) _
  refine am_wp_ok (inl := []) 3 5 60 [30] _ _ _ _ _ ?_
  refine ⟨_, _, am_run_up (c_next (f := (tx f (sj U n j) (ej U n j) (nI (w + 1)))) hC g1 (rfl) (rfl)) (by decide), ?_⟩
  show am_T (wd_ro N xs) 5 60 30 [.ref 16, .ref 1, .int (nI x), am_un, am_un] [] (wd c a l (tx (tx f (sj U n j) (ej U n j) (nI (w + 1))) (sj U n (ej U n j)) (ej U n (ej U n j)) (nI (w + 1) + 1))) _
  rw [tx_tx, nI_1]
  exact op_f_16 (f := (tx f (sj U n (ej U n j)) (ej U n (ej U n j)) (nI (w + 1 + 1)))) hC g1 rfl rfl ho (And.intro rfl rfl)
set_option maxRecDepth 100000 in
set_option maxHeartbeats 4000000 in
theorem tc_op_38 {N : Nat} {xs : Nat → Int32} {c : Bool} {a : Nat → Nat → Int32} {l : Nat → Int64} {f : Nat → Nat → Int32} {n j w : Nat} {U : Nat → Nat} (hC : CT a f n U) (hj : j ≤ n) (h3 : f 1 3 = nI j) (h4 : f 1 4 = nI w) {k : Nat} (e : f 39 7 = nI k) {x : Nat} (hk : k < 60) (hx : x < 10) (v1 : nv (uj U n j) (lj U n j) 10 = nI x) (ho : oq (uj U n (ej U n j)) (lj U n (ej U n j)) = false) : am_run (wd_ro N xs) 6 60 [.ref 38, .ref 1] (wd c a l f) (some (.int (nI 0))) (wd c a l (tx f (sj U n (ej U n j)) (ej U n (ej U n j)) (nI (w + 1 + 1)))) := by
  have g0 : j ≤ n := hj
  have g1 : (ej U n j) ≤ n := (j_le (U := U) g0).2.2
  refine am_run_of rfl (am_wp_ok (inl := []) 4 5 60 [7] 0 _ _ _ _ ?_)
  refine ⟨_, _, am_run_up (fu_72_38 (by omega) e) (by decide), ?_⟩
  show am_T (wd_ro N xs) 5 60 7 [.ref 38, .ref 1, am_un, am_un, am_un] [.int (nI (decide (60 ≤ k)).toNat)] (wd c a l f) _
  rw [decide_eq_false (show ¬ 60 ≤ k by omega)]
  refine am_wp_ok (inl := []) 2 5 60 [12] _ _ _ _ _ ?_
  refine am_br_t (show nI 0 = 0 from rfl) ?_
  show am_T (wd_ro N xs) 5 60 12 [.ref 38, .ref 1, am_un, am_un, am_un] [] (wd c a l f) _
  refine am_wp_ok (inl := []) 4 5 60 [18] _ _ _ _ _ ?_
  refine ⟨_, _, am_run_up (c_num (b := 10) (f := f) (by decide) hC g0 (h3) (h4)) (by decide), ?_⟩
  show am_T (wd_ro N xs) 5 60 18 [.ref 38, .ref 1, am_un, am_un, am_un] [.int (nv (uj U n j) (lj U n j) 10)] (wd c a l (tx f (sj U n j) (ej U n j) (nI (w) + 1))) _
  rw [nI_1]
  rw [v1]
  refine am_wp_ok (inl := []) 5 5 60 [26] _ _ _ _ _ ?_
  refine am_br_t (nI_n1 (by omega)) ?_
  show am_T (wd_ro N xs) 5 60 26 [.ref 38, .ref 1, .int (nI x), am_un, am_un] [] (wd c a l (tx f (sj U n j) (ej U n j) (nI (w + 1)))) _
  refine am_wp_ok (inl := []) 3 5 60 [30] _ _ _ _ _ ?_
  refine ⟨_, _, am_run_up (c_next (f := (tx f (sj U n j) (ej U n j) (nI (w + 1)))) hC g1 (rfl) (rfl)) (by decide), ?_⟩
  show am_T (wd_ro N xs) 5 60 30 [.ref 38, .ref 1, .int (nI x), am_un, am_un] [] (wd c a l (tx (tx f (sj U n j) (ej U n j) (nI (w + 1))) (sj U n (ej U n j)) (ej U n (ej U n j)) (nI (w + 1) + 1))) _
  rw [tx_tx, nI_1]
  exact op_f_38 (f := (tx f (sj U n (ej U n j)) (ej U n (ej U n j)) (nI (w + 1 + 1)))) hC g1 rfl rfl ho (And.intro rfl rfl)
theorem tc_op (b : Bool) {N : Nat} {xs : Nat → Int32} {c : Bool} {a : Nat → Nat → Int32} {l : Nat → Int64} {f : Nat → Nat → Int32} {n j w : Nat} {U : Nat → Nat} (hC : CT a f n U) (hj : j ≤ n) (h3 : f 1 3 = nI j) (h4 : f 1 4 = nI w) {k : Nat} (e : f (ob b + 1) 7 = nI k) {x : Nat} (hk : k < 60) (hx : x < 10) (v1 : nv (uj U n j) (lj U n j) 10 = nI x) (ho : oq (uj U n (ej U n j)) (lj U n (ej U n j)) = false) : am_run (wd_ro N xs) 6 60 [.ref (ob b), .ref 1] (wd c a l f) (some (.int (nI 0))) (wd c a l (tx f (sj U n (ej U n j)) (ej U n (ej U n j)) (nI (w + 1 + 1)))) := by
  cases b
  · exact tc_op_16 hC hj h3 h4 e hk hx v1 ho
  · exact tc_op_38 hC hj h3 h4 e hk hx v1 ho
set_option maxRecDepth 100000 in
set_option maxHeartbeats 4000000 in
theorem tc_bad3_16 {N : Nat} {xs : Nat → Int32} {c : Bool} {a : Nat → Nat → Int32} {l : Nat → Int64} {f : Nat → Nat → Int32} {n j w : Nat} {U : Nat → Nat} (hC : CT a f n U) (hj : j ≤ n) (h3 : f 1 3 = nI j) (h4 : f 1 4 = nI w) {k : Nat} (e : f 17 7 = nI k) {x : Nat} (hk : k < 60) (hx : x < 10) (v1 : nv (uj U n j) (lj U n j) 10 = nI x) (ho : oq (uj U n (ej U n j)) (lj U n (ej U n j)) = true) (v3 : nv (uj U n (ej U n (ej U n j))) (lj U n (ej U n (ej U n j))) 1000000 = -1) : am_run (wd_ro N xs) 6 60 [.ref 16, .ref 1] (wd c a l f) (some (.int (nI 0))) (wd c a l (tx f (sj U n (ej U n (ej U n j))) (ej U n (ej U n (ej U n j))) (nI (w + 1 + 1 + 1)))) := by
  have g0 : j ≤ n := hj
  have g1 : (ej U n j) ≤ n := (j_le (U := U) g0).2.2
  have g2 : (ej U n (ej U n j)) ≤ n := (j_le (U := U) g1).2.2
  have gw := j_le (U := U) g1
  have hn := hC.1
  refine am_run_of rfl (am_wp_ok (inl := []) 4 5 60 [7] 0 _ _ _ _ ?_)
  refine ⟨_, _, am_run_up (fu_72_16 (by omega) e) (by decide), ?_⟩
  show am_T (wd_ro N xs) 5 60 7 [.ref 16, .ref 1, am_un, am_un, am_un] [.int (nI (decide (60 ≤ k)).toNat)] (wd c a l f) _
  rw [decide_eq_false (show ¬ 60 ≤ k by omega)]
  refine am_wp_ok (inl := []) 2 5 60 [12] _ _ _ _ _ ?_
  refine am_br_t (show nI 0 = 0 from rfl) ?_
  show am_T (wd_ro N xs) 5 60 12 [.ref 16, .ref 1, am_un, am_un, am_un] [] (wd c a l f) _
  refine am_wp_ok (inl := []) 4 5 60 [18] _ _ _ _ _ ?_
  refine ⟨_, _, am_run_up (c_num (b := 10) (f := f) (by decide) hC g0 (h3) (h4)) (by decide), ?_⟩
  show am_T (wd_ro N xs) 5 60 18 [.ref 16, .ref 1, am_un, am_un, am_un] [.int (nv (uj U n j) (lj U n j) 10)] (wd c a l (tx f (sj U n j) (ej U n j) (nI (w) + 1))) _
  rw [nI_1]
  rw [v1]
  refine am_wp_ok (inl := []) 5 5 60 [26] _ _ _ _ _ ?_
  refine am_br_t (nI_n1 (by omega)) ?_
  show am_T (wd_ro N xs) 5 60 26 [.ref 16, .ref 1, .int (nI x), am_un, am_un] [] (wd c a l (tx f (sj U n j) (ej U n j) (nI (w + 1)))) _
  refine am_wp_ok (inl := []) 3 5 60 [30] _ _ _ _ _ ?_
  refine ⟨_, _, am_run_up (c_next (f := (tx f (sj U n j) (ej U n j) (nI (w + 1)))) hC g1 (rfl) (rfl)) (by decide), ?_⟩
  show am_T (wd_ro N xs) 5 60 30 [.ref 16, .ref 1, .int (nI x), am_un, am_un] [] (wd c a l (tx (tx f (sj U n j) (ej U n j) (nI (w + 1))) (sj U n (ej U n j)) (ej U n (ej U n j)) (nI (w + 1) + 1))) _
  rw [tx_tx, nI_1]
  refine op_t_16 (f := (tx f (sj U n (ej U n j)) (ej U n (ej U n j)) (nI (w + 1 + 1)))) hC g1 rfl rfl ho ?_
  show am_T (wd_ro N xs) 5 60 59 [.ref 16, .ref 1, .int (nI x), am_un, am_un] [] (wd c a l (tx f (sj U n (ej U n j)) (ej U n (ej U n j)) (nI (w + 1 + 1)))) _
  refine am_wp_ok (inl := []) 4 5 60 [64] _ _ _ _ _ ?_
  refine ⟨_, _, am_run_up (sp_byte_t (f := (tx f (sj U n (ej U n j)) (ej U n (ej U n j)) (nI (w + 1 + 1)))) (i := 0) rfl rfl gw.2.1 (by omega) (by have := oq_1 ho; unfold lj at this; omega)) (by decide), ?_⟩
  show am_T (wd_ro N xs) 5 60 64 [.ref 16, .ref 1, .int (nI x), am_un, am_un] [.int (a 2 (sj U n (ej U n j) + 0))] (wd c a l (tx f (sj U n (ej U n j)) (ej U n (ej U n j)) (nI (w + 1 + 1)))) _
  rw [(uC hC g1 0 (by have := oq_1 ho; unfold lj at this; omega)).1]
  refine am_wp_ok (inl := []) 2 5 60 [65] _ _ _ _ _ ?_
  show am_T (wd_ro N xs) 5 60 65 [.ref 16, .ref 1, .int (nI x), .int (nI (uj U n (ej U n j) 0)), am_un] [] (wd c a l (tx f (sj U n (ej U n j)) (ej U n (ej U n j)) (nI (w + 1 + 1)))) _
  refine am_wp_ok (inl := []) 4 5 60 [71] _ _ _ _ _ ?_
  refine ⟨_, _, am_run_up (c_num (b := 1000000) (f := (tx f (sj U n (ej U n j)) (ej U n (ej U n j)) (nI (w + 1 + 1)))) (by decide) hC g2 (rfl) (rfl)) (by decide), ?_⟩
  show am_T (wd_ro N xs) 5 60 71 [.ref 16, .ref 1, .int (nI x), .int (nI (uj U n (ej U n j) 0)), am_un] [.int (nv (uj U n (ej U n (ej U n j))) (lj U n (ej U n (ej U n j))) 1000000)] (wd c a l (tx (tx f (sj U n (ej U n j)) (ej U n (ej U n j)) (nI (w + 1 + 1))) (sj U n (ej U n (ej U n j))) (ej U n (ej U n (ej U n j))) (nI (w + 1 + 1) + 1))) _
  rw [tx_tx, nI_1]
  rw [v3]
  refine am_wp_ok (inl := []) 7 5 60 [] _ _ _ _ _ ?_
  refine am_br_f (show ¬ ¬ (-1 : Int32) = -1 from fun z => z rfl) ?_
  exact And.intro rfl (And.intro rfl rfl)
set_option maxRecDepth 100000 in
set_option maxHeartbeats 4000000 in
theorem tc_bad3_38 {N : Nat} {xs : Nat → Int32} {c : Bool} {a : Nat → Nat → Int32} {l : Nat → Int64} {f : Nat → Nat → Int32} {n j w : Nat} {U : Nat → Nat} (hC : CT a f n U) (hj : j ≤ n) (h3 : f 1 3 = nI j) (h4 : f 1 4 = nI w) {k : Nat} (e : f 39 7 = nI k) {x : Nat} (hk : k < 60) (hx : x < 10) (v1 : nv (uj U n j) (lj U n j) 10 = nI x) (ho : oq (uj U n (ej U n j)) (lj U n (ej U n j)) = true) (v3 : nv (uj U n (ej U n (ej U n j))) (lj U n (ej U n (ej U n j))) 1000000 = -1) : am_run (wd_ro N xs) 6 60 [.ref 38, .ref 1] (wd c a l f) (some (.int (nI 0))) (wd c a l (tx f (sj U n (ej U n (ej U n j))) (ej U n (ej U n (ej U n j))) (nI (w + 1 + 1 + 1)))) := by
  have g0 : j ≤ n := hj
  have g1 : (ej U n j) ≤ n := (j_le (U := U) g0).2.2
  have g2 : (ej U n (ej U n j)) ≤ n := (j_le (U := U) g1).2.2
  have gw := j_le (U := U) g1
  have hn := hC.1
  refine am_run_of rfl (am_wp_ok (inl := []) 4 5 60 [7] 0 _ _ _ _ ?_)
  refine ⟨_, _, am_run_up (fu_72_38 (by omega) e) (by decide), ?_⟩
  show am_T (wd_ro N xs) 5 60 7 [.ref 38, .ref 1, am_un, am_un, am_un] [.int (nI (decide (60 ≤ k)).toNat)] (wd c a l f) _
  rw [decide_eq_false (show ¬ 60 ≤ k by omega)]
  refine am_wp_ok (inl := []) 2 5 60 [12] _ _ _ _ _ ?_
  refine am_br_t (show nI 0 = 0 from rfl) ?_
  show am_T (wd_ro N xs) 5 60 12 [.ref 38, .ref 1, am_un, am_un, am_un] [] (wd c a l f) _
  refine am_wp_ok (inl := []) 4 5 60 [18] _ _ _ _ _ ?_
  refine ⟨_, _, am_run_up (c_num (b := 10) (f := f) (by decide) hC g0 (h3) (h4)) (by decide), ?_⟩
  show am_T (wd_ro N xs) 5 60 18 [.ref 38, .ref 1, am_un, am_un, am_un] [.int (nv (uj U n j) (lj U n j) 10)] (wd c a l (tx f (sj U n j) (ej U n j) (nI (w) + 1))) _
  rw [nI_1]
  rw [v1]
  refine am_wp_ok (inl := []) 5 5 60 [26] _ _ _ _ _ ?_
  refine am_br_t (nI_n1 (by omega)) ?_
  show am_T (wd_ro N xs) 5 60 26 [.ref 38, .ref 1, .int (nI x), am_un, am_un] [] (wd c a l (tx f (sj U n j) (ej U n j) (nI (w + 1)))) _
  refine am_wp_ok (inl := []) 3 5 60 [30] _ _ _ _ _ ?_
  refine ⟨_, _, am_run_up (c_next (f := (tx f (sj U n j) (ej U n j) (nI (w + 1)))) hC g1 (rfl) (rfl)) (by decide), ?_⟩
  show am_T (wd_ro N xs) 5 60 30 [.ref 38, .ref 1, .int (nI x), am_un, am_un] [] (wd c a l (tx (tx f (sj U n j) (ej U n j) (nI (w + 1))) (sj U n (ej U n j)) (ej U n (ej U n j)) (nI (w + 1) + 1))) _
  rw [tx_tx, nI_1]
  refine op_t_38 (f := (tx f (sj U n (ej U n j)) (ej U n (ej U n j)) (nI (w + 1 + 1)))) hC g1 rfl rfl ho ?_
  show am_T (wd_ro N xs) 5 60 59 [.ref 38, .ref 1, .int (nI x), am_un, am_un] [] (wd c a l (tx f (sj U n (ej U n j)) (ej U n (ej U n j)) (nI (w + 1 + 1)))) _
  refine am_wp_ok (inl := []) 4 5 60 [64] _ _ _ _ _ ?_
  refine ⟨_, _, am_run_up (sp_byte_t (f := (tx f (sj U n (ej U n j)) (ej U n (ej U n j)) (nI (w + 1 + 1)))) (i := 0) rfl rfl gw.2.1 (by omega) (by have := oq_1 ho; unfold lj at this; omega)) (by decide), ?_⟩
  show am_T (wd_ro N xs) 5 60 64 [.ref 38, .ref 1, .int (nI x), am_un, am_un] [.int (a 2 (sj U n (ej U n j) + 0))] (wd c a l (tx f (sj U n (ej U n j)) (ej U n (ej U n j)) (nI (w + 1 + 1)))) _
  rw [(uC hC g1 0 (by have := oq_1 ho; unfold lj at this; omega)).1]
  refine am_wp_ok (inl := []) 2 5 60 [65] _ _ _ _ _ ?_
  show am_T (wd_ro N xs) 5 60 65 [.ref 38, .ref 1, .int (nI x), .int (nI (uj U n (ej U n j) 0)), am_un] [] (wd c a l (tx f (sj U n (ej U n j)) (ej U n (ej U n j)) (nI (w + 1 + 1)))) _
  refine am_wp_ok (inl := []) 4 5 60 [71] _ _ _ _ _ ?_
  refine ⟨_, _, am_run_up (c_num (b := 1000000) (f := (tx f (sj U n (ej U n j)) (ej U n (ej U n j)) (nI (w + 1 + 1)))) (by decide) hC g2 (rfl) (rfl)) (by decide), ?_⟩
  show am_T (wd_ro N xs) 5 60 71 [.ref 38, .ref 1, .int (nI x), .int (nI (uj U n (ej U n j) 0)), am_un] [.int (nv (uj U n (ej U n (ej U n j))) (lj U n (ej U n (ej U n j))) 1000000)] (wd c a l (tx (tx f (sj U n (ej U n j)) (ej U n (ej U n j)) (nI (w + 1 + 1))) (sj U n (ej U n (ej U n j))) (ej U n (ej U n (ej U n j))) (nI (w + 1 + 1) + 1))) _
  rw [tx_tx, nI_1]
  rw [v3]
  refine am_wp_ok (inl := []) 7 5 60 [] _ _ _ _ _ ?_
  refine am_br_f (show ¬ ¬ (-1 : Int32) = -1 from fun z => z rfl) ?_
  exact And.intro rfl (And.intro rfl rfl)
theorem tc_bad3 (b : Bool) {N : Nat} {xs : Nat → Int32} {c : Bool} {a : Nat → Nat → Int32} {l : Nat → Int64} {f : Nat → Nat → Int32} {n j w : Nat} {U : Nat → Nat} (hC : CT a f n U) (hj : j ≤ n) (h3 : f 1 3 = nI j) (h4 : f 1 4 = nI w) {k : Nat} (e : f (ob b + 1) 7 = nI k) {x : Nat} (hk : k < 60) (hx : x < 10) (v1 : nv (uj U n j) (lj U n j) 10 = nI x) (ho : oq (uj U n (ej U n j)) (lj U n (ej U n j)) = true) (v3 : nv (uj U n (ej U n (ej U n j))) (lj U n (ej U n (ej U n j))) 1000000 = -1) : am_run (wd_ro N xs) 6 60 [.ref (ob b), .ref 1] (wd c a l f) (some (.int (nI 0))) (wd c a l (tx f (sj U n (ej U n (ej U n j))) (ej U n (ej U n (ej U n j))) (nI (w + 1 + 1 + 1)))) := by
  cases b
  · exact tc_bad3_16 hC hj h3 h4 e hk hx v1 ho v3
  · exact tc_bad3_38 hC hj h3 h4 e hk hx v1 ho v3
set_option maxRecDepth 100000 in
set_option maxHeartbeats 4000000 in
theorem tc_ok_16 {N : Nat} {xs : Nat → Int32} {c : Bool} {a : Nat → Nat → Int32} {l : Nat → Int64} {f : Nat → Nat → Int32} {n j w : Nat} {U : Nat → Nat} (hC : CT a f n U) (hj : j ≤ n) (h3 : f 1 3 = nI j) (h4 : f 1 4 = nI w) {k : Nat} (e : f 17 7 = nI k) {x : Nat} (hk : k < 60) (hx : x < 10) (v1 : nv (uj U n j) (lj U n j) 10 = nI x) (ho : oq (uj U n (ej U n j)) (lj U n (ej U n j)) = true) {z nb : Nat} (hz : z < 1000000) (v3 : nv (uj U n (ej U n (ej U n j))) (lj U n (ej U n (ej U n j))) 1000000 = nI z) (hb1 : 1 ≤ nb) (hb : nb ≤ 30) (e6 : f 17 6 = nI nb) : am_run (wd_ro N xs) 6 60 [.ref 16, .ref 1] (wd c a l f) (some (.int (nI 1))) (wd c (u2 (u2 (u2 (u2 a 21 (upd (a 21) k (nI x))) 22 (upd (a 22) k (nI (uj U n (ej U n j) 0)))) 23 (upd (a 23) k (nI z))) 20 (upd (a 20) (nb - 1) (nI (k + 1)))) l (tx (u3 f 17 7 (nI (k + 1))) (sj U n (ej U n (ej U n (ej U n j)))) (ej U n (ej U n (ej U n (ej U n j)))) (nI (w + 1 + 1 + 1 + 1)))) := by
  have g0 : j ≤ n := hj
  have g1 : (ej U n j) ≤ n := (j_le (U := U) g0).2.2
  have g2 : (ej U n (ej U n j)) ≤ n := (j_le (U := U) g1).2.2
  have g3 : (ej U n (ej U n (ej U n j))) ≤ n := (j_le (U := U) g2).2.2
  have gw := j_le (U := U) g1
  have hn := hC.1
  refine am_run_of rfl (am_wp_ok (inl := []) 4 5 60 [7] 0 _ _ _ _ ?_)
  refine ⟨_, _, am_run_up (fu_72_16 (by omega) e) (by decide), ?_⟩
  show am_T (wd_ro N xs) 5 60 7 [.ref 16, .ref 1, am_un, am_un, am_un] [.int (nI (decide (60 ≤ k)).toNat)] (wd c a l f) _
  rw [decide_eq_false (show ¬ 60 ≤ k by omega)]
  refine am_wp_ok (inl := []) 2 5 60 [12] _ _ _ _ _ ?_
  refine am_br_t (show nI 0 = 0 from rfl) ?_
  show am_T (wd_ro N xs) 5 60 12 [.ref 16, .ref 1, am_un, am_un, am_un] [] (wd c a l f) _
  refine am_wp_ok (inl := []) 4 5 60 [18] _ _ _ _ _ ?_
  refine ⟨_, _, am_run_up (c_num (b := 10) (f := f) (by decide) hC g0 (h3) (h4)) (by decide), ?_⟩
  show am_T (wd_ro N xs) 5 60 18 [.ref 16, .ref 1, am_un, am_un, am_un] [.int (nv (uj U n j) (lj U n j) 10)] (wd c a l (tx f (sj U n j) (ej U n j) (nI (w) + 1))) _
  rw [nI_1]
  rw [v1]
  refine am_wp_ok (inl := []) 5 5 60 [26] _ _ _ _ _ ?_
  refine am_br_t (nI_n1 (by omega)) ?_
  show am_T (wd_ro N xs) 5 60 26 [.ref 16, .ref 1, .int (nI x), am_un, am_un] [] (wd c a l (tx f (sj U n j) (ej U n j) (nI (w + 1)))) _
  refine am_wp_ok (inl := []) 3 5 60 [30] _ _ _ _ _ ?_
  refine ⟨_, _, am_run_up (c_next (f := (tx f (sj U n j) (ej U n j) (nI (w + 1)))) hC g1 (rfl) (rfl)) (by decide), ?_⟩
  show am_T (wd_ro N xs) 5 60 30 [.ref 16, .ref 1, .int (nI x), am_un, am_un] [] (wd c a l (tx (tx f (sj U n j) (ej U n j) (nI (w + 1))) (sj U n (ej U n j)) (ej U n (ej U n j)) (nI (w + 1) + 1))) _
  rw [tx_tx, nI_1]
  refine op_t_16 (f := (tx f (sj U n (ej U n j)) (ej U n (ej U n j)) (nI (w + 1 + 1)))) hC g1 rfl rfl ho ?_
  show am_T (wd_ro N xs) 5 60 59 [.ref 16, .ref 1, .int (nI x), am_un, am_un] [] (wd c a l (tx f (sj U n (ej U n j)) (ej U n (ej U n j)) (nI (w + 1 + 1)))) _
  refine am_wp_ok (inl := []) 4 5 60 [64] _ _ _ _ _ ?_
  refine ⟨_, _, am_run_up (sp_byte_t (f := (tx f (sj U n (ej U n j)) (ej U n (ej U n j)) (nI (w + 1 + 1)))) (i := 0) rfl rfl gw.2.1 (by omega) (by have := oq_1 ho; unfold lj at this; omega)) (by decide), ?_⟩
  show am_T (wd_ro N xs) 5 60 64 [.ref 16, .ref 1, .int (nI x), am_un, am_un] [.int (a 2 (sj U n (ej U n j) + 0))] (wd c a l (tx f (sj U n (ej U n j)) (ej U n (ej U n j)) (nI (w + 1 + 1)))) _
  rw [(uC hC g1 0 (by have := oq_1 ho; unfold lj at this; omega)).1]
  refine am_wp_ok (inl := []) 2 5 60 [65] _ _ _ _ _ ?_
  show am_T (wd_ro N xs) 5 60 65 [.ref 16, .ref 1, .int (nI x), .int (nI (uj U n (ej U n j) 0)), am_un] [] (wd c a l (tx f (sj U n (ej U n j)) (ej U n (ej U n j)) (nI (w + 1 + 1)))) _
  refine am_wp_ok (inl := []) 4 5 60 [71] _ _ _ _ _ ?_
  refine ⟨_, _, am_run_up (c_num (b := 1000000) (f := (tx f (sj U n (ej U n j)) (ej U n (ej U n j)) (nI (w + 1 + 1)))) (by decide) hC g2 (rfl) (rfl)) (by decide), ?_⟩
  show am_T (wd_ro N xs) 5 60 71 [.ref 16, .ref 1, .int (nI x), .int (nI (uj U n (ej U n j) 0)), am_un] [.int (nv (uj U n (ej U n (ej U n j))) (lj U n (ej U n (ej U n j))) 1000000)] (wd c a l (tx (tx f (sj U n (ej U n j)) (ej U n (ej U n j)) (nI (w + 1 + 1))) (sj U n (ej U n (ej U n j))) (ej U n (ej U n (ej U n j))) (nI (w + 1 + 1) + 1))) _
  rw [tx_tx, nI_1]
  rw [v3]
  refine am_wp_ok (inl := []) 5 5 60 [81] _ _ _ _ _ ?_
  refine am_br_t (nI_n1 (by omega)) ?_
  show am_T (wd_ro N xs) 5 60 81 [.ref 16, .ref 1, .int (nI x), .int (nI (uj U n (ej U n j) 0)), .int (nI z)] [] (wd c a l (tx f (sj U n (ej U n (ej U n j))) (ej U n (ej U n (ej U n j))) (nI (w + 1 + 1 + 1)))) _
  refine am_wp_ok (inl := []) 7 5 60 [92] _ _ _ _ _ ?_
  refine ⟨_, _, am_run_up (ad_cn_16 (f := (tx f (sj U n (ej U n (ej U n j))) (ej U n (ej U n (ej U n j))) (nI (w + 1 + 1 + 1)))) hk hb1 hb e e6) (by decide), ?_⟩
  show am_T (wd_ro N xs) 5 60 92 [.ref 16, .ref 1, .int (nI x), .int (nI (uj U n (ej U n j) 0)), .int (nI z)] [] (wd c (u2 (u2 (u2 (u2 a 21 (upd (a 21) k (nI x))) 22 (upd (a 22) k (nI (uj U n (ej U n j) 0)))) 23 (upd (a 23) k (nI z))) 20 (upd (a 20) (nb - 1) (nI (k + 1)))) l (u3 (tx f (sj U n (ej U n (ej U n j))) (ej U n (ej U n (ej U n j))) (nI (w + 1 + 1 + 1))) 17 7 (nI (k + 1)))) _
  rw [tx_u3 rfl]
  refine am_wp_ok (inl := []) 3 5 60 [96] _ _ _ _ _ ?_
  refine ⟨_, _, am_run_up (c_next (f := (tx (u3 f 17 7 (nI (k + 1))) (sj U n (ej U n (ej U n j))) (ej U n (ej U n (ej U n j))) (nI (w + 1 + 1 + 1)))) hC g3 (rfl) (rfl)) (by decide), ?_⟩
  show am_T (wd_ro N xs) 5 60 96 [.ref 16, .ref 1, .int (nI x), .int (nI (uj U n (ej U n j) 0)), .int (nI z)] [] (wd c (u2 (u2 (u2 (u2 a 21 (upd (a 21) k (nI x))) 22 (upd (a 22) k (nI (uj U n (ej U n j) 0)))) 23 (upd (a 23) k (nI z))) 20 (upd (a 20) (nb - 1) (nI (k + 1)))) l (tx (tx (u3 f 17 7 (nI (k + 1))) (sj U n (ej U n (ej U n j))) (ej U n (ej U n (ej U n j))) (nI (w + 1 + 1 + 1))) (sj U n (ej U n (ej U n (ej U n j)))) (ej U n (ej U n (ej U n (ej U n j)))) (nI (w + 1 + 1 + 1) + 1))) _
  rw [tx_tx, nI_1]
  refine am_wp_ok (inl := []) 3 5 60 [] _ _ _ _ _ ?_
  exact And.intro rfl (And.intro rfl rfl)
set_option maxRecDepth 100000 in
set_option maxHeartbeats 4000000 in
theorem tc_ok_38 {N : Nat} {xs : Nat → Int32} {c : Bool} {a : Nat → Nat → Int32} {l : Nat → Int64} {f : Nat → Nat → Int32} {n j w : Nat} {U : Nat → Nat} (hC : CT a f n U) (hj : j ≤ n) (h3 : f 1 3 = nI j) (h4 : f 1 4 = nI w) {k : Nat} (e : f 39 7 = nI k) {x : Nat} (hk : k < 60) (hx : x < 10) (v1 : nv (uj U n j) (lj U n j) 10 = nI x) (ho : oq (uj U n (ej U n j)) (lj U n (ej U n j)) = true) {z nb : Nat} (hz : z < 1000000) (v3 : nv (uj U n (ej U n (ej U n j))) (lj U n (ej U n (ej U n j))) 1000000 = nI z) (hb1 : 1 ≤ nb) (hb : nb ≤ 30) (e6 : f 39 6 = nI nb) : am_run (wd_ro N xs) 6 60 [.ref 38, .ref 1] (wd c a l f) (some (.int (nI 1))) (wd c (u2 (u2 (u2 (u2 a 43 (upd (a 43) k (nI x))) 44 (upd (a 44) k (nI (uj U n (ej U n j) 0)))) 45 (upd (a 45) k (nI z))) 42 (upd (a 42) (nb - 1) (nI (k + 1)))) l (tx (u3 f 39 7 (nI (k + 1))) (sj U n (ej U n (ej U n (ej U n j)))) (ej U n (ej U n (ej U n (ej U n j)))) (nI (w + 1 + 1 + 1 + 1)))) := by
  have g0 : j ≤ n := hj
  have g1 : (ej U n j) ≤ n := (j_le (U := U) g0).2.2
  have g2 : (ej U n (ej U n j)) ≤ n := (j_le (U := U) g1).2.2
  have g3 : (ej U n (ej U n (ej U n j))) ≤ n := (j_le (U := U) g2).2.2
  have gw := j_le (U := U) g1
  have hn := hC.1
  refine am_run_of rfl (am_wp_ok (inl := []) 4 5 60 [7] 0 _ _ _ _ ?_)
  refine ⟨_, _, am_run_up (fu_72_38 (by omega) e) (by decide), ?_⟩
  show am_T (wd_ro N xs) 5 60 7 [.ref 38, .ref 1, am_un, am_un, am_un] [.int (nI (decide (60 ≤ k)).toNat)] (wd c a l f) _
  rw [decide_eq_false (show ¬ 60 ≤ k by omega)]
  refine am_wp_ok (inl := []) 2 5 60 [12] _ _ _ _ _ ?_
  refine am_br_t (show nI 0 = 0 from rfl) ?_
  show am_T (wd_ro N xs) 5 60 12 [.ref 38, .ref 1, am_un, am_un, am_un] [] (wd c a l f) _
  refine am_wp_ok (inl := []) 4 5 60 [18] _ _ _ _ _ ?_
  refine ⟨_, _, am_run_up (c_num (b := 10) (f := f) (by decide) hC g0 (h3) (h4)) (by decide), ?_⟩
  show am_T (wd_ro N xs) 5 60 18 [.ref 38, .ref 1, am_un, am_un, am_un] [.int (nv (uj U n j) (lj U n j) 10)] (wd c a l (tx f (sj U n j) (ej U n j) (nI (w) + 1))) _
  rw [nI_1]
  rw [v1]
  refine am_wp_ok (inl := []) 5 5 60 [26] _ _ _ _ _ ?_
  refine am_br_t (nI_n1 (by omega)) ?_
  show am_T (wd_ro N xs) 5 60 26 [.ref 38, .ref 1, .int (nI x), am_un, am_un] [] (wd c a l (tx f (sj U n j) (ej U n j) (nI (w + 1)))) _
  refine am_wp_ok (inl := []) 3 5 60 [30] _ _ _ _ _ ?_
  refine ⟨_, _, am_run_up (c_next (f := (tx f (sj U n j) (ej U n j) (nI (w + 1)))) hC g1 (rfl) (rfl)) (by decide), ?_⟩
  show am_T (wd_ro N xs) 5 60 30 [.ref 38, .ref 1, .int (nI x), am_un, am_un] [] (wd c a l (tx (tx f (sj U n j) (ej U n j) (nI (w + 1))) (sj U n (ej U n j)) (ej U n (ej U n j)) (nI (w + 1) + 1))) _
  rw [tx_tx, nI_1]
  refine op_t_38 (f := (tx f (sj U n (ej U n j)) (ej U n (ej U n j)) (nI (w + 1 + 1)))) hC g1 rfl rfl ho ?_
  show am_T (wd_ro N xs) 5 60 59 [.ref 38, .ref 1, .int (nI x), am_un, am_un] [] (wd c a l (tx f (sj U n (ej U n j)) (ej U n (ej U n j)) (nI (w + 1 + 1)))) _
  refine am_wp_ok (inl := []) 4 5 60 [64] _ _ _ _ _ ?_
  refine ⟨_, _, am_run_up (sp_byte_t (f := (tx f (sj U n (ej U n j)) (ej U n (ej U n j)) (nI (w + 1 + 1)))) (i := 0) rfl rfl gw.2.1 (by omega) (by have := oq_1 ho; unfold lj at this; omega)) (by decide), ?_⟩
  show am_T (wd_ro N xs) 5 60 64 [.ref 38, .ref 1, .int (nI x), am_un, am_un] [.int (a 2 (sj U n (ej U n j) + 0))] (wd c a l (tx f (sj U n (ej U n j)) (ej U n (ej U n j)) (nI (w + 1 + 1)))) _
  rw [(uC hC g1 0 (by have := oq_1 ho; unfold lj at this; omega)).1]
  refine am_wp_ok (inl := []) 2 5 60 [65] _ _ _ _ _ ?_
  show am_T (wd_ro N xs) 5 60 65 [.ref 38, .ref 1, .int (nI x), .int (nI (uj U n (ej U n j) 0)), am_un] [] (wd c a l (tx f (sj U n (ej U n j)) (ej U n (ej U n j)) (nI (w + 1 + 1)))) _
  refine am_wp_ok (inl := []) 4 5 60 [71] _ _ _ _ _ ?_
  refine ⟨_, _, am_run_up (c_num (b := 1000000) (f := (tx f (sj U n (ej U n j)) (ej U n (ej U n j)) (nI (w + 1 + 1)))) (by decide) hC g2 (rfl) (rfl)) (by decide), ?_⟩
  show am_T (wd_ro N xs) 5 60 71 [.ref 38, .ref 1, .int (nI x), .int (nI (uj U n (ej U n j) 0)), am_un] [.int (nv (uj U n (ej U n (ej U n j))) (lj U n (ej U n (ej U n j))) 1000000)] (wd c a l (tx (tx f (sj U n (ej U n j)) (ej U n (ej U n j)) (nI (w + 1 + 1))) (sj U n (ej U n (ej U n j))) (ej U n (ej U n (ej U n j))) (nI (w + 1 + 1) + 1))) _
  rw [tx_tx, nI_1]
  rw [v3]
  refine am_wp_ok (inl := []) 5 5 60 [81] _ _ _ _ _ ?_
  refine am_br_t (nI_n1 (by omega)) ?_
  show am_T (wd_ro N xs) 5 60 81 [.ref 38, .ref 1, .int (nI x), .int (nI (uj U n (ej U n j) 0)), .int (nI z)] [] (wd c a l (tx f (sj U n (ej U n (ej U n j))) (ej U n (ej U n (ej U n j))) (nI (w + 1 + 1 + 1)))) _
  refine am_wp_ok (inl := []) 7 5 60 [92] _ _ _ _ _ ?_
  refine ⟨_, _, am_run_up (ad_cn_38 (f := (tx f (sj U n (ej U n (ej U n j))) (ej U n (ej U n (ej U n j))) (nI (w + 1 + 1 + 1)))) hk hb1 hb e e6) (by decide), ?_⟩
  show am_T (wd_ro N xs) 5 60 92 [.ref 38, .ref 1, .int (nI x), .int (nI (uj U n (ej U n j) 0)), .int (nI z)] [] (wd c (u2 (u2 (u2 (u2 a 43 (upd (a 43) k (nI x))) 44 (upd (a 44) k (nI (uj U n (ej U n j) 0)))) 45 (upd (a 45) k (nI z))) 42 (upd (a 42) (nb - 1) (nI (k + 1)))) l (u3 (tx f (sj U n (ej U n (ej U n j))) (ej U n (ej U n (ej U n j))) (nI (w + 1 + 1 + 1))) 39 7 (nI (k + 1)))) _
  rw [tx_u3 rfl]
  refine am_wp_ok (inl := []) 3 5 60 [96] _ _ _ _ _ ?_
  refine ⟨_, _, am_run_up (c_next (f := (tx (u3 f 39 7 (nI (k + 1))) (sj U n (ej U n (ej U n j))) (ej U n (ej U n (ej U n j))) (nI (w + 1 + 1 + 1)))) hC g3 (rfl) (rfl)) (by decide), ?_⟩
  show am_T (wd_ro N xs) 5 60 96 [.ref 38, .ref 1, .int (nI x), .int (nI (uj U n (ej U n j) 0)), .int (nI z)] [] (wd c (u2 (u2 (u2 (u2 a 43 (upd (a 43) k (nI x))) 44 (upd (a 44) k (nI (uj U n (ej U n j) 0)))) 45 (upd (a 45) k (nI z))) 42 (upd (a 42) (nb - 1) (nI (k + 1)))) l (tx (tx (u3 f 39 7 (nI (k + 1))) (sj U n (ej U n (ej U n j))) (ej U n (ej U n (ej U n j))) (nI (w + 1 + 1 + 1))) (sj U n (ej U n (ej U n (ej U n j)))) (ej U n (ej U n (ej U n (ej U n j)))) (nI (w + 1 + 1 + 1) + 1))) _
  rw [tx_tx, nI_1]
  refine am_wp_ok (inl := []) 3 5 60 [] _ _ _ _ _ ?_
  exact And.intro rfl (And.intro rfl rfl)
theorem tc_ok (b : Bool) {N : Nat} {xs : Nat → Int32} {c : Bool} {a : Nat → Nat → Int32} {l : Nat → Int64} {f : Nat → Nat → Int32} {n j w : Nat} {U : Nat → Nat} (hC : CT a f n U) (hj : j ≤ n) (h3 : f 1 3 = nI j) (h4 : f 1 4 = nI w) {k : Nat} (e : f (ob b + 1) 7 = nI k) {x : Nat} (hk : k < 60) (hx : x < 10) (v1 : nv (uj U n j) (lj U n j) 10 = nI x) (ho : oq (uj U n (ej U n j)) (lj U n (ej U n j)) = true) {z nb : Nat} (hz : z < 1000000) (v3 : nv (uj U n (ej U n (ej U n j))) (lj U n (ej U n (ej U n j))) 1000000 = nI z) (hb1 : 1 ≤ nb) (hb : nb ≤ 30) (e6 : f (ob b + 1) 6 = nI nb) : am_run (wd_ro N xs) 6 60 [.ref (ob b), .ref 1] (wd c a l f) (some (.int (nI 1))) (wd c (u2 (u2 (u2 (u2 a (ob b + 5) (upd (a (ob b + 5)) k (nI x))) (ob b + 6) (upd (a (ob b + 6)) k (nI (uj U n (ej U n j) 0)))) (ob b + 7) (upd (a (ob b + 7)) k (nI z))) (ob b + 4) (upd (a (ob b + 4)) (nb - 1) (nI (k + 1)))) l (tx (u3 f (ob b + 1) 7 (nI (k + 1))) (sj U n (ej U n (ej U n (ej U n j)))) (ej U n (ej U n (ej U n (ej U n j)))) (nI (w + 1 + 1 + 1 + 1)))) := by
  cases b
  · exact tc_ok_16 hC hj h3 h4 e hk hx v1 ho hz v3 hb1 hb e6
  · exact tc_ok_38 hC hj h3 h4 e hk hx v1 ho hz v3 hb1 hb e6
set_option maxRecDepth 100000 in
set_option maxHeartbeats 4000000 in
theorem th_full_16 {N : Nat} {xs : Nat → Int32} {c : Bool} {a : Nat → Nat → Int32} {l : Nat → Int64} {f : Nat → Nat → Int32} {n j w : Nat} {U : Nat → Nat} (hC : CT a f n U) (hj : j ≤ n) (h3 : f 1 3 = nI j) (h4 : f 1 4 = nI w) {k : Nat} (e : f 17 6 = nI k) (hk2 : k < 2 ^ 31) (hk : 30 ≤ k) : am_run (wd_ro N xs) 7 59 [.ref 16, .ref 1] (wd c a l f) (some (.int (nI 0))) (wd c a l f) := by
  have g0 : j ≤ n := hj
  refine am_run_of rfl (am_wp_ok (inl := []) 4 6 59 [7] 0 _ _ _ _ ?_)
  refine ⟨_, _, am_run_up (fu_70_16 (by omega) e) (by decide), ?_⟩
  show am_T (wd_ro N xs) 6 59 7 [.ref 16, .ref 1, am_un, am_un, am_un] [.int (nI (decide (30 ≤ k)).toNat)] (wd c a l f) _
  rw [decide_eq_true hk]
  refine am_wp_ok (inl := []) 4 6 59 [] _ _ _ _ _ ?_
  refine am_br_f (show ¬ nI 1 = 0 by decide) ?_
  exact And.intro rfl (And.intro rfl rfl)
set_option maxRecDepth 100000 in
set_option maxHeartbeats 4000000 in
theorem th_full_38 {N : Nat} {xs : Nat → Int32} {c : Bool} {a : Nat → Nat → Int32} {l : Nat → Int64} {f : Nat → Nat → Int32} {n j w : Nat} {U : Nat → Nat} (hC : CT a f n U) (hj : j ≤ n) (h3 : f 1 3 = nI j) (h4 : f 1 4 = nI w) {k : Nat} (e : f 39 6 = nI k) (hk2 : k < 2 ^ 31) (hk : 30 ≤ k) : am_run (wd_ro N xs) 7 59 [.ref 38, .ref 1] (wd c a l f) (some (.int (nI 0))) (wd c a l f) := by
  have g0 : j ≤ n := hj
  refine am_run_of rfl (am_wp_ok (inl := []) 4 6 59 [7] 0 _ _ _ _ ?_)
  refine ⟨_, _, am_run_up (fu_70_38 (by omega) e) (by decide), ?_⟩
  show am_T (wd_ro N xs) 6 59 7 [.ref 38, .ref 1, am_un, am_un, am_un] [.int (nI (decide (30 ≤ k)).toNat)] (wd c a l f) _
  rw [decide_eq_true hk]
  refine am_wp_ok (inl := []) 4 6 59 [] _ _ _ _ _ ?_
  refine am_br_f (show ¬ nI 1 = 0 by decide) ?_
  exact And.intro rfl (And.intro rfl rfl)
theorem th_full (b : Bool) {N : Nat} {xs : Nat → Int32} {c : Bool} {a : Nat → Nat → Int32} {l : Nat → Int64} {f : Nat → Nat → Int32} {n j w : Nat} {U : Nat → Nat} (hC : CT a f n U) (hj : j ≤ n) (h3 : f 1 3 = nI j) (h4 : f 1 4 = nI w) {k : Nat} (e : f (ob b + 1) 6 = nI k) (hk2 : k < 2 ^ 31) (hk : 30 ≤ k) : am_run (wd_ro N xs) 7 59 [.ref (ob b), .ref 1] (wd c a l f) (some (.int (nI 0))) (wd c a l f) := by
  cases b
  · exact th_full_16 hC hj h3 h4 e hk2 hk
  · exact th_full_38 hC hj h3 h4 e hk2 hk
set_option maxRecDepth 100000 in
set_option maxHeartbeats 4000000 in
theorem th_bad1_16 {N : Nat} {xs : Nat → Int32} {c : Bool} {a : Nat → Nat → Int32} {l : Nat → Int64} {f : Nat → Nat → Int32} {n j w : Nat} {U : Nat → Nat} (hC : CT a f n U) (hj : j ≤ n) (h3 : f 1 3 = nI j) (h4 : f 1 4 = nI w) {k : Nat} (e : f 17 6 = nI k) (hk : k < 30) (v1 : nv (uj U n j) (lj U n j) 1000000 = -1) : am_run (wd_ro N xs) 7 59 [.ref 16, .ref 1] (wd c a l f) (some (.int (nI 0))) (wd c a l (tx f (sj U n j) (ej U n j) (nI (w + 1)))) := by
  have g0 : j ≤ n := hj
  refine am_run_of rfl (am_wp_ok (inl := []) 4 6 59 [7] 0 _ _ _ _ ?_)
  refine ⟨_, _, am_run_up (fu_70_16 (by omega) e) (by decide), ?_⟩
  show am_T (wd_ro N xs) 6 59 7 [.ref 16, .ref 1, am_un, am_un, am_un] [.int (nI (decide (30 ≤ k)).toNat)] (wd c a l f) _
  rw [decide_eq_false (show ¬ 30 ≤ k by omega)]
  refine am_wp_ok (inl := []) 2 6 59 [12] _ _ _ _ _ ?_
  refine am_br_t (show nI 0 = 0 from rfl) ?_
  show am_T (wd_ro N xs) 6 59 12 [.ref 16, .ref 1, am_un, am_un, am_un] [] (wd c a l f) _
  refine am_wp_ok (inl := []) 4 6 59 [18] _ _ _ _ _ ?_
  refine ⟨_, _, am_run_up (c_num (b := 1000000) (f := f) (by decide) hC g0 (h3) (h4)) (by decide), ?_⟩
  show am_T (wd_ro N xs) 6 59 18 [.ref 16, .ref 1, am_un, am_un, am_un] [.int (nv (uj U n j) (lj U n j) 1000000)] (wd c a l (tx f (sj U n j) (ej U n j) (nI (w) + 1))) _
  rw [nI_1]
  rw [v1]
  refine am_wp_ok (inl := []) 7 6 59 [] _ _ _ _ _ ?_
  refine am_br_f (show ¬ ¬ (-1 : Int32) = -1 from fun z => z rfl) ?_
  exact And.intro rfl (And.intro rfl rfl)
set_option maxRecDepth 100000 in
set_option maxHeartbeats 4000000 in
theorem th_bad1_38 {N : Nat} {xs : Nat → Int32} {c : Bool} {a : Nat → Nat → Int32} {l : Nat → Int64} {f : Nat → Nat → Int32} {n j w : Nat} {U : Nat → Nat} (hC : CT a f n U) (hj : j ≤ n) (h3 : f 1 3 = nI j) (h4 : f 1 4 = nI w) {k : Nat} (e : f 39 6 = nI k) (hk : k < 30) (v1 : nv (uj U n j) (lj U n j) 1000000 = -1) : am_run (wd_ro N xs) 7 59 [.ref 38, .ref 1] (wd c a l f) (some (.int (nI 0))) (wd c a l (tx f (sj U n j) (ej U n j) (nI (w + 1)))) := by
  have g0 : j ≤ n := hj
  refine am_run_of rfl (am_wp_ok (inl := []) 4 6 59 [7] 0 _ _ _ _ ?_)
  refine ⟨_, _, am_run_up (fu_70_38 (by omega) e) (by decide), ?_⟩
  show am_T (wd_ro N xs) 6 59 7 [.ref 38, .ref 1, am_un, am_un, am_un] [.int (nI (decide (30 ≤ k)).toNat)] (wd c a l f) _
  rw [decide_eq_false (show ¬ 30 ≤ k by omega)]
  refine am_wp_ok (inl := []) 2 6 59 [12] _ _ _ _ _ ?_
  refine am_br_t (show nI 0 = 0 from rfl) ?_
  show am_T (wd_ro N xs) 6 59 12 [.ref 38, .ref 1, am_un, am_un, am_un] [] (wd c a l f) _
  refine am_wp_ok (inl := []) 4 6 59 [18] _ _ _ _ _ ?_
  refine ⟨_, _, am_run_up (c_num (b := 1000000) (f := f) (by decide) hC g0 (h3) (h4)) (by decide), ?_⟩
  show am_T (wd_ro N xs) 6 59 18 [.ref 38, .ref 1, am_un, am_un, am_un] [.int (nv (uj U n j) (lj U n j) 1000000)] (wd c a l (tx f (sj U n j) (ej U n j) (nI (w) + 1))) _
  rw [nI_1]
  rw [v1]
  refine am_wp_ok (inl := []) 7 6 59 [] _ _ _ _ _ ?_
  refine am_br_f (show ¬ ¬ (-1 : Int32) = -1 from fun z => z rfl) ?_
  exact And.intro rfl (And.intro rfl rfl)
theorem th_bad1 (b : Bool) {N : Nat} {xs : Nat → Int32} {c : Bool} {a : Nat → Nat → Int32} {l : Nat → Int64} {f : Nat → Nat → Int32} {n j w : Nat} {U : Nat → Nat} (hC : CT a f n U) (hj : j ≤ n) (h3 : f 1 3 = nI j) (h4 : f 1 4 = nI w) {k : Nat} (e : f (ob b + 1) 6 = nI k) (hk : k < 30) (v1 : nv (uj U n j) (lj U n j) 1000000 = -1) : am_run (wd_ro N xs) 7 59 [.ref (ob b), .ref 1] (wd c a l f) (some (.int (nI 0))) (wd c a l (tx f (sj U n j) (ej U n j) (nI (w + 1)))) := by
  cases b
  · exact th_bad1_16 hC hj h3 h4 e hk v1
  · exact th_bad1_38 hC hj h3 h4 e hk v1
set_option maxRecDepth 100000 in
set_option maxHeartbeats 4000000 in
theorem th_bad2_16 {N : Nat} {xs : Nat → Int32} {c : Bool} {a : Nat → Nat → Int32} {l : Nat → Int64} {f : Nat → Nat → Int32} {n j w : Nat} {U : Nat → Nat} (hC : CT a f n U) (hj : j ≤ n) (h3 : f 1 3 = nI j) (h4 : f 1 4 = nI w) {k : Nat} (e : f 17 6 = nI k) {x : Nat} (hk : k < 30) (hx : x < 1000000) (v1 : nv (uj U n j) (lj U n j) 1000000 = nI x) (v2 : nv (uj U n (ej U n j)) (lj U n (ej U n j)) 10 = -1) : am_run (wd_ro N xs) 7 59 [.ref 16, .ref 1] (wd c a l f) (some (.int (nI 0))) (wd c a l (tx f (sj U n (ej U n j)) (ej U n (ej U n j)) (nI (w + 1 + 1)))) := by
  have g0 : j ≤ n := hj
  have g1 : (ej U n j) ≤ n := (j_le (U := U) g0).2.2
  refine am_run_of rfl (am_wp_ok (inl := []) 4 6 59 [7] 0 _ _ _ _ ?_)
  refine ⟨_, _, am_run_up (fu_70_16 (by omega) e) (by decide), ?_⟩
  show am_T (wd_ro N xs) 6 59 7 [.ref 16, .ref 1, am_un, am_un, am_un] [.int (nI (decide (30 ≤ k)).toNat)] (wd c a l f) _
  rw [decide_eq_false (show ¬ 30 ≤ k by omega)]
  refine am_wp_ok (inl := []) 2 6 59 [12] _ _ _ _ _ ?_
  refine am_br_t (show nI 0 = 0 from rfl) ?_
  show am_T (wd_ro N xs) 6 59 12 [.ref 16, .ref 1, am_un, am_un, am_un] [] (wd c a l f) _
  refine am_wp_ok (inl := []) 4 6 59 [18] _ _ _ _ _ ?_
  refine ⟨_, _, am_run_up (c_num (b := 1000000) (f := f) (by decide) hC g0 (h3) (h4)) (by decide), ?_⟩
  show am_T (wd_ro N xs) 6 59 18 [.ref 16, .ref 1, am_un, am_un, am_un] [.int (nv (uj U n j) (lj U n j) 1000000)] (wd c a l (tx f (sj U n j) (ej U n j) (nI (w) + 1))) _
  rw [nI_1]
  rw [v1]
  refine am_wp_ok (inl := []) 5 6 59 [26] _ _ _ _ _ ?_
  refine am_br_t (nI_n1 (by omega)) ?_
  show am_T (wd_ro N xs) 6 59 26 [.ref 16, .ref 1, .int (nI x), am_un, am_un] [] (wd c a l (tx f (sj U n j) (ej U n j) (nI (w + 1)))) _
  refine am_wp_ok (inl := []) 4 6 59 [32] _ _ _ _ _ ?_
  refine ⟨_, _, am_run_up (c_num (b := 10) (f := (tx f (sj U n j) (ej U n j) (nI (w + 1)))) (by decide) hC g1 (rfl) (rfl)) (by decide), ?_⟩
  show am_T (wd_ro N xs) 6 59 32 [.ref 16, .ref 1, .int (nI x), am_un, am_un] [.int (nv (uj U n (ej U n j)) (lj U n (ej U n j)) 10)] (wd c a l (tx (tx f (sj U n j) (ej U n j) (nI (w + 1))) (sj U n (ej U n j)) (ej U n (ej U n j)) (nI (w + 1) + 1))) _
  rw [tx_tx, nI_1]
  rw [v2]
  refine am_wp_ok (inl := []) 7 6 59 [] _ _ _ _ _ ?_
  refine am_br_f (show ¬ ¬ (-1 : Int32) = -1 from fun z => z rfl) ?_
  exact And.intro rfl (And.intro rfl rfl)
set_option maxRecDepth 100000 in
set_option maxHeartbeats 4000000 in
theorem th_bad2_38 {N : Nat} {xs : Nat → Int32} {c : Bool} {a : Nat → Nat → Int32} {l : Nat → Int64} {f : Nat → Nat → Int32} {n j w : Nat} {U : Nat → Nat} (hC : CT a f n U) (hj : j ≤ n) (h3 : f 1 3 = nI j) (h4 : f 1 4 = nI w) {k : Nat} (e : f 39 6 = nI k) {x : Nat} (hk : k < 30) (hx : x < 1000000) (v1 : nv (uj U n j) (lj U n j) 1000000 = nI x) (v2 : nv (uj U n (ej U n j)) (lj U n (ej U n j)) 10 = -1) : am_run (wd_ro N xs) 7 59 [.ref 38, .ref 1] (wd c a l f) (some (.int (nI 0))) (wd c a l (tx f (sj U n (ej U n j)) (ej U n (ej U n j)) (nI (w + 1 + 1)))) := by
  have g0 : j ≤ n := hj
  have g1 : (ej U n j) ≤ n := (j_le (U := U) g0).2.2
  refine am_run_of rfl (am_wp_ok (inl := []) 4 6 59 [7] 0 _ _ _ _ ?_)
  refine ⟨_, _, am_run_up (fu_70_38 (by omega) e) (by decide), ?_⟩
  show am_T (wd_ro N xs) 6 59 7 [.ref 38, .ref 1, am_un, am_un, am_un] [.int (nI (decide (30 ≤ k)).toNat)] (wd c a l f) _
  rw [decide_eq_false (show ¬ 30 ≤ k by omega)]
  refine am_wp_ok (inl := []) 2 6 59 [12] _ _ _ _ _ ?_
  refine am_br_t (show nI 0 = 0 from rfl) ?_
  show am_T (wd_ro N xs) 6 59 12 [.ref 38, .ref 1, am_un, am_un, am_un] [] (wd c a l f) _
  refine am_wp_ok (inl := []) 4 6 59 [18] _ _ _ _ _ ?_
  refine ⟨_, _, am_run_up (c_num (b := 1000000) (f := f) (by decide) hC g0 (h3) (h4)) (by decide), ?_⟩
  show am_T (wd_ro N xs) 6 59 18 [.ref 38, .ref 1, am_un, am_un, am_un] [.int (nv (uj U n j) (lj U n j) 1000000)] (wd c a l (tx f (sj U n j) (ej U n j) (nI (w) + 1))) _
  rw [nI_1]
  rw [v1]
  refine am_wp_ok (inl := []) 5 6 59 [26] _ _ _ _ _ ?_
  refine am_br_t (nI_n1 (by omega)) ?_
  show am_T (wd_ro N xs) 6 59 26 [.ref 38, .ref 1, .int (nI x), am_un, am_un] [] (wd c a l (tx f (sj U n j) (ej U n j) (nI (w + 1)))) _
  refine am_wp_ok (inl := []) 4 6 59 [32] _ _ _ _ _ ?_
  refine ⟨_, _, am_run_up (c_num (b := 10) (f := (tx f (sj U n j) (ej U n j) (nI (w + 1)))) (by decide) hC g1 (rfl) (rfl)) (by decide), ?_⟩
  show am_T (wd_ro N xs) 6 59 32 [.ref 38, .ref 1, .int (nI x), am_un, am_un] [.int (nv (uj U n (ej U n j)) (lj U n (ej U n j)) 10)] (wd c a l (tx (tx f (sj U n j) (ej U n j) (nI (w + 1))) (sj U n (ej U n j)) (ej U n (ej U n j)) (nI (w + 1) + 1))) _
  rw [tx_tx, nI_1]
  rw [v2]
  refine am_wp_ok (inl := []) 7 6 59 [] _ _ _ _ _ ?_
  refine am_br_f (show ¬ ¬ (-1 : Int32) = -1 from fun z => z rfl) ?_
  exact And.intro rfl (And.intro rfl rfl)
theorem th_bad2 (b : Bool) {N : Nat} {xs : Nat → Int32} {c : Bool} {a : Nat → Nat → Int32} {l : Nat → Int64} {f : Nat → Nat → Int32} {n j w : Nat} {U : Nat → Nat} (hC : CT a f n U) (hj : j ≤ n) (h3 : f 1 3 = nI j) (h4 : f 1 4 = nI w) {k : Nat} (e : f (ob b + 1) 6 = nI k) {x : Nat} (hk : k < 30) (hx : x < 1000000) (v1 : nv (uj U n j) (lj U n j) 1000000 = nI x) (v2 : nv (uj U n (ej U n j)) (lj U n (ej U n j)) 10 = -1) : am_run (wd_ro N xs) 7 59 [.ref (ob b), .ref 1] (wd c a l f) (some (.int (nI 0))) (wd c a l (tx f (sj U n (ej U n j)) (ej U n (ej U n j)) (nI (w + 1 + 1)))) := by
  cases b
  · exact th_bad2_16 hC hj h3 h4 e hk hx v1 v2
  · exact th_bad2_38 hC hj h3 h4 e hk hx v1 v2
set_option maxRecDepth 100000 in
set_option maxHeartbeats 4000000 in
theorem th_go_16 {N : Nat} {xs : Nat → Int32} {c : Bool} {a : Nat → Nat → Int32} {l : Nat → Int64} {f : Nat → Nat → Int32} {n j w : Nat} {U : Nat → Nat} (hC : CT a f n U) (hj : j ≤ n) (h3 : f 1 3 = nI j) (h4 : f 1 4 = nI w) {k : Nat} (e : f 17 6 = nI k) {x : Nat} (hk : k < 30) (hx : x < 1000000) (v1 : nv (uj U n j) (lj U n j) 1000000 = nI x) {y nc : Nat} (hy : y < 10) (v2 : nv (uj U n (ej U n j)) (lj U n (ej U n j)) 10 = nI y) (e7 : f 17 7 = nI nc) {r : Option Value} {hp : am_H} (kq : am_T (wd_ro N xs) 6 59 56 [.ref 16, .ref 1, .int (nI x), .int (nI y), .int (nI 0)] [] (wd c (u2 (u2 (u2 a 18 (upd (a 18) k (nI x))) 19 (upd (a 19) k (nI y))) 20 (upd (a 20) k (nI nc))) l (tx (u3 f 17 6 (nI (k + 1))) (sj U n (ej U n (ej U n j))) (ej U n (ej U n (ej U n j))) (nI (w + 1 + 1 + 1)))) (fun r1 hp1 => r1 = r ∧ hp1 = hp)) : am_run (wd_ro N xs) 7 59 [.ref 16, .ref 1] (wd c a l f) r hp := by
  have g0 : j ≤ n := hj
  have g1 : (ej U n j) ≤ n := (j_le (U := U) g0).2.2
  have g2 : (ej U n (ej U n j)) ≤ n := (j_le (U := U) g1).2.2
  refine am_run_of rfl (am_wp_ok (inl := []) 4 6 59 [7] 0 _ _ _ _ ?_)
  refine ⟨_, _, am_run_up (fu_70_16 (by omega) e) (by decide), ?_⟩
  show am_T (wd_ro N xs) 6 59 7 [.ref 16, .ref 1, am_un, am_un, am_un] [.int (nI (decide (30 ≤ k)).toNat)] (wd c a l f) _
  rw [decide_eq_false (show ¬ 30 ≤ k by omega)]
  refine am_wp_ok (inl := []) 2 6 59 [12] _ _ _ _ _ ?_
  refine am_br_t (show nI 0 = 0 from rfl) ?_
  show am_T (wd_ro N xs) 6 59 12 [.ref 16, .ref 1, am_un, am_un, am_un] [] (wd c a l f) _
  refine am_wp_ok (inl := []) 4 6 59 [18] _ _ _ _ _ ?_
  refine ⟨_, _, am_run_up (c_num (b := 1000000) (f := f) (by decide) hC g0 (h3) (h4)) (by decide), ?_⟩
  show am_T (wd_ro N xs) 6 59 18 [.ref 16, .ref 1, am_un, am_un, am_un] [.int (nv (uj U n j) (lj U n j) 1000000)] (wd c a l (tx f (sj U n j) (ej U n j) (nI (w) + 1))) _
  rw [nI_1]
  rw [v1]
  refine am_wp_ok (inl := []) 5 6 59 [26] _ _ _ _ _ ?_
  refine am_br_t (nI_n1 (by omega)) ?_
  show am_T (wd_ro N xs) 6 59 26 [.ref 16, .ref 1, .int (nI x), am_un, am_un] [] (wd c a l (tx f (sj U n j) (ej U n j) (nI (w + 1)))) _
  refine am_wp_ok (inl := []) 4 6 59 [32] _ _ _ _ _ ?_
  refine ⟨_, _, am_run_up (c_num (b := 10) (f := (tx f (sj U n j) (ej U n j) (nI (w + 1)))) (by decide) hC g1 (rfl) (rfl)) (by decide), ?_⟩
  show am_T (wd_ro N xs) 6 59 32 [.ref 16, .ref 1, .int (nI x), am_un, am_un] [.int (nv (uj U n (ej U n j)) (lj U n (ej U n j)) 10)] (wd c a l (tx (tx f (sj U n j) (ej U n j) (nI (w + 1))) (sj U n (ej U n j)) (ej U n (ej U n j)) (nI (w + 1) + 1))) _
  rw [tx_tx, nI_1]
  rw [v2]
  refine am_wp_ok (inl := []) 5 6 59 [40] _ _ _ _ _ ?_
  refine am_br_t (nI_n1 (by omega)) ?_
  show am_T (wd_ro N xs) 6 59 40 [.ref 16, .ref 1, .int (nI x), .int (nI y), am_un] [] (wd c a l (tx f (sj U n (ej U n j)) (ej U n (ej U n j)) (nI (w + 1 + 1)))) _
  refine am_wp_ok (inl := []) 6 6 59 [49] _ _ _ _ _ ?_
  refine ⟨_, _, am_run_up (ad_br_16 (f := (tx f (sj U n (ej U n j)) (ej U n (ej U n j)) (nI (w + 1 + 1)))) hk e e7) (by decide), ?_⟩
  show am_T (wd_ro N xs) 6 59 49 [.ref 16, .ref 1, .int (nI x), .int (nI y), am_un] [] (wd c (u2 (u2 (u2 a 18 (upd (a 18) k (nI x))) 19 (upd (a 19) k (nI y))) 20 (upd (a 20) k (nI nc))) l (u3 (tx f (sj U n (ej U n j)) (ej U n (ej U n j)) (nI (w + 1 + 1))) 17 6 (nI (k + 1)))) _
  rw [tx_u3 rfl]
  refine am_wp_ok (inl := []) 3 6 59 [53] _ _ _ _ _ ?_
  refine ⟨_, _, am_run_up (c_next (f := (tx (u3 f 17 6 (nI (k + 1))) (sj U n (ej U n j)) (ej U n (ej U n j)) (nI (w + 1 + 1)))) hC g2 (rfl) (rfl)) (by decide), ?_⟩
  show am_T (wd_ro N xs) 6 59 53 [.ref 16, .ref 1, .int (nI x), .int (nI y), am_un] [] (wd c (u2 (u2 (u2 a 18 (upd (a 18) k (nI x))) 19 (upd (a 19) k (nI y))) 20 (upd (a 20) k (nI nc))) l (tx (tx (u3 f 17 6 (nI (k + 1))) (sj U n (ej U n j)) (ej U n (ej U n j)) (nI (w + 1 + 1))) (sj U n (ej U n (ej U n j))) (ej U n (ej U n (ej U n j))) (nI (w + 1 + 1) + 1))) _
  rw [tx_tx, nI_1]
  refine am_wp_ok (inl := []) 3 6 59 [56] _ _ _ _ _ ?_
  exact kq
set_option maxRecDepth 100000 in
set_option maxHeartbeats 4000000 in
theorem th_go_38 {N : Nat} {xs : Nat → Int32} {c : Bool} {a : Nat → Nat → Int32} {l : Nat → Int64} {f : Nat → Nat → Int32} {n j w : Nat} {U : Nat → Nat} (hC : CT a f n U) (hj : j ≤ n) (h3 : f 1 3 = nI j) (h4 : f 1 4 = nI w) {k : Nat} (e : f 39 6 = nI k) {x : Nat} (hk : k < 30) (hx : x < 1000000) (v1 : nv (uj U n j) (lj U n j) 1000000 = nI x) {y nc : Nat} (hy : y < 10) (v2 : nv (uj U n (ej U n j)) (lj U n (ej U n j)) 10 = nI y) (e7 : f 39 7 = nI nc) {r : Option Value} {hp : am_H} (kq : am_T (wd_ro N xs) 6 59 56 [.ref 38, .ref 1, .int (nI x), .int (nI y), .int (nI 0)] [] (wd c (u2 (u2 (u2 a 40 (upd (a 40) k (nI x))) 41 (upd (a 41) k (nI y))) 42 (upd (a 42) k (nI nc))) l (tx (u3 f 39 6 (nI (k + 1))) (sj U n (ej U n (ej U n j))) (ej U n (ej U n (ej U n j))) (nI (w + 1 + 1 + 1)))) (fun r1 hp1 => r1 = r ∧ hp1 = hp)) : am_run (wd_ro N xs) 7 59 [.ref 38, .ref 1] (wd c a l f) r hp := by
  have g0 : j ≤ n := hj
  have g1 : (ej U n j) ≤ n := (j_le (U := U) g0).2.2
  have g2 : (ej U n (ej U n j)) ≤ n := (j_le (U := U) g1).2.2
  refine am_run_of rfl (am_wp_ok (inl := []) 4 6 59 [7] 0 _ _ _ _ ?_)
  refine ⟨_, _, am_run_up (fu_70_38 (by omega) e) (by decide), ?_⟩
  show am_T (wd_ro N xs) 6 59 7 [.ref 38, .ref 1, am_un, am_un, am_un] [.int (nI (decide (30 ≤ k)).toNat)] (wd c a l f) _
  rw [decide_eq_false (show ¬ 30 ≤ k by omega)]
  refine am_wp_ok (inl := []) 2 6 59 [12] _ _ _ _ _ ?_
  refine am_br_t (show nI 0 = 0 from rfl) ?_
  show am_T (wd_ro N xs) 6 59 12 [.ref 38, .ref 1, am_un, am_un, am_un] [] (wd c a l f) _
  refine am_wp_ok (inl := []) 4 6 59 [18] _ _ _ _ _ ?_
  refine ⟨_, _, am_run_up (c_num (b := 1000000) (f := f) (by decide) hC g0 (h3) (h4)) (by decide), ?_⟩
  show am_T (wd_ro N xs) 6 59 18 [.ref 38, .ref 1, am_un, am_un, am_un] [.int (nv (uj U n j) (lj U n j) 1000000)] (wd c a l (tx f (sj U n j) (ej U n j) (nI (w) + 1))) _
  rw [nI_1]
  rw [v1]
  refine am_wp_ok (inl := []) 5 6 59 [26] _ _ _ _ _ ?_
  refine am_br_t (nI_n1 (by omega)) ?_
  show am_T (wd_ro N xs) 6 59 26 [.ref 38, .ref 1, .int (nI x), am_un, am_un] [] (wd c a l (tx f (sj U n j) (ej U n j) (nI (w + 1)))) _
  refine am_wp_ok (inl := []) 4 6 59 [32] _ _ _ _ _ ?_
  refine ⟨_, _, am_run_up (c_num (b := 10) (f := (tx f (sj U n j) (ej U n j) (nI (w + 1)))) (by decide) hC g1 (rfl) (rfl)) (by decide), ?_⟩
  show am_T (wd_ro N xs) 6 59 32 [.ref 38, .ref 1, .int (nI x), am_un, am_un] [.int (nv (uj U n (ej U n j)) (lj U n (ej U n j)) 10)] (wd c a l (tx (tx f (sj U n j) (ej U n j) (nI (w + 1))) (sj U n (ej U n j)) (ej U n (ej U n j)) (nI (w + 1) + 1))) _
  rw [tx_tx, nI_1]
  rw [v2]
  refine am_wp_ok (inl := []) 5 6 59 [40] _ _ _ _ _ ?_
  refine am_br_t (nI_n1 (by omega)) ?_
  show am_T (wd_ro N xs) 6 59 40 [.ref 38, .ref 1, .int (nI x), .int (nI y), am_un] [] (wd c a l (tx f (sj U n (ej U n j)) (ej U n (ej U n j)) (nI (w + 1 + 1)))) _
  refine am_wp_ok (inl := []) 6 6 59 [49] _ _ _ _ _ ?_
  refine ⟨_, _, am_run_up (ad_br_38 (f := (tx f (sj U n (ej U n j)) (ej U n (ej U n j)) (nI (w + 1 + 1)))) hk e e7) (by decide), ?_⟩
  show am_T (wd_ro N xs) 6 59 49 [.ref 38, .ref 1, .int (nI x), .int (nI y), am_un] [] (wd c (u2 (u2 (u2 a 40 (upd (a 40) k (nI x))) 41 (upd (a 41) k (nI y))) 42 (upd (a 42) k (nI nc))) l (u3 (tx f (sj U n (ej U n j)) (ej U n (ej U n j)) (nI (w + 1 + 1))) 39 6 (nI (k + 1)))) _
  rw [tx_u3 rfl]
  refine am_wp_ok (inl := []) 3 6 59 [53] _ _ _ _ _ ?_
  refine ⟨_, _, am_run_up (c_next (f := (tx (u3 f 39 6 (nI (k + 1))) (sj U n (ej U n j)) (ej U n (ej U n j)) (nI (w + 1 + 1)))) hC g2 (rfl) (rfl)) (by decide), ?_⟩
  show am_T (wd_ro N xs) 6 59 53 [.ref 38, .ref 1, .int (nI x), .int (nI y), am_un] [] (wd c (u2 (u2 (u2 a 40 (upd (a 40) k (nI x))) 41 (upd (a 41) k (nI y))) 42 (upd (a 42) k (nI nc))) l (tx (tx (u3 f 39 6 (nI (k + 1))) (sj U n (ej U n j)) (ej U n (ej U n j)) (nI (w + 1 + 1))) (sj U n (ej U n (ej U n j))) (ej U n (ej U n (ej U n j))) (nI (w + 1 + 1) + 1))) _
  rw [tx_tx, nI_1]
  refine am_wp_ok (inl := []) 3 6 59 [56] _ _ _ _ _ ?_
  exact kq
set_option maxRecDepth 100000 in
set_option maxHeartbeats 4000000 in
theorem tl_w_16 {N : Nat} {xs : Nat → Int32} {c : Bool} {a : Nat → Nat → Int32} {l : Nat → Int64} {f : Nat → Nat → Int32} {n j i : Nat} {U : Nat → Nat} {b : Bool} {x2 x3 : Int32} {K : Option Value → am_H → Prop} (hC : CT a f n U) (hj : j ≤ n) (h2 : f 1 2 = nI (sj U n j)) (h3 : f 1 3 = nI (ej U n j)) (hi : i ≤ 60) (hb : sw (uj U n j) (lj U n j) vt_1 4 = b) (kq : am_T (wd_ro N xs) 6 59 (bif b then 72 else 88) [.ref 16, .ref 1, .int x2, .int x3, .int (nI i)] [] (wd c a l f) K) : am_T (wd_ro N xs) 6 59 56 [.ref 16, .ref 1, .int x2, .int x3, .int (nI i)] [] (wd c a l f) K := by
  refine am_wp_ok (inl := []) 4 6 59 [63] _ _ _ _ _ ?_
  refine am_br_f (show ¬ nI 60 < nI i from nI_nlt hi (by decide)) ?_
  show am_T (wd_ro N xs) 6 59 63 [.ref 16, .ref 1, .int x2, .int x3, .int (nI i)] [] (wd c a l f) K
  refine am_wp_ok (inl := []) 4 6 59 [69] _ _ _ _ _ ?_
  refine ⟨_, _, am_run_up (c_says_1 hC hj h2 h3) (by decide), ?_⟩
  show am_T (wd_ro N xs) 6 59 69 [.ref 16, .ref 1, .int x2, .int x3, .int (nI i)] [.int (nI (sw (uj U n j) (lj U n j) vt_1 4).toNat)] (wd c a l f) K
  rw [hb]
  cases b with
  | true =>
    refine am_wp_ok (inl := []) 2 6 59 [72] _ _ _ _ _ ?_
    exact am_br_f (show ¬ nI 1 = 0 by decide) kq
  | false =>
    refine am_wp_ok (inl := []) 2 6 59 [88] _ _ _ _ _ ?_
    exact am_br_t (show nI 0 = 0 from rfl) kq
set_option maxRecDepth 100000 in
set_option maxHeartbeats 4000000 in
theorem tl_no_16 {N : Nat} {xs : Nat → Int32} {c : Bool} {a : Nat → Nat → Int32} {l : Nat → Int64} {f : Nat → Nat → Int32} {n j i : Nat} {U : Nat → Nat} {x2 x3 : Int32} {K : Option Value → am_H → Prop} (hC : CT a f n U) (hj : j ≤ n) (h2 : f 1 2 = nI (sj U n j)) (h3 : f 1 3 = nI (ej U n j)) (hi : i ≤ 60) (hb : sw (uj U n j) (lj U n j) vt_1 4 = false) (kq : K (some (.int (nI 1))) (wd c a l f)) : am_T (wd_ro N xs) 6 59 56 [.ref 16, .ref 1, .int x2, .int x3, .int (nI i)] [] (wd c a l f) K := by
  refine tl_w_16 hC hj h2 h3 hi hb ?_
  show am_T (wd_ro N xs) 6 59 88 [.ref 16, .ref 1, .int x2, .int x3, .int (nI i)] [] (wd c a l f) K
  refine am_wp_ok (inl := []) 3 6 59 [] _ _ _ _ _ ?_
  exact And.intro rfl kq
set_option maxRecDepth 100000 in
set_option maxHeartbeats 4000000 in
theorem tl_bad_16 {N : Nat} {xs : Nat → Int32} {c : Bool} {a : Nat → Nat → Int32} {l : Nat → Int64} {f : Nat → Nat → Int32} {n j i : Nat} {U : Nat → Nat} {x2 x3 : Int32} {hp : am_H} {K : Option Value → am_H → Prop} (hC : CT a f n U) (hj : j ≤ n) (h2 : f 1 2 = nI (sj U n j)) (h3 : f 1 3 = nI (ej U n j)) (hi : i ≤ 60) (hb : sw (uj U n j) (lj U n j) vt_1 4 = true) (h : am_run (wd_ro N xs) 6 60 [.ref 16, .ref 1] (wd c a l f) (some (.int (nI 0))) hp) (kq : K (some (.int (nI 0))) hp) : am_T (wd_ro N xs) 6 59 56 [.ref 16, .ref 1, .int x2, .int x3, .int (nI i)] [] (wd c a l f) K := by
  refine tl_w_16 hC hj h2 h3 hi hb ?_
  show am_T (wd_ro N xs) 6 59 72 [.ref 16, .ref 1, .int x2, .int x3, .int (nI i)] [] (wd c a l f) K
  refine am_wp_ok (inl := []) 4 6 59 [77] _ _ _ _ _ ?_
  refine ⟨_, _, h, ?_⟩
  show am_T (wd_ro N xs) 6 59 77 [.ref 16, .ref 1, .int x2, .int x3, .int (nI i)] [.int (nI 0)] hp K
  refine am_wp_ok (inl := []) 4 6 59 [] _ _ _ _ _ ?_
  refine am_br_f (show ¬ ¬ nI 0 = 0 from fun z => z rfl) ?_
  exact And.intro rfl kq
set_option maxRecDepth 100000 in
set_option maxHeartbeats 4000000 in
theorem tl_go_16 {N : Nat} {xs : Nat → Int32} {c : Bool} {a : Nat → Nat → Int32} {l : Nat → Int64} {f : Nat → Nat → Int32} {n j i : Nat} {U : Nat → Nat} {x2 x3 : Int32} {hp : am_H} {K : Option Value → am_H → Prop} (hC : CT a f n U) (hj : j ≤ n) (h2 : f 1 2 = nI (sj U n j)) (h3 : f 1 3 = nI (ej U n j)) (hi : i ≤ 60) (hb : sw (uj U n j) (lj U n j) vt_1 4 = true) (h : am_run (wd_ro N xs) 6 60 [.ref 16, .ref 1] (wd c a l f) (some (.int (nI 1))) hp) (kq : am_T (wd_ro N xs) 6 59 56 [.ref 16, .ref 1, .int x2, .int x3, .int (nI (i + 1))] [] hp K) : am_T (wd_ro N xs) 6 59 56 [.ref 16, .ref 1, .int x2, .int x3, .int (nI i)] [] (wd c a l f) K := by
  refine tl_w_16 hC hj h2 h3 hi hb ?_
  show am_T (wd_ro N xs) 6 59 72 [.ref 16, .ref 1, .int x2, .int x3, .int (nI i)] [] (wd c a l f) K
  refine am_wp_ok (inl := []) 4 6 59 [77] _ _ _ _ _ ?_
  refine ⟨_, _, h, ?_⟩
  show am_T (wd_ro N xs) 6 59 77 [.ref 16, .ref 1, .int x2, .int x3, .int (nI i)] [.int (nI 1)] hp K
  refine am_wp_ok (inl := []) 4 6 59 [56] _ _ _ _ _ ?_
  refine am_br_t (show ¬ nI 1 = 0 by decide) ?_
  show am_T (wd_ro N xs) 6 59 56 [.ref 16, .ref 1, .int x2, .int x3, .int (nI i + 1)] [] hp K
  rw [nI_1]
  exact kq
set_option maxRecDepth 100000 in
set_option maxHeartbeats 4000000 in
theorem tl_w_38 {N : Nat} {xs : Nat → Int32} {c : Bool} {a : Nat → Nat → Int32} {l : Nat → Int64} {f : Nat → Nat → Int32} {n j i : Nat} {U : Nat → Nat} {b : Bool} {x2 x3 : Int32} {K : Option Value → am_H → Prop} (hC : CT a f n U) (hj : j ≤ n) (h2 : f 1 2 = nI (sj U n j)) (h3 : f 1 3 = nI (ej U n j)) (hi : i ≤ 60) (hb : sw (uj U n j) (lj U n j) vt_1 4 = b) (kq : am_T (wd_ro N xs) 6 59 (bif b then 72 else 88) [.ref 38, .ref 1, .int x2, .int x3, .int (nI i)] [] (wd c a l f) K) : am_T (wd_ro N xs) 6 59 56 [.ref 38, .ref 1, .int x2, .int x3, .int (nI i)] [] (wd c a l f) K := by
  refine am_wp_ok (inl := []) 4 6 59 [63] _ _ _ _ _ ?_
  refine am_br_f (show ¬ nI 60 < nI i from nI_nlt hi (by decide)) ?_
  show am_T (wd_ro N xs) 6 59 63 [.ref 38, .ref 1, .int x2, .int x3, .int (nI i)] [] (wd c a l f) K
  refine am_wp_ok (inl := []) 4 6 59 [69] _ _ _ _ _ ?_
  refine ⟨_, _, am_run_up (c_says_1 hC hj h2 h3) (by decide), ?_⟩
  show am_T (wd_ro N xs) 6 59 69 [.ref 38, .ref 1, .int x2, .int x3, .int (nI i)] [.int (nI (sw (uj U n j) (lj U n j) vt_1 4).toNat)] (wd c a l f) K
  rw [hb]
  cases b with
  | true =>
    refine am_wp_ok (inl := []) 2 6 59 [72] _ _ _ _ _ ?_
    exact am_br_f (show ¬ nI 1 = 0 by decide) kq
  | false =>
    refine am_wp_ok (inl := []) 2 6 59 [88] _ _ _ _ _ ?_
    exact am_br_t (show nI 0 = 0 from rfl) kq
set_option maxRecDepth 100000 in
set_option maxHeartbeats 4000000 in
theorem tl_no_38 {N : Nat} {xs : Nat → Int32} {c : Bool} {a : Nat → Nat → Int32} {l : Nat → Int64} {f : Nat → Nat → Int32} {n j i : Nat} {U : Nat → Nat} {x2 x3 : Int32} {K : Option Value → am_H → Prop} (hC : CT a f n U) (hj : j ≤ n) (h2 : f 1 2 = nI (sj U n j)) (h3 : f 1 3 = nI (ej U n j)) (hi : i ≤ 60) (hb : sw (uj U n j) (lj U n j) vt_1 4 = false) (kq : K (some (.int (nI 1))) (wd c a l f)) : am_T (wd_ro N xs) 6 59 56 [.ref 38, .ref 1, .int x2, .int x3, .int (nI i)] [] (wd c a l f) K := by
  refine tl_w_38 hC hj h2 h3 hi hb ?_
  show am_T (wd_ro N xs) 6 59 88 [.ref 38, .ref 1, .int x2, .int x3, .int (nI i)] [] (wd c a l f) K
  refine am_wp_ok (inl := []) 3 6 59 [] _ _ _ _ _ ?_
  exact And.intro rfl kq
set_option maxRecDepth 100000 in
set_option maxHeartbeats 4000000 in
theorem tl_bad_38 {N : Nat} {xs : Nat → Int32} {c : Bool} {a : Nat → Nat → Int32} {l : Nat → Int64} {f : Nat → Nat → Int32} {n j i : Nat} {U : Nat → Nat} {x2 x3 : Int32} {hp : am_H} {K : Option Value → am_H → Prop} (hC : CT a f n U) (hj : j ≤ n) (h2 : f 1 2 = nI (sj U n j)) (h3 : f 1 3 = nI (ej U n j)) (hi : i ≤ 60) (hb : sw (uj U n j) (lj U n j) vt_1 4 = true) (h : am_run (wd_ro N xs) 6 60 [.ref 38, .ref 1] (wd c a l f) (some (.int (nI 0))) hp) (kq : K (some (.int (nI 0))) hp) : am_T (wd_ro N xs) 6 59 56 [.ref 38, .ref 1, .int x2, .int x3, .int (nI i)] [] (wd c a l f) K := by
  refine tl_w_38 hC hj h2 h3 hi hb ?_
  show am_T (wd_ro N xs) 6 59 72 [.ref 38, .ref 1, .int x2, .int x3, .int (nI i)] [] (wd c a l f) K
  refine am_wp_ok (inl := []) 4 6 59 [77] _ _ _ _ _ ?_
  refine ⟨_, _, h, ?_⟩
  show am_T (wd_ro N xs) 6 59 77 [.ref 38, .ref 1, .int x2, .int x3, .int (nI i)] [.int (nI 0)] hp K
  refine am_wp_ok (inl := []) 4 6 59 [] _ _ _ _ _ ?_
  refine am_br_f (show ¬ ¬ nI 0 = 0 from fun z => z rfl) ?_
  exact And.intro rfl kq
set_option maxRecDepth 100000 in
set_option maxHeartbeats 4000000 in
theorem tl_go_38 {N : Nat} {xs : Nat → Int32} {c : Bool} {a : Nat → Nat → Int32} {l : Nat → Int64} {f : Nat → Nat → Int32} {n j i : Nat} {U : Nat → Nat} {x2 x3 : Int32} {hp : am_H} {K : Option Value → am_H → Prop} (hC : CT a f n U) (hj : j ≤ n) (h2 : f 1 2 = nI (sj U n j)) (h3 : f 1 3 = nI (ej U n j)) (hi : i ≤ 60) (hb : sw (uj U n j) (lj U n j) vt_1 4 = true) (h : am_run (wd_ro N xs) 6 60 [.ref 38, .ref 1] (wd c a l f) (some (.int (nI 1))) hp) (kq : am_T (wd_ro N xs) 6 59 56 [.ref 38, .ref 1, .int x2, .int x3, .int (nI (i + 1))] [] hp K) : am_T (wd_ro N xs) 6 59 56 [.ref 38, .ref 1, .int x2, .int x3, .int (nI i)] [] (wd c a l f) K := by
  refine tl_w_38 hC hj h2 h3 hi hb ?_
  show am_T (wd_ro N xs) 6 59 72 [.ref 38, .ref 1, .int x2, .int x3, .int (nI i)] [] (wd c a l f) K
  refine am_wp_ok (inl := []) 4 6 59 [77] _ _ _ _ _ ?_
  refine ⟨_, _, h, ?_⟩
  show am_T (wd_ro N xs) 6 59 77 [.ref 38, .ref 1, .int x2, .int x3, .int (nI i)] [.int (nI 1)] hp K
  refine am_wp_ok (inl := []) 4 6 59 [56] _ _ _ _ _ ?_
  refine am_br_t (show ¬ nI 1 = 0 by decide) ?_
  show am_T (wd_ro N xs) 6 59 56 [.ref 38, .ref 1, .int x2, .int x3, .int (nI i + 1)] [] hp K
  rw [nI_1]
  exact kq
