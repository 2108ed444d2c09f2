/-! TELL: the class's loop over sentences against the reference's over words -/
set_option maxRecDepth 100000 in
set_option maxHeartbeats 4000000 in
theorem sp_over {ro : Nat → Option am_C} {c : Bool} {a : Nat → Nat → Int32} {l : Nat → Int64} {f : Nat → Nat → Int32} {n s : Nat} (hn : n ≤ 900) (hs : s ≤ 900) (h1 : f 1 1 = nI n) (h2 : f 1 2 = nI s) : am_run ro 1 28 [.ref 1] (wd c a l f) (some (.int (nI (decide (n ≤ s)).toNat))) (wd c a l f) := by
  refine am_run_of rfl (am_wp_ok (inl := []) 10 0 28 [] 0 _ _ _ _ ?_)
  by_cases h : s < n
  · refine am_br_t (show f 1 2 < f 1 1 by rw [h1, h2]; exact nI_lt h (by omega)) ?_
    rw [decide_eq_false (show ¬ n ≤ s by omega)]
    exact And.intro rfl (And.intro rfl rfl)
  · refine am_br_f (show ¬ f 1 2 < f 1 1 by rw [h1, h2]; exact nI_nlt (by omega) (by omega)) ?_
    rw [decide_eq_true (show n ≤ s by omega)]
    exact And.intro rfl (And.intro rfl rfl)
theorem sp_wn {ro : Nat → Option am_C} {c : Bool} {a : Nat → Nat → Int32} {l : Nat → Int64} {f : Nat → Nat → Int32} : am_run ro 1 34 [.ref 1] (wd c a l f) (some (.int (f 1 4))) (wd c a l f) := by
  refine am_run_of rfl (am_wp_ok (inl := []) 4 0 34 [] 0 _ _ _ _ ?_)
  exact And.intro rfl rfl
set_option maxRecDepth 100000 in
set_option maxHeartbeats 4000000 in
theorem fo_b_16 {ro : Nat → Option am_C} {c : Bool} {a : Nat → Nat → Int32} {l : Nat → Int64} {f : Nat → Nat → Int32} : am_run ro 1 69 [.ref 17] (wd c a l f) none (wd c a l (u3 (u3 f 17 6 0) 17 7 0)) := by
  refine am_run_of rfl (am_wp_ok (inl := []) 4 0 69 [5] 0 _ _ _ _ ?_)
  show am_T ro 0 69 5 [.ref 17] [] ((wd c a l f).set 17 (.inr (7, [.ref 18, .ref 19, .ref 20, .ref 21, .ref 22, .ref 23, .int (f 17 6), .int (f 17 7)].set 6 (.int 0)))) _
  rw [wf_17_6]
  generalize u3 f 17 6 0 = F
  refine am_wp_ok (inl := []) 4 0 69 [10] _ _ _ _ _ ?_
  show am_T ro 0 69 10 [.ref 17] [] ((wd c a l F).set 17 (.inr (7, [.ref 18, .ref 19, .ref 20, .ref 21, .ref 22, .ref 23, .int (F 17 6), .int (F 17 7)].set 7 (.int 0)))) _
  rw [wf_17_7]
  refine am_wp_ok (inl := []) 2 0 69 [] _ _ _ _ _ ?_
  exact And.intro rfl rfl
set_option maxRecDepth 100000 in
set_option maxHeartbeats 4000000 in
theorem fo_c_16 {ro : Nat → Option am_C} {c : Bool} {a : Nat → Nat → Int32} {l : Nat → Int64} {f : Nat → Nat → Int32} : am_run ro 1 80 [.ref 24] (wd c a l f) none (wd c a l (u3 (u3 (u3 f 24 7 0) 24 8 0) 24 9 0)) := by
  refine am_run_of rfl (am_wp_ok (inl := []) 4 0 80 [5] 0 _ _ _ _ ?_)
  show am_T ro 0 80 5 [.ref 24] [] ((wd c a l f).set 24 (.inr (8, [.ref 25, .ref 26, .ref 27, .ref 28, .ref 29, .ref 30, .ref 31, .int (f 24 7), .int (f 24 8), .int (f 24 9)].set 7 (.int 0)))) _
  rw [wf_24_7]
  generalize u3 f 24 7 0 = F
  refine am_wp_ok (inl := []) 4 0 80 [10] _ _ _ _ _ ?_
  show am_T ro 0 80 10 [.ref 24] [] ((wd c a l F).set 24 (.inr (8, [.ref 25, .ref 26, .ref 27, .ref 28, .ref 29, .ref 30, .ref 31, .int (F 24 7), .int (F 24 8), .int (F 24 9)].set 8 (.int 0)))) _
  rw [wf_24_8]
  generalize u3 F 24 8 0 = F
  refine am_wp_ok (inl := []) 4 0 80 [15] _ _ _ _ _ ?_
  show am_T ro 0 80 15 [.ref 24] [] ((wd c a l F).set 24 (.inr (8, [.ref 25, .ref 26, .ref 27, .ref 28, .ref 29, .ref 30, .ref 31, .int (F 24 7), .int (F 24 8), .int (F 24 9)].set 9 (.int 0)))) _
  rw [wf_24_9]
  refine am_wp_ok (inl := []) 2 0 80 [] _ _ _ _ _ ?_
  exact And.intro rfl rfl
set_option maxRecDepth 100000 in
set_option maxHeartbeats 4000000 in
theorem fo_n_16 {ro : Nat → Option am_C} {c : Bool} {a : Nat → Nat → Int32} {l : Nat → Int64} {f : Nat → Nat → Int32} : am_run ro 1 92 [.ref 32] (wd c a l f) none (wd c a l (u3 f 32 5 0)) := by
  refine am_run_of rfl (am_wp_ok (inl := []) 4 0 92 [5] 0 _ _ _ _ ?_)
  show am_T ro 0 92 5 [.ref 32] [] ((wd c a l f).set 32 (.inr (9, [.ref 33, .ref 34, .ref 35, .ref 36, .ref 37, .int (f 32 5)].set 5 (.int 0)))) _
  rw [wf_32_5]
  refine am_wp_ok (inl := []) 2 0 92 [] _ _ _ _ _ ?_
  exact And.intro rfl rfl
set_option maxRecDepth 100000 in
set_option maxHeartbeats 4000000 in
theorem fo_b_38 {ro : Nat → Option am_C} {c : Bool} {a : Nat → Nat → Int32} {l : Nat → Int64} {f : Nat → Nat → Int32} : am_run ro 1 69 [.ref 39] (wd c a l f) none (wd c a l (u3 (u3 f 39 6 0) 39 7 0)) := by
  refine am_run_of rfl (am_wp_ok (inl := []) 4 0 69 [5] 0 _ _ _ _ ?_)
  show am_T ro 0 69 5 [.ref 39] [] ((wd c a l f).set 39 (.inr (7, [.ref 40, .ref 41, .ref 42, .ref 43, .ref 44, .ref 45, .int (f 39 6), .int (f 39 7)].set 6 (.int 0)))) _
  rw [wf_39_6]
  generalize u3 f 39 6 0 = F
  refine am_wp_ok (inl := []) 4 0 69 [10] _ _ _ _ _ ?_
  show am_T ro 0 69 10 [.ref 39] [] ((wd c a l F).set 39 (.inr (7, [.ref 40, .ref 41, .ref 42, .ref 43, .ref 44, .ref 45, .int (F 39 6), .int (F 39 7)].set 7 (.int 0)))) _
  rw [wf_39_7]
  refine am_wp_ok (inl := []) 2 0 69 [] _ _ _ _ _ ?_
  exact And.intro rfl rfl
set_option maxRecDepth 100000 in
set_option maxHeartbeats 4000000 in
theorem fo_c_38 {ro : Nat → Option am_C} {c : Bool} {a : Nat → Nat → Int32} {l : Nat → Int64} {f : Nat → Nat → Int32} : am_run ro 1 80 [.ref 46] (wd c a l f) none (wd c a l (u3 (u3 (u3 f 46 7 0) 46 8 0) 46 9 0)) := by
  refine am_run_of rfl (am_wp_ok (inl := []) 4 0 80 [5] 0 _ _ _ _ ?_)
  show am_T ro 0 80 5 [.ref 46] [] ((wd c a l f).set 46 (.inr (8, [.ref 47, .ref 48, .ref 49, .ref 50, .ref 51, .ref 52, .ref 53, .int (f 46 7), .int (f 46 8), .int (f 46 9)].set 7 (.int 0)))) _
  rw [wf_46_7]
  generalize u3 f 46 7 0 = F
  refine am_wp_ok (inl := []) 4 0 80 [10] _ _ _ _ _ ?_
  show am_T ro 0 80 10 [.ref 46] [] ((wd c a l F).set 46 (.inr (8, [.ref 47, .ref 48, .ref 49, .ref 50, .ref 51, .ref 52, .ref 53, .int (F 46 7), .int (F 46 8), .int (F 46 9)].set 8 (.int 0)))) _
  rw [wf_46_8]
  generalize u3 F 46 8 0 = F
  refine am_wp_ok (inl := []) 4 0 80 [15] _ _ _ _ _ ?_
  show am_T ro 0 80 15 [.ref 46] [] ((wd c a l F).set 46 (.inr (8, [.ref 47, .ref 48, .ref 49, .ref 50, .ref 51, .ref 52, .ref 53, .int (F 46 7), .int (F 46 8), .int (F 46 9)].set 9 (.int 0)))) _
  rw [wf_46_9]
  refine am_wp_ok (inl := []) 2 0 80 [] _ _ _ _ _ ?_
  exact And.intro rfl rfl
set_option maxRecDepth 100000 in
set_option maxHeartbeats 4000000 in
theorem fo_n_38 {ro : Nat → Option am_C} {c : Bool} {a : Nat → Nat → Int32} {l : Nat → Int64} {f : Nat → Nat → Int32} : am_run ro 1 92 [.ref 54] (wd c a l f) none (wd c a l (u3 f 54 5 0)) := by
  refine am_run_of rfl (am_wp_ok (inl := []) 4 0 92 [5] 0 _ _ _ _ ?_)
  show am_T ro 0 92 5 [.ref 54] [] ((wd c a l f).set 54 (.inr (9, [.ref 55, .ref 56, .ref 57, .ref 58, .ref 59, .int (f 54 5)].set 5 (.int 0)))) _
  rw [wf_54_5]
  refine am_wp_ok (inl := []) 2 0 92 [] _ _ _ _ _ ?_
  exact And.intro rfl rfl
set_option maxRecDepth 100000 in
set_option maxHeartbeats 4000000 in
theorem te_head_16 {N : Nat} {xs : Nat → Int32} {c : Bool} {a : Nat → Nat → Int32} {l : Nat → Int64} {f : Nat → Nat → Int32} {n : Nat} {U : Nat → Nat} {r : Option Value} {hp : am_H} (hC : CT a f n U) (kq : am_T (wd_ro N xs) 8 57 27 [.ref 16, .ref 1, .int (nI 0)] [] (wd c a l (tx (u3 (u3 (u3 (u3 (u3 (u3 f 17 6 0) 17 7 0) 24 7 0) 24 8 0) 24 9 0) 32 5 0) (sj U n 0) (ej U n 0) (nI 0))) (fun r1 hp1 => r1 = r ∧ hp1 = hp)) : am_run (wd_ro N xs) 9 57 [.ref 16, .ref 1] (wd c a l f) r hp := by
  refine am_run_of rfl (am_wp_ok (inl := []) 4 8 57 [7] 0 _ _ _ _ ?_)
  refine ⟨_, _, am_run_up fo_b_16 (by decide), ?_⟩
  refine am_wp_ok (inl := []) 4 8 57 [14] _ _ _ _ _ ?_
  refine ⟨_, _, am_run_up fo_c_16 (by decide), ?_⟩
  refine am_wp_ok (inl := []) 4 8 57 [21] _ _ _ _ _ ?_
  refine ⟨_, _, am_run_up fo_n_16 (by decide), ?_⟩
  show am_T (wd_ro N xs) 8 57 21 [.ref 16, .ref 1, am_un] [] (wd c a l (u3 (u3 (u3 (u3 (u3 (u3 f 17 6 0) 17 7 0) 24 7 0) 24 8 0) 24 9 0) 32 5 0)) _
  refine am_wp_ok (inl := []) 3 8 57 [25] _ _ _ _ _ ?_
  refine ⟨_, _, am_run_up (c_first (f := (u3 (u3 (u3 (u3 (u3 (u3 f 17 6 0) 17 7 0) 24 7 0) 24 8 0) 24 9 0) 32 5 0)) hC) (by decide), ?_⟩
  show am_T (wd_ro N xs) 8 57 25 [.ref 16, .ref 1, am_un] [] (wd c a l (tx (u3 (u3 (u3 (u3 (u3 (u3 f 17 6 0) 17 7 0) 24 7 0) 24 8 0) 24 9 0) 32 5 0) (sj U n 0) (ej U n 0) 0)) _
  refine am_wp_ok (inl := []) 3 8 57 [27] _ _ _ _ _ ?_
  exact kq
set_option maxRecDepth 100000 in
set_option maxHeartbeats 4000000 in
theorem te_head_38 {N : Nat} {xs : Nat → Int32} {c : Bool} {a : Nat → Nat → Int32} {l : Nat → Int64} {f : Nat → Nat → Int32} {n : Nat} {U : Nat → Nat} {r : Option Value} {hp : am_H} (hC : CT a f n U) (kq : am_T (wd_ro N xs) 8 57 27 [.ref 38, .ref 1, .int (nI 0)] [] (wd c a l (tx (u3 (u3 (u3 (u3 (u3 (u3 f 39 6 0) 39 7 0) 46 7 0) 46 8 0) 46 9 0) 54 5 0) (sj U n 0) (ej U n 0) (nI 0))) (fun r1 hp1 => r1 = r ∧ hp1 = hp)) : am_run (wd_ro N xs) 9 57 [.ref 38, .ref 1] (wd c a l f) r hp := by
  refine am_run_of rfl (am_wp_ok (inl := []) 4 8 57 [7] 0 _ _ _ _ ?_)
  refine ⟨_, _, am_run_up fo_b_38 (by decide), ?_⟩
  refine am_wp_ok (inl := []) 4 8 57 [14] _ _ _ _ _ ?_
  refine ⟨_, _, am_run_up fo_c_38 (by decide), ?_⟩
  refine am_wp_ok (inl := []) 4 8 57 [21] _ _ _ _ _ ?_
  refine ⟨_, _, am_run_up fo_n_38 (by decide), ?_⟩
  show am_T (wd_ro N xs) 8 57 21 [.ref 38, .ref 1, am_un] [] (wd c a l (u3 (u3 (u3 (u3 (u3 (u3 f 39 6 0) 39 7 0) 46 7 0) 46 8 0) 46 9 0) 54 5 0)) _
  refine am_wp_ok (inl := []) 3 8 57 [25] _ _ _ _ _ ?_
  refine ⟨_, _, am_run_up (c_first (f := (u3 (u3 (u3 (u3 (u3 (u3 f 39 6 0) 39 7 0) 46 7 0) 46 8 0) 46 9 0) 54 5 0)) hC) (by decide), ?_⟩
  show am_T (wd_ro N xs) 8 57 25 [.ref 38, .ref 1, am_un] [] (wd c a l (tx (u3 (u3 (u3 (u3 (u3 (u3 f 39 6 0) 39 7 0) 46 7 0) 46 8 0) 46 9 0) 54 5 0) (sj U n 0) (ej U n 0) 0)) _
  refine am_wp_ok (inl := []) 3 8 57 [27] _ _ _ _ _ ?_
  exact kq
theorem te_head (b : Bool) {N : Nat} {xs : Nat → Int32} {c : Bool} {a : Nat → Nat → Int32} {l : Nat → Int64} {f : Nat → Nat → Int32} {n : Nat} {U : Nat → Nat} {r : Option Value} {hp : am_H} (hC : CT a f n U) (kq : am_T (wd_ro N xs) 8 57 27 [.ref (ob b), .ref 1, .int (nI 0)] [] (wd c a l (tx (u3 (u3 (u3 (u3 (u3 (u3 f (ob b + 1) 6 0) (ob b + 1) 7 0) (ob b + 8) 7 0) (ob b + 8) 8 0) (ob b + 8) 9 0) (ob b + 16) 5 0) (sj U n 0) (ej U n 0) (nI 0))) (fun r1 hp1 => r1 = r ∧ hp1 = hp)) : am_run (wd_ro N xs) 9 57 [.ref (ob b), .ref 1] (wd c a l f) r hp := by
  cases b
  · exact te_head_16 hC kq
  · exact te_head_38 hC kq
set_option maxRecDepth 100000 in
set_option maxHeartbeats 4000000 in
theorem te_over_16 {N : Nat} {xs : Nat → Int32} {c : Bool} {a : Nat → Nat → Int32} {l : Nat → Int64} {f : Nat → Nat → Int32} {n s told : Nat} {K : Option Value → am_H → Prop} (hn : n ≤ 900) (hs9 : s ≤ 900) (ht : told < 2 ^ 31) (h1 : f 1 1 = nI n) (h2 : f 1 2 = nI s) (hs : n ≤ s) (kq : K (some (.int (nI told))) (wd c a l f)) : am_T (wd_ro N xs) 8 57 27 [.ref 16, .ref 1, .int (nI told)] [] (wd c a l f) K := by
  have fin : am_T (wd_ro N xs) 8 57 62 [.ref 16, .ref 1, .int (nI told)] [] (wd c a l f) K := by
    refine am_wp_ok (inl := []) 3 8 57 [] _ _ _ _ _ ?_
    exact kq
  refine am_wp_ok (inl := []) 4 8 57 [34, 62] _ _ _ _ _ ?_
  by_cases h : told < 900
  · refine am_br_f (show ¬ nI 900 ≤ nI told from nI_ge h (by decide)) ?_
    show am_T (wd_ro N xs) 8 57 34 [.ref 16, .ref 1, .int (nI told)] [] (wd c a l f) K
    refine am_wp_ok (inl := []) 3 8 57 [38] _ _ _ _ _ ?_
    refine ⟨_, _, am_run_up (sp_over hn hs9 h1 h2) (by decide), ?_⟩
    show am_T (wd_ro N xs) 8 57 38 [.ref 16, .ref 1, .int (nI told)] [.int (nI (decide (n ≤ s)).toNat)] (wd c a l f) K
    rw [decide_eq_true hs]
    refine am_wp_ok (inl := []) 2 8 57 [62] _ _ _ _ _ ?_
    exact am_br_t (show ¬ nI 1 = 0 by decide) fin
  · exact am_br_t (show nI 900 ≤ nI told from nI_le (by omega) ht) fin
set_option maxRecDepth 100000 in
set_option maxHeartbeats 4000000 in
theorem te_over_38 {N : Nat} {xs : Nat → Int32} {c : Bool} {a : Nat → Nat → Int32} {l : Nat → Int64} {f : Nat → Nat → Int32} {n s told : Nat} {K : Option Value → am_H → Prop} (hn : n ≤ 900) (hs9 : s ≤ 900) (ht : told < 2 ^ 31) (h1 : f 1 1 = nI n) (h2 : f 1 2 = nI s) (hs : n ≤ s) (kq : K (some (.int (nI told))) (wd c a l f)) : am_T (wd_ro N xs) 8 57 27 [.ref 38, .ref 1, .int (nI told)] [] (wd c a l f) K := by
  have fin : am_T (wd_ro N xs) 8 57 62 [.ref 38, .ref 1, .int (nI told)] [] (wd c a l f) K := by
    refine am_wp_ok (inl := []) 3 8 57 [] _ _ _ _ _ ?_
    exact kq
  refine am_wp_ok (inl := []) 4 8 57 [34, 62] _ _ _ _ _ ?_
  by_cases h : told < 900
  · refine am_br_f (show ¬ nI 900 ≤ nI told from nI_ge h (by decide)) ?_
    show am_T (wd_ro N xs) 8 57 34 [.ref 38, .ref 1, .int (nI told)] [] (wd c a l f) K
    refine am_wp_ok (inl := []) 3 8 57 [38] _ _ _ _ _ ?_
    refine ⟨_, _, am_run_up (sp_over hn hs9 h1 h2) (by decide), ?_⟩
    show am_T (wd_ro N xs) 8 57 38 [.ref 38, .ref 1, .int (nI told)] [.int (nI (decide (n ≤ s)).toNat)] (wd c a l f) K
    rw [decide_eq_true hs]
    refine am_wp_ok (inl := []) 2 8 57 [62] _ _ _ _ _ ?_
    exact am_br_t (show ¬ nI 1 = 0 by decide) fin
  · exact am_br_t (show nI 900 ≤ nI told from nI_le (by omega) ht) fin
theorem te_over (b : Bool) {N : Nat} {xs : Nat → Int32} {c : Bool} {a : Nat → Nat → Int32} {l : Nat → Int64} {f : Nat → Nat → Int32} {n s told : Nat} {K : Option Value → am_H → Prop} (hn : n ≤ 900) (hs9 : s ≤ 900) (ht : told < 2 ^ 31) (h1 : f 1 1 = nI n) (h2 : f 1 2 = nI s) (hs : n ≤ s) (kq : K (some (.int (nI told))) (wd c a l f)) : am_T (wd_ro N xs) 8 57 27 [.ref (ob b), .ref 1, .int (nI told)] [] (wd c a l f) K := by
  cases b
  · exact te_over_16 hn hs9 ht h1 h2 hs kq
  · exact te_over_38 hn hs9 ht h1 h2 hs kq
set_option maxRecDepth 100000 in
set_option maxHeartbeats 4000000 in
theorem te_41_16 {N : Nat} {xs : Nat → Int32} {c : Bool} {a : Nat → Nat → Int32} {l : Nat → Int64} {f : Nat → Nat → Int32} {n s told : Nat} {K : Option Value → am_H → Prop} (hn : n ≤ 900) (ht : told < 900) (h1 : f 1 1 = nI n) (h2 : f 1 2 = nI s) (hs : s < n) (kq : am_T (wd_ro N xs) 8 57 41 [.ref 16, .ref 1, .int (nI told)] [] (wd c a l f) K) : am_T (wd_ro N xs) 8 57 27 [.ref 16, .ref 1, .int (nI told)] [] (wd c a l f) K := by
  refine am_wp_ok (inl := []) 4 8 57 [34] _ _ _ _ _ ?_
  refine am_br_f (show ¬ nI 900 ≤ nI told from nI_ge ht (by decide)) ?_
  show am_T (wd_ro N xs) 8 57 34 [.ref 16, .ref 1, .int (nI told)] [] (wd c a l f) K
  refine am_wp_ok (inl := []) 3 8 57 [38] _ _ _ _ _ ?_
  refine ⟨_, _, am_run_up (sp_over hn (by omega) h1 h2) (by decide), ?_⟩
  show am_T (wd_ro N xs) 8 57 38 [.ref 16, .ref 1, .int (nI told)] [.int (nI (decide (n ≤ s)).toNat)] (wd c a l f) K
  rw [decide_eq_false (show ¬ n ≤ s by omega)]
  refine am_wp_ok (inl := []) 2 8 57 [41] _ _ _ _ _ ?_
  exact am_br_f (show ¬ ¬ nI 0 = 0 from fun z => z rfl) kq
set_option maxRecDepth 100000 in
set_option maxHeartbeats 4000000 in
theorem te_41_38 {N : Nat} {xs : Nat → Int32} {c : Bool} {a : Nat → Nat → Int32} {l : Nat → Int64} {f : Nat → Nat → Int32} {n s told : Nat} {K : Option Value → am_H → Prop} (hn : n ≤ 900) (ht : told < 900) (h1 : f 1 1 = nI n) (h2 : f 1 2 = nI s) (hs : s < n) (kq : am_T (wd_ro N xs) 8 57 41 [.ref 38, .ref 1, .int (nI told)] [] (wd c a l f) K) : am_T (wd_ro N xs) 8 57 27 [.ref 38, .ref 1, .int (nI told)] [] (wd c a l f) K := by
  refine am_wp_ok (inl := []) 4 8 57 [34] _ _ _ _ _ ?_
  refine am_br_f (show ¬ nI 900 ≤ nI told from nI_ge ht (by decide)) ?_
  show am_T (wd_ro N xs) 8 57 34 [.ref 38, .ref 1, .int (nI told)] [] (wd c a l f) K
  refine am_wp_ok (inl := []) 3 8 57 [38] _ _ _ _ _ ?_
  refine ⟨_, _, am_run_up (sp_over hn (by omega) h1 h2) (by decide), ?_⟩
  show am_T (wd_ro N xs) 8 57 38 [.ref 38, .ref 1, .int (nI told)] [.int (nI (decide (n ≤ s)).toNat)] (wd c a l f) K
  rw [decide_eq_false (show ¬ n ≤ s by omega)]
  refine am_wp_ok (inl := []) 2 8 57 [41] _ _ _ _ _ ?_
  exact am_br_f (show ¬ ¬ nI 0 = 0 from fun z => z rfl) kq
theorem te_41 (b : Bool) {N : Nat} {xs : Nat → Int32} {c : Bool} {a : Nat → Nat → Int32} {l : Nat → Int64} {f : Nat → Nat → Int32} {n s told : Nat} {K : Option Value → am_H → Prop} (hn : n ≤ 900) (ht : told < 900) (h1 : f 1 1 = nI n) (h2 : f 1 2 = nI s) (hs : s < n) (kq : am_T (wd_ro N xs) 8 57 41 [.ref (ob b), .ref 1, .int (nI told)] [] (wd c a l f) K) : am_T (wd_ro N xs) 8 57 27 [.ref (ob b), .ref 1, .int (nI told)] [] (wd c a l f) K := by
  cases b
  · exact te_41_16 hn ht h1 h2 hs kq
  · exact te_41_38 hn ht h1 h2 hs kq
set_option maxRecDepth 100000 in
set_option maxHeartbeats 4000000 in
theorem te_bad_16 {N : Nat} {xs : Nat → Int32} {c : Bool} {a : Nat → Nat → Int32} {l : Nat → Int64} {f : Nat → Nat → Int32} {a1 f1 : Nat → Nat → Int32} {told W : Nat} {K : Option Value → am_H → Prop} (h : am_run (wd_ro N xs) 8 58 [.ref 16, .ref 1] (wd c a l f) (some (.int (nI 0))) (wd c a1 l f1)) (h4 : f1 1 4 = nI W) (kq : K (some (.int (-1 - nI W))) (wd c a1 l f1)) : am_T (wd_ro N xs) 8 57 41 [.ref 16, .ref 1, .int (nI told)] [] (wd c a l f) K := by
  refine am_wp_ok (inl := []) 4 8 57 [46] _ _ _ _ _ ?_
  refine ⟨_, _, h, ?_⟩
  show am_T (wd_ro N xs) 8 57 46 [.ref 16, .ref 1, .int (nI told)] [.int (nI 0)] (wd c a1 l f1) K
  refine am_wp_ok (inl := []) 2 8 57 [49] _ _ _ _ _ ?_
  refine am_br_f (show ¬ ¬ nI 0 = 0 from fun z => z rfl) ?_
  show am_T (wd_ro N xs) 8 57 49 [.ref 16, .ref 1, .int (nI told)] [] (wd c a1 l f1) K
  refine am_wp_ok (inl := []) 4 8 57 [54] _ _ _ _ _ ?_
  refine ⟨_, _, am_run_up sp_wn (by decide), ?_⟩
  show am_T (wd_ro N xs) 8 57 54 [.ref 16, .ref 1, .int (nI told)] [.int (f1 1 4), .int (-1)] (wd c a1 l f1) K
  rw [h4]
  refine am_wp_ok (inl := []) 3 8 57 [] _ _ _ _ _ ?_
  exact kq
set_option maxRecDepth 100000 in
set_option maxHeartbeats 4000000 in
theorem te_bad_38 {N : Nat} {xs : Nat → Int32} {c : Bool} {a : Nat → Nat → Int32} {l : Nat → Int64} {f : Nat → Nat → Int32} {a1 f1 : Nat → Nat → Int32} {told W : Nat} {K : Option Value → am_H → Prop} (h : am_run (wd_ro N xs) 8 58 [.ref 38, .ref 1] (wd c a l f) (some (.int (nI 0))) (wd c a1 l f1)) (h4 : f1 1 4 = nI W) (kq : K (some (.int (-1 - nI W))) (wd c a1 l f1)) : am_T (wd_ro N xs) 8 57 41 [.ref 38, .ref 1, .int (nI told)] [] (wd c a l f) K := by
  refine am_wp_ok (inl := []) 4 8 57 [46] _ _ _ _ _ ?_
  refine ⟨_, _, h, ?_⟩
  show am_T (wd_ro N xs) 8 57 46 [.ref 38, .ref 1, .int (nI told)] [.int (nI 0)] (wd c a1 l f1) K
  refine am_wp_ok (inl := []) 2 8 57 [49] _ _ _ _ _ ?_
  refine am_br_f (show ¬ ¬ nI 0 = 0 from fun z => z rfl) ?_
  show am_T (wd_ro N xs) 8 57 49 [.ref 38, .ref 1, .int (nI told)] [] (wd c a1 l f1) K
  refine am_wp_ok (inl := []) 4 8 57 [54] _ _ _ _ _ ?_
  refine ⟨_, _, am_run_up sp_wn (by decide), ?_⟩
  show am_T (wd_ro N xs) 8 57 54 [.ref 38, .ref 1, .int (nI told)] [.int (f1 1 4), .int (-1)] (wd c a1 l f1) K
  rw [h4]
  refine am_wp_ok (inl := []) 3 8 57 [] _ _ _ _ _ ?_
  exact kq
theorem te_bad (b : Bool) {N : Nat} {xs : Nat → Int32} {c : Bool} {a : Nat → Nat → Int32} {l : Nat → Int64} {f : Nat → Nat → Int32} {a1 f1 : Nat → Nat → Int32} {told W : Nat} {K : Option Value → am_H → Prop} (h : am_run (wd_ro N xs) 8 58 [.ref (ob b), .ref 1] (wd c a l f) (some (.int (nI 0))) (wd c a1 l f1)) (h4 : f1 1 4 = nI W) (kq : K (some (.int (-1 - nI W))) (wd c a1 l f1)) : am_T (wd_ro N xs) 8 57 41 [.ref (ob b), .ref 1, .int (nI told)] [] (wd c a l f) K := by
  cases b
  · exact te_bad_16 h h4 kq
  · exact te_bad_38 h h4 kq
set_option maxRecDepth 100000 in
set_option maxHeartbeats 4000000 in
theorem te_go_16 {N : Nat} {xs : Nat → Int32} {c : Bool} {a : Nat → Nat → Int32} {l : Nat → Int64} {f : Nat → Nat → Int32} {a1 f1 : Nat → Nat → Int32} {told : Nat} {K : Option Value → am_H → Prop} (h : am_run (wd_ro N xs) 8 58 [.ref 16, .ref 1] (wd c a l f) (some (.int (nI 1))) (wd c a1 l f1)) (kq : am_T (wd_ro N xs) 8 57 27 [.ref 16, .ref 1, .int (nI (told + 1))] [] (wd c a1 l f1) K) : am_T (wd_ro N xs) 8 57 41 [.ref 16, .ref 1, .int (nI told)] [] (wd c a l f) K := by
  refine am_wp_ok (inl := []) 4 8 57 [46] _ _ _ _ _ ?_
  refine ⟨_, _, h, ?_⟩
  show am_T (wd_ro N xs) 8 57 46 [.ref 16, .ref 1, .int (nI told)] [.int (nI 1)] (wd c a1 l f1) K
  refine am_wp_ok (inl := []) 4 8 57 [27] _ _ _ _ _ ?_
  refine am_br_t (show ¬ nI 1 = 0 by decide) ?_
  show am_T (wd_ro N xs) 8 57 27 [.ref 16, .ref 1, .int (nI told + 1)] [] (wd c a1 l f1) K
  rw [nI_1]
  exact kq
set_option maxRecDepth 100000 in
set_option maxHeartbeats 4000000 in
theorem te_go_38 {N : Nat} {xs : Nat → Int32} {c : Bool} {a : Nat → Nat → Int32} {l : Nat → Int64} {f : Nat → Nat → Int32} {a1 f1 : Nat → Nat → Int32} {told : Nat} {K : Option Value → am_H → Prop} (h : am_run (wd_ro N xs) 8 58 [.ref 38, .ref 1] (wd c a l f) (some (.int (nI 1))) (wd c a1 l f1)) (kq : am_T (wd_ro N xs) 8 57 27 [.ref 38, .ref 1, .int (nI (told + 1))] [] (wd c a1 l f1) K) : am_T (wd_ro N xs) 8 57 41 [.ref 38, .ref 1, .int (nI told)] [] (wd c a l f) K := by
  refine am_wp_ok (inl := []) 4 8 57 [46] _ _ _ _ _ ?_
  refine ⟨_, _, h, ?_⟩
  show am_T (wd_ro N xs) 8 57 46 [.ref 38, .ref 1, .int (nI told)] [.int (nI 1)] (wd c a1 l f1) K
  refine am_wp_ok (inl := []) 4 8 57 [27] _ _ _ _ _ ?_
  refine am_br_t (show ¬ nI 1 = 0 by decide) ?_
  show am_T (wd_ro N xs) 8 57 27 [.ref 38, .ref 1, .int (nI told + 1)] [] (wd c a1 l f1) K
  rw [nI_1]
  exact kq
theorem te_go (b : Bool) {N : Nat} {xs : Nat → Int32} {c : Bool} {a : Nat → Nat → Int32} {l : Nat → Int64} {f : Nat → Nat → Int32} {a1 f1 : Nat → Nat → Int32} {told : Nat} {K : Option Value → am_H → Prop} (h : am_run (wd_ro N xs) 8 58 [.ref (ob b), .ref 1] (wd c a l f) (some (.int (nI 1))) (wd c a1 l f1)) (kq : am_T (wd_ro N xs) 8 57 27 [.ref (ob b), .ref 1, .int (nI (told + 1))] [] (wd c a1 l f1) K) : am_T (wd_ro N xs) 8 57 41 [.ref (ob b), .ref 1, .int (nI told)] [] (wd c a l f) K := by
  cases b
  · exact te_go_16 h kq
  · exact te_go_38 h kq
def To (N : Nat) (xs : Nat → Int32) (b : Bool) (a f : Nat → Nat → Int32) (n : Nat) (U : Nat → Nat) (j w told wt nb nc ng nm np nn : Nat) : Prop :=
  (∃ (a1 f1 : Nat → Nat → Int32) (W : Nat), FrC b a f a1 f1 ∧ W < 1000000 ∧ (∀ (c : Bool) (l : Nat → Int64) (K : Option Value → am_H → Prop), K (some (.int (-1 - nI W))) (wd c a1 l f1) → am_T (wd_ro N xs) 8 57 27 [.ref (ob b), .ref 1, .int (nI told)] [] (wd c a l f) K) ∧ ∀ (a' : Nat → Nat → Int32) (l : Nat → Int64) (f' : Nat → Nat → Int32), Jm b a f a' l f' n U j told wt nb nc ng nm np nn → RFail (wd_ro N xs) a' l f' w W) ∨
  (∃ (a1 f1 : Nat → Nat → Int32) (T1 j1 w1 wt1 nb1 nc1 ng1 nm1 np1 nn1 : Nat), FrC b a f a1 f1 ∧ T1 ≤ 900 ∧ (∀ (c : Bool) (l : Nat → Int64) (K : Option Value → am_H → Prop), K (some (.int (nI T1))) (wd c a1 l f1) → am_T (wd_ro N xs) 8 57 27 [.ref (ob b), .ref 1, .int (nI told)] [] (wd c a l f) K) ∧ j1 ≤ n ∧ n ≤ sj U n j1 ∧ (wt1 = 0 ∨ wt1 = 3) ∧ ∀ (a' : Nat → Nat → Int32) (l : Nat → Int64) (f' : Nat → Nat → Int32), Jm b a f a' l f' n U j told wt nb nc ng nm np nn → ∃ (a2 : Nat → Nat → Int32) (l2 : Nat → Int64) (f2 : Nat → Nat → Int32), RStep (wd_ro N xs) a' l f' w a2 l2 f2 w1 ∧ FrM a' l f' a2 l2 f2 ∧ Jm b a1 f1 a2 l2 f2 n U j1 T1 wt1 nb1 nc1 ng1 nm1 np1 nn1)
theorem te_loop {N : Nat} {xs : Nat → Int32} (b : Bool) {n : Nat} {U : Nat → Nat} : ∀ (m j w told wt nb nc ng nm np nn : Nat) (a f a0 : Nat → Nat → Int32) (l0 : Nat → Int64) (f0 : Nat → Nat → Int32), n ≤ j + m → told ≤ j → w ≤ 300 * told → CP a f n U j w → Kb U n j wt → Jm b a f a0 l0 f0 n U j told wt nb nc ng nm np nn → To N xs b a f n U j w told wt nb nc ng nm np nn := by
  intro m
  induction m with
  | zero =>
    intro j w told wt nb nc ng nm np nn a f a0 l0 f0 hm ht hw hP hK h0
    obtain ⟨hC, hj, p2, p3, p4⟩ := hP
    have gj := j_le (U := U) hj
    have hn := hC.1
    refine Or.inr ⟨a, f, told, j, w, wt, nb, nc, ng, nm, np, nn, FrC_refl, by omega, fun c l K kq => te_over b hn (by omega) (by omega) hC.2.1 p2 (by omega) kq, hj, by omega, ?_, fun a' l f' hJ => ⟨a', l, f', fun c K kq => kq, FrM_refl, hJ⟩⟩
    rcases hK with hK | hK
    · exact Or.inl hK
    · exact Or.inr hK.1
  | succ m ih =>
    intro j w told wt nb nc ng nm np nn a f a0 l0 f0 hm ht hw hP hK h0
    have hP0 := hP
    obtain ⟨hC, hj, p2, p3, p4⟩ := hP
    have gj := j_le (U := U) hj
    have hn := hC.1
    by_cases hs : sj U n j < n
    · rcases s_all (N := N) (xs := xs) b hP0 hs hK h0 with ⟨a1, f1, W, c1, c2, cw, c3, c4⟩ | ⟨a1, f1, j1, w1, wt1, nb1, nc1, ng1, nm1, np1, nn1, c1, c2, c3, c4, cw, c5, c6⟩
      · exact Or.inl ⟨a1, f1, W, c1, by omega, fun c l K kq => te_41 b hn (by omega) hC.2.1 p2 hs (te_bad b (c3 c l) c2 kq), c4⟩
      · obtain ⟨d1, d2, d3, -, -, d6⟩ := c6 a0 l0 f0 h0
        rcases ih j1 w1 (told + 1) wt1 nb1 nc1 ng1 nm1 np1 nn1 a1 f1 d1 d2 d3 (by omega) (by omega) (by omega) c3 c5 d6 with ⟨a2, f2, W, e1, ew, e3, e4⟩ | ⟨a2, f2, T1, j2, w2, wt2, nb2, nc2, ng2, nm2, np2, nn2, e1, e2, e3, e4, e5, e6, e7⟩
        · refine Or.inl ⟨a2, f2, W, FrC_trans c1 e1, ew, fun c l K kq => te_41 b hn (by omega) hC.2.1 p2 hs (te_go b (c2 c l) (e3 c l K kq)), fun a' l f' hJ => ?_⟩
          obtain ⟨x1, x2, x3, y1, y2, y3⟩ := c6 a' l f' hJ
          exact RFail_step y1 y2 (e4 _ _ _ y3)
        · refine Or.inr ⟨a2, f2, T1, j2, w2, wt2, nb2, nc2, ng2, nm2, np2, nn2, FrC_trans c1 e1, e2, fun c l K kq => te_41 b hn (by omega) hC.2.1 p2 hs (te_go b (c2 c l) (e3 c l K kq)), e4, e5, e6, fun a' l f' hJ => ?_⟩
          obtain ⟨x1, x2, x3, y1, y2, y3⟩ := c6 a' l f' hJ
          obtain ⟨x4, x5, x6, y4, y5, y6⟩ := e7 _ _ _ y3
          exact ⟨x4, x5, x6, RStep_trans y1 y4, FrM_trans y2 y5, y6⟩
    · refine Or.inr ⟨a, f, told, j, w, wt, nb, nc, ng, nm, np, nn, FrC_refl, by omega, fun c l K kq => te_over b hn (by omega) (by omega) hC.2.1 p2 (by omega) kq, hj, by omega, ?_, fun a' l f' hJ => ⟨a', l, f', fun c K kq => kq, FrM_refl, hJ⟩⟩
      rcases hK with hK | hK
      · exact Or.inl hK
      · exact Or.inr hK.1
