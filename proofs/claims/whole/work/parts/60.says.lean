/-! the words that the class asks for: String's length and charAt on the texts -/
set_option maxRecDepth 100000 in
set_option maxHeartbeats 4000000 in
theorem sp_ck {ro : Nat → Option am_C} {hp : am_H} {i n : Int32} (h1 : ¬ i < 0) (h2 : i < n) : am_run ro 1 153 [.int i, .int n, .retAddr 100] hp (some (.int i)) hp := by
  refine am_run_of rfl (am_wp_ok (inl := []) 12 0 153 [] 0 _ _ _ _ ?_)
  refine am_br_f h1 (am_br_t h2 ?_)
  exact And.intro rfl rfl
set_option maxRecDepth 100000 in
set_option maxHeartbeats 4000000 in
theorem sp_ci {ro : Nat → Option am_C} {hp : am_H} {i n : Int32} (h1 : ¬ i < 0) (h2 : i < n) : am_run ro 2 152 [.int i, .int n] hp none hp := by
  refine am_run_of rfl (am_wp_ok (inl := []) 12 1 152 [] 0 _ _ _ _ ?_)
  refine ⟨_, _, sp_ck h1 h2, ?_⟩
  exact And.intro rfl rfl
/-- the word at hand is this text -/
def sw (u : Nat → Nat) (T : Nat) (v : Nat → Nat) (n : Nat) : Bool := decide (n = T) && al (fun q => decide (v q = u q)) 0 n
def vt_0 : Nat → Nat := fun j => ([99, 111, 100, 101] : List Nat).getD j 0
set_option maxRecDepth 100000 in
set_option maxHeartbeats 4000000 in
theorem co1_0 {N : Nat} {xs : Nat → Int32} {hp : am_H} : am_run (wd_ro N xs) 1 148 [.retAddr 2] hp (some (.int 0)) hp := by
  refine am_run_of rfl (am_wp_ok (inl := []) 12 0 148 [] 0 _ _ _ _ ?_)
  refine am_br_f (show ¬ (1 : Int32) = 0 by decide) ?_
  exact And.intro rfl (And.intro rfl rfl)
set_option maxRecDepth 100000 in
set_option maxHeartbeats 4000000 in
theorem la1_0 {N : Nat} {xs : Nat → Int32} {hp : am_H} : am_run (wd_ro N xs) 1 150 [.retAddr 2] hp (some (.int 1)) hp := by
  refine am_run_of rfl (am_wp_ok (inl := []) 12 0 150 [] 0 _ _ _ _ ?_)
  refine am_br_f (show ¬ (1 : Int32) = 0 by decide) ?_
  refine am_br_f (show ¬ ¬ (0 : Int32) = 0 from fun z => z rfl) ?_
  exact And.intro rfl (And.intro rfl rfl)
set_option maxRecDepth 100000 in
set_option maxHeartbeats 4000000 in
theorem sl_0 {N : Nat} {xs : Nat → Int32} {hp : am_H} : am_run (wd_ro N xs) 2 147 [.retAddr 2] hp (some (.int (nI 4))) hp := by
  refine am_run_of rfl (am_wp_ok (inl := []) 6 1 147 [9] 0 _ _ _ _ ?_)
  refine ⟨_, _, co1_0, ?_⟩
  show am_T (wd_ro N xs) 1 147 9 [.retAddr 2] [.int 0, .int (nI 4)] hp _
  refine am_wp_ok (inl := []) 3 1 147 [] _ _ _ _ _ ?_
  exact And.intro rfl rfl
set_option maxRecDepth 100000 in
set_option maxHeartbeats 4000000 in
theorem sb_0_0 {N : Nat} {xs : Nat → Int32} {hp : am_H} : am_run (wd_ro N xs) 3 151 [.retAddr 3, .int (nI 0)] hp (some (.int (nI 99))) hp := by
  refine am_run_of rfl (am_wp_ok (inl := []) 5 2 151 [6] 0 _ _ _ _ ?_)
  refine ⟨_, _, sp_ci (show ¬ nI 0 < 0 by decide) (show nI 0 < nI 4 by decide), ?_⟩
  show am_T (wd_ro N xs) 2 151 6 [.retAddr 3, .int (nI 0)] [] hp _
  refine am_wp_ok (inl := []) 8 2 151 [] _ _ _ _ _ ?_
  refine And.intro (vp_in_nI (by decide) (by decide)) ?_
  exact And.intro rfl (And.intro rfl rfl)
set_option maxRecDepth 100000 in
set_option maxHeartbeats 4000000 in
theorem sc_0_0 {N : Nat} {xs : Nat → Int32} {hp : am_H} : am_run (wd_ro N xs) 4 149 [.retAddr 2, .int (nI 0)] hp (some (.int (nI 99))) hp := by
  refine am_run_of rfl (am_wp_ok (inl := []) 4 3 149 [4] 0 _ _ _ _ ?_)
  refine ⟨_, _, am_run_up la1_0 (by decide), ?_⟩
  show am_T (wd_ro N xs) 3 149 4 [.retAddr 2, .int (nI 0)] [.int 1] hp _
  refine am_wp_ok (inl := []) 8 3 149 [15] _ _ _ _ _ ?_
  refine am_br_f (show ¬ (1 : Int32) = 0 by decide) ?_
  refine ⟨_, _, sb_0_0, ?_⟩
  show am_T (wd_ro N xs) 3 149 15 [.retAddr 2, .int (nI 0)] [.int (nI 99)] hp _
  refine am_wp_ok (inl := []) 2 3 149 [] _ _ _ _ _ ?_
  exact And.intro rfl (And.intro rfl rfl)
set_option maxRecDepth 100000 in
set_option maxHeartbeats 4000000 in
theorem sb_0_1 {N : Nat} {xs : Nat → Int32} {hp : am_H} : am_run (wd_ro N xs) 3 151 [.retAddr 3, .int (nI 1)] hp (some (.int (nI 111))) hp := by
  refine am_run_of rfl (am_wp_ok (inl := []) 5 2 151 [6] 0 _ _ _ _ ?_)
  refine ⟨_, _, sp_ci (show ¬ nI 1 < 0 by decide) (show nI 1 < nI 4 by decide), ?_⟩
  show am_T (wd_ro N xs) 2 151 6 [.retAddr 3, .int (nI 1)] [] hp _
  refine am_wp_ok (inl := []) 8 2 151 [] _ _ _ _ _ ?_
  refine And.intro (vp_in_nI (by decide) (by decide)) ?_
  exact And.intro rfl (And.intro rfl rfl)
set_option maxRecDepth 100000 in
set_option maxHeartbeats 4000000 in
theorem sc_0_1 {N : Nat} {xs : Nat → Int32} {hp : am_H} : am_run (wd_ro N xs) 4 149 [.retAddr 2, .int (nI 1)] hp (some (.int (nI 111))) hp := by
  refine am_run_of rfl (am_wp_ok (inl := []) 4 3 149 [4] 0 _ _ _ _ ?_)
  refine ⟨_, _, am_run_up la1_0 (by decide), ?_⟩
  show am_T (wd_ro N xs) 3 149 4 [.retAddr 2, .int (nI 1)] [.int 1] hp _
  refine am_wp_ok (inl := []) 8 3 149 [15] _ _ _ _ _ ?_
  refine am_br_f (show ¬ (1 : Int32) = 0 by decide) ?_
  refine ⟨_, _, sb_0_1, ?_⟩
  show am_T (wd_ro N xs) 3 149 15 [.retAddr 2, .int (nI 1)] [.int (nI 111)] hp _
  refine am_wp_ok (inl := []) 2 3 149 [] _ _ _ _ _ ?_
  exact And.intro rfl (And.intro rfl rfl)
set_option maxRecDepth 100000 in
set_option maxHeartbeats 4000000 in
theorem sb_0_2 {N : Nat} {xs : Nat → Int32} {hp : am_H} : am_run (wd_ro N xs) 3 151 [.retAddr 3, .int (nI 2)] hp (some (.int (nI 100))) hp := by
  refine am_run_of rfl (am_wp_ok (inl := []) 5 2 151 [6] 0 _ _ _ _ ?_)
  refine ⟨_, _, sp_ci (show ¬ nI 2 < 0 by decide) (show nI 2 < nI 4 by decide), ?_⟩
  show am_T (wd_ro N xs) 2 151 6 [.retAddr 3, .int (nI 2)] [] hp _
  refine am_wp_ok (inl := []) 8 2 151 [] _ _ _ _ _ ?_
  refine And.intro (vp_in_nI (by decide) (by decide)) ?_
  exact And.intro rfl (And.intro rfl rfl)
set_option maxRecDepth 100000 in
set_option maxHeartbeats 4000000 in
theorem sc_0_2 {N : Nat} {xs : Nat → Int32} {hp : am_H} : am_run (wd_ro N xs) 4 149 [.retAddr 2, .int (nI 2)] hp (some (.int (nI 100))) hp := by
  refine am_run_of rfl (am_wp_ok (inl := []) 4 3 149 [4] 0 _ _ _ _ ?_)
  refine ⟨_, _, am_run_up la1_0 (by decide), ?_⟩
  show am_T (wd_ro N xs) 3 149 4 [.retAddr 2, .int (nI 2)] [.int 1] hp _
  refine am_wp_ok (inl := []) 8 3 149 [15] _ _ _ _ _ ?_
  refine am_br_f (show ¬ (1 : Int32) = 0 by decide) ?_
  refine ⟨_, _, sb_0_2, ?_⟩
  show am_T (wd_ro N xs) 3 149 15 [.retAddr 2, .int (nI 2)] [.int (nI 100)] hp _
  refine am_wp_ok (inl := []) 2 3 149 [] _ _ _ _ _ ?_
  exact And.intro rfl (And.intro rfl rfl)
set_option maxRecDepth 100000 in
set_option maxHeartbeats 4000000 in
theorem sb_0_3 {N : Nat} {xs : Nat → Int32} {hp : am_H} : am_run (wd_ro N xs) 3 151 [.retAddr 3, .int (nI 3)] hp (some (.int (nI 101))) hp := by
  refine am_run_of rfl (am_wp_ok (inl := []) 5 2 151 [6] 0 _ _ _ _ ?_)
  refine ⟨_, _, sp_ci (show ¬ nI 3 < 0 by decide) (show nI 3 < nI 4 by decide), ?_⟩
  show am_T (wd_ro N xs) 2 151 6 [.retAddr 3, .int (nI 3)] [] hp _
  refine am_wp_ok (inl := []) 8 2 151 [] _ _ _ _ _ ?_
  refine And.intro (vp_in_nI (by decide) (by decide)) ?_
  exact And.intro rfl (And.intro rfl rfl)
set_option maxRecDepth 100000 in
set_option maxHeartbeats 4000000 in
theorem sc_0_3 {N : Nat} {xs : Nat → Int32} {hp : am_H} : am_run (wd_ro N xs) 4 149 [.retAddr 2, .int (nI 3)] hp (some (.int (nI 101))) hp := by
  refine am_run_of rfl (am_wp_ok (inl := []) 4 3 149 [4] 0 _ _ _ _ ?_)
  refine ⟨_, _, am_run_up la1_0 (by decide), ?_⟩
  show am_T (wd_ro N xs) 3 149 4 [.retAddr 2, .int (nI 3)] [.int 1] hp _
  refine am_wp_ok (inl := []) 8 3 149 [15] _ _ _ _ _ ?_
  refine am_br_f (show ¬ (1 : Int32) = 0 by decide) ?_
  refine ⟨_, _, sb_0_3, ?_⟩
  show am_T (wd_ro N xs) 3 149 15 [.retAddr 2, .int (nI 3)] [.int (nI 101)] hp _
  refine am_wp_ok (inl := []) 2 3 149 [] _ _ _ _ _ ?_
  exact And.intro rfl (And.intro rfl rfl)
theorem sc_0 {N : Nat} {xs : Nat → Int32} {hp : am_H} {j : Nat} (h : j < 4) : am_run (wd_ro N xs) 4 149 [.retAddr 2, .int (nI j)] hp (some (.int (nI (vt_0 j)))) hp := by
  match j, h with
  | 0, _ => exact sc_0_0
  | 1, _ => exact sc_0_1
  | 2, _ => exact sc_0_2
  | 3, _ => exact sc_0_3
  | k + 4, h => omega
set_option maxRecDepth 100000 in
set_option maxHeartbeats 4000000 in
theorem sy_0 {N : Nat} {xs : Nat → Int32} {c : Bool} {a : Nat → Nat → Int32} {l : Nat → Int64} {f : Nat → Nat → Int32} {s t : Nat} {u : Nat → Nat} (h2 : f 1 2 = nI s) (h3 : f 1 3 = nI t) (hst : s ≤ t) (ht : t ≤ 900) (hu : ∀ q, q < t - s → a 2 (s + q) = nI (u q) ∧ u q < 256) (hT : 4 = t - s) : ∀ (m k : Nat), k + m = 4 → am_T (wd_ro N xs) 4 29 15 [.ref 1, .retAddr 2, .int (nI k)] [] (wd c a l f) (fun r hp' => r = some (.int (nI (al (fun q => decide (vt_0 q = u q)) k m).toNat)) ∧ hp' = wd c a l f) := by
  intro m
  induction m with
  | zero =>
    intro k h
    refine am_wp_ok (inl := []) 4 4 29 [20] _ _ _ _ _ ?_
    refine ⟨_, _, am_run_up sl_0 (by decide), ?_⟩
    show am_T (wd_ro N xs) 4 29 20 [.ref 1, .retAddr 2, .int (nI k)] [.int (nI 4), .int (nI k)] (wd c a l f) _
    refine am_wp_ok (inl := []) 4 4 29 [] _ _ _ _ _ ?_
    refine am_br_t (nI_le (by omega) (by omega)) ?_
    exact And.intro rfl (And.intro rfl rfl)
  | succ m ih =>
    intro k h
    have hk : vt_0 k < 256 := by
      have hk : k < 4 := by omega
      match k, hk with
      | 0, _ => exact (by decide)
      | 1, _ => exact (by decide)
      | 2, _ => exact (by decide)
      | 3, _ => exact (by decide)
      | q + 4, hk => omega
    obtain ⟨hu1, hu2⟩ := hu k (by omega)
    refine am_wp_ok (inl := []) 4 4 29 [20] _ _ _ _ _ ?_
    refine ⟨_, _, am_run_up sl_0 (by decide), ?_⟩
    show am_T (wd_ro N xs) 4 29 20 [.ref 1, .retAddr 2, .int (nI k)] [.int (nI 4), .int (nI k)] (wd c a l f) _
    refine am_wp_ok (inl := []) 4 4 29 [28] _ _ _ _ _ ?_
    refine am_br_f (nI_ge (by omega) (by omega)) ?_
    refine ⟨_, _, sc_0 (by omega), ?_⟩
    show am_T (wd_ro N xs) 4 29 28 [.ref 1, .retAddr 2, .int (nI k)] [.int (nI (vt_0 k))] (wd c a l f) _
    refine am_wp_ok (inl := []) 4 4 29 [33] _ _ _ _ _ ?_
    refine ⟨_, _, am_run_up (sp_byte_t h2 h3 hst ht (show k < t - s by omega)) (by decide), ?_⟩
    show am_T (wd_ro N xs) 4 29 33 [.ref 1, .retAddr 2, .int (nI k)] [.int (a 2 (s + k)), .int (nI (vt_0 k))] (wd c a l f) _
    rw [hu1]
    refine am_wp_ok (inl := []) 4 4 29 [38] _ _ _ _ _ ?_
    by_cases hq : vt_0 k = u k
    · refine am_br_t (show nI (vt_0 k) = nI (u k) by rw [hq]) ?_
      show am_T (wd_ro N xs) 4 29 38 [.ref 1, .retAddr 2, .int (nI k)] [] (wd c a l f) _
      refine am_wp_ok (inl := []) 4 4 29 [15] _ _ _ _ _ ?_
      show am_T (wd_ro N xs) 4 29 15 [.ref 1, .retAddr 2, .int (nI k + 1)] [] (wd c a l f) _
      rw [nI_1, al_t (decide_eq_true hq)]
      exact ih (k + 1) (by omega)
    · refine am_br_f (show ¬ nI (vt_0 k) = nI (u k) by rw [nI_eq (by omega) (by omega)]; exact hq) ?_
      rw [al_f (decide_eq_false hq)]
      exact And.intro rfl (And.intro rfl rfl)
set_option maxRecDepth 100000 in
set_option maxHeartbeats 4000000 in
theorem cs_says_0 {N : Nat} {xs : Nat → Int32} {c : Bool} {a : Nat → Nat → Int32} {l : Nat → Int64} {f : Nat → Nat → Int32} {s t : Nat} {u : Nat → Nat} (h2 : f 1 2 = nI s) (h3 : f 1 3 = nI t) (hst : s ≤ t) (ht : t ≤ 900) (hu : ∀ q, q < t - s → a 2 (s + q) = nI (u q) ∧ u q < 256) : am_run (wd_ro N xs) 5 29 [.ref 1, .retAddr 2] (wd c a l f) (some (.int (nI (sw u (t - s) vt_0 4).toNat))) (wd c a l f) := by
  refine am_run_of rfl (am_wp_ok (inl := []) 3 4 29 [4] 0 _ _ _ _ ?_)
  refine ⟨_, _, am_run_up sl_0 (by decide), ?_⟩
  show am_T (wd_ro N xs) 4 29 4 [.ref 1, .retAddr 2, am_un] [.int (nI 4)] (wd c a l f) _
  refine am_wp_ok (inl := []) 3 4 29 [8] _ _ _ _ _ ?_
  refine ⟨_, _, am_run_up (sp_len h2 h3 hst) (by decide), ?_⟩
  show am_T (wd_ro N xs) 4 29 8 [.ref 1, .retAddr 2, am_un] [.int (nI (t - s)), .int (nI 4)] (wd c a l f) _
  refine am_wp_ok (inl := []) 4 4 29 [13] _ _ _ _ _ ?_
  unfold sw
  by_cases hq : 4 = t - s
  · refine am_br_t (show nI 4 = nI (t - s) by rw [← hq]) ?_
    show am_T (wd_ro N xs) 4 29 13 [.ref 1, .retAddr 2, am_un] [] (wd c a l f) _
    rw [decide_eq_true hq, Bool.true_and]
    refine am_wp_ok (inl := []) 3 4 29 [15] _ _ _ _ _ ?_
    exact sy_0 h2 h3 hst ht hu hq 4 0 rfl
  · refine am_br_f (show ¬ nI 4 = nI (t - s) by rw [nI_eq (by omega) (by omega)]; exact hq) ?_
    rw [decide_eq_false hq, Bool.false_and]
    exact And.intro rfl (And.intro rfl rfl)
def vt_1 : Nat → Nat := fun j => ([119, 104, 101, 110] : List Nat).getD j 0
set_option maxRecDepth 100000 in
set_option maxHeartbeats 4000000 in
theorem co1_1 {N : Nat} {xs : Nat → Int32} {hp : am_H} : am_run (wd_ro N xs) 1 148 [.retAddr 4] hp (some (.int 0)) hp := by
  refine am_run_of rfl (am_wp_ok (inl := []) 12 0 148 [] 0 _ _ _ _ ?_)
  refine am_br_f (show ¬ (1 : Int32) = 0 by decide) ?_
  exact And.intro rfl (And.intro rfl rfl)
set_option maxRecDepth 100000 in
set_option maxHeartbeats 4000000 in
theorem la1_1 {N : Nat} {xs : Nat → Int32} {hp : am_H} : am_run (wd_ro N xs) 1 150 [.retAddr 4] hp (some (.int 1)) hp := by
  refine am_run_of rfl (am_wp_ok (inl := []) 12 0 150 [] 0 _ _ _ _ ?_)
  refine am_br_f (show ¬ (1 : Int32) = 0 by decide) ?_
  refine am_br_f (show ¬ ¬ (0 : Int32) = 0 from fun z => z rfl) ?_
  exact And.intro rfl (And.intro rfl rfl)
set_option maxRecDepth 100000 in
set_option maxHeartbeats 4000000 in
theorem sl_1 {N : Nat} {xs : Nat → Int32} {hp : am_H} : am_run (wd_ro N xs) 2 147 [.retAddr 4] hp (some (.int (nI 4))) hp := by
  refine am_run_of rfl (am_wp_ok (inl := []) 6 1 147 [9] 0 _ _ _ _ ?_)
  refine ⟨_, _, co1_1, ?_⟩
  show am_T (wd_ro N xs) 1 147 9 [.retAddr 4] [.int 0, .int (nI 4)] hp _
  refine am_wp_ok (inl := []) 3 1 147 [] _ _ _ _ _ ?_
  exact And.intro rfl rfl
set_option maxRecDepth 100000 in
set_option maxHeartbeats 4000000 in
theorem sb_1_0 {N : Nat} {xs : Nat → Int32} {hp : am_H} : am_run (wd_ro N xs) 3 151 [.retAddr 5, .int (nI 0)] hp (some (.int (nI 119))) hp := by
  refine am_run_of rfl (am_wp_ok (inl := []) 5 2 151 [6] 0 _ _ _ _ ?_)
  refine ⟨_, _, sp_ci (show ¬ nI 0 < 0 by decide) (show nI 0 < nI 4 by decide), ?_⟩
  show am_T (wd_ro N xs) 2 151 6 [.retAddr 5, .int (nI 0)] [] hp _
  refine am_wp_ok (inl := []) 8 2 151 [] _ _ _ _ _ ?_
  refine And.intro (vp_in_nI (by decide) (by decide)) ?_
  exact And.intro rfl (And.intro rfl rfl)
set_option maxRecDepth 100000 in
set_option maxHeartbeats 4000000 in
theorem sc_1_0 {N : Nat} {xs : Nat → Int32} {hp : am_H} : am_run (wd_ro N xs) 4 149 [.retAddr 4, .int (nI 0)] hp (some (.int (nI 119))) hp := by
  refine am_run_of rfl (am_wp_ok (inl := []) 4 3 149 [4] 0 _ _ _ _ ?_)
  refine ⟨_, _, am_run_up la1_1 (by decide), ?_⟩
  show am_T (wd_ro N xs) 3 149 4 [.retAddr 4, .int (nI 0)] [.int 1] hp _
  refine am_wp_ok (inl := []) 8 3 149 [15] _ _ _ _ _ ?_
  refine am_br_f (show ¬ (1 : Int32) = 0 by decide) ?_
  refine ⟨_, _, sb_1_0, ?_⟩
  show am_T (wd_ro N xs) 3 149 15 [.retAddr 4, .int (nI 0)] [.int (nI 119)] hp _
  refine am_wp_ok (inl := []) 2 3 149 [] _ _ _ _ _ ?_
  exact And.intro rfl (And.intro rfl rfl)
set_option maxRecDepth 100000 in
set_option maxHeartbeats 4000000 in
theorem sb_1_1 {N : Nat} {xs : Nat → Int32} {hp : am_H} : am_run (wd_ro N xs) 3 151 [.retAddr 5, .int (nI 1)] hp (some (.int (nI 104))) hp := by
  refine am_run_of rfl (am_wp_ok (inl := []) 5 2 151 [6] 0 _ _ _ _ ?_)
  refine ⟨_, _, sp_ci (show ¬ nI 1 < 0 by decide) (show nI 1 < nI 4 by decide), ?_⟩
  show am_T (wd_ro N xs) 2 151 6 [.retAddr 5, .int (nI 1)] [] hp _
  refine am_wp_ok (inl := []) 8 2 151 [] _ _ _ _ _ ?_
  refine And.intro (vp_in_nI (by decide) (by decide)) ?_
  exact And.intro rfl (And.intro rfl rfl)
set_option maxRecDepth 100000 in
set_option maxHeartbeats 4000000 in
theorem sc_1_1 {N : Nat} {xs : Nat → Int32} {hp : am_H} : am_run (wd_ro N xs) 4 149 [.retAddr 4, .int (nI 1)] hp (some (.int (nI 104))) hp := by
  refine am_run_of rfl (am_wp_ok (inl := []) 4 3 149 [4] 0 _ _ _ _ ?_)
  refine ⟨_, _, am_run_up la1_1 (by decide), ?_⟩
  show am_T (wd_ro N xs) 3 149 4 [.retAddr 4, .int (nI 1)] [.int 1] hp _
  refine am_wp_ok (inl := []) 8 3 149 [15] _ _ _ _ _ ?_
  refine am_br_f (show ¬ (1 : Int32) = 0 by decide) ?_
  refine ⟨_, _, sb_1_1, ?_⟩
  show am_T (wd_ro N xs) 3 149 15 [.retAddr 4, .int (nI 1)] [.int (nI 104)] hp _
  refine am_wp_ok (inl := []) 2 3 149 [] _ _ _ _ _ ?_
  exact And.intro rfl (And.intro rfl rfl)
set_option maxRecDepth 100000 in
set_option maxHeartbeats 4000000 in
theorem sb_1_2 {N : Nat} {xs : Nat → Int32} {hp : am_H} : am_run (wd_ro N xs) 3 151 [.retAddr 5, .int (nI 2)] hp (some (.int (nI 101))) hp := by
  refine am_run_of rfl (am_wp_ok (inl := []) 5 2 151 [6] 0 _ _ _ _ ?_)
  refine ⟨_, _, sp_ci (show ¬ nI 2 < 0 by decide) (show nI 2 < nI 4 by decide), ?_⟩
  show am_T (wd_ro N xs) 2 151 6 [.retAddr 5, .int (nI 2)] [] hp _
  refine am_wp_ok (inl := []) 8 2 151 [] _ _ _ _ _ ?_
  refine And.intro (vp_in_nI (by decide) (by decide)) ?_
  exact And.intro rfl (And.intro rfl rfl)
set_option maxRecDepth 100000 in
set_option maxHeartbeats 4000000 in
theorem sc_1_2 {N : Nat} {xs : Nat → Int32} {hp : am_H} : am_run (wd_ro N xs) 4 149 [.retAddr 4, .int (nI 2)] hp (some (.int (nI 101))) hp := by
  refine am_run_of rfl (am_wp_ok (inl := []) 4 3 149 [4] 0 _ _ _ _ ?_)
  refine ⟨_, _, am_run_up la1_1 (by decide), ?_⟩
  show am_T (wd_ro N xs) 3 149 4 [.retAddr 4, .int (nI 2)] [.int 1] hp _
  refine am_wp_ok (inl := []) 8 3 149 [15] _ _ _ _ _ ?_
  refine am_br_f (show ¬ (1 : Int32) = 0 by decide) ?_
  refine ⟨_, _, sb_1_2, ?_⟩
  show am_T (wd_ro N xs) 3 149 15 [.retAddr 4, .int (nI 2)] [.int (nI 101)] hp _
  refine am_wp_ok (inl := []) 2 3 149 [] _ _ _ _ _ ?_
  exact And.intro rfl (And.intro rfl rfl)
set_option maxRecDepth 100000 in
set_option maxHeartbeats 4000000 in
theorem sb_1_3 {N : Nat} {xs : Nat → Int32} {hp : am_H} : am_run (wd_ro N xs) 3 151 [.retAddr 5, .int (nI 3)] hp (some (.int (nI 110))) hp := by
  refine am_run_of rfl (am_wp_ok (inl := []) 5 2 151 [6] 0 _ _ _ _ ?_)
  refine ⟨_, _, sp_ci (show ¬ nI 3 < 0 by decide) (show nI 3 < nI 4 by decide), ?_⟩
  show am_T (wd_ro N xs) 2 151 6 [.retAddr 5, .int (nI 3)] [] hp _
  refine am_wp_ok (inl := []) 8 2 151 [] _ _ _ _ _ ?_
  refine And.intro (vp_in_nI (by decide) (by decide)) ?_
  exact And.intro rfl (And.intro rfl rfl)
set_option maxRecDepth 100000 in
set_option maxHeartbeats 4000000 in
theorem sc_1_3 {N : Nat} {xs : Nat → Int32} {hp : am_H} : am_run (wd_ro N xs) 4 149 [.retAddr 4, .int (nI 3)] hp (some (.int (nI 110))) hp := by
  refine am_run_of rfl (am_wp_ok (inl := []) 4 3 149 [4] 0 _ _ _ _ ?_)
  refine ⟨_, _, am_run_up la1_1 (by decide), ?_⟩
  show am_T (wd_ro N xs) 3 149 4 [.retAddr 4, .int (nI 3)] [.int 1] hp _
  refine am_wp_ok (inl := []) 8 3 149 [15] _ _ _ _ _ ?_
  refine am_br_f (show ¬ (1 : Int32) = 0 by decide) ?_
  refine ⟨_, _, sb_1_3, ?_⟩
  show am_T (wd_ro N xs) 3 149 15 [.retAddr 4, .int (nI 3)] [.int (nI 110)] hp _
  refine am_wp_ok (inl := []) 2 3 149 [] _ _ _ _ _ ?_
  exact And.intro rfl (And.intro rfl rfl)
theorem sc_1 {N : Nat} {xs : Nat → Int32} {hp : am_H} {j : Nat} (h : j < 4) : am_run (wd_ro N xs) 4 149 [.retAddr 4, .int (nI j)] hp (some (.int (nI (vt_1 j)))) hp := by
  match j, h with
  | 0, _ => exact sc_1_0
  | 1, _ => exact sc_1_1
  | 2, _ => exact sc_1_2
  | 3, _ => exact sc_1_3
  | k + 4, h => omega
set_option maxRecDepth 100000 in
set_option maxHeartbeats 4000000 in
theorem sy_1 {N : Nat} {xs : Nat → Int32} {c : Bool} {a : Nat → Nat → Int32} {l : Nat → Int64} {f : Nat → Nat → Int32} {s t : Nat} {u : Nat → Nat} (h2 : f 1 2 = nI s) (h3 : f 1 3 = nI t) (hst : s ≤ t) (ht : t ≤ 900) (hu : ∀ q, q < t - s → a 2 (s + q) = nI (u q) ∧ u q < 256) (hT : 4 = t - s) : ∀ (m k : Nat), k + m = 4 → am_T (wd_ro N xs) 4 29 15 [.ref 1, .retAddr 4, .int (nI k)] [] (wd c a l f) (fun r hp' => r = some (.int (nI (al (fun q => decide (vt_1 q = u q)) k m).toNat)) ∧ hp' = wd c a l f) := by
  intro m
  induction m with
  | zero =>
    intro k h
    refine am_wp_ok (inl := []) 4 4 29 [20] _ _ _ _ _ ?_
    refine ⟨_, _, am_run_up sl_1 (by decide), ?_⟩
    show am_T (wd_ro N xs) 4 29 20 [.ref 1, .retAddr 4, .int (nI k)] [.int (nI 4), .int (nI k)] (wd c a l f) _
    refine am_wp_ok (inl := []) 4 4 29 [] _ _ _ _ _ ?_
    refine am_br_t (nI_le (by omega) (by omega)) ?_
    exact And.intro rfl (And.intro rfl rfl)
  | succ m ih =>
    intro k h
    have hk : vt_1 k < 256 := by
      have hk : k < 4 := by omega
      match k, hk with
      | 0, _ => exact (by decide)
      | 1, _ => exact (by decide)
      | 2, _ => exact (by decide)
      | 3, _ => exact (by decide)
      | q + 4, hk => omega
    obtain ⟨hu1, hu2⟩ := hu k (by omega)
    refine am_wp_ok (inl := []) 4 4 29 [20] _ _ _ _ _ ?_
    refine ⟨_, _, am_run_up sl_1 (by decide), ?_⟩
    show am_T (wd_ro N xs) 4 29 20 [.ref 1, .retAddr 4, .int (nI k)] [.int (nI 4), .int (nI k)] (wd c a l f) _
    refine am_wp_ok (inl := []) 4 4 29 [28] _ _ _ _ _ ?_
    refine am_br_f (nI_ge (by omega) (by omega)) ?_
    refine ⟨_, _, sc_1 (by omega), ?_⟩
    show am_T (wd_ro N xs) 4 29 28 [.ref 1, .retAddr 4, .int (nI k)] [.int (nI (vt_1 k))] (wd c a l f) _
    refine am_wp_ok (inl := []) 4 4 29 [33] _ _ _ _ _ ?_
    refine ⟨_, _, am_run_up (sp_byte_t h2 h3 hst ht (show k < t - s by omega)) (by decide), ?_⟩
    show am_T (wd_ro N xs) 4 29 33 [.ref 1, .retAddr 4, .int (nI k)] [.int (a 2 (s + k)), .int (nI (vt_1 k))] (wd c a l f) _
    rw [hu1]
    refine am_wp_ok (inl := []) 4 4 29 [38] _ _ _ _ _ ?_
    by_cases hq : vt_1 k = u k
    · refine am_br_t (show nI (vt_1 k) = nI (u k) by rw [hq]) ?_
      show am_T (wd_ro N xs) 4 29 38 [.ref 1, .retAddr 4, .int (nI k)] [] (wd c a l f) _
      refine am_wp_ok (inl := []) 4 4 29 [15] _ _ _ _ _ ?_
      show am_T (wd_ro N xs) 4 29 15 [.ref 1, .retAddr 4, .int (nI k + 1)] [] (wd c a l f) _
      rw [nI_1, al_t (decide_eq_true hq)]
      exact ih (k + 1) (by omega)
    · refine am_br_f (show ¬ nI (vt_1 k) = nI (u k) by rw [nI_eq (by omega) (by omega)]; exact hq) ?_
      rw [al_f (decide_eq_false hq)]
      exact And.intro rfl (And.intro rfl rfl)
set_option maxRecDepth 100000 in
set_option maxHeartbeats 4000000 in
theorem cs_says_1 {N : Nat} {xs : Nat → Int32} {c : Bool} {a : Nat → Nat → Int32} {l : Nat → Int64} {f : Nat → Nat → Int32} {s t : Nat} {u : Nat → Nat} (h2 : f 1 2 = nI s) (h3 : f 1 3 = nI t) (hst : s ≤ t) (ht : t ≤ 900) (hu : ∀ q, q < t - s → a 2 (s + q) = nI (u q) ∧ u q < 256) : am_run (wd_ro N xs) 5 29 [.ref 1, .retAddr 4] (wd c a l f) (some (.int (nI (sw u (t - s) vt_1 4).toNat))) (wd c a l f) := by
  refine am_run_of rfl (am_wp_ok (inl := []) 3 4 29 [4] 0 _ _ _ _ ?_)
  refine ⟨_, _, am_run_up sl_1 (by decide), ?_⟩
  show am_T (wd_ro N xs) 4 29 4 [.ref 1, .retAddr 4, am_un] [.int (nI 4)] (wd c a l f) _
  refine am_wp_ok (inl := []) 3 4 29 [8] _ _ _ _ _ ?_
  refine ⟨_, _, am_run_up (sp_len h2 h3 hst) (by decide), ?_⟩
  show am_T (wd_ro N xs) 4 29 8 [.ref 1, .retAddr 4, am_un] [.int (nI (t - s)), .int (nI 4)] (wd c a l f) _
  refine am_wp_ok (inl := []) 4 4 29 [13] _ _ _ _ _ ?_
  unfold sw
  by_cases hq : 4 = t - s
  · refine am_br_t (show nI 4 = nI (t - s) by rw [← hq]) ?_
    show am_T (wd_ro N xs) 4 29 13 [.ref 1, .retAddr 4, am_un] [] (wd c a l f) _
    rw [decide_eq_true hq, Bool.true_and]
    refine am_wp_ok (inl := []) 3 4 29 [15] _ _ _ _ _ ?_
    exact sy_1 h2 h3 hst ht hu hq 4 0 rfl
  · refine am_br_f (show ¬ nI 4 = nI (t - s) by rw [nI_eq (by omega) (by omega)]; exact hq) ?_
    rw [decide_eq_false hq, Bool.false_and]
    exact And.intro rfl (And.intro rfl rfl)
def vt_2 : Nat → Nat := fun j => ([60] : List Nat).getD j 0
set_option maxRecDepth 100000 in
set_option maxHeartbeats 4000000 in
theorem co1_2 {N : Nat} {xs : Nat → Int32} {hp : am_H} : am_run (wd_ro N xs) 1 148 [.retAddr 6] hp (some (.int 0)) hp := by
  refine am_run_of rfl (am_wp_ok (inl := []) 12 0 148 [] 0 _ _ _ _ ?_)
  refine am_br_f (show ¬ (1 : Int32) = 0 by decide) ?_
  exact And.intro rfl (And.intro rfl rfl)
set_option maxRecDepth 100000 in
set_option maxHeartbeats 4000000 in
theorem la1_2 {N : Nat} {xs : Nat → Int32} {hp : am_H} : am_run (wd_ro N xs) 1 150 [.retAddr 6] hp (some (.int 1)) hp := by
  refine am_run_of rfl (am_wp_ok (inl := []) 12 0 150 [] 0 _ _ _ _ ?_)
  refine am_br_f (show ¬ (1 : Int32) = 0 by decide) ?_
  refine am_br_f (show ¬ ¬ (0 : Int32) = 0 from fun z => z rfl) ?_
  exact And.intro rfl (And.intro rfl rfl)
set_option maxRecDepth 100000 in
set_option maxHeartbeats 4000000 in
theorem sl_2 {N : Nat} {xs : Nat → Int32} {hp : am_H} : am_run (wd_ro N xs) 2 147 [.retAddr 6] hp (some (.int (nI 1))) hp := by
  refine am_run_of rfl (am_wp_ok (inl := []) 6 1 147 [9] 0 _ _ _ _ ?_)
  refine ⟨_, _, co1_2, ?_⟩
  show am_T (wd_ro N xs) 1 147 9 [.retAddr 6] [.int 0, .int (nI 1)] hp _
  refine am_wp_ok (inl := []) 3 1 147 [] _ _ _ _ _ ?_
  exact And.intro rfl rfl
set_option maxRecDepth 100000 in
set_option maxHeartbeats 4000000 in
theorem sb_2_0 {N : Nat} {xs : Nat → Int32} {hp : am_H} : am_run (wd_ro N xs) 3 151 [.retAddr 7, .int (nI 0)] hp (some (.int (nI 60))) hp := by
  refine am_run_of rfl (am_wp_ok (inl := []) 5 2 151 [6] 0 _ _ _ _ ?_)
  refine ⟨_, _, sp_ci (show ¬ nI 0 < 0 by decide) (show nI 0 < nI 1 by decide), ?_⟩
  show am_T (wd_ro N xs) 2 151 6 [.retAddr 7, .int (nI 0)] [] hp _
  refine am_wp_ok (inl := []) 8 2 151 [] _ _ _ _ _ ?_
  refine And.intro (vp_in_nI (by decide) (by decide)) ?_
  exact And.intro rfl (And.intro rfl rfl)
set_option maxRecDepth 100000 in
set_option maxHeartbeats 4000000 in
theorem sc_2_0 {N : Nat} {xs : Nat → Int32} {hp : am_H} : am_run (wd_ro N xs) 4 149 [.retAddr 6, .int (nI 0)] hp (some (.int (nI 60))) hp := by
  refine am_run_of rfl (am_wp_ok (inl := []) 4 3 149 [4] 0 _ _ _ _ ?_)
  refine ⟨_, _, am_run_up la1_2 (by decide), ?_⟩
  show am_T (wd_ro N xs) 3 149 4 [.retAddr 6, .int (nI 0)] [.int 1] hp _
  refine am_wp_ok (inl := []) 8 3 149 [15] _ _ _ _ _ ?_
  refine am_br_f (show ¬ (1 : Int32) = 0 by decide) ?_
  refine ⟨_, _, sb_2_0, ?_⟩
  show am_T (wd_ro N xs) 3 149 15 [.retAddr 6, .int (nI 0)] [.int (nI 60)] hp _
  refine am_wp_ok (inl := []) 2 3 149 [] _ _ _ _ _ ?_
  exact And.intro rfl (And.intro rfl rfl)
theorem sc_2 {N : Nat} {xs : Nat → Int32} {hp : am_H} {j : Nat} (h : j < 1) : am_run (wd_ro N xs) 4 149 [.retAddr 6, .int (nI j)] hp (some (.int (nI (vt_2 j)))) hp := by
  match j, h with
  | 0, _ => exact sc_2_0
  | k + 1, h => omega
set_option maxRecDepth 100000 in
set_option maxHeartbeats 4000000 in
theorem sy_2 {N : Nat} {xs : Nat → Int32} {c : Bool} {a : Nat → Nat → Int32} {l : Nat → Int64} {f : Nat → Nat → Int32} {s t : Nat} {u : Nat → Nat} (h2 : f 1 2 = nI s) (h3 : f 1 3 = nI t) (hst : s ≤ t) (ht : t ≤ 900) (hu : ∀ q, q < t - s → a 2 (s + q) = nI (u q) ∧ u q < 256) (hT : 1 = t - s) : ∀ (m k : Nat), k + m = 1 → am_T (wd_ro N xs) 4 29 15 [.ref 1, .retAddr 6, .int (nI k)] [] (wd c a l f) (fun r hp' => r = some (.int (nI (al (fun q => decide (vt_2 q = u q)) k m).toNat)) ∧ hp' = wd c a l f) := by
  intro m
  induction m with
  | zero =>
    intro k h
    refine am_wp_ok (inl := []) 4 4 29 [20] _ _ _ _ _ ?_
    refine ⟨_, _, am_run_up sl_2 (by decide), ?_⟩
    show am_T (wd_ro N xs) 4 29 20 [.ref 1, .retAddr 6, .int (nI k)] [.int (nI 1), .int (nI k)] (wd c a l f) _
    refine am_wp_ok (inl := []) 4 4 29 [] _ _ _ _ _ ?_
    refine am_br_t (nI_le (by omega) (by omega)) ?_
    exact And.intro rfl (And.intro rfl rfl)
  | succ m ih =>
    intro k h
    have hk : vt_2 k < 256 := by
      have hk : k < 1 := by omega
      match k, hk with
      | 0, _ => exact (by decide)
      | q + 1, hk => omega
    obtain ⟨hu1, hu2⟩ := hu k (by omega)
    refine am_wp_ok (inl := []) 4 4 29 [20] _ _ _ _ _ ?_
    refine ⟨_, _, am_run_up sl_2 (by decide), ?_⟩
    show am_T (wd_ro N xs) 4 29 20 [.ref 1, .retAddr 6, .int (nI k)] [.int (nI 1), .int (nI k)] (wd c a l f) _
    refine am_wp_ok (inl := []) 4 4 29 [28] _ _ _ _ _ ?_
    refine am_br_f (nI_ge (by omega) (by omega)) ?_
    refine ⟨_, _, sc_2 (by omega), ?_⟩
    show am_T (wd_ro N xs) 4 29 28 [.ref 1, .retAddr 6, .int (nI k)] [.int (nI (vt_2 k))] (wd c a l f) _
    refine am_wp_ok (inl := []) 4 4 29 [33] _ _ _ _ _ ?_
    refine ⟨_, _, am_run_up (sp_byte_t h2 h3 hst ht (show k < t - s by omega)) (by decide), ?_⟩
    show am_T (wd_ro N xs) 4 29 33 [.ref 1, .retAddr 6, .int (nI k)] [.int (a 2 (s + k)), .int (nI (vt_2 k))] (wd c a l f) _
    rw [hu1]
    refine am_wp_ok (inl := []) 4 4 29 [38] _ _ _ _ _ ?_
    by_cases hq : vt_2 k = u k
    · refine am_br_t (show nI (vt_2 k) = nI (u k) by rw [hq]) ?_
      show am_T (wd_ro N xs) 4 29 38 [.ref 1, .retAddr 6, .int (nI k)] [] (wd c a l f) _
      refine am_wp_ok (inl := []) 4 4 29 [15] _ _ _ _ _ ?_
      show am_T (wd_ro N xs) 4 29 15 [.ref 1, .retAddr 6, .int (nI k + 1)] [] (wd c a l f) _
      rw [nI_1, al_t (decide_eq_true hq)]
      exact ih (k + 1) (by omega)
    · refine am_br_f (show ¬ nI (vt_2 k) = nI (u k) by rw [nI_eq (by omega) (by omega)]; exact hq) ?_
      rw [al_f (decide_eq_false hq)]
      exact And.intro rfl (And.intro rfl rfl)
set_option maxRecDepth 100000 in
set_option maxHeartbeats 4000000 in
theorem cs_says_2 {N : Nat} {xs : Nat → Int32} {c : Bool} {a : Nat → Nat → Int32} {l : Nat → Int64} {f : Nat → Nat → Int32} {s t : Nat} {u : Nat → Nat} (h2 : f 1 2 = nI s) (h3 : f 1 3 = nI t) (hst : s ≤ t) (ht : t ≤ 900) (hu : ∀ q, q < t - s → a 2 (s + q) = nI (u q) ∧ u q < 256) : am_run (wd_ro N xs) 5 29 [.ref 1, .retAddr 6] (wd c a l f) (some (.int (nI (sw u (t - s) vt_2 1).toNat))) (wd c a l f) := by
  refine am_run_of rfl (am_wp_ok (inl := []) 3 4 29 [4] 0 _ _ _ _ ?_)
  refine ⟨_, _, am_run_up sl_2 (by decide), ?_⟩
  show am_T (wd_ro N xs) 4 29 4 [.ref 1, .retAddr 6, am_un] [.int (nI 1)] (wd c a l f) _
  refine am_wp_ok (inl := []) 3 4 29 [8] _ _ _ _ _ ?_
  refine ⟨_, _, am_run_up (sp_len h2 h3 hst) (by decide), ?_⟩
  show am_T (wd_ro N xs) 4 29 8 [.ref 1, .retAddr 6, am_un] [.int (nI (t - s)), .int (nI 1)] (wd c a l f) _
  refine am_wp_ok (inl := []) 4 4 29 [13] _ _ _ _ _ ?_
  unfold sw
  by_cases hq : 1 = t - s
  · refine am_br_t (show nI 1 = nI (t - s) by rw [← hq]) ?_
    show am_T (wd_ro N xs) 4 29 13 [.ref 1, .retAddr 6, am_un] [] (wd c a l f) _
    rw [decide_eq_true hq, Bool.true_and]
    refine am_wp_ok (inl := []) 3 4 29 [15] _ _ _ _ _ ?_
    exact sy_2 h2 h3 hst ht hu hq 1 0 rfl
  · refine am_br_f (show ¬ nI 1 = nI (t - s) by rw [nI_eq (by omega) (by omega)]; exact hq) ?_
    rw [decide_eq_false hq, Bool.false_and]
    exact And.intro rfl (And.intro rfl rfl)
def vt_3 : Nat → Nat := fun j => ([61] : List Nat).getD j 0
set_option maxRecDepth 100000 in
set_option maxHeartbeats 4000000 in
theorem co1_3 {N : Nat} {xs : Nat → Int32} {hp : am_H} : am_run (wd_ro N xs) 1 148 [.retAddr 8] hp (some (.int 0)) hp := by
  refine am_run_of rfl (am_wp_ok (inl := []) 12 0 148 [] 0 _ _ _ _ ?_)
  refine am_br_f (show ¬ (1 : Int32) = 0 by decide) ?_
  exact And.intro rfl (And.intro rfl rfl)
set_option maxRecDepth 100000 in
set_option maxHeartbeats 4000000 in
theorem la1_3 {N : Nat} {xs : Nat → Int32} {hp : am_H} : am_run (wd_ro N xs) 1 150 [.retAddr 8] hp (some (.int 1)) hp := by
  refine am_run_of rfl (am_wp_ok (inl := []) 12 0 150 [] 0 _ _ _ _ ?_)
  refine am_br_f (show ¬ (1 : Int32) = 0 by decide) ?_
  refine am_br_f (show ¬ ¬ (0 : Int32) = 0 from fun z => z rfl) ?_
  exact And.intro rfl (And.intro rfl rfl)
set_option maxRecDepth 100000 in
set_option maxHeartbeats 4000000 in
theorem sl_3 {N : Nat} {xs : Nat → Int32} {hp : am_H} : am_run (wd_ro N xs) 2 147 [.retAddr 8] hp (some (.int (nI 1))) hp := by
  refine am_run_of rfl (am_wp_ok (inl := []) 6 1 147 [9] 0 _ _ _ _ ?_)
  refine ⟨_, _, co1_3, ?_⟩
  show am_T (wd_ro N xs) 1 147 9 [.retAddr 8] [.int 0, .int (nI 1)] hp _
  refine am_wp_ok (inl := []) 3 1 147 [] _ _ _ _ _ ?_
  exact And.intro rfl rfl
set_option maxRecDepth 100000 in
set_option maxHeartbeats 4000000 in
theorem sb_3_0 {N : Nat} {xs : Nat → Int32} {hp : am_H} : am_run (wd_ro N xs) 3 151 [.retAddr 9, .int (nI 0)] hp (some (.int (nI 61))) hp := by
  refine am_run_of rfl (am_wp_ok (inl := []) 5 2 151 [6] 0 _ _ _ _ ?_)
  refine ⟨_, _, sp_ci (show ¬ nI 0 < 0 by decide) (show nI 0 < nI 1 by decide), ?_⟩
  show am_T (wd_ro N xs) 2 151 6 [.retAddr 9, .int (nI 0)] [] hp _
  refine am_wp_ok (inl := []) 8 2 151 [] _ _ _ _ _ ?_
  refine And.intro (vp_in_nI (by decide) (by decide)) ?_
  exact And.intro rfl (And.intro rfl rfl)
set_option maxRecDepth 100000 in
set_option maxHeartbeats 4000000 in
theorem sc_3_0 {N : Nat} {xs : Nat → Int32} {hp : am_H} : am_run (wd_ro N xs) 4 149 [.retAddr 8, .int (nI 0)] hp (some (.int (nI 61))) hp := by
  refine am_run_of rfl (am_wp_ok (inl := []) 4 3 149 [4] 0 _ _ _ _ ?_)
  refine ⟨_, _, am_run_up la1_3 (by decide), ?_⟩
  show am_T (wd_ro N xs) 3 149 4 [.retAddr 8, .int (nI 0)] [.int 1] hp _
  refine am_wp_ok (inl := []) 8 3 149 [15] _ _ _ _ _ ?_
  refine am_br_f (show ¬ (1 : Int32) = 0 by decide) ?_
  refine ⟨_, _, sb_3_0, ?_⟩
  show am_T (wd_ro N xs) 3 149 15 [.retAddr 8, .int (nI 0)] [.int (nI 61)] hp _
  refine am_wp_ok (inl := []) 2 3 149 [] _ _ _ _ _ ?_
  exact And.intro rfl (And.intro rfl rfl)
theorem sc_3 {N : Nat} {xs : Nat → Int32} {hp : am_H} {j : Nat} (h : j < 1) : am_run (wd_ro N xs) 4 149 [.retAddr 8, .int (nI j)] hp (some (.int (nI (vt_3 j)))) hp := by
  match j, h with
  | 0, _ => exact sc_3_0
  | k + 1, h => omega
set_option maxRecDepth 100000 in
set_option maxHeartbeats 4000000 in
theorem sy_3 {N : Nat} {xs : Nat → Int32} {c : Bool} {a : Nat → Nat → Int32} {l : Nat → Int64} {f : Nat → Nat → Int32} {s t : Nat} {u : Nat → Nat} (h2 : f 1 2 = nI s) (h3 : f 1 3 = nI t) (hst : s ≤ t) (ht : t ≤ 900) (hu : ∀ q, q < t - s → a 2 (s + q) = nI (u q) ∧ u q < 256) (hT : 1 = t - s) : ∀ (m k : Nat), k + m = 1 → am_T (wd_ro N xs) 4 29 15 [.ref 1, .retAddr 8, .int (nI k)] [] (wd c a l f) (fun r hp' => r = some (.int (nI (al (fun q => decide (vt_3 q = u q)) k m).toNat)) ∧ hp' = wd c a l f) := by
  intro m
  induction m with
  | zero =>
    intro k h
    refine am_wp_ok (inl := []) 4 4 29 [20] _ _ _ _ _ ?_
    refine ⟨_, _, am_run_up sl_3 (by decide), ?_⟩
    show am_T (wd_ro N xs) 4 29 20 [.ref 1, .retAddr 8, .int (nI k)] [.int (nI 1), .int (nI k)] (wd c a l f) _
    refine am_wp_ok (inl := []) 4 4 29 [] _ _ _ _ _ ?_
    refine am_br_t (nI_le (by omega) (by omega)) ?_
    exact And.intro rfl (And.intro rfl rfl)
  | succ m ih =>
    intro k h
    have hk : vt_3 k < 256 := by
      have hk : k < 1 := by omega
      match k, hk with
      | 0, _ => exact (by decide)
      | q + 1, hk => omega
    obtain ⟨hu1, hu2⟩ := hu k (by omega)
    refine am_wp_ok (inl := []) 4 4 29 [20] _ _ _ _ _ ?_
    refine ⟨_, _, am_run_up sl_3 (by decide), ?_⟩
    show am_T (wd_ro N xs) 4 29 20 [.ref 1, .retAddr 8, .int (nI k)] [.int (nI 1), .int (nI k)] (wd c a l f) _
    refine am_wp_ok (inl := []) 4 4 29 [28] _ _ _ _ _ ?_
    refine am_br_f (nI_ge (by omega) (by omega)) ?_
    refine ⟨_, _, sc_3 (by omega), ?_⟩
    show am_T (wd_ro N xs) 4 29 28 [.ref 1, .retAddr 8, .int (nI k)] [.int (nI (vt_3 k))] (wd c a l f) _
    refine am_wp_ok (inl := []) 4 4 29 [33] _ _ _ _ _ ?_
    refine ⟨_, _, am_run_up (sp_byte_t h2 h3 hst ht (show k < t - s by omega)) (by decide), ?_⟩
    show am_T (wd_ro N xs) 4 29 33 [.ref 1, .retAddr 8, .int (nI k)] [.int (a 2 (s + k)), .int (nI (vt_3 k))] (wd c a l f) _
    rw [hu1]
    refine am_wp_ok (inl := []) 4 4 29 [38] _ _ _ _ _ ?_
    by_cases hq : vt_3 k = u k
    · refine am_br_t (show nI (vt_3 k) = nI (u k) by rw [hq]) ?_
      show am_T (wd_ro N xs) 4 29 38 [.ref 1, .retAddr 8, .int (nI k)] [] (wd c a l f) _
      refine am_wp_ok (inl := []) 4 4 29 [15] _ _ _ _ _ ?_
      show am_T (wd_ro N xs) 4 29 15 [.ref 1, .retAddr 8, .int (nI k + 1)] [] (wd c a l f) _
      rw [nI_1, al_t (decide_eq_true hq)]
      exact ih (k + 1) (by omega)
    · refine am_br_f (show ¬ nI (vt_3 k) = nI (u k) by rw [nI_eq (by omega) (by omega)]; exact hq) ?_
      rw [al_f (decide_eq_false hq)]
      exact And.intro rfl (And.intro rfl rfl)
set_option maxRecDepth 100000 in
set_option maxHeartbeats 4000000 in
theorem cs_says_3 {N : Nat} {xs : Nat → Int32} {c : Bool} {a : Nat → Nat → Int32} {l : Nat → Int64} {f : Nat → Nat → Int32} {s t : Nat} {u : Nat → Nat} (h2 : f 1 2 = nI s) (h3 : f 1 3 = nI t) (hst : s ≤ t) (ht : t ≤ 900) (hu : ∀ q, q < t - s → a 2 (s + q) = nI (u q) ∧ u q < 256) : am_run (wd_ro N xs) 5 29 [.ref 1, .retAddr 8] (wd c a l f) (some (.int (nI (sw u (t - s) vt_3 1).toNat))) (wd c a l f) := by
  refine am_run_of rfl (am_wp_ok (inl := []) 3 4 29 [4] 0 _ _ _ _ ?_)
  refine ⟨_, _, am_run_up sl_3 (by decide), ?_⟩
  show am_T (wd_ro N xs) 4 29 4 [.ref 1, .retAddr 8, am_un] [.int (nI 1)] (wd c a l f) _
  refine am_wp_ok (inl := []) 3 4 29 [8] _ _ _ _ _ ?_
  refine ⟨_, _, am_run_up (sp_len h2 h3 hst) (by decide), ?_⟩
  show am_T (wd_ro N xs) 4 29 8 [.ref 1, .retAddr 8, am_un] [.int (nI (t - s)), .int (nI 1)] (wd c a l f) _
  refine am_wp_ok (inl := []) 4 4 29 [13] _ _ _ _ _ ?_
  unfold sw
  by_cases hq : 1 = t - s
  · refine am_br_t (show nI 1 = nI (t - s) by rw [← hq]) ?_
    show am_T (wd_ro N xs) 4 29 13 [.ref 1, .retAddr 8, am_un] [] (wd c a l f) _
    rw [decide_eq_true hq, Bool.true_and]
    refine am_wp_ok (inl := []) 3 4 29 [15] _ _ _ _ _ ?_
    exact sy_3 h2 h3 hst ht hu hq 1 0 rfl
  · refine am_br_f (show ¬ nI 1 = nI (t - s) by rw [nI_eq (by omega) (by omega)]; exact hq) ?_
    rw [decide_eq_false hq, Bool.false_and]
    exact And.intro rfl (And.intro rfl rfl)
def vt_4 : Nat → Nat := fun j => ([62] : List Nat).getD j 0
set_option maxRecDepth 100000 in
set_option maxHeartbeats 4000000 in
theorem co1_4 {N : Nat} {xs : Nat → Int32} {hp : am_H} : am_run (wd_ro N xs) 1 148 [.retAddr 10] hp (some (.int 0)) hp := by
  refine am_run_of rfl (am_wp_ok (inl := []) 12 0 148 [] 0 _ _ _ _ ?_)
  refine am_br_f (show ¬ (1 : Int32) = 0 by decide) ?_
  exact And.intro rfl (And.intro rfl rfl)
set_option maxRecDepth 100000 in
set_option maxHeartbeats 4000000 in
theorem la1_4 {N : Nat} {xs : Nat → Int32} {hp : am_H} : am_run (wd_ro N xs) 1 150 [.retAddr 10] hp (some (.int 1)) hp := by
  refine am_run_of rfl (am_wp_ok (inl := []) 12 0 150 [] 0 _ _ _ _ ?_)
  refine am_br_f (show ¬ (1 : Int32) = 0 by decide) ?_
  refine am_br_f (show ¬ ¬ (0 : Int32) = 0 from fun z => z rfl) ?_
  exact And.intro rfl (And.intro rfl rfl)
set_option maxRecDepth 100000 in
set_option maxHeartbeats 4000000 in
theorem sl_4 {N : Nat} {xs : Nat → Int32} {hp : am_H} : am_run (wd_ro N xs) 2 147 [.retAddr 10] hp (some (.int (nI 1))) hp := by
  refine am_run_of rfl (am_wp_ok (inl := []) 6 1 147 [9] 0 _ _ _ _ ?_)
  refine ⟨_, _, co1_4, ?_⟩
  show am_T (wd_ro N xs) 1 147 9 [.retAddr 10] [.int 0, .int (nI 1)] hp _
  refine am_wp_ok (inl := []) 3 1 147 [] _ _ _ _ _ ?_
  exact And.intro rfl rfl
set_option maxRecDepth 100000 in
set_option maxHeartbeats 4000000 in
theorem sb_4_0 {N : Nat} {xs : Nat → Int32} {hp : am_H} : am_run (wd_ro N xs) 3 151 [.retAddr 11, .int (nI 0)] hp (some (.int (nI 62))) hp := by
  refine am_run_of rfl (am_wp_ok (inl := []) 5 2 151 [6] 0 _ _ _ _ ?_)
  refine ⟨_, _, sp_ci (show ¬ nI 0 < 0 by decide) (show nI 0 < nI 1 by decide), ?_⟩
  show am_T (wd_ro N xs) 2 151 6 [.retAddr 11, .int (nI 0)] [] hp _
  refine am_wp_ok (inl := []) 8 2 151 [] _ _ _ _ _ ?_
  refine And.intro (vp_in_nI (by decide) (by decide)) ?_
  exact And.intro rfl (And.intro rfl rfl)
set_option maxRecDepth 100000 in
set_option maxHeartbeats 4000000 in
theorem sc_4_0 {N : Nat} {xs : Nat → Int32} {hp : am_H} : am_run (wd_ro N xs) 4 149 [.retAddr 10, .int (nI 0)] hp (some (.int (nI 62))) hp := by
  refine am_run_of rfl (am_wp_ok (inl := []) 4 3 149 [4] 0 _ _ _ _ ?_)
  refine ⟨_, _, am_run_up la1_4 (by decide), ?_⟩
  show am_T (wd_ro N xs) 3 149 4 [.retAddr 10, .int (nI 0)] [.int 1] hp _
  refine am_wp_ok (inl := []) 8 3 149 [15] _ _ _ _ _ ?_
  refine am_br_f (show ¬ (1 : Int32) = 0 by decide) ?_
  refine ⟨_, _, sb_4_0, ?_⟩
  show am_T (wd_ro N xs) 3 149 15 [.retAddr 10, .int (nI 0)] [.int (nI 62)] hp _
  refine am_wp_ok (inl := []) 2 3 149 [] _ _ _ _ _ ?_
  exact And.intro rfl (And.intro rfl rfl)
theorem sc_4 {N : Nat} {xs : Nat → Int32} {hp : am_H} {j : Nat} (h : j < 1) : am_run (wd_ro N xs) 4 149 [.retAddr 10, .int (nI j)] hp (some (.int (nI (vt_4 j)))) hp := by
  match j, h with
  | 0, _ => exact sc_4_0
  | k + 1, h => omega
set_option maxRecDepth 100000 in
set_option maxHeartbeats 4000000 in
theorem sy_4 {N : Nat} {xs : Nat → Int32} {c : Bool} {a : Nat → Nat → Int32} {l : Nat → Int64} {f : Nat → Nat → Int32} {s t : Nat} {u : Nat → Nat} (h2 : f 1 2 = nI s) (h3 : f 1 3 = nI t) (hst : s ≤ t) (ht : t ≤ 900) (hu : ∀ q, q < t - s → a 2 (s + q) = nI (u q) ∧ u q < 256) (hT : 1 = t - s) : ∀ (m k : Nat), k + m = 1 → am_T (wd_ro N xs) 4 29 15 [.ref 1, .retAddr 10, .int (nI k)] [] (wd c a l f) (fun r hp' => r = some (.int (nI (al (fun q => decide (vt_4 q = u q)) k m).toNat)) ∧ hp' = wd c a l f) := by
  intro m
  induction m with
  | zero =>
    intro k h
    refine am_wp_ok (inl := []) 4 4 29 [20] _ _ _ _ _ ?_
    refine ⟨_, _, am_run_up sl_4 (by decide), ?_⟩
    show am_T (wd_ro N xs) 4 29 20 [.ref 1, .retAddr 10, .int (nI k)] [.int (nI 1), .int (nI k)] (wd c a l f) _
    refine am_wp_ok (inl := []) 4 4 29 [] _ _ _ _ _ ?_
    refine am_br_t (nI_le (by omega) (by omega)) ?_
    exact And.intro rfl (And.intro rfl rfl)
  | succ m ih =>
    intro k h
    have hk : vt_4 k < 256 := by
      have hk : k < 1 := by omega
      match k, hk with
      | 0, _ => exact (by decide)
      | q + 1, hk => omega
    obtain ⟨hu1, hu2⟩ := hu k (by omega)
    refine am_wp_ok (inl := []) 4 4 29 [20] _ _ _ _ _ ?_
    refine ⟨_, _, am_run_up sl_4 (by decide), ?_⟩
    show am_T (wd_ro N xs) 4 29 20 [.ref 1, .retAddr 10, .int (nI k)] [.int (nI 1), .int (nI k)] (wd c a l f) _
    refine am_wp_ok (inl := []) 4 4 29 [28] _ _ _ _ _ ?_
    refine am_br_f (nI_ge (by omega) (by omega)) ?_
    refine ⟨_, _, sc_4 (by omega), ?_⟩
    show am_T (wd_ro N xs) 4 29 28 [.ref 1, .retAddr 10, .int (nI k)] [.int (nI (vt_4 k))] (wd c a l f) _
    refine am_wp_ok (inl := []) 4 4 29 [33] _ _ _ _ _ ?_
    refine ⟨_, _, am_run_up (sp_byte_t h2 h3 hst ht (show k < t - s by omega)) (by decide), ?_⟩
    show am_T (wd_ro N xs) 4 29 33 [.ref 1, .retAddr 10, .int (nI k)] [.int (a 2 (s + k)), .int (nI (vt_4 k))] (wd c a l f) _
    rw [hu1]
    refine am_wp_ok (inl := []) 4 4 29 [38] _ _ _ _ _ ?_
    by_cases hq : vt_4 k = u k
    · refine am_br_t (show nI (vt_4 k) = nI (u k) by rw [hq]) ?_
      show am_T (wd_ro N xs) 4 29 38 [.ref 1, .retAddr 10, .int (nI k)] [] (wd c a l f) _
      refine am_wp_ok (inl := []) 4 4 29 [15] _ _ _ _ _ ?_
      show am_T (wd_ro N xs) 4 29 15 [.ref 1, .retAddr 10, .int (nI k + 1)] [] (wd c a l f) _
      rw [nI_1, al_t (decide_eq_true hq)]
      exact ih (k + 1) (by omega)
    · refine am_br_f (show ¬ nI (vt_4 k) = nI (u k) by rw [nI_eq (by omega) (by omega)]; exact hq) ?_
      rw [al_f (decide_eq_false hq)]
      exact And.intro rfl (And.intro rfl rfl)
set_option maxRecDepth 100000 in
set_option maxHeartbeats 4000000 in
theorem cs_says_4 {N : Nat} {xs : Nat → Int32} {c : Bool} {a : Nat → Nat → Int32} {l : Nat → Int64} {f : Nat → Nat → Int32} {s t : Nat} {u : Nat → Nat} (h2 : f 1 2 = nI s) (h3 : f 1 3 = nI t) (hst : s ≤ t) (ht : t ≤ 900) (hu : ∀ q, q < t - s → a 2 (s + q) = nI (u q) ∧ u q < 256) : am_run (wd_ro N xs) 5 29 [.ref 1, .retAddr 10] (wd c a l f) (some (.int (nI (sw u (t - s) vt_4 1).toNat))) (wd c a l f) := by
  refine am_run_of rfl (am_wp_ok (inl := []) 3 4 29 [4] 0 _ _ _ _ ?_)
  refine ⟨_, _, am_run_up sl_4 (by decide), ?_⟩
  show am_T (wd_ro N xs) 4 29 4 [.ref 1, .retAddr 10, am_un] [.int (nI 1)] (wd c a l f) _
  refine am_wp_ok (inl := []) 3 4 29 [8] _ _ _ _ _ ?_
  refine ⟨_, _, am_run_up (sp_len h2 h3 hst) (by decide), ?_⟩
  show am_T (wd_ro N xs) 4 29 8 [.ref 1, .retAddr 10, am_un] [.int (nI (t - s)), .int (nI 1)] (wd c a l f) _
  refine am_wp_ok (inl := []) 4 4 29 [13] _ _ _ _ _ ?_
  unfold sw
  by_cases hq : 1 = t - s
  · refine am_br_t (show nI 1 = nI (t - s) by rw [← hq]) ?_
    show am_T (wd_ro N xs) 4 29 13 [.ref 1, .retAddr 10, am_un] [] (wd c a l f) _
    rw [decide_eq_true hq, Bool.true_and]
    refine am_wp_ok (inl := []) 3 4 29 [15] _ _ _ _ _ ?_
    exact sy_4 h2 h3 hst ht hu hq 1 0 rfl
  · refine am_br_f (show ¬ nI 1 = nI (t - s) by rw [nI_eq (by omega) (by omega)]; exact hq) ?_
    rw [decide_eq_false hq, Bool.false_and]
    exact And.intro rfl (And.intro rfl rfl)
def vt_5 : Nat → Nat := fun j => ([103, 101, 110, 101, 114, 97, 108] : List Nat).getD j 0
set_option maxRecDepth 100000 in
set_option maxHeartbeats 4000000 in
theorem co1_5 {N : Nat} {xs : Nat → Int32} {hp : am_H} : am_run (wd_ro N xs) 1 148 [.retAddr 12] hp (some (.int 0)) hp := by
  refine am_run_of rfl (am_wp_ok (inl := []) 12 0 148 [] 0 _ _ _ _ ?_)
  refine am_br_f (show ¬ (1 : Int32) = 0 by decide) ?_
  exact And.intro rfl (And.intro rfl rfl)
set_option maxRecDepth 100000 in
set_option maxHeartbeats 4000000 in
theorem la1_5 {N : Nat} {xs : Nat → Int32} {hp : am_H} : am_run (wd_ro N xs) 1 150 [.retAddr 12] hp (some (.int 1)) hp := by
  refine am_run_of rfl (am_wp_ok (inl := []) 12 0 150 [] 0 _ _ _ _ ?_)
  refine am_br_f (show ¬ (1 : Int32) = 0 by decide) ?_
  refine am_br_f (show ¬ ¬ (0 : Int32) = 0 from fun z => z rfl) ?_
  exact And.intro rfl (And.intro rfl rfl)
set_option maxRecDepth 100000 in
set_option maxHeartbeats 4000000 in
theorem sl_5 {N : Nat} {xs : Nat → Int32} {hp : am_H} : am_run (wd_ro N xs) 2 147 [.retAddr 12] hp (some (.int (nI 7))) hp := by
  refine am_run_of rfl (am_wp_ok (inl := []) 6 1 147 [9] 0 _ _ _ _ ?_)
  refine ⟨_, _, co1_5, ?_⟩
  show am_T (wd_ro N xs) 1 147 9 [.retAddr 12] [.int 0, .int (nI 7)] hp _
  refine am_wp_ok (inl := []) 3 1 147 [] _ _ _ _ _ ?_
  exact And.intro rfl rfl
set_option maxRecDepth 100000 in
set_option maxHeartbeats 4000000 in
theorem sb_5_0 {N : Nat} {xs : Nat → Int32} {hp : am_H} : am_run (wd_ro N xs) 3 151 [.retAddr 13, .int (nI 0)] hp (some (.int (nI 103))) hp := by
  refine am_run_of rfl (am_wp_ok (inl := []) 5 2 151 [6] 0 _ _ _ _ ?_)
  refine ⟨_, _, sp_ci (show ¬ nI 0 < 0 by decide) (show nI 0 < nI 7 by decide), ?_⟩
  show am_T (wd_ro N xs) 2 151 6 [.retAddr 13, .int (nI 0)] [] hp _
  refine am_wp_ok (inl := []) 8 2 151 [] _ _ _ _ _ ?_
  refine And.intro (vp_in_nI (by decide) (by decide)) ?_
  exact And.intro rfl (And.intro rfl rfl)
set_option maxRecDepth 100000 in
set_option maxHeartbeats 4000000 in
theorem sc_5_0 {N : Nat} {xs : Nat → Int32} {hp : am_H} : am_run (wd_ro N xs) 4 149 [.retAddr 12, .int (nI 0)] hp (some (.int (nI 103))) hp := by
  refine am_run_of rfl (am_wp_ok (inl := []) 4 3 149 [4] 0 _ _ _ _ ?_)
  refine ⟨_, _, am_run_up la1_5 (by decide), ?_⟩
  show am_T (wd_ro N xs) 3 149 4 [.retAddr 12, .int (nI 0)] [.int 1] hp _
  refine am_wp_ok (inl := []) 8 3 149 [15] _ _ _ _ _ ?_
  refine am_br_f (show ¬ (1 : Int32) = 0 by decide) ?_
  refine ⟨_, _, sb_5_0, ?_⟩
  show am_T (wd_ro N xs) 3 149 15 [.retAddr 12, .int (nI 0)] [.int (nI 103)] hp _
  refine am_wp_ok (inl := []) 2 3 149 [] _ _ _ _ _ ?_
  exact And.intro rfl (And.intro rfl rfl)
set_option maxRecDepth 100000 in
set_option maxHeartbeats 4000000 in
theorem sb_5_1 {N : Nat} {xs : Nat → Int32} {hp : am_H} : am_run (wd_ro N xs) 3 151 [.retAddr 13, .int (nI 1)] hp (some (.int (nI 101))) hp := by
  refine am_run_of rfl (am_wp_ok (inl := []) 5 2 151 [6] 0 _ _ _ _ ?_)
  refine ⟨_, _, sp_ci (show ¬ nI 1 < 0 by decide) (show nI 1 < nI 7 by decide), ?_⟩
  show am_T (wd_ro N xs) 2 151 6 [.retAddr 13, .int (nI 1)] [] hp _
  refine am_wp_ok (inl := []) 8 2 151 [] _ _ _ _ _ ?_
  refine And.intro (vp_in_nI (by decide) (by decide)) ?_
  exact And.intro rfl (And.intro rfl rfl)
set_option maxRecDepth 100000 in
set_option maxHeartbeats 4000000 in
theorem sc_5_1 {N : Nat} {xs : Nat → Int32} {hp : am_H} : am_run (wd_ro N xs) 4 149 [.retAddr 12, .int (nI 1)] hp (some (.int (nI 101))) hp := by
  refine am_run_of rfl (am_wp_ok (inl := []) 4 3 149 [4] 0 _ _ _ _ ?_)
  refine ⟨_, _, am_run_up la1_5 (by decide), ?_⟩
  show am_T (wd_ro N xs) 3 149 4 [.retAddr 12, .int (nI 1)] [.int 1] hp _
  refine am_wp_ok (inl := []) 8 3 149 [15] _ _ _ _ _ ?_
  refine am_br_f (show ¬ (1 : Int32) = 0 by decide) ?_
  refine ⟨_, _, sb_5_1, ?_⟩
  show am_T (wd_ro N xs) 3 149 15 [.retAddr 12, .int (nI 1)] [.int (nI 101)] hp _
  refine am_wp_ok (inl := []) 2 3 149 [] _ _ _ _ _ ?_
  exact And.intro rfl (And.intro rfl rfl)
set_option maxRecDepth 100000 in
set_option maxHeartbeats 4000000 in
theorem sb_5_2 {N : Nat} {xs : Nat → Int32} {hp : am_H} : am_run (wd_ro N xs) 3 151 [.retAddr 13, .int (nI 2)] hp (some (.int (nI 110))) hp := by
  refine am_run_of rfl (am_wp_ok (inl := []) 5 2 151 [6] 0 _ _ _ _ ?_)
  refine ⟨_, _, sp_ci (show ¬ nI 2 < 0 by decide) (show nI 2 < nI 7 by decide), ?_⟩
  show am_T (wd_ro N xs) 2 151 6 [.retAddr 13, .int (nI 2)] [] hp _
  refine am_wp_ok (inl := []) 8 2 151 [] _ _ _ _ _ ?_
  refine And.intro (vp_in_nI (by decide) (by decide)) ?_
  exact And.intro rfl (And.intro rfl rfl)
set_option maxRecDepth 100000 in
set_option maxHeartbeats 4000000 in
theorem sc_5_2 {N : Nat} {xs : Nat → Int32} {hp : am_H} : am_run (wd_ro N xs) 4 149 [.retAddr 12, .int (nI 2)] hp (some (.int (nI 110))) hp := by
  refine am_run_of rfl (am_wp_ok (inl := []) 4 3 149 [4] 0 _ _ _ _ ?_)
  refine ⟨_, _, am_run_up la1_5 (by decide), ?_⟩
  show am_T (wd_ro N xs) 3 149 4 [.retAddr 12, .int (nI 2)] [.int 1] hp _
  refine am_wp_ok (inl := []) 8 3 149 [15] _ _ _ _ _ ?_
  refine am_br_f (show ¬ (1 : Int32) = 0 by decide) ?_
  refine ⟨_, _, sb_5_2, ?_⟩
  show am_T (wd_ro N xs) 3 149 15 [.retAddr 12, .int (nI 2)] [.int (nI 110)] hp _
  refine am_wp_ok (inl := []) 2 3 149 [] _ _ _ _ _ ?_
  exact And.intro rfl (And.intro rfl rfl)
set_option maxRecDepth 100000 in
set_option maxHeartbeats 4000000 in
theorem sb_5_3 {N : Nat} {xs : Nat → Int32} {hp : am_H} : am_run (wd_ro N xs) 3 151 [.retAddr 13, .int (nI 3)] hp (some (.int (nI 101))) hp := by
  refine am_run_of rfl (am_wp_ok (inl := []) 5 2 151 [6] 0 _ _ _ _ ?_)
  refine ⟨_, _, sp_ci (show ¬ nI 3 < 0 by decide) (show nI 3 < nI 7 by decide), ?_⟩
  show am_T (wd_ro N xs) 2 151 6 [.retAddr 13, .int (nI 3)] [] hp _
  refine am_wp_ok (inl := []) 8 2 151 [] _ _ _ _ _ ?_
  refine And.intro (vp_in_nI (by decide) (by decide)) ?_
  exact And.intro rfl (And.intro rfl rfl)
set_option maxRecDepth 100000 in
set_option maxHeartbeats 4000000 in
theorem sc_5_3 {N : Nat} {xs : Nat → Int32} {hp : am_H} : am_run (wd_ro N xs) 4 149 [.retAddr 12, .int (nI 3)] hp (some (.int (nI 101))) hp := by
  refine am_run_of rfl (am_wp_ok (inl := []) 4 3 149 [4] 0 _ _ _ _ ?_)
  refine ⟨_, _, am_run_up la1_5 (by decide), ?_⟩
  show am_T (wd_ro N xs) 3 149 4 [.retAddr 12, .int (nI 3)] [.int 1] hp _
  refine am_wp_ok (inl := []) 8 3 149 [15] _ _ _ _ _ ?_
  refine am_br_f (show ¬ (1 : Int32) = 0 by decide) ?_
  refine ⟨_, _, sb_5_3, ?_⟩
  show am_T (wd_ro N xs) 3 149 15 [.retAddr 12, .int (nI 3)] [.int (nI 101)] hp _
  refine am_wp_ok (inl := []) 2 3 149 [] _ _ _ _ _ ?_
  exact And.intro rfl (And.intro rfl rfl)
set_option maxRecDepth 100000 in
set_option maxHeartbeats 4000000 in
theorem sb_5_4 {N : Nat} {xs : Nat → Int32} {hp : am_H} : am_run (wd_ro N xs) 3 151 [.retAddr 13, .int (nI 4)] hp (some (.int (nI 114))) hp := by
  refine am_run_of rfl (am_wp_ok (inl := []) 5 2 151 [6] 0 _ _ _ _ ?_)
  refine ⟨_, _, sp_ci (show ¬ nI 4 < 0 by decide) (show nI 4 < nI 7 by decide), ?_⟩
  show am_T (wd_ro N xs) 2 151 6 [.retAddr 13, .int (nI 4)] [] hp _
  refine am_wp_ok (inl := []) 8 2 151 [] _ _ _ _ _ ?_
  refine And.intro (vp_in_nI (by decide) (by decide)) ?_
  exact And.intro rfl (And.intro rfl rfl)
set_option maxRecDepth 100000 in
set_option maxHeartbeats 4000000 in
theorem sc_5_4 {N : Nat} {xs : Nat → Int32} {hp : am_H} : am_run (wd_ro N xs) 4 149 [.retAddr 12, .int (nI 4)] hp (some (.int (nI 114))) hp := by
  refine am_run_of rfl (am_wp_ok (inl := []) 4 3 149 [4] 0 _ _ _ _ ?_)
  refine ⟨_, _, am_run_up la1_5 (by decide), ?_⟩
  show am_T (wd_ro N xs) 3 149 4 [.retAddr 12, .int (nI 4)] [.int 1] hp _
  refine am_wp_ok (inl := []) 8 3 149 [15] _ _ _ _ _ ?_
  refine am_br_f (show ¬ (1 : Int32) = 0 by decide) ?_
  refine ⟨_, _, sb_5_4, ?_⟩
  show am_T (wd_ro N xs) 3 149 15 [.retAddr 12, .int (nI 4)] [.int (nI 114)] hp _
  refine am_wp_ok (inl := []) 2 3 149 [] _ _ _ _ _ ?_
  exact And.intro rfl (And.intro rfl rfl)
set_option maxRecDepth 100000 in
set_option maxHeartbeats 4000000 in
theorem sb_5_5 {N : Nat} {xs : Nat → Int32} {hp : am_H} : am_run (wd_ro N xs) 3 151 [.retAddr 13, .int (nI 5)] hp (some (.int (nI 97))) hp := by
  refine am_run_of rfl (am_wp_ok (inl := []) 5 2 151 [6] 0 _ _ _ _ ?_)
  refine ⟨_, _, sp_ci (show ¬ nI 5 < 0 by decide) (show nI 5 < nI 7 by decide), ?_⟩
  show am_T (wd_ro N xs) 2 151 6 [.retAddr 13, .int (nI 5)] [] hp _
  refine am_wp_ok (inl := []) 8 2 151 [] _ _ _ _ _ ?_
  refine And.intro (vp_in_nI (by decide) (by decide)) ?_
  exact And.intro rfl (And.intro rfl rfl)
set_option maxRecDepth 100000 in
set_option maxHeartbeats 4000000 in
theorem sc_5_5 {N : Nat} {xs : Nat → Int32} {hp : am_H} : am_run (wd_ro N xs) 4 149 [.retAddr 12, .int (nI 5)] hp (some (.int (nI 97))) hp := by
  refine am_run_of rfl (am_wp_ok (inl := []) 4 3 149 [4] 0 _ _ _ _ ?_)
  refine ⟨_, _, am_run_up la1_5 (by decide), ?_⟩
  show am_T (wd_ro N xs) 3 149 4 [.retAddr 12, .int (nI 5)] [.int 1] hp _
  refine am_wp_ok (inl := []) 8 3 149 [15] _ _ _ _ _ ?_
  refine am_br_f (show ¬ (1 : Int32) = 0 by decide) ?_
  refine ⟨_, _, sb_5_5, ?_⟩
  show am_T (wd_ro N xs) 3 149 15 [.retAddr 12, .int (nI 5)] [.int (nI 97)] hp _
  refine am_wp_ok (inl := []) 2 3 149 [] _ _ _ _ _ ?_
  exact And.intro rfl (And.intro rfl rfl)
set_option maxRecDepth 100000 in
set_option maxHeartbeats 4000000 in
theorem sb_5_6 {N : Nat} {xs : Nat → Int32} {hp : am_H} : am_run (wd_ro N xs) 3 151 [.retAddr 13, .int (nI 6)] hp (some (.int (nI 108))) hp := by
  refine am_run_of rfl (am_wp_ok (inl := []) 5 2 151 [6] 0 _ _ _ _ ?_)
  refine ⟨_, _, sp_ci (show ¬ nI 6 < 0 by decide) (show nI 6 < nI 7 by decide), ?_⟩
  show am_T (wd_ro N xs) 2 151 6 [.retAddr 13, .int (nI 6)] [] hp _
  refine am_wp_ok (inl := []) 8 2 151 [] _ _ _ _ _ ?_
  refine And.intro (vp_in_nI (by decide) (by decide)) ?_
  exact And.intro rfl (And.intro rfl rfl)
set_option maxRecDepth 100000 in
set_option maxHeartbeats 4000000 in
theorem sc_5_6 {N : Nat} {xs : Nat → Int32} {hp : am_H} : am_run (wd_ro N xs) 4 149 [.retAddr 12, .int (nI 6)] hp (some (.int (nI 108))) hp := by
  refine am_run_of rfl (am_wp_ok (inl := []) 4 3 149 [4] 0 _ _ _ _ ?_)
  refine ⟨_, _, am_run_up la1_5 (by decide), ?_⟩
  show am_T (wd_ro N xs) 3 149 4 [.retAddr 12, .int (nI 6)] [.int 1] hp _
  refine am_wp_ok (inl := []) 8 3 149 [15] _ _ _ _ _ ?_
  refine am_br_f (show ¬ (1 : Int32) = 0 by decide) ?_
  refine ⟨_, _, sb_5_6, ?_⟩
  show am_T (wd_ro N xs) 3 149 15 [.retAddr 12, .int (nI 6)] [.int (nI 108)] hp _
  refine am_wp_ok (inl := []) 2 3 149 [] _ _ _ _ _ ?_
  exact And.intro rfl (And.intro rfl rfl)
theorem sc_5 {N : Nat} {xs : Nat → Int32} {hp : am_H} {j : Nat} (h : j < 7) : am_run (wd_ro N xs) 4 149 [.retAddr 12, .int (nI j)] hp (some (.int (nI (vt_5 j)))) hp := by
  match j, h with
  | 0, _ => exact sc_5_0
  | 1, _ => exact sc_5_1
  | 2, _ => exact sc_5_2
  | 3, _ => exact sc_5_3
  | 4, _ => exact sc_5_4
  | 5, _ => exact sc_5_5
  | 6, _ => exact sc_5_6
  | k + 7, h => omega
set_option maxRecDepth 100000 in
set_option maxHeartbeats 4000000 in
theorem sy_5 {N : Nat} {xs : Nat → Int32} {c : Bool} {a : Nat → Nat → Int32} {l : Nat → Int64} {f : Nat → Nat → Int32} {s t : Nat} {u : Nat → Nat} (h2 : f 1 2 = nI s) (h3 : f 1 3 = nI t) (hst : s ≤ t) (ht : t ≤ 900) (hu : ∀ q, q < t - s → a 2 (s + q) = nI (u q) ∧ u q < 256) (hT : 7 = t - s) : ∀ (m k : Nat), k + m = 7 → am_T (wd_ro N xs) 4 29 15 [.ref 1, .retAddr 12, .int (nI k)] [] (wd c a l f) (fun r hp' => r = some (.int (nI (al (fun q => decide (vt_5 q = u q)) k m).toNat)) ∧ hp' = wd c a l f) := by
  intro m
  induction m with
  | zero =>
    intro k h
    refine am_wp_ok (inl := []) 4 4 29 [20] _ _ _ _ _ ?_
    refine ⟨_, _, am_run_up sl_5 (by decide), ?_⟩
    show am_T (wd_ro N xs) 4 29 20 [.ref 1, .retAddr 12, .int (nI k)] [.int (nI 7), .int (nI k)] (wd c a l f) _
    refine am_wp_ok (inl := []) 4 4 29 [] _ _ _ _ _ ?_
    refine am_br_t (nI_le (by omega) (by omega)) ?_
    exact And.intro rfl (And.intro rfl rfl)
  | succ m ih =>
    intro k h
    have hk : vt_5 k < 256 := by
      have hk : k < 7 := by omega
      match k, hk with
      | 0, _ => exact (by decide)
      | 1, _ => exact (by decide)
      | 2, _ => exact (by decide)
      | 3, _ => exact (by decide)
      | 4, _ => exact (by decide)
      | 5, _ => exact (by decide)
      | 6, _ => exact (by decide)
      | q + 7, hk => omega
    obtain ⟨hu1, hu2⟩ := hu k (by omega)
    refine am_wp_ok (inl := []) 4 4 29 [20] _ _ _ _ _ ?_
    refine ⟨_, _, am_run_up sl_5 (by decide), ?_⟩
    show am_T (wd_ro N xs) 4 29 20 [.ref 1, .retAddr 12, .int (nI k)] [.int (nI 7), .int (nI k)] (wd c a l f) _
    refine am_wp_ok (inl := []) 4 4 29 [28] _ _ _ _ _ ?_
    refine am_br_f (nI_ge (by omega) (by omega)) ?_
    refine ⟨_, _, sc_5 (by omega), ?_⟩
    show am_T (wd_ro N xs) 4 29 28 [.ref 1, .retAddr 12, .int (nI k)] [.int (nI (vt_5 k))] (wd c a l f) _
    refine am_wp_ok (inl := []) 4 4 29 [33] _ _ _ _ _ ?_
    refine ⟨_, _, am_run_up (sp_byte_t h2 h3 hst ht (show k < t - s by omega)) (by decide), ?_⟩
    show am_T (wd_ro N xs) 4 29 33 [.ref 1, .retAddr 12, .int (nI k)] [.int (a 2 (s + k)), .int (nI (vt_5 k))] (wd c a l f) _
    rw [hu1]
    refine am_wp_ok (inl := []) 4 4 29 [38] _ _ _ _ _ ?_
    by_cases hq : vt_5 k = u k
    · refine am_br_t (show nI (vt_5 k) = nI (u k) by rw [hq]) ?_
      show am_T (wd_ro N xs) 4 29 38 [.ref 1, .retAddr 12, .int (nI k)] [] (wd c a l f) _
      refine am_wp_ok (inl := []) 4 4 29 [15] _ _ _ _ _ ?_
      show am_T (wd_ro N xs) 4 29 15 [.ref 1, .retAddr 12, .int (nI k + 1)] [] (wd c a l f) _
      rw [nI_1, al_t (decide_eq_true hq)]
      exact ih (k + 1) (by omega)
    · refine am_br_f (show ¬ nI (vt_5 k) = nI (u k) by rw [nI_eq (by omega) (by omega)]; exact hq) ?_
      rw [al_f (decide_eq_false hq)]
      exact And.intro rfl (And.intro rfl rfl)
set_option maxRecDepth 100000 in
set_option maxHeartbeats 4000000 in
theorem cs_says_5 {N : Nat} {xs : Nat → Int32} {c : Bool} {a : Nat → Nat → Int32} {l : Nat → Int64} {f : Nat → Nat → Int32} {s t : Nat} {u : Nat → Nat} (h2 : f 1 2 = nI s) (h3 : f 1 3 = nI t) (hst : s ≤ t) (ht : t ≤ 900) (hu : ∀ q, q < t - s → a 2 (s + q) = nI (u q) ∧ u q < 256) : am_run (wd_ro N xs) 5 29 [.ref 1, .retAddr 12] (wd c a l f) (some (.int (nI (sw u (t - s) vt_5 7).toNat))) (wd c a l f) := by
  refine am_run_of rfl (am_wp_ok (inl := []) 3 4 29 [4] 0 _ _ _ _ ?_)
  refine ⟨_, _, am_run_up sl_5 (by decide), ?_⟩
  show am_T (wd_ro N xs) 4 29 4 [.ref 1, .retAddr 12, am_un] [.int (nI 7)] (wd c a l f) _
  refine am_wp_ok (inl := []) 3 4 29 [8] _ _ _ _ _ ?_
  refine ⟨_, _, am_run_up (sp_len h2 h3 hst) (by decide), ?_⟩
  show am_T (wd_ro N xs) 4 29 8 [.ref 1, .retAddr 12, am_un] [.int (nI (t - s)), .int (nI 7)] (wd c a l f) _
  refine am_wp_ok (inl := []) 4 4 29 [13] _ _ _ _ _ ?_
  unfold sw
  by_cases hq : 7 = t - s
  · refine am_br_t (show nI 7 = nI (t - s) by rw [← hq]) ?_
    show am_T (wd_ro N xs) 4 29 13 [.ref 1, .retAddr 12, am_un] [] (wd c a l f) _
    rw [decide_eq_true hq, Bool.true_and]
    refine am_wp_ok (inl := []) 3 4 29 [15] _ _ _ _ _ ?_
    exact sy_5 h2 h3 hst ht hu hq 7 0 rfl
  · refine am_br_f (show ¬ nI 7 = nI (t - s) by rw [nI_eq (by omega) (by omega)]; exact hq) ?_
    rw [decide_eq_false hq, Bool.false_and]
    exact And.intro rfl (And.intro rfl rfl)
def vt_6 : Nat → Nat := fun j => ([109, 105, 114, 114, 111, 114] : List Nat).getD j 0
set_option maxRecDepth 100000 in
set_option maxHeartbeats 4000000 in
theorem co1_6 {N : Nat} {xs : Nat → Int32} {hp : am_H} : am_run (wd_ro N xs) 1 148 [.retAddr 14] hp (some (.int 0)) hp := by
  refine am_run_of rfl (am_wp_ok (inl := []) 12 0 148 [] 0 _ _ _ _ ?_)
  refine am_br_f (show ¬ (1 : Int32) = 0 by decide) ?_
  exact And.intro rfl (And.intro rfl rfl)
set_option maxRecDepth 100000 in
set_option maxHeartbeats 4000000 in
theorem la1_6 {N : Nat} {xs : Nat → Int32} {hp : am_H} : am_run (wd_ro N xs) 1 150 [.retAddr 14] hp (some (.int 1)) hp := by
  refine am_run_of rfl (am_wp_ok (inl := []) 12 0 150 [] 0 _ _ _ _ ?_)
  refine am_br_f (show ¬ (1 : Int32) = 0 by decide) ?_
  refine am_br_f (show ¬ ¬ (0 : Int32) = 0 from fun z => z rfl) ?_
  exact And.intro rfl (And.intro rfl rfl)
set_option maxRecDepth 100000 in
set_option maxHeartbeats 4000000 in
theorem sl_6 {N : Nat} {xs : Nat → Int32} {hp : am_H} : am_run (wd_ro N xs) 2 147 [.retAddr 14] hp (some (.int (nI 6))) hp := by
  refine am_run_of rfl (am_wp_ok (inl := []) 6 1 147 [9] 0 _ _ _ _ ?_)
  refine ⟨_, _, co1_6, ?_⟩
  show am_T (wd_ro N xs) 1 147 9 [.retAddr 14] [.int 0, .int (nI 6)] hp _
  refine am_wp_ok (inl := []) 3 1 147 [] _ _ _ _ _ ?_
  exact And.intro rfl rfl
set_option maxRecDepth 100000 in
set_option maxHeartbeats 4000000 in
theorem sb_6_0 {N : Nat} {xs : Nat → Int32} {hp : am_H} : am_run (wd_ro N xs) 3 151 [.retAddr 15, .int (nI 0)] hp (some (.int (nI 109))) hp := by
  refine am_run_of rfl (am_wp_ok (inl := []) 5 2 151 [6] 0 _ _ _ _ ?_)
  refine ⟨_, _, sp_ci (show ¬ nI 0 < 0 by decide) (show nI 0 < nI 6 by decide), ?_⟩
  show am_T (wd_ro N xs) 2 151 6 [.retAddr 15, .int (nI 0)] [] hp _
  refine am_wp_ok (inl := []) 8 2 151 [] _ _ _ _ _ ?_
  refine And.intro (vp_in_nI (by decide) (by decide)) ?_
  exact And.intro rfl (And.intro rfl rfl)
set_option maxRecDepth 100000 in
set_option maxHeartbeats 4000000 in
theorem sc_6_0 {N : Nat} {xs : Nat → Int32} {hp : am_H} : am_run (wd_ro N xs) 4 149 [.retAddr 14, .int (nI 0)] hp (some (.int (nI 109))) hp := by
  refine am_run_of rfl (am_wp_ok (inl := []) 4 3 149 [4] 0 _ _ _ _ ?_)
  refine ⟨_, _, am_run_up la1_6 (by decide), ?_⟩
  show am_T (wd_ro N xs) 3 149 4 [.retAddr 14, .int (nI 0)] [.int 1] hp _
  refine am_wp_ok (inl := []) 8 3 149 [15] _ _ _ _ _ ?_
  refine am_br_f (show ¬ (1 : Int32) = 0 by decide) ?_
  refine ⟨_, _, sb_6_0, ?_⟩
  show am_T (wd_ro N xs) 3 149 15 [.retAddr 14, .int (nI 0)] [.int (nI 109)] hp _
  refine am_wp_ok (inl := []) 2 3 149 [] _ _ _ _ _ ?_
  exact And.intro rfl (And.intro rfl rfl)
set_option maxRecDepth 100000 in
set_option maxHeartbeats 4000000 in
theorem sb_6_1 {N : Nat} {xs : Nat → Int32} {hp : am_H} : am_run (wd_ro N xs) 3 151 [.retAddr 15, .int (nI 1)] hp (some (.int (nI 105))) hp := by
  refine am_run_of rfl (am_wp_ok (inl := []) 5 2 151 [6] 0 _ _ _ _ ?_)
  refine ⟨_, _, sp_ci (show ¬ nI 1 < 0 by decide) (show nI 1 < nI 6 by decide), ?_⟩
  show am_T (wd_ro N xs) 2 151 6 [.retAddr 15, .int (nI 1)] [] hp _
  refine am_wp_ok (inl := []) 8 2 151 [] _ _ _ _ _ ?_
  refine And.intro (vp_in_nI (by decide) (by decide)) ?_
  exact And.intro rfl (And.intro rfl rfl)
set_option maxRecDepth 100000 in
set_option maxHeartbeats 4000000 in
theorem sc_6_1 {N : Nat} {xs : Nat → Int32} {hp : am_H} : am_run (wd_ro N xs) 4 149 [.retAddr 14, .int (nI 1)] hp (some (.int (nI 105))) hp := by
  refine am_run_of rfl (am_wp_ok (inl := []) 4 3 149 [4] 0 _ _ _ _ ?_)
  refine ⟨_, _, am_run_up la1_6 (by decide), ?_⟩
  show am_T (wd_ro N xs) 3 149 4 [.retAddr 14, .int (nI 1)] [.int 1] hp _
  refine am_wp_ok (inl := []) 8 3 149 [15] _ _ _ _ _ ?_
  refine am_br_f (show ¬ (1 : Int32) = 0 by decide) ?_
  refine ⟨_, _, sb_6_1, ?_⟩
  show am_T (wd_ro N xs) 3 149 15 [.retAddr 14, .int (nI 1)] [.int (nI 105)] hp _
  refine am_wp_ok (inl := []) 2 3 149 [] _ _ _ _ _ ?_
  exact And.intro rfl (And.intro rfl rfl)
set_option maxRecDepth 100000 in
set_option maxHeartbeats 4000000 in
theorem sb_6_2 {N : Nat} {xs : Nat → Int32} {hp : am_H} : am_run (wd_ro N xs) 3 151 [.retAddr 15, .int (nI 2)] hp (some (.int (nI 114))) hp := by
  refine am_run_of rfl (am_wp_ok (inl := []) 5 2 151 [6] 0 _ _ _ _ ?_)
  refine ⟨_, _, sp_ci (show ¬ nI 2 < 0 by decide) (show nI 2 < nI 6 by decide), ?_⟩
  show am_T (wd_ro N xs) 2 151 6 [.retAddr 15, .int (nI 2)] [] hp _
  refine am_wp_ok (inl := []) 8 2 151 [] _ _ _ _ _ ?_
  refine And.intro (vp_in_nI (by decide) (by decide)) ?_
  exact And.intro rfl (And.intro rfl rfl)
set_option maxRecDepth 100000 in
set_option maxHeartbeats 4000000 in
theorem sc_6_2 {N : Nat} {xs : Nat → Int32} {hp : am_H} : am_run (wd_ro N xs) 4 149 [.retAddr 14, .int (nI 2)] hp (some (.int (nI 114))) hp := by
  refine am_run_of rfl (am_wp_ok (inl := []) 4 3 149 [4] 0 _ _ _ _ ?_)
  refine ⟨_, _, am_run_up la1_6 (by decide), ?_⟩
  show am_T (wd_ro N xs) 3 149 4 [.retAddr 14, .int (nI 2)] [.int 1] hp _
  refine am_wp_ok (inl := []) 8 3 149 [15] _ _ _ _ _ ?_
  refine am_br_f (show ¬ (1 : Int32) = 0 by decide) ?_
  refine ⟨_, _, sb_6_2, ?_⟩
  show am_T (wd_ro N xs) 3 149 15 [.retAddr 14, .int (nI 2)] [.int (nI 114)] hp _
  refine am_wp_ok (inl := []) 2 3 149 [] _ _ _ _ _ ?_
  exact And.intro rfl (And.intro rfl rfl)
set_option maxRecDepth 100000 in
set_option maxHeartbeats 4000000 in
theorem sb_6_3 {N : Nat} {xs : Nat → Int32} {hp : am_H} : am_run (wd_ro N xs) 3 151 [.retAddr 15, .int (nI 3)] hp (some (.int (nI 114))) hp := by
  refine am_run_of rfl (am_wp_ok (inl := []) 5 2 151 [6] 0 _ _ _ _ ?_)
  refine ⟨_, _, sp_ci (show ¬ nI 3 < 0 by decide) (show nI 3 < nI 6 by decide), ?_⟩
  show am_T (wd_ro N xs) 2 151 6 [.retAddr 15, .int (nI 3)] [] hp _
  refine am_wp_ok (inl := []) 8 2 151 [] _ _ _ _ _ ?_
  refine And.intro (vp_in_nI (by decide) (by decide)) ?_
  exact And.intro rfl (And.intro rfl rfl)
set_option maxRecDepth 100000 in
set_option maxHeartbeats 4000000 in
theorem sc_6_3 {N : Nat} {xs : Nat → Int32} {hp : am_H} : am_run (wd_ro N xs) 4 149 [.retAddr 14, .int (nI 3)] hp (some (.int (nI 114))) hp := by
  refine am_run_of rfl (am_wp_ok (inl := []) 4 3 149 [4] 0 _ _ _ _ ?_)
  refine ⟨_, _, am_run_up la1_6 (by decide), ?_⟩
  show am_T (wd_ro N xs) 3 149 4 [.retAddr 14, .int (nI 3)] [.int 1] hp _
  refine am_wp_ok (inl := []) 8 3 149 [15] _ _ _ _ _ ?_
  refine am_br_f (show ¬ (1 : Int32) = 0 by decide) ?_
  refine ⟨_, _, sb_6_3, ?_⟩
  show am_T (wd_ro N xs) 3 149 15 [.retAddr 14, .int (nI 3)] [.int (nI 114)] hp _
  refine am_wp_ok (inl := []) 2 3 149 [] _ _ _ _ _ ?_
  exact And.intro rfl (And.intro rfl rfl)
set_option maxRecDepth 100000 in
set_option maxHeartbeats 4000000 in
theorem sb_6_4 {N : Nat} {xs : Nat → Int32} {hp : am_H} : am_run (wd_ro N xs) 3 151 [.retAddr 15, .int (nI 4)] hp (some (.int (nI 111))) hp := by
  refine am_run_of rfl (am_wp_ok (inl := []) 5 2 151 [6] 0 _ _ _ _ ?_)
  refine ⟨_, _, sp_ci (show ¬ nI 4 < 0 by decide) (show nI 4 < nI 6 by decide), ?_⟩
  show am_T (wd_ro N xs) 2 151 6 [.retAddr 15, .int (nI 4)] [] hp _
  refine am_wp_ok (inl := []) 8 2 151 [] _ _ _ _ _ ?_
  refine And.intro (vp_in_nI (by decide) (by decide)) ?_
  exact And.intro rfl (And.intro rfl rfl)
set_option maxRecDepth 100000 in
set_option maxHeartbeats 4000000 in
theorem sc_6_4 {N : Nat} {xs : Nat → Int32} {hp : am_H} : am_run (wd_ro N xs) 4 149 [.retAddr 14, .int (nI 4)] hp (some (.int (nI 111))) hp := by
  refine am_run_of rfl (am_wp_ok (inl := []) 4 3 149 [4] 0 _ _ _ _ ?_)
  refine ⟨_, _, am_run_up la1_6 (by decide), ?_⟩
  show am_T (wd_ro N xs) 3 149 4 [.retAddr 14, .int (nI 4)] [.int 1] hp _
  refine am_wp_ok (inl := []) 8 3 149 [15] _ _ _ _ _ ?_
  refine am_br_f (show ¬ (1 : Int32) = 0 by decide) ?_
  refine ⟨_, _, sb_6_4, ?_⟩
  show am_T (wd_ro N xs) 3 149 15 [.retAddr 14, .int (nI 4)] [.int (nI 111)] hp _
  refine am_wp_ok (inl := []) 2 3 149 [] _ _ _ _ _ ?_
  exact And.intro rfl (And.intro rfl rfl)
set_option maxRecDepth 100000 in
set_option maxHeartbeats 4000000 in
theorem sb_6_5 {N : Nat} {xs : Nat → Int32} {hp : am_H} : am_run (wd_ro N xs) 3 151 [.retAddr 15, .int (nI 5)] hp (some (.int (nI 114))) hp := by
  refine am_run_of rfl (am_wp_ok (inl := []) 5 2 151 [6] 0 _ _ _ _ ?_)
  refine ⟨_, _, sp_ci (show ¬ nI 5 < 0 by decide) (show nI 5 < nI 6 by decide), ?_⟩
  show am_T (wd_ro N xs) 2 151 6 [.retAddr 15, .int (nI 5)] [] hp _
  refine am_wp_ok (inl := []) 8 2 151 [] _ _ _ _ _ ?_
  refine And.intro (vp_in_nI (by decide) (by decide)) ?_
  exact And.intro rfl (And.intro rfl rfl)
set_option maxRecDepth 100000 in
set_option maxHeartbeats 4000000 in
theorem sc_6_5 {N : Nat} {xs : Nat → Int32} {hp : am_H} : am_run (wd_ro N xs) 4 149 [.retAddr 14, .int (nI 5)] hp (some (.int (nI 114))) hp := by
  refine am_run_of rfl (am_wp_ok (inl := []) 4 3 149 [4] 0 _ _ _ _ ?_)
  refine ⟨_, _, am_run_up la1_6 (by decide), ?_⟩
  show am_T (wd_ro N xs) 3 149 4 [.retAddr 14, .int (nI 5)] [.int 1] hp _
  refine am_wp_ok (inl := []) 8 3 149 [15] _ _ _ _ _ ?_
  refine am_br_f (show ¬ (1 : Int32) = 0 by decide) ?_
  refine ⟨_, _, sb_6_5, ?_⟩
  show am_T (wd_ro N xs) 3 149 15 [.retAddr 14, .int (nI 5)] [.int (nI 114)] hp _
  refine am_wp_ok (inl := []) 2 3 149 [] _ _ _ _ _ ?_
  exact And.intro rfl (And.intro rfl rfl)
theorem sc_6 {N : Nat} {xs : Nat → Int32} {hp : am_H} {j : Nat} (h : j < 6) : am_run (wd_ro N xs) 4 149 [.retAddr 14, .int (nI j)] hp (some (.int (nI (vt_6 j)))) hp := by
  match j, h with
  | 0, _ => exact sc_6_0
  | 1, _ => exact sc_6_1
  | 2, _ => exact sc_6_2
  | 3, _ => exact sc_6_3
  | 4, _ => exact sc_6_4
  | 5, _ => exact sc_6_5
  | k + 6, h => omega
set_option maxRecDepth 100000 in
set_option maxHeartbeats 4000000 in
theorem sy_6 {N : Nat} {xs : Nat → Int32} {c : Bool} {a : Nat → Nat → Int32} {l : Nat → Int64} {f : Nat → Nat → Int32} {s t : Nat} {u : Nat → Nat} (h2 : f 1 2 = nI s) (h3 : f 1 3 = nI t) (hst : s ≤ t) (ht : t ≤ 900) (hu : ∀ q, q < t - s → a 2 (s + q) = nI (u q) ∧ u q < 256) (hT : 6 = t - s) : ∀ (m k : Nat), k + m = 6 → am_T (wd_ro N xs) 4 29 15 [.ref 1, .retAddr 14, .int (nI k)] [] (wd c a l f) (fun r hp' => r = some (.int (nI (al (fun q => decide (vt_6 q = u q)) k m).toNat)) ∧ hp' = wd c a l f) := by
  intro m
  induction m with
  | zero =>
    intro k h
    refine am_wp_ok (inl := []) 4 4 29 [20] _ _ _ _ _ ?_
    refine ⟨_, _, am_run_up sl_6 (by decide), ?_⟩
    show am_T (wd_ro N xs) 4 29 20 [.ref 1, .retAddr 14, .int (nI k)] [.int (nI 6), .int (nI k)] (wd c a l f) _
    refine am_wp_ok (inl := []) 4 4 29 [] _ _ _ _ _ ?_
    refine am_br_t (nI_le (by omega) (by omega)) ?_
    exact And.intro rfl (And.intro rfl rfl)
  | succ m ih =>
    intro k h
    have hk : vt_6 k < 256 := by
      have hk : k < 6 := by omega
      match k, hk with
      | 0, _ => exact (by decide)
      | 1, _ => exact (by decide)
      | 2, _ => exact (by decide)
      | 3, _ => exact (by decide)
      | 4, _ => exact (by decide)
      | 5, _ => exact (by decide)
      | q + 6, hk => omega
    obtain ⟨hu1, hu2⟩ := hu k (by omega)
    refine am_wp_ok (inl := []) 4 4 29 [20] _ _ _ _ _ ?_
    refine ⟨_, _, am_run_up sl_6 (by decide), ?_⟩
    show am_T (wd_ro N xs) 4 29 20 [.ref 1, .retAddr 14, .int (nI k)] [.int (nI 6), .int (nI k)] (wd c a l f) _
    refine am_wp_ok (inl := []) 4 4 29 [28] _ _ _ _ _ ?_
    refine am_br_f (nI_ge (by omega) (by omega)) ?_
    refine ⟨_, _, sc_6 (by omega), ?_⟩
    show am_T (wd_ro N xs) 4 29 28 [.ref 1, .retAddr 14, .int (nI k)] [.int (nI (vt_6 k))] (wd c a l f) _
    refine am_wp_ok (inl := []) 4 4 29 [33] _ _ _ _ _ ?_
    refine ⟨_, _, am_run_up (sp_byte_t h2 h3 hst ht (show k < t - s by omega)) (by decide), ?_⟩
    show am_T (wd_ro N xs) 4 29 33 [.ref 1, .retAddr 14, .int (nI k)] [.int (a 2 (s + k)), .int (nI (vt_6 k))] (wd c a l f) _
    rw [hu1]
    refine am_wp_ok (inl := []) 4 4 29 [38] _ _ _ _ _ ?_
    by_cases hq : vt_6 k = u k
    · refine am_br_t (show nI (vt_6 k) = nI (u k) by rw [hq]) ?_
      show am_T (wd_ro N xs) 4 29 38 [.ref 1, .retAddr 14, .int (nI k)] [] (wd c a l f) _
      refine am_wp_ok (inl := []) 4 4 29 [15] _ _ _ _ _ ?_
      show am_T (wd_ro N xs) 4 29 15 [.ref 1, .retAddr 14, .int (nI k + 1)] [] (wd c a l f) _
      rw [nI_1, al_t (decide_eq_true hq)]
      exact ih (k + 1) (by omega)
    · refine am_br_f (show ¬ nI (vt_6 k) = nI (u k) by rw [nI_eq (by omega) (by omega)]; exact hq) ?_
      rw [al_f (decide_eq_false hq)]
      exact And.intro rfl (And.intro rfl rfl)
set_option maxRecDepth 100000 in
set_option maxHeartbeats 4000000 in
theorem cs_says_6 {N : Nat} {xs : Nat → Int32} {c : Bool} {a : Nat → Nat → Int32} {l : Nat → Int64} {f : Nat → Nat → Int32} {s t : Nat} {u : Nat → Nat} (h2 : f 1 2 = nI s) (h3 : f 1 3 = nI t) (hst : s ≤ t) (ht : t ≤ 900) (hu : ∀ q, q < t - s → a 2 (s + q) = nI (u q) ∧ u q < 256) : am_run (wd_ro N xs) 5 29 [.ref 1, .retAddr 14] (wd c a l f) (some (.int (nI (sw u (t - s) vt_6 6).toNat))) (wd c a l f) := by
  refine am_run_of rfl (am_wp_ok (inl := []) 3 4 29 [4] 0 _ _ _ _ ?_)
  refine ⟨_, _, am_run_up sl_6 (by decide), ?_⟩
  show am_T (wd_ro N xs) 4 29 4 [.ref 1, .retAddr 14, am_un] [.int (nI 6)] (wd c a l f) _
  refine am_wp_ok (inl := []) 3 4 29 [8] _ _ _ _ _ ?_
  refine ⟨_, _, am_run_up (sp_len h2 h3 hst) (by decide), ?_⟩
  show am_T (wd_ro N xs) 4 29 8 [.ref 1, .retAddr 14, am_un] [.int (nI (t - s)), .int (nI 6)] (wd c a l f) _
  refine am_wp_ok (inl := []) 4 4 29 [13] _ _ _ _ _ ?_
  unfold sw
  by_cases hq : 6 = t - s
  · refine am_br_t (show nI 6 = nI (t - s) by rw [← hq]) ?_
    show am_T (wd_ro N xs) 4 29 13 [.ref 1, .retAddr 14, am_un] [] (wd c a l f) _
    rw [decide_eq_true hq, Bool.true_and]
    refine am_wp_ok (inl := []) 3 4 29 [15] _ _ _ _ _ ?_
    exact sy_6 h2 h3 hst ht hu hq 6 0 rfl
  · refine am_br_f (show ¬ nI 6 = nI (t - s) by rw [nI_eq (by omega) (by omega)]; exact hq) ?_
    rw [decide_eq_false hq, Bool.false_and]
    exact And.intro rfl (And.intro rfl rfl)
def vt_7 : Nat → Nat := fun j => ([109, 97, 112] : List Nat).getD j 0
set_option maxRecDepth 100000 in
set_option maxHeartbeats 4000000 in
theorem co1_7 {N : Nat} {xs : Nat → Int32} {hp : am_H} : am_run (wd_ro N xs) 1 148 [.retAddr 16] hp (some (.int 0)) hp := by
  refine am_run_of rfl (am_wp_ok (inl := []) 12 0 148 [] 0 _ _ _ _ ?_)
  refine am_br_f (show ¬ (1 : Int32) = 0 by decide) ?_
  exact And.intro rfl (And.intro rfl rfl)
set_option maxRecDepth 100000 in
set_option maxHeartbeats 4000000 in
theorem la1_7 {N : Nat} {xs : Nat → Int32} {hp : am_H} : am_run (wd_ro N xs) 1 150 [.retAddr 16] hp (some (.int 1)) hp := by
  refine am_run_of rfl (am_wp_ok (inl := []) 12 0 150 [] 0 _ _ _ _ ?_)
  refine am_br_f (show ¬ (1 : Int32) = 0 by decide) ?_
  refine am_br_f (show ¬ ¬ (0 : Int32) = 0 from fun z => z rfl) ?_
  exact And.intro rfl (And.intro rfl rfl)
set_option maxRecDepth 100000 in
set_option maxHeartbeats 4000000 in
theorem sl_7 {N : Nat} {xs : Nat → Int32} {hp : am_H} : am_run (wd_ro N xs) 2 147 [.retAddr 16] hp (some (.int (nI 3))) hp := by
  refine am_run_of rfl (am_wp_ok (inl := []) 6 1 147 [9] 0 _ _ _ _ ?_)
  refine ⟨_, _, co1_7, ?_⟩
  show am_T (wd_ro N xs) 1 147 9 [.retAddr 16] [.int 0, .int (nI 3)] hp _
  refine am_wp_ok (inl := []) 3 1 147 [] _ _ _ _ _ ?_
  exact And.intro rfl rfl
set_option maxRecDepth 100000 in
set_option maxHeartbeats 4000000 in
theorem sb_7_0 {N : Nat} {xs : Nat → Int32} {hp : am_H} : am_run (wd_ro N xs) 3 151 [.retAddr 17, .int (nI 0)] hp (some (.int (nI 109))) hp := by
  refine am_run_of rfl (am_wp_ok (inl := []) 5 2 151 [6] 0 _ _ _ _ ?_)
  refine ⟨_, _, sp_ci (show ¬ nI 0 < 0 by decide) (show nI 0 < nI 3 by decide), ?_⟩
  show am_T (wd_ro N xs) 2 151 6 [.retAddr 17, .int (nI 0)] [] hp _
  refine am_wp_ok (inl := []) 8 2 151 [] _ _ _ _ _ ?_
  refine And.intro (vp_in_nI (by decide) (by decide)) ?_
  exact And.intro rfl (And.intro rfl rfl)
set_option maxRecDepth 100000 in
set_option maxHeartbeats 4000000 in
theorem sc_7_0 {N : Nat} {xs : Nat → Int32} {hp : am_H} : am_run (wd_ro N xs) 4 149 [.retAddr 16, .int (nI 0)] hp (some (.int (nI 109))) hp := by
  refine am_run_of rfl (am_wp_ok (inl := []) 4 3 149 [4] 0 _ _ _ _ ?_)
  refine ⟨_, _, am_run_up la1_7 (by decide), ?_⟩
  show am_T (wd_ro N xs) 3 149 4 [.retAddr 16, .int (nI 0)] [.int 1] hp _
  refine am_wp_ok (inl := []) 8 3 149 [15] _ _ _ _ _ ?_
  refine am_br_f (show ¬ (1 : Int32) = 0 by decide) ?_
  refine ⟨_, _, sb_7_0, ?_⟩
  show am_T (wd_ro N xs) 3 149 15 [.retAddr 16, .int (nI 0)] [.int (nI 109)] hp _
  refine am_wp_ok (inl := []) 2 3 149 [] _ _ _ _ _ ?_
  exact And.intro rfl (And.intro rfl rfl)
set_option maxRecDepth 100000 in
set_option maxHeartbeats 4000000 in
theorem sb_7_1 {N : Nat} {xs : Nat → Int32} {hp : am_H} : am_run (wd_ro N xs) 3 151 [.retAddr 17, .int (nI 1)] hp (some (.int (nI 97))) hp := by
  refine am_run_of rfl (am_wp_ok (inl := []) 5 2 151 [6] 0 _ _ _ _ ?_)
  refine ⟨_, _, sp_ci (show ¬ nI 1 < 0 by decide) (show nI 1 < nI 3 by decide), ?_⟩
  show am_T (wd_ro N xs) 2 151 6 [.retAddr 17, .int (nI 1)] [] hp _
  refine am_wp_ok (inl := []) 8 2 151 [] _ _ _ _ _ ?_
  refine And.intro (vp_in_nI (by decide) (by decide)) ?_
  exact And.intro rfl (And.intro rfl rfl)
set_option maxRecDepth 100000 in
set_option maxHeartbeats 4000000 in
theorem sc_7_1 {N : Nat} {xs : Nat → Int32} {hp : am_H} : am_run (wd_ro N xs) 4 149 [.retAddr 16, .int (nI 1)] hp (some (.int (nI 97))) hp := by
  refine am_run_of rfl (am_wp_ok (inl := []) 4 3 149 [4] 0 _ _ _ _ ?_)
  refine ⟨_, _, am_run_up la1_7 (by decide), ?_⟩
  show am_T (wd_ro N xs) 3 149 4 [.retAddr 16, .int (nI 1)] [.int 1] hp _
  refine am_wp_ok (inl := []) 8 3 149 [15] _ _ _ _ _ ?_
  refine am_br_f (show ¬ (1 : Int32) = 0 by decide) ?_
  refine ⟨_, _, sb_7_1, ?_⟩
  show am_T (wd_ro N xs) 3 149 15 [.retAddr 16, .int (nI 1)] [.int (nI 97)] hp _
  refine am_wp_ok (inl := []) 2 3 149 [] _ _ _ _ _ ?_
  exact And.intro rfl (And.intro rfl rfl)
set_option maxRecDepth 100000 in
set_option maxHeartbeats 4000000 in
theorem sb_7_2 {N : Nat} {xs : Nat → Int32} {hp : am_H} : am_run (wd_ro N xs) 3 151 [.retAddr 17, .int (nI 2)] hp (some (.int (nI 112))) hp := by
  refine am_run_of rfl (am_wp_ok (inl := []) 5 2 151 [6] 0 _ _ _ _ ?_)
  refine ⟨_, _, sp_ci (show ¬ nI 2 < 0 by decide) (show nI 2 < nI 3 by decide), ?_⟩
  show am_T (wd_ro N xs) 2 151 6 [.retAddr 17, .int (nI 2)] [] hp _
  refine am_wp_ok (inl := []) 8 2 151 [] _ _ _ _ _ ?_
  refine And.intro (vp_in_nI (by decide) (by decide)) ?_
  exact And.intro rfl (And.intro rfl rfl)
set_option maxRecDepth 100000 in
set_option maxHeartbeats 4000000 in
theorem sc_7_2 {N : Nat} {xs : Nat → Int32} {hp : am_H} : am_run (wd_ro N xs) 4 149 [.retAddr 16, .int (nI 2)] hp (some (.int (nI 112))) hp := by
  refine am_run_of rfl (am_wp_ok (inl := []) 4 3 149 [4] 0 _ _ _ _ ?_)
  refine ⟨_, _, am_run_up la1_7 (by decide), ?_⟩
  show am_T (wd_ro N xs) 3 149 4 [.retAddr 16, .int (nI 2)] [.int 1] hp _
  refine am_wp_ok (inl := []) 8 3 149 [15] _ _ _ _ _ ?_
  refine am_br_f (show ¬ (1 : Int32) = 0 by decide) ?_
  refine ⟨_, _, sb_7_2, ?_⟩
  show am_T (wd_ro N xs) 3 149 15 [.retAddr 16, .int (nI 2)] [.int (nI 112)] hp _
  refine am_wp_ok (inl := []) 2 3 149 [] _ _ _ _ _ ?_
  exact And.intro rfl (And.intro rfl rfl)
theorem sc_7 {N : Nat} {xs : Nat → Int32} {hp : am_H} {j : Nat} (h : j < 3) : am_run (wd_ro N xs) 4 149 [.retAddr 16, .int (nI j)] hp (some (.int (nI (vt_7 j)))) hp := by
  match j, h with
  | 0, _ => exact sc_7_0
  | 1, _ => exact sc_7_1
  | 2, _ => exact sc_7_2
  | k + 3, h => omega
set_option maxRecDepth 100000 in
set_option maxHeartbeats 4000000 in
theorem sy_7 {N : Nat} {xs : Nat → Int32} {c : Bool} {a : Nat → Nat → Int32} {l : Nat → Int64} {f : Nat → Nat → Int32} {s t : Nat} {u : Nat → Nat} (h2 : f 1 2 = nI s) (h3 : f 1 3 = nI t) (hst : s ≤ t) (ht : t ≤ 900) (hu : ∀ q, q < t - s → a 2 (s + q) = nI (u q) ∧ u q < 256) (hT : 3 = t - s) : ∀ (m k : Nat), k + m = 3 → am_T (wd_ro N xs) 4 29 15 [.ref 1, .retAddr 16, .int (nI k)] [] (wd c a l f) (fun r hp' => r = some (.int (nI (al (fun q => decide (vt_7 q = u q)) k m).toNat)) ∧ hp' = wd c a l f) := by
  intro m
  induction m with
  | zero =>
    intro k h
    refine am_wp_ok (inl := []) 4 4 29 [20] _ _ _ _ _ ?_
    refine ⟨_, _, am_run_up sl_7 (by decide), ?_⟩
    show am_T (wd_ro N xs) 4 29 20 [.ref 1, .retAddr 16, .int (nI k)] [.int (nI 3), .int (nI k)] (wd c a l f) _
    refine am_wp_ok (inl := []) 4 4 29 [] _ _ _ _ _ ?_
    refine am_br_t (nI_le (by omega) (by omega)) ?_
    exact And.intro rfl (And.intro rfl rfl)
  | succ m ih =>
    intro k h
    have hk : vt_7 k < 256 := by
      have hk : k < 3 := by omega
      match k, hk with
      | 0, _ => exact (by decide)
      | 1, _ => exact (by decide)
      | 2, _ => exact (by decide)
      | q + 3, hk => omega
    obtain ⟨hu1, hu2⟩ := hu k (by omega)
    refine am_wp_ok (inl := []) 4 4 29 [20] _ _ _ _ _ ?_
    refine ⟨_, _, am_run_up sl_7 (by decide), ?_⟩
    show am_T (wd_ro N xs) 4 29 20 [.ref 1, .retAddr 16, .int (nI k)] [.int (nI 3), .int (nI k)] (wd c a l f) _
    refine am_wp_ok (inl := []) 4 4 29 [28] _ _ _ _ _ ?_
    refine am_br_f (nI_ge (by omega) (by omega)) ?_
    refine ⟨_, _, sc_7 (by omega), ?_⟩
    show am_T (wd_ro N xs) 4 29 28 [.ref 1, .retAddr 16, .int (nI k)] [.int (nI (vt_7 k))] (wd c a l f) _
    refine am_wp_ok (inl := []) 4 4 29 [33] _ _ _ _ _ ?_
    refine ⟨_, _, am_run_up (sp_byte_t h2 h3 hst ht (show k < t - s by omega)) (by decide), ?_⟩
    show am_T (wd_ro N xs) 4 29 33 [.ref 1, .retAddr 16, .int (nI k)] [.int (a 2 (s + k)), .int (nI (vt_7 k))] (wd c a l f) _
    rw [hu1]
    refine am_wp_ok (inl := []) 4 4 29 [38] _ _ _ _ _ ?_
    by_cases hq : vt_7 k = u k
    · refine am_br_t (show nI (vt_7 k) = nI (u k) by rw [hq]) ?_
      show am_T (wd_ro N xs) 4 29 38 [.ref 1, .retAddr 16, .int (nI k)] [] (wd c a l f) _
      refine am_wp_ok (inl := []) 4 4 29 [15] _ _ _ _ _ ?_
      show am_T (wd_ro N xs) 4 29 15 [.ref 1, .retAddr 16, .int (nI k + 1)] [] (wd c a l f) _
      rw [nI_1, al_t (decide_eq_true hq)]
      exact ih (k + 1) (by omega)
    · refine am_br_f (show ¬ nI (vt_7 k) = nI (u k) by rw [nI_eq (by omega) (by omega)]; exact hq) ?_
      rw [al_f (decide_eq_false hq)]
      exact And.intro rfl (And.intro rfl rfl)
set_option maxRecDepth 100000 in
set_option maxHeartbeats 4000000 in
theorem cs_says_7 {N : Nat} {xs : Nat → Int32} {c : Bool} {a : Nat → Nat → Int32} {l : Nat → Int64} {f : Nat → Nat → Int32} {s t : Nat} {u : Nat → Nat} (h2 : f 1 2 = nI s) (h3 : f 1 3 = nI t) (hst : s ≤ t) (ht : t ≤ 900) (hu : ∀ q, q < t - s → a 2 (s + q) = nI (u q) ∧ u q < 256) : am_run (wd_ro N xs) 5 29 [.ref 1, .retAddr 16] (wd c a l f) (some (.int (nI (sw u (t - s) vt_7 3).toNat))) (wd c a l f) := by
  refine am_run_of rfl (am_wp_ok (inl := []) 3 4 29 [4] 0 _ _ _ _ ?_)
  refine ⟨_, _, am_run_up sl_7 (by decide), ?_⟩
  show am_T (wd_ro N xs) 4 29 4 [.ref 1, .retAddr 16, am_un] [.int (nI 3)] (wd c a l f) _
  refine am_wp_ok (inl := []) 3 4 29 [8] _ _ _ _ _ ?_
  refine ⟨_, _, am_run_up (sp_len h2 h3 hst) (by decide), ?_⟩
  show am_T (wd_ro N xs) 4 29 8 [.ref 1, .retAddr 16, am_un] [.int (nI (t - s)), .int (nI 3)] (wd c a l f) _
  refine am_wp_ok (inl := []) 4 4 29 [13] _ _ _ _ _ ?_
  unfold sw
  by_cases hq : 3 = t - s
  · refine am_br_t (show nI 3 = nI (t - s) by rw [← hq]) ?_
    show am_T (wd_ro N xs) 4 29 13 [.ref 1, .retAddr 16, am_un] [] (wd c a l f) _
    rw [decide_eq_true hq, Bool.true_and]
    refine am_wp_ok (inl := []) 3 4 29 [15] _ _ _ _ _ ?_
    exact sy_7 h2 h3 hst ht hu hq 3 0 rfl
  · refine am_br_f (show ¬ nI 3 = nI (t - s) by rw [nI_eq (by omega) (by omega)]; exact hq) ?_
    rw [decide_eq_false hq, Bool.false_and]
    exact And.intro rfl (And.intro rfl rfl)
def vt_8 : Nat → Nat := fun j => ([110, 97, 109, 101] : List Nat).getD j 0
set_option maxRecDepth 100000 in
set_option maxHeartbeats 4000000 in
theorem co1_8 {N : Nat} {xs : Nat → Int32} {hp : am_H} : am_run (wd_ro N xs) 1 148 [.retAddr 18] hp (some (.int 0)) hp := by
  refine am_run_of rfl (am_wp_ok (inl := []) 12 0 148 [] 0 _ _ _ _ ?_)
  refine am_br_f (show ¬ (1 : Int32) = 0 by decide) ?_
  exact And.intro rfl (And.intro rfl rfl)
set_option maxRecDepth 100000 in
set_option maxHeartbeats 4000000 in
theorem la1_8 {N : Nat} {xs : Nat → Int32} {hp : am_H} : am_run (wd_ro N xs) 1 150 [.retAddr 18] hp (some (.int 1)) hp := by
  refine am_run_of rfl (am_wp_ok (inl := []) 12 0 150 [] 0 _ _ _ _ ?_)
  refine am_br_f (show ¬ (1 : Int32) = 0 by decide) ?_
  refine am_br_f (show ¬ ¬ (0 : Int32) = 0 from fun z => z rfl) ?_
  exact And.intro rfl (And.intro rfl rfl)
set_option maxRecDepth 100000 in
set_option maxHeartbeats 4000000 in
theorem sl_8 {N : Nat} {xs : Nat → Int32} {hp : am_H} : am_run (wd_ro N xs) 2 147 [.retAddr 18] hp (some (.int (nI 4))) hp := by
  refine am_run_of rfl (am_wp_ok (inl := []) 6 1 147 [9] 0 _ _ _ _ ?_)
  refine ⟨_, _, co1_8, ?_⟩
  show am_T (wd_ro N xs) 1 147 9 [.retAddr 18] [.int 0, .int (nI 4)] hp _
  refine am_wp_ok (inl := []) 3 1 147 [] _ _ _ _ _ ?_
  exact And.intro rfl rfl
set_option maxRecDepth 100000 in
set_option maxHeartbeats 4000000 in
theorem sb_8_0 {N : Nat} {xs : Nat → Int32} {hp : am_H} : am_run (wd_ro N xs) 3 151 [.retAddr 19, .int (nI 0)] hp (some (.int (nI 110))) hp := by
  refine am_run_of rfl (am_wp_ok (inl := []) 5 2 151 [6] 0 _ _ _ _ ?_)
  refine ⟨_, _, sp_ci (show ¬ nI 0 < 0 by decide) (show nI 0 < nI 4 by decide), ?_⟩
  show am_T (wd_ro N xs) 2 151 6 [.retAddr 19, .int (nI 0)] [] hp _
  refine am_wp_ok (inl := []) 8 2 151 [] _ _ _ _ _ ?_
  refine And.intro (vp_in_nI (by decide) (by decide)) ?_
  exact And.intro rfl (And.intro rfl rfl)
set_option maxRecDepth 100000 in
set_option maxHeartbeats 4000000 in
theorem sc_8_0 {N : Nat} {xs : Nat → Int32} {hp : am_H} : am_run (wd_ro N xs) 4 149 [.retAddr 18, .int (nI 0)] hp (some (.int (nI 110))) hp := by
  refine am_run_of rfl (am_wp_ok (inl := []) 4 3 149 [4] 0 _ _ _ _ ?_)
  refine ⟨_, _, am_run_up la1_8 (by decide), ?_⟩
  show am_T (wd_ro N xs) 3 149 4 [.retAddr 18, .int (nI 0)] [.int 1] hp _
  refine am_wp_ok (inl := []) 8 3 149 [15] _ _ _ _ _ ?_
  refine am_br_f (show ¬ (1 : Int32) = 0 by decide) ?_
  refine ⟨_, _, sb_8_0, ?_⟩
  show am_T (wd_ro N xs) 3 149 15 [.retAddr 18, .int (nI 0)] [.int (nI 110)] hp _
  refine am_wp_ok (inl := []) 2 3 149 [] _ _ _ _ _ ?_
  exact And.intro rfl (And.intro rfl rfl)
set_option maxRecDepth 100000 in
set_option maxHeartbeats 4000000 in
theorem sb_8_1 {N : Nat} {xs : Nat → Int32} {hp : am_H} : am_run (wd_ro N xs) 3 151 [.retAddr 19, .int (nI 1)] hp (some (.int (nI 97))) hp := by
  refine am_run_of rfl (am_wp_ok (inl := []) 5 2 151 [6] 0 _ _ _ _ ?_)
  refine ⟨_, _, sp_ci (show ¬ nI 1 < 0 by decide) (show nI 1 < nI 4 by decide), ?_⟩
  show am_T (wd_ro N xs) 2 151 6 [.retAddr 19, .int (nI 1)] [] hp _
  refine am_wp_ok (inl := []) 8 2 151 [] _ _ _ _ _ ?_
  refine And.intro (vp_in_nI (by decide) (by decide)) ?_
  exact And.intro rfl (And.intro rfl rfl)
set_option maxRecDepth 100000 in
set_option maxHeartbeats 4000000 in
theorem sc_8_1 {N : Nat} {xs : Nat → Int32} {hp : am_H} : am_run (wd_ro N xs) 4 149 [.retAddr 18, .int (nI 1)] hp (some (.int (nI 97))) hp := by
  refine am_run_of rfl (am_wp_ok (inl := []) 4 3 149 [4] 0 _ _ _ _ ?_)
  refine ⟨_, _, am_run_up la1_8 (by decide), ?_⟩
  show am_T (wd_ro N xs) 3 149 4 [.retAddr 18, .int (nI 1)] [.int 1] hp _
  refine am_wp_ok (inl := []) 8 3 149 [15] _ _ _ _ _ ?_
  refine am_br_f (show ¬ (1 : Int32) = 0 by decide) ?_
  refine ⟨_, _, sb_8_1, ?_⟩
  show am_T (wd_ro N xs) 3 149 15 [.retAddr 18, .int (nI 1)] [.int (nI 97)] hp _
  refine am_wp_ok (inl := []) 2 3 149 [] _ _ _ _ _ ?_
  exact And.intro rfl (And.intro rfl rfl)
set_option maxRecDepth 100000 in
set_option maxHeartbeats 4000000 in
theorem sb_8_2 {N : Nat} {xs : Nat → Int32} {hp : am_H} : am_run (wd_ro N xs) 3 151 [.retAddr 19, .int (nI 2)] hp (some (.int (nI 109))) hp := by
  refine am_run_of rfl (am_wp_ok (inl := []) 5 2 151 [6] 0 _ _ _ _ ?_)
  refine ⟨_, _, sp_ci (show ¬ nI 2 < 0 by decide) (show nI 2 < nI 4 by decide), ?_⟩
  show am_T (wd_ro N xs) 2 151 6 [.retAddr 19, .int (nI 2)] [] hp _
  refine am_wp_ok (inl := []) 8 2 151 [] _ _ _ _ _ ?_
  refine And.intro (vp_in_nI (by decide) (by decide)) ?_
  exact And.intro rfl (And.intro rfl rfl)
set_option maxRecDepth 100000 in
set_option maxHeartbeats 4000000 in
theorem sc_8_2 {N : Nat} {xs : Nat → Int32} {hp : am_H} : am_run (wd_ro N xs) 4 149 [.retAddr 18, .int (nI 2)] hp (some (.int (nI 109))) hp := by
  refine am_run_of rfl (am_wp_ok (inl := []) 4 3 149 [4] 0 _ _ _ _ ?_)
  refine ⟨_, _, am_run_up la1_8 (by decide), ?_⟩
  show am_T (wd_ro N xs) 3 149 4 [.retAddr 18, .int (nI 2)] [.int 1] hp _
  refine am_wp_ok (inl := []) 8 3 149 [15] _ _ _ _ _ ?_
  refine am_br_f (show ¬ (1 : Int32) = 0 by decide) ?_
  refine ⟨_, _, sb_8_2, ?_⟩
  show am_T (wd_ro N xs) 3 149 15 [.retAddr 18, .int (nI 2)] [.int (nI 109)] hp _
  refine am_wp_ok (inl := []) 2 3 149 [] _ _ _ _ _ ?_
  exact And.intro rfl (And.intro rfl rfl)
set_option maxRecDepth 100000 in
set_option maxHeartbeats 4000000 in
theorem sb_8_3 {N : Nat} {xs : Nat → Int32} {hp : am_H} : am_run (wd_ro N xs) 3 151 [.retAddr 19, .int (nI 3)] hp (some (.int (nI 101))) hp := by
  refine am_run_of rfl (am_wp_ok (inl := []) 5 2 151 [6] 0 _ _ _ _ ?_)
  refine ⟨_, _, sp_ci (show ¬ nI 3 < 0 by decide) (show nI 3 < nI 4 by decide), ?_⟩
  show am_T (wd_ro N xs) 2 151 6 [.retAddr 19, .int (nI 3)] [] hp _
  refine am_wp_ok (inl := []) 8 2 151 [] _ _ _ _ _ ?_
  refine And.intro (vp_in_nI (by decide) (by decide)) ?_
  exact And.intro rfl (And.intro rfl rfl)
set_option maxRecDepth 100000 in
set_option maxHeartbeats 4000000 in
theorem sc_8_3 {N : Nat} {xs : Nat → Int32} {hp : am_H} : am_run (wd_ro N xs) 4 149 [.retAddr 18, .int (nI 3)] hp (some (.int (nI 101))) hp := by
  refine am_run_of rfl (am_wp_ok (inl := []) 4 3 149 [4] 0 _ _ _ _ ?_)
  refine ⟨_, _, am_run_up la1_8 (by decide), ?_⟩
  show am_T (wd_ro N xs) 3 149 4 [.retAddr 18, .int (nI 3)] [.int 1] hp _
  refine am_wp_ok (inl := []) 8 3 149 [15] _ _ _ _ _ ?_
  refine am_br_f (show ¬ (1 : Int32) = 0 by decide) ?_
  refine ⟨_, _, sb_8_3, ?_⟩
  show am_T (wd_ro N xs) 3 149 15 [.retAddr 18, .int (nI 3)] [.int (nI 101)] hp _
  refine am_wp_ok (inl := []) 2 3 149 [] _ _ _ _ _ ?_
  exact And.intro rfl (And.intro rfl rfl)
theorem sc_8 {N : Nat} {xs : Nat → Int32} {hp : am_H} {j : Nat} (h : j < 4) : am_run (wd_ro N xs) 4 149 [.retAddr 18, .int (nI j)] hp (some (.int (nI (vt_8 j)))) hp := by
  match j, h with
  | 0, _ => exact sc_8_0
  | 1, _ => exact sc_8_1
  | 2, _ => exact sc_8_2
  | 3, _ => exact sc_8_3
  | k + 4, h => omega
set_option maxRecDepth 100000 in
set_option maxHeartbeats 4000000 in
theorem sy_8 {N : Nat} {xs : Nat → Int32} {c : Bool} {a : Nat → Nat → Int32} {l : Nat → Int64} {f : Nat → Nat → Int32} {s t : Nat} {u : Nat → Nat} (h2 : f 1 2 = nI s) (h3 : f 1 3 = nI t) (hst : s ≤ t) (ht : t ≤ 900) (hu : ∀ q, q < t - s → a 2 (s + q) = nI (u q) ∧ u q < 256) (hT : 4 = t - s) : ∀ (m k : Nat), k + m = 4 → am_T (wd_ro N xs) 4 29 15 [.ref 1, .retAddr 18, .int (nI k)] [] (wd c a l f) (fun r hp' => r = some (.int (nI (al (fun q => decide (vt_8 q = u q)) k m).toNat)) ∧ hp' = wd c a l f) := by
  intro m
  induction m with
  | zero =>
    intro k h
    refine am_wp_ok (inl := []) 4 4 29 [20] _ _ _ _ _ ?_
    refine ⟨_, _, am_run_up sl_8 (by decide), ?_⟩
    show am_T (wd_ro N xs) 4 29 20 [.ref 1, .retAddr 18, .int (nI k)] [.int (nI 4), .int (nI k)] (wd c a l f) _
    refine am_wp_ok (inl := []) 4 4 29 [] _ _ _ _ _ ?_
    refine am_br_t (nI_le (by omega) (by omega)) ?_
    exact And.intro rfl (And.intro rfl rfl)
  | succ m ih =>
    intro k h
    have hk : vt_8 k < 256 := by
      have hk : k < 4 := by omega
      match k, hk with
      | 0, _ => exact (by decide)
      | 1, _ => exact (by decide)
      | 2, _ => exact (by decide)
      | 3, _ => exact (by decide)
      | q + 4, hk => omega
    obtain ⟨hu1, hu2⟩ := hu k (by omega)
    refine am_wp_ok (inl := []) 4 4 29 [20] _ _ _ _ _ ?_
    refine ⟨_, _, am_run_up sl_8 (by decide), ?_⟩
    show am_T (wd_ro N xs) 4 29 20 [.ref 1, .retAddr 18, .int (nI k)] [.int (nI 4), .int (nI k)] (wd c a l f) _
    refine am_wp_ok (inl := []) 4 4 29 [28] _ _ _ _ _ ?_
    refine am_br_f (nI_ge (by omega) (by omega)) ?_
    refine ⟨_, _, sc_8 (by omega), ?_⟩
    show am_T (wd_ro N xs) 4 29 28 [.ref 1, .retAddr 18, .int (nI k)] [.int (nI (vt_8 k))] (wd c a l f) _
    refine am_wp_ok (inl := []) 4 4 29 [33] _ _ _ _ _ ?_
    refine ⟨_, _, am_run_up (sp_byte_t h2 h3 hst ht (show k < t - s by omega)) (by decide), ?_⟩
    show am_T (wd_ro N xs) 4 29 33 [.ref 1, .retAddr 18, .int (nI k)] [.int (a 2 (s + k)), .int (nI (vt_8 k))] (wd c a l f) _
    rw [hu1]
    refine am_wp_ok (inl := []) 4 4 29 [38] _ _ _ _ _ ?_
    by_cases hq : vt_8 k = u k
    · refine am_br_t (show nI (vt_8 k) = nI (u k) by rw [hq]) ?_
      show am_T (wd_ro N xs) 4 29 38 [.ref 1, .retAddr 18, .int (nI k)] [] (wd c a l f) _
      refine am_wp_ok (inl := []) 4 4 29 [15] _ _ _ _ _ ?_
      show am_T (wd_ro N xs) 4 29 15 [.ref 1, .retAddr 18, .int (nI k + 1)] [] (wd c a l f) _
      rw [nI_1, al_t (decide_eq_true hq)]
      exact ih (k + 1) (by omega)
    · refine am_br_f (show ¬ nI (vt_8 k) = nI (u k) by rw [nI_eq (by omega) (by omega)]; exact hq) ?_
      rw [al_f (decide_eq_false hq)]
      exact And.intro rfl (And.intro rfl rfl)
set_option maxRecDepth 100000 in
set_option maxHeartbeats 4000000 in
theorem cs_says_8 {N : Nat} {xs : Nat → Int32} {c : Bool} {a : Nat → Nat → Int32} {l : Nat → Int64} {f : Nat → Nat → Int32} {s t : Nat} {u : Nat → Nat} (h2 : f 1 2 = nI s) (h3 : f 1 3 = nI t) (hst : s ≤ t) (ht : t ≤ 900) (hu : ∀ q, q < t - s → a 2 (s + q) = nI (u q) ∧ u q < 256) : am_run (wd_ro N xs) 5 29 [.ref 1, .retAddr 18] (wd c a l f) (some (.int (nI (sw u (t - s) vt_8 4).toNat))) (wd c a l f) := by
  refine am_run_of rfl (am_wp_ok (inl := []) 3 4 29 [4] 0 _ _ _ _ ?_)
  refine ⟨_, _, am_run_up sl_8 (by decide), ?_⟩
  show am_T (wd_ro N xs) 4 29 4 [.ref 1, .retAddr 18, am_un] [.int (nI 4)] (wd c a l f) _
  refine am_wp_ok (inl := []) 3 4 29 [8] _ _ _ _ _ ?_
  refine ⟨_, _, am_run_up (sp_len h2 h3 hst) (by decide), ?_⟩
  show am_T (wd_ro N xs) 4 29 8 [.ref 1, .retAddr 18, am_un] [.int (nI (t - s)), .int (nI 4)] (wd c a l f) _
  refine am_wp_ok (inl := []) 4 4 29 [13] _ _ _ _ _ ?_
  unfold sw
  by_cases hq : 4 = t - s
  · refine am_br_t (show nI 4 = nI (t - s) by rw [← hq]) ?_
    show am_T (wd_ro N xs) 4 29 13 [.ref 1, .retAddr 18, am_un] [] (wd c a l f) _
    rw [decide_eq_true hq, Bool.true_and]
    refine am_wp_ok (inl := []) 3 4 29 [15] _ _ _ _ _ ?_
    exact sy_8 h2 h3 hst ht hu hq 4 0 rfl
  · refine am_br_f (show ¬ nI 4 = nI (t - s) by rw [nI_eq (by omega) (by omega)]; exact hq) ?_
    rw [decide_eq_false hq, Bool.false_and]
    exact And.intro rfl (And.intro rfl rfl)
