/-! mirror -/
/-- what the first of the m places from k on gives -/
def ff (p : Nat → Bool) (g : Nat → Int32) : Nat → Nat → Int32
  | _, 0 => -1
  | k, m + 1 => bif p k then g k else ff p g (k + 1) m
theorem ff_eq {p p' : Nat → Bool} {g g' : Nat → Int32} : ∀ (m k : Nat), (∀ i, k ≤ i → i < k + m → p i = p' i ∧ g i = g' i) → ff p g k m = ff p' g' k m := by
  intro m
  induction m with
  | zero => intro k h; rfl
  | succ m ih =>
    intro k h
    show (bif p k then g k else ff p g (k + 1) m) = (bif p' k then g' k else ff p' g' (k + 1) m)
    rw [(h k (by omega) (by omega)).1, (h k (by omega) (by omega)).2, ih (k + 1) (fun i h1 h2 => h i (by omega) (by omega))]
theorem ff_f {p : Nat → Bool} {g : Nat → Int32} {k m : Nat} (h : p k = false) : ff p g k (m + 1) = ff p g (k + 1) m := by
  show (bif p k then g k else ff p g (k + 1) m) = _
  rw [h]
  rfl
theorem ff_t {p : Nat → Bool} {g : Nat → Int32} {k m : Nat} (h : p k = true) : ff p g k (m + 1) = g k := by
  show (bif p k then g k else ff p g (k + 1) m) = _
  rw [h]
  rfl
set_option maxRecDepth 100000 in
set_option maxHeartbeats 4000000 in
theorem mr_loop_16 {ro : Nat → Option am_C} {c : Bool} {a : Nat → Nat → Int32} {l : Nat → Int64} {f : Nat → Nat → Int32} {n : Nat} {x h : Int32} (hn : n ≤ 16) (en : f 24 8 = nI n) : ∀ (m k : Nat), k + m = n → am_T ro 0 85 2 [.ref 24, .int x, .int h, .int (nI k)] [] (wd c a l f) (fun r hp' => r = some (.int (ff (fun q => decide (a 26 q = x) || decide (a 27 q = x)) (fun q => if h = 0 then a 26 q else a 27 q) k m)) ∧ hp' = wd c a l f) := by
  intro m
  induction m with
  | zero =>
    intro k hk
    refine am_wp_ok (inl := []) 12 0 85 [] _ _ _ _ _ ?_
    refine am_br_t (show f 24 8 ≤ nI k by rw [en]; exact nI_le (by omega) (by omega)) ?_
    exact And.intro rfl rfl
  | succ m ih =>
    intro k hk
    have ek : (nI k).toNatClampNeg = k := nI_clamp (by omega)
    have hin : vp_in (nI k) 16 := vp_in_nI (by omega) (by decide)
    have fnd : (decide (a 26 k = x) || decide (a 27 k = x)) = true → am_T ro 0 85 30 [.ref 24, .int x, .int h, .int (nI k)] [] (wd c a l f) (fun r hp' => r = some (.int (ff (fun q => decide (a 26 q = x) || decide (a 27 q = x)) (fun q => if h = 0 then a 26 q else a 27 q) k (m + 1))) ∧ hp' = wd c a l f) := by
      intro hq
      rw [ff_t (p := fun q => decide (a 26 q = x) || decide (a 27 q = x)) (k := k) hq]
      refine am_wp_ok (inl := []) 12 0 85 [] _ _ _ _ _ ?_
      by_cases h0 : h = 0
      · refine am_br_t h0 ?_
        refine And.intro hin ?_
        refine And.intro (show some (Value.int (a 26 (nI k).toNatClampNeg)) = some (.int (if h = 0 then a 26 k else a 27 k)) by rw [ek, if_pos h0]) rfl
      · refine am_br_f h0 ?_
        refine And.intro hin ?_
        refine And.intro (show some (Value.int (a 27 (nI k).toNatClampNeg)) = some (.int (if h = 0 then a 26 k else a 27 k)) by rw [ek, if_neg h0]) rfl
    refine am_wp_ok (inl := []) 12 0 85 [10] _ _ _ _ _ ?_
    refine am_br_f (show ¬ f 24 8 ≤ nI k by rw [en]; exact nI_ge (by omega) (by omega)) ?_
    show am_T ro 0 85 10 [.ref 24, .int x, .int h, .int (nI k)] [] (wd c a l f) _
    refine am_wp_ok (inl := []) 30 0 85 [30, 50] _ _ _ _ _ ?_
    refine And.intro hin ?_
    by_cases h1 : a 26 k = x
    · refine am_br_t (show a 26 (nI k).toNatClampNeg = x by rw [ek]; exact h1) ?_
      exact fnd (by rw [decide_eq_true h1]; rfl)
    · refine am_br_f (show ¬ a 26 (nI k).toNatClampNeg = x by rw [ek]; exact h1) ?_
      refine And.intro hin ?_
      by_cases h2 : a 27 k = x
      · refine am_br_f (show ¬ ¬ a 27 (nI k).toNatClampNeg = x by rw [ek]; exact fun z => z h2) ?_
        exact fnd (by rw [decide_eq_true h2, Bool.or_true])
      · refine am_br_t (show ¬ a 27 (nI k).toNatClampNeg = x by rw [ek]; exact h2) ?_
        show am_T ro 0 85 50 [.ref 24, .int x, .int h, .int (nI k)] [] (wd c a l f) _
        refine am_wp_ok (inl := []) 5 0 85 [2] _ _ _ _ _ ?_
        show am_T ro 0 85 2 [.ref 24, .int x, .int h, .int (nI k + 1)] [] (wd c a l f) _
        rw [nI_1, ff_f (p := fun q => decide (a 26 q = x) || decide (a 27 q = x)) (k := k) (show (_ || _) = false by rw [decide_eq_false h1, decide_eq_false h2]; rfl)]
        exact ih (k + 1) (by omega)
set_option maxRecDepth 100000 in
set_option maxHeartbeats 4000000 in
theorem mr_16 {ro : Nat → Option am_C} {c : Bool} {a : Nat → Nat → Int32} {l : Nat → Int64} {f : Nat → Nat → Int32} {n : Nat} {x h : Int32} (hn : n ≤ 16) (en : f 24 8 = nI n) : am_run ro 1 85 [.ref 24, .int x, .int h] (wd c a l f) (some (.int (ff (fun q => decide (a 26 q = x) || decide (a 27 q = x)) (fun q => if h = 0 then a 26 q else a 27 q) 0 n))) (wd c a l f) := by
  refine am_run_of rfl (am_wp_ok (inl := []) 5 0 85 [2] 0 _ _ _ _ ?_)
  exact mr_loop_16 hn en n 0 (by omega)
set_option maxRecDepth 100000 in
set_option maxHeartbeats 4000000 in
theorem mr_loop_38 {ro : Nat → Option am_C} {c : Bool} {a : Nat → Nat → Int32} {l : Nat → Int64} {f : Nat → Nat → Int32} {n : Nat} {x h : Int32} (hn : n ≤ 16) (en : f 46 8 = nI n) : ∀ (m k : Nat), k + m = n → am_T ro 0 85 2 [.ref 46, .int x, .int h, .int (nI k)] [] (wd c a l f) (fun r hp' => r = some (.int (ff (fun q => decide (a 48 q = x) || decide (a 49 q = x)) (fun q => if h = 0 then a 48 q else a 49 q) k m)) ∧ hp' = wd c a l f) := by
  intro m
  induction m with
  | zero =>
    intro k hk
    refine am_wp_ok (inl := []) 12 0 85 [] _ _ _ _ _ ?_
    refine am_br_t (show f 46 8 ≤ nI k by rw [en]; exact nI_le (by omega) (by omega)) ?_
    exact And.intro rfl rfl
  | succ m ih =>
    intro k hk
    have ek : (nI k).toNatClampNeg = k := nI_clamp (by omega)
    have hin : vp_in (nI k) 16 := vp_in_nI (by omega) (by decide)
    have fnd : (decide (a 48 k = x) || decide (a 49 k = x)) = true → am_T ro 0 85 30 [.ref 46, .int x, .int h, .int (nI k)] [] (wd c a l f) (fun r hp' => r = some (.int (ff (fun q => decide (a 48 q = x) || decide (a 49 q = x)) (fun q => if h = 0 then a 48 q else a 49 q) k (m + 1))) ∧ hp' = wd c a l f) := by
      intro hq
      rw [ff_t (p := fun q => decide (a 48 q = x) || decide (a 49 q = x)) (k := k) hq]
      refine am_wp_ok (inl := []) 12 0 85 [] _ _ _ _ _ ?_
      by_cases h0 : h = 0
      · refine am_br_t h0 ?_
        refine And.intro hin ?_
        refine And.intro (show some (Value.int (a 48 (nI k).toNatClampNeg)) = some (.int (if h = 0 then a 48 k else a 49 k)) by rw [ek, if_pos h0]) rfl
      · refine am_br_f h0 ?_
        refine And.intro hin ?_
        refine And.intro (show some (Value.int (a 49 (nI k).toNatClampNeg)) = some (.int (if h = 0 then a 48 k else a 49 k)) by rw [ek, if_neg h0]) rfl
    refine am_wp_ok (inl := []) 12 0 85 [10] _ _ _ _ _ ?_
    refine am_br_f (show ¬ f 46 8 ≤ nI k by rw [en]; exact nI_ge (by omega) (by omega)) ?_
    show am_T ro 0 85 10 [.ref 46, .int x, .int h, .int (nI k)] [] (wd c a l f) _
    refine am_wp_ok (inl := []) 30 0 85 [30, 50] _ _ _ _ _ ?_
    refine And.intro hin ?_
    by_cases h1 : a 48 k = x
    · refine am_br_t (show a 48 (nI k).toNatClampNeg = x by rw [ek]; exact h1) ?_
      exact fnd (by rw [decide_eq_true h1]; rfl)
    · refine am_br_f (show ¬ a 48 (nI k).toNatClampNeg = x by rw [ek]; exact h1) ?_
      refine And.intro hin ?_
      by_cases h2 : a 49 k = x
      · refine am_br_f (show ¬ ¬ a 49 (nI k).toNatClampNeg = x by rw [ek]; exact fun z => z h2) ?_
        exact fnd (by rw [decide_eq_true h2, Bool.or_true])
      · refine am_br_t (show ¬ a 49 (nI k).toNatClampNeg = x by rw [ek]; exact h2) ?_
        show am_T ro 0 85 50 [.ref 46, .int x, .int h, .int (nI k)] [] (wd c a l f) _
        refine am_wp_ok (inl := []) 5 0 85 [2] _ _ _ _ _ ?_
        show am_T ro 0 85 2 [.ref 46, .int x, .int h, .int (nI k + 1)] [] (wd c a l f) _
        rw [nI_1, ff_f (p := fun q => decide (a 48 q = x) || decide (a 49 q = x)) (k := k) (show (_ || _) = false by rw [decide_eq_false h1, decide_eq_false h2]; rfl)]
        exact ih (k + 1) (by omega)
set_option maxRecDepth 100000 in
set_option maxHeartbeats 4000000 in
theorem mr_38 {ro : Nat → Option am_C} {c : Bool} {a : Nat → Nat → Int32} {l : Nat → Int64} {f : Nat → Nat → Int32} {n : Nat} {x h : Int32} (hn : n ≤ 16) (en : f 46 8 = nI n) : am_run ro 1 85 [.ref 46, .int x, .int h] (wd c a l f) (some (.int (ff (fun q => decide (a 48 q = x) || decide (a 49 q = x)) (fun q => if h = 0 then a 48 q else a 49 q) 0 n))) (wd c a l f) := by
  refine am_run_of rfl (am_wp_ok (inl := []) 5 0 85 [2] 0 _ _ _ _ ?_)
  exact mr_loop_38 hn en n 0 (by omega)
theorem cs_mir (b : Bool) {ro : Nat → Option am_C} {c : Bool} {a : Nat → Nat → Int32} {l : Nat → Int64} {f : Nat → Nat → Int32} {n : Nat} {x h : Int32} (hn : n ≤ 16) (en : f (ob b + 8) 8 = nI n) : am_run ro 1 85 [.ref (ob b + 8), .int x, .int h] (wd c a l f) (some (.int (ff (fun q => decide (a (ob b + 10) q = x) || decide (a (ob b + 11) q = x)) (fun q => if h = 0 then a (ob b + 10) q else a (ob b + 11) q) 0 n))) (wd c a l f) := by
  cases b
  · exact mr_16 hn en
  · exact mr_38 hn en
set_option maxRecDepth 100000 in
set_option maxHeartbeats 4000000 in
theorem mm_loop {ro : Nat → Option am_C} {c : Bool} {a : Nat → Nat → Int32} {l : Nat → Int64} {f : Nat → Nat → Int32} {n : Nat} {x h : Int32} (hn : n ≤ 16) (en : a 62 3 = nI n) : ∀ (m k : Nat), k + m = n → am_T ro 0 129 2 [.ref 60, .int x, .int h, .int (nI k)] [] (wd c a l f) (fun r hp' => r = some (.int (ff (fun q => decide (a 68 (2 * q) = x) || decide (a 68 (2 * q + 1) = x)) (fun q => if h = 0 then a 68 (2 * q) else a 68 (2 * q + 1)) k m)) ∧ hp' = wd c a l f) := by
  intro m
  induction m with
  | zero =>
    intro k hk
    refine am_wp_ok (inl := []) 12 0 129 [] _ _ _ _ _ ?_
    refine And.intro (vp_in_nI (n := 3) (by decide) (by decide)) ?_
    refine am_br_t (show a 62 3 ≤ nI k by rw [en]; exact nI_le (by omega) (by omega)) ?_
    exact And.intro rfl rfl
  | succ m ih =>
    intro k hk
    have e2 : 2 * nI k = nI (2 * k) := by rw [show (2 : Int32) = nI 2 from rfl, nI_mul]
    have e3 : 2 * nI k + 1 = nI (2 * k + 1) := by rw [e2, nI_1]
    have c2 : (2 * nI k).toNatClampNeg = 2 * k := by rw [e2]; exact nI_clamp (by omega)
    have c3 : (2 * nI k + 1).toNatClampNeg = 2 * k + 1 := by rw [e3]; exact nI_clamp (by omega)
    have hi2 : vp_in (2 * nI k) 64 := by rw [e2]; exact vp_in_nI (by omega) (by decide)
    have hi3 : vp_in (2 * nI k + 1) 64 := by rw [e3]; exact vp_in_nI (by omega) (by decide)
    have fnd : (decide (a 68 (2 * k) = x) || decide (a 68 (2 * k + 1) = x)) = true → am_T ro 0 129 38 [.ref 60, .int x, .int h, .int (nI k)] [] (wd c a l f) (fun r hp' => r = some (.int (ff (fun q => decide (a 68 (2 * q) = x) || decide (a 68 (2 * q + 1) = x)) (fun q => if h = 0 then a 68 (2 * q) else a 68 (2 * q + 1)) k (m + 1))) ∧ hp' = wd c a l f) := by
      intro hq
      rw [ff_t (p := fun q => decide (a 68 (2 * q) = x) || decide (a 68 (2 * q + 1) = x)) (k := k) hq]
      refine am_wp_ok (inl := []) 20 0 129 [] _ _ _ _ _ ?_
      by_cases h0 : h = 0
      · refine am_br_t h0 ?_
        refine And.intro (show vp_in (2 * nI k + 0) 64 by rw [Int32.add_zero]; exact hi2) ?_
        refine And.intro (show some (Value.int (a 68 (2 * nI k + 0).toNatClampNeg)) = some (.int (if h = 0 then a 68 (2 * k) else a 68 (2 * k + 1))) by rw [Int32.add_zero, c2, if_pos h0]) rfl
      · refine am_br_f h0 ?_
        refine And.intro hi3 ?_
        refine And.intro (show some (Value.int (a 68 (2 * nI k + 1).toNatClampNeg)) = some (.int (if h = 0 then a 68 (2 * k) else a 68 (2 * k + 1))) by rw [c3, if_neg h0]) rfl
    refine am_wp_ok (inl := []) 12 0 129 [12] _ _ _ _ _ ?_
    refine And.intro (vp_in_nI (n := 3) (by decide) (by decide)) ?_
    refine am_br_f (show ¬ a 62 3 ≤ nI k by rw [en]; exact nI_ge (by omega) (by omega)) ?_
    show am_T ro 0 129 12 [.ref 60, .int x, .int h, .int (nI k)] [] (wd c a l f) _
    refine am_wp_ok (inl := []) 30 0 129 [38, 57] _ _ _ _ _ ?_
    refine And.intro hi2 ?_
    by_cases h1 : a 68 (2 * k) = x
    · refine am_br_t (show a 68 (2 * nI k).toNatClampNeg = x by rw [c2]; exact h1) ?_
      exact fnd (by rw [decide_eq_true h1]; rfl)
    · refine am_br_f (show ¬ a 68 (2 * nI k).toNatClampNeg = x by rw [c2]; exact h1) ?_
      refine And.intro hi3 ?_
      by_cases h2 : a 68 (2 * k + 1) = x
      · refine am_br_f (show ¬ ¬ a 68 (2 * nI k + 1).toNatClampNeg = x by rw [c3]; exact fun z => z h2) ?_
        exact fnd (by rw [decide_eq_true h2, Bool.or_true])
      · refine am_br_t (show ¬ a 68 (2 * nI k + 1).toNatClampNeg = x by rw [c3]; exact h2) ?_
        show am_T ro 0 129 57 [.ref 60, .int x, .int h, .int (nI k)] [] (wd c a l f) _
        refine am_wp_ok (inl := []) 5 0 129 [2] _ _ _ _ _ ?_
        show am_T ro 0 129 2 [.ref 60, .int x, .int h, .int (nI k + 1)] [] (wd c a l f) _
        rw [nI_1, ff_f (p := fun q => decide (a 68 (2 * q) = x) || decide (a 68 (2 * q + 1) = x)) (k := k) (show (_ || _) = false by rw [decide_eq_false h1, decide_eq_false h2]; rfl)]
        exact ih (k + 1) (by omega)
set_option maxRecDepth 100000 in
set_option maxHeartbeats 4000000 in
theorem mo_mir {ro : Nat → Option am_C} {c : Bool} {a : Nat → Nat → Int32} {l : Nat → Int64} {f : Nat → Nat → Int32} {n : Nat} {x h : Int32} (hn : n ≤ 16) (en : a 62 3 = nI n) : am_run ro 1 129 [.ref 60, .int x, .int h] (wd c a l f) (some (.int (ff (fun q => decide (a 68 (2 * q) = x) || decide (a 68 (2 * q + 1) = x)) (fun q => if h = 0 then a 68 (2 * q) else a 68 (2 * q + 1)) 0 n))) (wd c a l f) := by
  refine am_run_of rfl (am_wp_ok (inl := []) 5 0 129 [2] 0 _ _ _ _ ?_)
  exact mm_loop hn en n 0 (by omega)
set_option maxRecDepth 100000 in
set_option maxHeartbeats 4000000 in
theorem cl_mirror {ro : Nat → Option am_C} {c : Bool} {a : Nat → Nat → Int32} {l : Nat → Int64} {f : Nat → Nat → Int32} {x h r : Int32} {hp : am_H} (e : am_run ro 11 85 [.ref (ob c + 8), .int x, .int h] (wd c a l f) (some (.int r)) hp) : am_run ro 12 10 [.ref 0, .int x, .int h] (wd c a l f) (some (.int r)) hp := by
  cases c
  · refine am_run_of rfl (am_wp_ok (inl := []) 60 11 10 [] 0 _ _ _ _ ?_)
    refine ⟨_, _, e, ?_⟩
    exact And.intro rfl rfl
  · refine am_run_of rfl (am_wp_ok (inl := []) 60 11 10 [] 0 _ _ _ _ ?_)
    refine ⟨_, _, e, ?_⟩
    exact And.intro rfl rfl
theorem op_mirror {ro : Nat → Option am_C} (x h : Int32) : lp_op ro Rl 10 129 [.int x, .int h] := by
  intro c a l f hR
  obtain ⟨h1, h2, h3, h4, h5, ⟨nb, nc, ng, nm, np, nn, ⟨b1, b2, b3, b4, b5, b6, b7, b8, b9⟩, h7⟩⟩ := id hR
  refine ⟨_, c, a, l, f, c, a, l, f, cl_mirror (am_run_up (cs_mir c b1.2.2.2.1 b2.2.2.2.1) (by decide)), ?_, hR⟩
  rw [ff_eq (p' := fun q => decide (a 68 (2 * q) = x) || decide (a 68 (2 * q + 1) = x)) (g' := fun q => if h = 0 then a 68 (2 * q) else a 68 (2 * q + 1)) nm 0 (fun i _ hi => by
    have := b8 i (by omega)
    rw [show 32 * 0 + 2 * i = 2 * i by omega] at this
    rw [this.1, this.2]
    exact ⟨rfl, rfl⟩)]
  exact am_run_up (mo_mir b1.2.2.2.1 b3.2.2.2.1) (by decide)
