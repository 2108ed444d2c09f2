/-! general -/
set_option maxRecDepth 100000 in
set_option maxHeartbeats 4000000 in
theorem ig_loop_16 {ro : Nat → Option am_C} {c : Bool} {a : Nat → Nat → Int32} {l : Nat → Int64} {f : Nat → Nat → Int32} {n : Nat} {x : Int32} (hn : n ≤ 16) (en : f 24 7 = nI n) : ∀ (m k : Nat), k + m = n → am_T ro 0 89 2 [.ref 24, .int x, .int (nI k)] [] (wd c a l f) (fun r hp' => r = some (.int (nI (an (fun q => decide (a 25 q = x)) k m).toNat)) ∧ hp' = wd c a l f) := by
  intro m
  induction m with
  | zero =>
    intro k h
    refine am_wp_ok (inl := []) 12 0 89 [] _ _ _ _ _ ?_
    refine am_br_t (show f 24 7 ≤ nI k by rw [en]; exact nI_le (by omega) (by omega)) ?_
    exact And.intro rfl (And.intro rfl rfl)
  | succ m ih =>
    intro k h
    have ek : (nI k).toNatClampNeg = k := nI_clamp (by omega)
    refine am_wp_ok (inl := []) 30 0 89 [22] _ _ _ _ _ ?_
    refine am_br_f (show ¬ f 24 7 ≤ nI k by rw [en]; exact nI_ge (by omega) (by omega)) ?_
    refine And.intro (vp_in_nI (by omega) (by decide)) ?_
    by_cases hq : a 25 k = x
    · refine am_br_f (show ¬ ¬ a 25 (nI k).toNatClampNeg = x by rw [ek]; exact fun z => z hq) ?_
      rw [an_t (p := fun q => decide (a 25 q = x)) (k := k) (decide_eq_true hq)]
      exact And.intro rfl (And.intro rfl rfl)
    · refine am_br_t (show ¬ a 25 (nI k).toNatClampNeg = x by rw [ek]; exact hq) ?_
      show am_T ro 0 89 22 [.ref 24, .int x, .int (nI k)] [] (wd c a l f) _
      refine am_wp_ok (inl := []) 5 0 89 [2] _ _ _ _ _ ?_
      show am_T ro 0 89 2 [.ref 24, .int x, .int (nI k + 1)] [] (wd c a l f) _
      rw [nI_1, an_f (p := fun q => decide (a 25 q = x)) (k := k) (decide_eq_false hq)]
      exact ih (k + 1) (by omega)
set_option maxRecDepth 100000 in
set_option maxHeartbeats 4000000 in
theorem ig_16 {ro : Nat → Option am_C} {c : Bool} {a : Nat → Nat → Int32} {l : Nat → Int64} {f : Nat → Nat → Int32} {n : Nat} {x : Int32} (hn : n ≤ 16) (en : f 24 7 = nI n) : am_run ro 1 89 [.ref 24, .int x] (wd c a l f) (some (.int (nI (an (fun q => decide (a 25 q = x)) 0 n).toNat))) (wd c a l f) := by
  refine am_run_of rfl (am_wp_ok (inl := []) 5 0 89 [2] 0 _ _ _ _ ?_)
  exact ig_loop_16 hn en n 0 (by omega)
set_option maxRecDepth 100000 in
set_option maxHeartbeats 4000000 in
theorem ig_loop_38 {ro : Nat → Option am_C} {c : Bool} {a : Nat → Nat → Int32} {l : Nat → Int64} {f : Nat → Nat → Int32} {n : Nat} {x : Int32} (hn : n ≤ 16) (en : f 46 7 = nI n) : ∀ (m k : Nat), k + m = n → am_T ro 0 89 2 [.ref 46, .int x, .int (nI k)] [] (wd c a l f) (fun r hp' => r = some (.int (nI (an (fun q => decide (a 47 q = x)) k m).toNat)) ∧ hp' = wd c a l f) := by
  intro m
  induction m with
  | zero =>
    intro k h
    refine am_wp_ok (inl := []) 12 0 89 [] _ _ _ _ _ ?_
    refine am_br_t (show f 46 7 ≤ nI k by rw [en]; exact nI_le (by omega) (by omega)) ?_
    exact And.intro rfl (And.intro rfl rfl)
  | succ m ih =>
    intro k h
    have ek : (nI k).toNatClampNeg = k := nI_clamp (by omega)
    refine am_wp_ok (inl := []) 30 0 89 [22] _ _ _ _ _ ?_
    refine am_br_f (show ¬ f 46 7 ≤ nI k by rw [en]; exact nI_ge (by omega) (by omega)) ?_
    refine And.intro (vp_in_nI (by omega) (by decide)) ?_
    by_cases hq : a 47 k = x
    · refine am_br_f (show ¬ ¬ a 47 (nI k).toNatClampNeg = x by rw [ek]; exact fun z => z hq) ?_
      rw [an_t (p := fun q => decide (a 47 q = x)) (k := k) (decide_eq_true hq)]
      exact And.intro rfl (And.intro rfl rfl)
    · refine am_br_t (show ¬ a 47 (nI k).toNatClampNeg = x by rw [ek]; exact hq) ?_
      show am_T ro 0 89 22 [.ref 46, .int x, .int (nI k)] [] (wd c a l f) _
      refine am_wp_ok (inl := []) 5 0 89 [2] _ _ _ _ _ ?_
      show am_T ro 0 89 2 [.ref 46, .int x, .int (nI k + 1)] [] (wd c a l f) _
      rw [nI_1, an_f (p := fun q => decide (a 47 q = x)) (k := k) (decide_eq_false hq)]
      exact ih (k + 1) (by omega)
set_option maxRecDepth 100000 in
set_option maxHeartbeats 4000000 in
theorem ig_38 {ro : Nat → Option am_C} {c : Bool} {a : Nat → Nat → Int32} {l : Nat → Int64} {f : Nat → Nat → Int32} {n : Nat} {x : Int32} (hn : n ≤ 16) (en : f 46 7 = nI n) : am_run ro 1 89 [.ref 46, .int x] (wd c a l f) (some (.int (nI (an (fun q => decide (a 47 q = x)) 0 n).toNat))) (wd c a l f) := by
  refine am_run_of rfl (am_wp_ok (inl := []) 5 0 89 [2] 0 _ _ _ _ ?_)
  exact ig_loop_38 hn en n 0 (by omega)
theorem cs_gen (b : Bool) {ro : Nat → Option am_C} {c : Bool} {a : Nat → Nat → Int32} {l : Nat → Int64} {f : Nat → Nat → Int32} {n : Nat} {x : Int32} (hn : n ≤ 16) (en : f (ob b + 8) 7 = nI n) : am_run ro 1 89 [.ref (ob b + 8), .int x] (wd c a l f) (some (.int (nI (an (fun q => decide (a (ob b + 9) q = x)) 0 n).toNat))) (wd c a l f) := by
  cases b
  · exact ig_16 hn en
  · exact ig_38 hn en
theorem nI_bo (w : Bool) : narrow .boolean (.int (nI w.toNat)) = .int (nI w.toNat) := by cases w <;> rfl
set_option maxRecDepth 100000 in
set_option maxHeartbeats 4000000 in
theorem mg_loop {ro : Nat → Option am_C} {c : Bool} {a : Nat → Nat → Int32} {l : Nat → Int64} {f : Nat → Nat → Int32} {n : Nat} {x : Int32} (hn : n ≤ 16) (en : a 62 2 = nI n) : ∀ (m k : Nat) (w : Bool), k + m = n → am_T ro 0 122 4 [.ref 60, .int x, .int (nI w.toNat), .int (nI k)] [] (wd c a l f) (fun r hp' => r = some (.int (nI (w || an (fun q => decide (a 67 q = x)) k m).toNat)) ∧ hp' = wd c a l f) := by
  intro m
  induction m with
  | zero =>
    intro k w h
    refine am_wp_ok (inl := []) 12 0 122 [] _ _ _ _ _ ?_
    refine And.intro (vp_in_nI (n := 2) (by decide) (by decide)) ?_
    refine am_br_t (show a 62 2 ≤ nI k by rw [en]; exact nI_le (by omega) (by omega)) ?_
    refine And.intro (nI_bo w) (And.intro ?_ rfl)
    show some (Value.int (nI w.toNat)) = some (.int (nI (w || false).toNat))
    rw [Bool.or_false]
  | succ m ih =>
    intro k w h
    have ek : (nI k).toNatClampNeg = k := nI_clamp (by omega)
    have nxt : ∀ w' : Bool, (w' || an (fun q => decide (a 67 q = x)) (k + 1) m) = (w || an (fun q => decide (a 67 q = x)) k (m + 1)) → am_T ro 0 122 4 [.ref 60, .int x, .int (nI w'.toNat), .int (nI k + 1)] [] (wd c a l f) (fun r hp' => r = some (.int (nI (w || an (fun q => decide (a 67 q = x)) k (m + 1)).toNat)) ∧ hp' = wd c a l f) := by
      intro w' hq
      rw [nI_1]
      refine (ih (k + 1) w' (by omega)).mono (fun r hp' z => ?_)
      rw [hq] at z
      exact z
    refine am_wp_ok (inl := []) 12 0 122 [14] _ _ _ _ _ ?_
    refine And.intro (vp_in_nI (n := 2) (by decide) (by decide)) ?_
    refine am_br_f (show ¬ a 62 2 ≤ nI k by rw [en]; exact nI_ge (by omega) (by omega)) ?_
    show am_T ro 0 122 14 [.ref 60, .int x, .int (nI w.toNat), .int (nI k)] [] (wd c a l f) _
    refine am_wp_ok (inl := []) 30 0 122 [4] _ _ _ _ _ ?_
    cases w with
    | true =>
      refine am_br_t (show ¬ nI true.toNat = 0 by decide) ?_
      exact nxt true (by simp)
    | false =>
      refine am_br_f (show ¬ ¬ nI false.toNat = 0 by decide) ?_
      refine And.intro (vp_in_nI (by omega) (by decide)) ?_
      by_cases hq : a 67 k = x
      · refine am_br_f (show ¬ ¬ a 67 (nI k).toNatClampNeg = x by rw [ek]; exact fun z => z hq) ?_
        exact nxt true (by rw [an_t (p := fun q => decide (a 67 q = x)) (k := k) (decide_eq_true hq)]; rfl)
      · refine am_br_t (show ¬ a 67 (nI k).toNatClampNeg = x by rw [ek]; exact hq) ?_
        exact nxt false (by rw [an_f (p := fun q => decide (a 67 q = x)) (k := k) (decide_eq_false hq)])
set_option maxRecDepth 100000 in
set_option maxHeartbeats 4000000 in
theorem mo_gen {ro : Nat → Option am_C} {c : Bool} {a : Nat → Nat → Int32} {l : Nat → Int64} {f : Nat → Nat → Int32} {n : Nat} {x : Int32} (hn : n ≤ 16) (en : a 62 2 = nI n) : am_run ro 1 122 [.ref 60, .int x] (wd c a l f) (some (.int (nI (an (fun q => decide (a 67 q = x)) 0 n).toNat))) (wd c a l f) := by
  refine am_run_of rfl (am_wp_ok (inl := []) 8 0 122 [4] 0 _ _ _ _ ?_)
  exact mg_loop hn en n 0 false (by omega)
set_option maxRecDepth 100000 in
set_option maxHeartbeats 4000000 in
theorem cl_general {ro : Nat → Option am_C} {c : Bool} {a : Nat → Nat → Int32} {l : Nat → Int64} {f : Nat → Nat → Int32} {x r : Int32} {hp : am_H} (h : am_run ro 11 89 [.ref (ob c + 8), .int x] (wd c a l f) (some (.int r)) hp) (hr : narrow .boolean (.int r) = .int r) : am_run ro 12 9 [.ref 0, .int x] (wd c a l f) (some (.int r)) hp := by
  cases c
  · refine am_run_of rfl (am_wp_ok (inl := []) 60 11 9 [] 0 _ _ _ _ ?_)
    refine ⟨_, _, h, ?_⟩
    exact And.intro hr (And.intro rfl rfl)
  · refine am_run_of rfl (am_wp_ok (inl := []) 60 11 9 [] 0 _ _ _ _ ?_)
    refine ⟨_, _, h, ?_⟩
    exact And.intro hr (And.intro rfl rfl)
theorem op_general {ro : Nat → Option am_C} (x : Int32) : lp_op ro Rl 9 122 [.int x] := by
  intro c a l f hR
  obtain ⟨h1, h2, h3, h4, h5, ⟨nb, nc, ng, nm, np, nn, ⟨b1, b2, b3, b4, b5, b6, b7, b8⟩, h7⟩⟩ := id hR
  refine ⟨_, c, a, l, f, c, a, l, f, cl_general (am_run_up (cs_gen c b1.2.2.1 b2.2.2.1) (by decide)) (nI_bo _), ?_, hR⟩
  rw [an_eq (p' := fun q => decide (a 67 q = x)) ng 0 (fun i _ hi => by
    have := b7 i (by omega)
    rw [show 16 * 0 + i = i by omega] at this
    rw [this])]
  exact am_run_up (mo_gen b1.2.2.1 b3.2.2.1) (by decide)
