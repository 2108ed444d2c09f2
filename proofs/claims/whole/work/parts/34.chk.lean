/-! check, history -/
/-- one of the m places from k on -/
def an (p : Nat → Bool) : Nat → Nat → Bool
  | _, 0 => false
  | k, m + 1 => p k || an p (k + 1) m
theorem an_eq {p p' : Nat → Bool} : ∀ (m k : Nat), (∀ i, k ≤ i → i < k + m → p i = p' i) → an p k m = an p' k m := by
  intro m
  induction m with
  | zero => intro k h; rfl
  | succ m ih =>
    intro k h
    show (p k || an p (k + 1) m) = (p' k || an p' (k + 1) m)
    rw [h k (by omega) (by omega), ih (k + 1) (fun i h1 h2 => h i (by omega) (by omega))]
theorem an_f {p : Nat → Bool} {k m : Nat} (h : p k = false) : an p k (m + 1) = an p (k + 1) m := by
  show (p k || _) = _
  rw [h]
  rfl
theorem an_t {p : Nat → Bool} {k m : Nat} (h : p k = true) : an p k (m + 1) = true := by
  show (p k || _) = _
  rw [h]
  rfl
set_option maxRecDepth 100000 in
set_option maxHeartbeats 4000000 in
theorem cs_cov_loop {ro : Nat → Option am_C} {c : Bool} {a : Nat → Nat → Int32} {l : Nat → Int64} {f : Nat → Nat → Int32} {j n : Nat} {x : Int32} (hj : j < 6) (hn : n ≤ 5) (en : a 10 j = nI n) : ∀ (m k : Nat) (X : Value), k + m = n → am_T ro 1 51 15 [.ref 9, .int (nI j), .int x, .int (nI k), X] [] (wd c a l f) (fun r hp' => r = some (.int (nI (an (fun q => decide (a 11 (5 * j + q) ≤ x) && decide (x ≤ a 12 (5 * j + q))) k m).toNat)) ∧ hp' = wd c a l f) := by
  have ej : (nI j).toNatClampNeg = j := nI_clamp (by omega)
  have en' : a 10 (nI j).toNatClampNeg = nI n := by rw [ej]; exact en
  have hin : vp_in (nI j) 6 := vp_in_nI hj (by decide)
  intro m
  induction m with
  | zero =>
    intro k X h
    refine am_wp_ok (inl := []) 12 1 51 [] _ _ _ _ _ ?_
    refine And.intro hin ?_
    refine am_br_t (show a 10 (nI j).toNatClampNeg ≤ nI k by rw [en']; exact nI_le (by omega) (by omega)) ?_
    exact And.intro rfl rfl
  | succ m ih =>
    intro k X h
    have e : nI j * 5 + nI k = nI (5 * j + k) := by
      rw [show (5 : Int32) = nI 5 from rfl, nI_mul, nI_add]
      exact congrArg nI (by omega)
    have hi2 : vp_in (nI j * 5 + nI k) 30 := by rw [e]; exact vp_in_nI (by omega) (by decide)
    have ec : (nI j * 5 + nI k).toNatClampNeg = 5 * j + k := by rw [e]; exact nI_clamp (by omega)
    have nxt : (decide (a 11 (5 * j + k) ≤ x) && decide (x ≤ a 12 (5 * j + k))) = false → am_T ro 1 51 56 [.ref 9, .int (nI j), .int x, .int (nI k), .int (nI j * 5 + nI k)] [] (wd c a l f) (fun r hp' => r = some (.int (nI (an (fun q => decide (a 11 (5 * j + q) ≤ x) && decide (x ≤ a 12 (5 * j + q))) k (m + 1)).toNat)) ∧ hp' = wd c a l f) := by
      intro hq
      refine am_wp_ok (inl := []) 4 1 51 [15] _ _ _ _ _ ?_
      show am_T ro 1 51 15 [.ref 9, .int (nI j), .int x, .int (nI k + 1), .int (nI j * 5 + nI k)] [] (wd c a l f) _
      rw [nI_1]
      refine (ih (k + 1) _ (by omega)).mono (fun r hp' z => ?_)
      rw [an_f (p := (fun q => decide (a 11 (5 * j + q) ≤ x) && decide (x ≤ a 12 (5 * j + q)))) (k := k) hq]
      exact z
    refine am_wp_ok (inl := []) 12 1 51 [25] _ _ _ _ _ ?_
    refine And.intro hin ?_
    refine am_br_f (show ¬ a 10 (nI j).toNatClampNeg ≤ nI k by rw [en']; exact nI_ge (by omega) (by omega)) ?_
    show am_T ro 1 51 25 [.ref 9, .int (nI j), .int x, .int (nI k), X] [] (wd c a l f) _
    refine am_wp_ok (inl := []) 30 1 51 [56] _ _ _ _ _ ?_
    refine And.intro hi2 ?_
    by_cases h1 : x < a 11 (5 * j + k)
    · refine am_br_t (show x < a 11 (nI j * 5 + nI k).toNatClampNeg by rw [ec]; exact h1) ?_
      exact nxt (by rw [decide_eq_false (Int32.not_le.mpr h1)]; rfl)
    · refine am_br_f (show ¬ x < a 11 (nI j * 5 + nI k).toNatClampNeg by rw [ec]; exact h1) ?_
      refine And.intro hi2 ?_
      by_cases h2 : a 12 (5 * j + k) < x
      · refine am_br_t (show a 12 (nI j * 5 + nI k).toNatClampNeg < x by rw [ec]; exact h2) ?_
        exact nxt (by rw [decide_eq_false (p := x ≤ a 12 (5 * j + k)) (Int32.not_le.mpr h2), Bool.and_false])
      · refine am_br_f (show ¬ a 12 (nI j * 5 + nI k).toNatClampNeg < x by rw [ec]; exact h2) ?_
        refine And.intro ?_ rfl
        rw [an_t (p := (fun q => decide (a 11 (5 * j + q) ≤ x) && decide (x ≤ a 12 (5 * j + q)))) (k := k) (show (_ && _) = true by rw [decide_eq_true (Int32.not_lt.mp h1), decide_eq_true (Int32.not_lt.mp h2)]; rfl)]
        rfl
set_option maxRecDepth 100000 in
set_option maxHeartbeats 4000000 in
theorem mo_chk_loop {ro : Nat → Option am_C} {c : Bool} {a : Nat → Nat → Int32} {l : Nat → Int64} {f : Nat → Nat → Int32} {j n : Nat} {x : Int32} (hj : j < 6) (hn : n ≤ 5) (en : a 76 j = nI n) : ∀ (m k : Nat) (w : Bool) (X : Value), k + m = n → am_T ro 1 144 19 [.ref 60, .int (nI j), .int x, .int (nI w.toNat), .int (nI k), X] [] (wd c a l f) (fun r hp' => r = some (.int (nI (w || an (fun q => decide (a 77 (2 * (5 * j + q)) ≤ x) && decide (x ≤ a 77 (2 * (5 * j + q) + 1))) k m).toNat)) ∧ hp' = wd c a l f) := by
  have ej : (nI j).toNatClampNeg = j := nI_clamp (by omega)
  have en' : a 76 (nI j).toNatClampNeg = nI n := by rw [ej]; exact en
  have hin : vp_in (nI j) 6 := vp_in_nI hj (by decide)
  intro m
  induction m with
  | zero =>
    intro k w X h
    refine am_wp_ok (inl := []) 12 1 144 [] _ _ _ _ _ ?_
    refine And.intro hin ?_
    refine am_br_t (show a 76 (nI j).toNatClampNeg ≤ nI k by rw [en']; exact nI_le (by omega) (by omega)) ?_
    refine And.intro ?_ rfl
    show some (Value.int (nI w.toNat)) = some (.int (nI (w || false).toNat))
    rw [Bool.or_false]
  | succ m ih =>
    intro k w X h
    have e : 2 * (5 * nI j + nI k) = nI (2 * (5 * j + k)) := by
      rw [show (5 : Int32) = nI 5 from rfl, show (2 : Int32) = nI 2 from rfl, nI_mul, nI_add, nI_mul]
    have e1 : 2 * (5 * nI j + nI k) + 1 = nI (2 * (5 * j + k) + 1) := by rw [e, nI_1]
    have hi2 : vp_in (2 * (5 * nI j + nI k)) 60 := by rw [e]; exact vp_in_nI (by omega) (by decide)
    have hi3 : vp_in (2 * (5 * nI j + nI k) + 1) 60 := by rw [e1]; exact vp_in_nI (by omega) (by decide)
    have ec : (2 * (5 * nI j + nI k)).toNatClampNeg = 2 * (5 * j + k) := by rw [e]; exact nI_clamp (by omega)
    have ec1 : (2 * (5 * nI j + nI k) + 1).toNatClampNeg = 2 * (5 * j + k) + 1 := by rw [e1]; exact nI_clamp (by omega)
    have nxt : ∀ w' : Bool, (w' || an (fun q => decide (a 77 (2 * (5 * j + q)) ≤ x) && decide (x ≤ a 77 (2 * (5 * j + q) + 1))) (k + 1) m) = (w || an (fun q => decide (a 77 (2 * (5 * j + q)) ≤ x) && decide (x ≤ a 77 (2 * (5 * j + q) + 1))) k (m + 1)) → am_T ro 1 144 19 [.ref 60, .int (nI j), .int x, .int (nI w'.toNat), .int (nI k + 1), .int (2 * (5 * nI j + nI k))] [] (wd c a l f) (fun r hp' => r = some (.int (nI (w || an (fun q => decide (a 77 (2 * (5 * j + q)) ≤ x) && decide (x ≤ a 77 (2 * (5 * j + q) + 1))) k (m + 1)).toNat)) ∧ hp' = wd c a l f) := by
      intro w' hq
      rw [nI_1]
      refine (ih (k + 1) w' _ (by omega)).mono (fun r hp' z => ?_)
      rw [hq] at z
      exact z
    refine am_wp_ok (inl := []) 12 1 144 [30] _ _ _ _ _ ?_
    refine And.intro hin ?_
    refine am_br_f (show ¬ a 76 (nI j).toNatClampNeg ≤ nI k by rw [en']; exact nI_ge (by omega) (by omega)) ?_
    show am_T ro 1 144 30 [.ref 60, .int (nI j), .int x, .int (nI w.toNat), .int (nI k), X] [] (wd c a l f) _
    refine am_wp_ok (inl := []) 40 1 144 [19] _ _ _ _ _ ?_
    refine And.intro hi2 ?_
    by_cases h1 : x < a 77 (2 * (5 * j + k))
    · refine am_br_t (show x < a 77 (2 * (5 * nI j + nI k)).toNatClampNeg by rw [ec]; exact h1) ?_
      exact nxt w (by rw [an_f (p := (fun q => decide (a 77 (2 * (5 * j + q)) ≤ x) && decide (x ≤ a 77 (2 * (5 * j + q) + 1)))) (k := k) (show (_ && _) = false by rw [decide_eq_false (Int32.not_le.mpr h1)]; rfl)])
    · refine am_br_f (show ¬ x < a 77 (2 * (5 * nI j + nI k)).toNatClampNeg by rw [ec]; exact h1) ?_
      refine And.intro hi3 ?_
      by_cases h2 : a 77 (2 * (5 * j + k) + 1) < x
      · refine am_br_t (show a 77 (2 * (5 * nI j + nI k) + 1).toNatClampNeg < x by rw [ec1]; exact h2) ?_
        exact nxt w (by rw [an_f (p := (fun q => decide (a 77 (2 * (5 * j + q)) ≤ x) && decide (x ≤ a 77 (2 * (5 * j + q) + 1)))) (k := k) (show (_ && _) = false by rw [decide_eq_false (p := x ≤ a 77 (2 * (5 * j + k) + 1)) (Int32.not_le.mpr h2), Bool.and_false])])
      · refine am_br_f (show ¬ a 77 (2 * (5 * nI j + nI k) + 1).toNatClampNeg < x by rw [ec1]; exact h2) ?_
        exact nxt true (by rw [an_t (p := (fun q => decide (a 77 (2 * (5 * j + q)) ≤ x) && decide (x ≤ a 77 (2 * (5 * j + q) + 1)))) (k := k) (show (_ && _) = true by rw [decide_eq_true (Int32.not_lt.mp h1), decide_eq_true (Int32.not_lt.mp h2)]; rfl)]; simp)
set_option maxRecDepth 100000 in
set_option maxHeartbeats 4000000 in
theorem cs_cov_t {ro : Nat → Option am_C} {c : Bool} {a : Nat → Nat → Int32} {l : Nat → Int64} {f : Nat → Nat → Int32} {j n q : Nat} {x : Int32} (hc : f 9 3 = nI q) (hq : j < q) (hq6 : q ≤ 6) (hn : n ≤ 5) (en : a 10 j = nI n) : am_run ro 2 51 [.ref 9, .int (nI j), .int x] (wd c a l f) (some (.int (nI (an (fun q => decide (a 11 (5 * j + q) ≤ x) && decide (x ≤ a 12 (5 * j + q))) 0 n).toNat))) (wd c a l f) := by
  refine am_run_of rfl (am_wp_ok (inl := []) 20 1 51 [15] 0 _ _ _ _ ?_)
  refine ⟨_, _, am_run_up (sp_below_t (nI_pos (by omega)) (show ¬ f 9 3 ≤ nI j by rw [hc]; exact nI_ge hq (by omega))) (by decide), ?_⟩
  refine am_br_t (by decide) ?_
  exact cs_cov_loop (by omega) hn en n 0 am_un (by omega)
set_option maxRecDepth 100000 in
set_option maxHeartbeats 4000000 in
theorem cs_cov_f {ro : Nat → Option am_C} {c : Bool} {a : Nat → Nat → Int32} {l : Nat → Int64} {f : Nat → Nat → Int32} {q : Nat} {y x : Int32} (hc : f 9 3 = nI q) (h : y < 0 ∨ nI q ≤ y) : am_run ro 2 51 [.ref 9, .int y, .int x] (wd c a l f) (some (.int (-1))) (wd c a l f) := by
  refine am_run_of rfl (am_wp_ok (inl := []) 20 1 51 [15] 0 _ _ _ _ ?_)
  refine ⟨_, _, am_run_up (sp_below_f (show y < 0 ∨ f 9 3 ≤ y by rw [hc]; exact h)) (by decide), ?_⟩
  refine am_br_f (by decide) ?_
  exact And.intro rfl rfl
set_option maxRecDepth 100000 in
set_option maxHeartbeats 4000000 in
theorem mo_chk_t {ro : Nat → Option am_C} {c : Bool} {a : Nat → Nat → Int32} {l : Nat → Int64} {f : Nat → Nat → Int32} {j n q : Nat} {x : Int32} (hc : f 60 18 = nI q) (hq : j < q) (hq6 : q ≤ 6) (hn : n ≤ 5) (en : a 76 j = nI n) : am_run ro 2 144 [.ref 60, .int (nI j), .int x] (wd c a l f) (some (.int (nI (an (fun q => decide (a 77 (2 * (5 * j + q)) ≤ x) && decide (x ≤ a 77 (2 * (5 * j + q) + 1))) 0 n).toNat))) (wd c a l f) := by
  refine am_run_of rfl (am_wp_ok (inl := []) 20 1 144 [19] 0 _ _ _ _ ?_)
  refine am_br_f (nI_pos (by omega)) ?_
  refine am_br_t (show nI j < f 60 18 by rw [hc]; exact nI_lt hq (by omega)) ?_
  exact mo_chk_loop (by omega) hn en n 0 false am_un (by omega)
set_option maxRecDepth 100000 in
set_option maxHeartbeats 4000000 in
theorem mo_chk_f {ro : Nat → Option am_C} {c : Bool} {a : Nat → Nat → Int32} {l : Nat → Int64} {f : Nat → Nat → Int32} {q : Nat} {y x : Int32} (hc : f 60 18 = nI q) (h : y < 0 ∨ nI q ≤ y) : am_run ro 2 144 [.ref 60, .int y, .int x] (wd c a l f) (some (.int (-1))) (wd c a l f) := by
  refine am_run_of rfl (am_wp_ok (inl := []) 20 1 144 [19] 0 _ _ _ _ ?_)
  by_cases h0 : y < 0
  · refine am_br_t h0 ?_
    exact And.intro rfl rfl
  · refine am_br_f h0 ?_
    refine am_br_f (show ¬ y < f 60 18 by rw [hc]; exact Int32.not_lt.mpr (h.resolve_left h0)) ?_
    exact And.intro rfl rfl
set_option maxRecDepth 100000 in
set_option maxHeartbeats 4000000 in
theorem cl_check {ro : Nat → Option am_C} {c : Bool} {a : Nat → Nat → Int32} {l : Nat → Int64} {f : Nat → Nat → Int32} {x y r : Int32} {hp : am_H} (h : am_run ro 11 51 [.ref 9, .int x, .int y] (wd c a l f) (some (.int r)) hp) : am_run ro 12 21 [.ref 0, .int x, .int y] (wd c a l f) (some (.int r)) hp := by
  refine am_run_of rfl (am_wp_ok (inl := []) 60 11 21 [] 0 _ _ _ _ ?_)
  refine ⟨_, _, h, ?_⟩
  exact And.intro rfl rfl
theorem op_check {ro : Nat → Option am_C} (y x : Int32) : lp_op ro Rl 21 144 [.int y, .int x] := by
  intro c a l f hR
  obtain ⟨h1, h2, h3, ⟨⟨n, hn, e1, e2⟩, h4, h5⟩, h6, h7⟩ := id hR
  rcases bd y n (by omega) with ⟨j, hj, rfl⟩ | h
  · obtain ⟨k, hk, g1, g2⟩ := h4 j (by omega)
    refine ⟨_, c, a, l, f, c, a, l, f, cl_check (am_run_up (cs_cov_t e1 hj hn hk g1) (by decide)), ?_, hR⟩
    rw [an_eq (p' := fun q => decide (a 77 (2 * (5 * j + q)) ≤ x) && decide (x ≤ a 77 (2 * (5 * j + q) + 1))) k 0 (fun i _ hi => by rw [(h5 (5 * j + i) (by omega)).1, (h5 (5 * j + i) (by omega)).2])]
    exact am_run_up (mo_chk_t e2 hj hn hk g2) (by decide)
  · exact ⟨-1, c, a, l, f, c, a, l, f, cl_check (am_run_up (cs_cov_f e1 h) (by decide)), am_run_up (mo_chk_f e2 h) (by decide), hR⟩
