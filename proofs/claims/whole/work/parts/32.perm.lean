/-! PERMITS: permit, allows, check -/
theorem nI_mul (x y : Nat) : nI x * nI y = nI (x * y) := (Int32.ofNat_mul x y).symm
theorem nI_sub {x y : Nat} (h : y ≤ x) : nI x - nI y = nI (x - y) := (Int32.ofNat_sub x y h).symm
set_option maxRecDepth 100000 in
set_option maxHeartbeats 4000000 in
theorem cs_grant_f {ro : Nat → Option am_C} {c : Bool} {a : Nat → Nat → Int32} {l : Nat → Int64} {f : Nat → Nat → Int32} (h : f 9 3 = nI 6) : am_run ro 1 49 [.ref 9] (wd c a l f) (some (.int (-1))) (wd c a l f) := by
  refine am_run_of rfl (am_wp_ok (inl := []) 60 0 49 [] 0 _ _ _ _ ?_)
  refine am_br_f (show ¬ f 9 3 < nI 6 by rw [h]; exact nI_nlt (by decide) (by decide)) ?_
  exact And.intro rfl rfl
set_option maxRecDepth 100000 in
set_option maxHeartbeats 4000000 in
theorem cs_grant_t {ro : Nat → Option am_C} {c : Bool} {a : Nat → Nat → Int32} {l : Nat → Int64} {f : Nat → Nat → Int32} {n : Nat} (h : f 9 3 = nI n) (hn : n < 6) : am_run ro 1 49 [.ref 9] (wd c a l f) (some (.int (nI n))) (wd c a l (u3 f 9 3 (nI (n + 1)))) := by
  refine am_run_of rfl (am_wp_ok (inl := []) 60 0 49 [] 0 _ _ _ _ ?_)
  refine am_br_t (show f 9 3 < nI 6 by rw [h]; exact nI_lt hn (by decide)) ?_
  refine And.intro (show some (Value.int (f 9 3 + 1 - 1)) = _ by rw [h, nI_1, nI_pred]) ?_
  show (wd c a l f).set 9 (.inr (4, [.ref 10, .ref 11, .ref 12, .int (f 9 3)].set 3 (.int (f 9 3 + 1)))) = _
  rw [wf_9_3, h, nI_1]
set_option maxRecDepth 100000 in
set_option maxHeartbeats 4000000 in
theorem mo_permit_f {ro : Nat → Option am_C} {c : Bool} {a : Nat → Nat → Int32} {l : Nat → Int64} {f : Nat → Nat → Int32} (h : f 60 18 = nI 6) : am_run ro 1 142 [.ref 60] (wd c a l f) (some (.int (-1))) (wd c a l f) := by
  refine am_run_of rfl (am_wp_ok (inl := []) 60 0 142 [] 0 _ _ _ _ ?_)
  refine am_br_f (show ¬ ¬ f 60 18 = nI 6 by rw [h]; exact fun q => q rfl) ?_
  exact And.intro rfl rfl
set_option maxRecDepth 100000 in
set_option maxHeartbeats 4000000 in
theorem mo_permit_t {ro : Nat → Option am_C} {c : Bool} {a : Nat → Nat → Int32} {l : Nat → Int64} {f : Nat → Nat → Int32} {n : Nat} (h : f 60 18 = nI n) (hn : n < 6) : am_run ro 1 142 [.ref 60] (wd c a l f) (some (.int (nI n))) (wd c a l (u3 f 60 18 (nI (n + 1)))) := by
  refine am_run_of rfl (am_wp_ok (inl := []) 60 0 142 [] 0 _ _ _ _ ?_)
  refine am_br_t (show ¬ f 60 18 = nI 6 by rw [h, nI_eq (by omega) (by decide)]; omega) ?_
  refine And.intro (show some (Value.int (f 60 18 + 1 - 1)) = _ by rw [h, nI_1, nI_pred]) ?_
  show (wd c a l f).set 60 (.inr (10, [.ref 61, .int (f 60 1), .int (f 60 2), .int (f 60 3), .ref 62, .ref 63, .ref 64, .ref 65, .ref 66, .ref 67, .ref 68, .ref 69, .ref 70, .ref 71, .ref 72, .ref 73, .ref 74, .ref 75, .int (f 60 18), .ref 76, .ref 77, .ref 78, .ref 79, .int (f 60 23), .ref 80, .ref 81, .int (f 60 26), .int (f 60 27), .int (f 60 28)].set 18 (.int (f 60 18 + 1)))) = _
  rw [wf_60_18, h, nI_1]
set_option maxRecDepth 100000 in
set_option maxHeartbeats 4000000 in
theorem cl_permit {ro : Nat → Option am_C} {c : Bool} {a : Nat → Nat → Int32} {l : Nat → Int64} {f : Nat → Nat → Int32} {r : Int32} {hp : am_H} (h : am_run ro 11 49 [.ref 9] (wd c a l f) (some (.int r)) hp) : am_run ro 12 19 [.ref 0] (wd c a l f) (some (.int r)) hp := by
  refine am_run_of rfl (am_wp_ok (inl := []) 60 11 19 [] 0 _ _ _ _ ?_)
  refine ⟨_, _, h, ?_⟩
  exact And.intro rfl rfl
theorem op_permit {ro : Nat → Option am_C} : lp_op ro Rl 19 142 [] := by
  intro c a l f hR
  obtain ⟨h1, h2, h3, ⟨⟨n, hn, e1, e2⟩, h4, h5⟩, h6, h7⟩ := id hR
  by_cases hq : n = 6
  · subst hq
    exact ⟨-1, c, a, l, f, c, a, l, f, cl_permit (am_run_up (cs_grant_f e1) (by decide)), am_run_up (mo_permit_f e2) (by decide), hR⟩
  · refine ⟨nI n, c, a, l, u3 f 9 3 (nI (n + 1)), c, a, l, u3 (u3 f 9 3 (nI (n + 1))) 60 18 (nI (n + 1)), cl_permit (am_run_up (cs_grant_t e1 (by omega)) (by decide)), am_run_up (mo_permit_t (f := u3 f 9 3 (nI (n + 1))) e2 (by omega)) (by decide), ?_⟩
    refine ⟨h1, h2, h3, ⟨⟨n + 1, by omega, rfl, rfl⟩, h4, h5⟩, h6, by cases c <;> exact h7⟩
/-! allows -/
set_option maxRecDepth 100000 in
set_option maxHeartbeats 4000000 in
theorem sp_num_t {ro : Nat → Option am_C} {j : Nat} {hp : am_H} (h : j < 1000000) : am_run ro 2 12 [.int (nI j)] hp (some (.int 1)) hp := by
  refine am_run_of rfl (am_wp_ok (inl := []) 20 1 12 [] 0 _ _ _ _ ?_)
  refine ⟨_, _, sp_below_t (nI_pos (by omega)) (nI_ge (b := 1000000) h (by decide)), ?_⟩
  exact And.intro rfl (And.intro rfl rfl)
set_option maxRecDepth 100000 in
set_option maxHeartbeats 4000000 in
theorem sp_num_f {ro : Nat → Option am_C} {x : Int32} {hp : am_H} (h : x < 0 ∨ nI 1000000 ≤ x) : am_run ro 2 12 [.int x] hp (some (.int 0)) hp := by
  refine am_run_of rfl (am_wp_ok (inl := []) 20 1 12 [] 0 _ _ _ _ ?_)
  refine ⟨_, _, sp_below_f h, ?_⟩
  exact And.intro rfl (And.intro rfl rfl)
set_option maxRecDepth 100000 in
set_option maxHeartbeats 4000000 in
theorem cs_span_t {ro : Nat → Option am_C} {c : Bool} {a : Nat → Nat → Int32} {l : Nat → Int64} {f : Nat → Nat → Int32} {n j u v k : Nat} (hn : f 9 3 = nI n) (hn6 : n ≤ 6) (hj : j < n) (hu : u ≤ v) (hv : v < 1000000) (hk : k < 5) (ek : a 10 j = nI k) : am_run ro 3 50 [.ref 9, .int (nI j), .int (nI u), .int (nI v)] (wd c a l f) (some (.int 1)) (wd c (u2 (u2 (u2 a 11 (upd (a 11) (5 * j + k) (nI u))) 12 (upd (a 12) (5 * j + k) (nI v))) 10 (upd (a 10) j (nI (k + 1)))) l f) := by
  have ej : (nI j).toNatClampNeg = j := nI_clamp (by omega)
  have ek' : a 10 (nI j).toNatClampNeg = nI k := by rw [ej]; exact ek
  have hin : vp_in (nI j) 6 := vp_in_nI (by omega) (by decide)
  have e : nI j * 5 + a 10 (nI j).toNatClampNeg = nI (5 * j + k) := by
    rw [ek', show (5 : Int32) = nI 5 from rfl, nI_mul, nI_add]
    exact congrArg nI (by omega)
  have hi2 : vp_in (nI j * 5 + a 10 (nI j).toNatClampNeg) 30 := by rw [e]; exact vp_in_nI (by omega) (by decide)
  refine am_run_of rfl (am_wp_ok (inl := []) 80 2 50 [] 0 _ _ _ _ ?_)
  refine ⟨_, _, am_run_up (sp_below_t (nI_pos (by omega)) (show ¬ f 9 3 ≤ nI j by rw [hn]; exact nI_ge hj (by omega))) (by decide), ?_⟩
  refine am_br_f (by decide) ?_
  refine ⟨_, _, sp_num_t (by omega), ?_⟩
  refine am_br_f (by decide) ?_
  refine ⟨_, _, sp_num_t (by omega), ?_⟩
  refine am_br_f (by decide) ?_
  refine am_br_t (nI_le hu (by omega)) ?_
  refine And.intro hin ?_
  refine am_br_t (show a 10 (nI j).toNatClampNeg < nI 5 by rw [ek']; exact nI_lt hk (by decide)) ?_
  refine And.intro hin (And.intro hi2 (And.intro hi2 (And.intro hin (And.intro hin ?_))))
  refine And.intro rfl (And.intro rfl ?_)
  show (((wd c a l f).set 11 (.inl (.int, 30, .inl (upd (a 11) (nI j * 5 + a 10 (nI j).toNatClampNeg).toNatClampNeg (nI u))))).set 12 (.inl (.int, 30, .inl (upd (a 12) (nI j * 5 + a 10 (nI j).toNatClampNeg).toNatClampNeg (nI v))))).set 10 (.inl (.int, 6, .inl (upd (a 10) (nI j).toNatClampNeg (a 10 (nI j).toNatClampNeg + 1)))) = _
  rw [ws_11, ws_12, ws_10, e, nI_clamp (show 5 * j + k < 2 ^ 31 by omega), ek', ej, nI_1]
set_option maxRecDepth 100000 in
set_option maxHeartbeats 4000000 in
theorem cs_span_f {ro : Nat → Option am_C} {c : Bool} {a : Nat → Nat → Int32} {l : Nat → Int64} {f : Nat → Nat → Int32} {n : Nat} {x y z : Int32} (hn : f 9 3 = nI n) (hn6 : n ≤ 6) (hk : ∀ p, p < 6 → ∃ k : Nat, k ≤ 5 ∧ a 10 p = nI k) (h : ¬ ∃ j u v k : Nat, x = nI j ∧ y = nI u ∧ z = nI v ∧ j < n ∧ u ≤ v ∧ v < 1000000 ∧ k < 5 ∧ a 10 j = nI k) : am_run ro 3 50 [.ref 9, .int x, .int y, .int z] (wd c a l f) (some (.int 0)) (wd c a l f) := by
  refine am_run_of rfl (am_wp_ok (inl := []) 80 2 50 [] 0 _ _ _ _ ?_)
  rcases bd x n (by omega) with ⟨j, hj, rfl⟩ | hx
  · refine ⟨_, _, am_run_up (sp_below_t (nI_pos (by omega)) (show ¬ f 9 3 ≤ nI j by rw [hn]; exact nI_ge hj (by omega))) (by decide), ?_⟩
    refine am_br_f (by decide) ?_
    rcases bd y 1000000 (by decide) with ⟨u, hu, rfl⟩ | hy
    · refine ⟨_, _, sp_num_t hu, ?_⟩
      refine am_br_f (by decide) ?_
      rcases bd z 1000000 (by decide) with ⟨v, hv, rfl⟩ | hz
      · refine ⟨_, _, sp_num_t hv, ?_⟩
        refine am_br_f (by decide) ?_
        by_cases hq : u ≤ v
        · refine am_br_t (nI_le hq (by omega)) ?_
          have ej : (nI j).toNatClampNeg = j := nI_clamp (by omega)
          obtain ⟨k, hk5, ek⟩ := hk j (by omega)
          have h5 : k = 5 := by
            by_cases h5 : k < 5
            · exact absurd ⟨j, u, v, k, rfl, rfl, rfl, hj, hq, hv, h5, ek⟩ h
            · omega
          refine And.intro (vp_in_nI (by omega) (by decide)) ?_
          refine am_br_f (show ¬ a 10 (nI j).toNatClampNeg < nI 5 by rw [ej, ek, h5]; exact nI_nlt (by decide) (by decide)) ?_
          exact And.intro rfl (And.intro rfl rfl)
        · refine am_br_f (nI_ge (by omega) (by omega)) ?_
          exact And.intro rfl (And.intro rfl rfl)
      · refine ⟨_, _, sp_num_f hz, ?_⟩
        refine am_br_t (by decide) ?_
        exact And.intro rfl (And.intro rfl rfl)
    · refine ⟨_, _, sp_num_f hy, ?_⟩
      refine am_br_t (by decide) ?_
      exact And.intro rfl (And.intro rfl rfl)
  · refine ⟨_, _, am_run_up (sp_below_f (show x < 0 ∨ f 9 3 ≤ x by rw [hn]; exact hx)) (by decide), ?_⟩
    refine am_br_t (by decide) ?_
    exact And.intro rfl (And.intro rfl rfl)
