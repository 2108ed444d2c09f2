theorem in6_t {ro : Nat → Option am_C} {j : Nat} {hp : am_H} (h : j < 1000000) : am_run ro 1 105 [.long (nI j).toInt64, .long (Int64.ofNat 0), .long 999999] hp (some (.int 1)) hp := in_t (k := 999999) (Nat.le_of_lt_succ h) (by decide) rfl
theorem in6_f {ro : Nat → Option am_C} {x : Int32} {hp : am_H} (h : x < 0 ∨ nI 1000000 ≤ x) : am_run ro 1 105 [.long x.toInt64, .long (Int64.ofNat 0), .long 999999] hp (some (.int 0)) hp := in_f (k := 999999) h (by decide) rfl
set_option maxRecDepth 100000 in
set_option maxHeartbeats 4000000 in
theorem mo_allows_t {ro : Nat → Option am_C} {c : Bool} {a : Nat → Nat → Int32} {l : Nat → Int64} {f : Nat → Nat → Int32} {n j u v k : Nat} (hn : f 60 18 = nI n) (hn6 : n ≤ 6) (hj : j < n) (hu : u ≤ v) (hv : v < 1000000) (hk : k < 5) (ek : a 76 j = nI k) : am_run ro 3 143 [.ref 60, .int (nI j), .int (nI u), .int (nI v)] (wd c a l f) (some (.int 1)) (wd c (u2 (u2 a 77 (upd (upd (a 77) (2 * (5 * j + k)) (nI u)) (2 * (5 * j + k) + 1) (nI v))) 76 (upd (a 76) j (nI (k + 1)))) l f) := by
  have ej : (nI j).toNatClampNeg = j := nI_clamp (by omega)
  have ek' : a 76 (nI j).toNatClampNeg = nI k := by rw [ej]; exact ek
  have hin : vp_in (nI j) 6 := vp_in_nI (by omega) (by decide)
  have e : 2 * (5 * nI j + a 76 (nI j).toNatClampNeg) = nI (2 * (5 * j + k)) := by
    rw [ek', show (5 : Int32) = nI 5 from rfl, show (2 : Int32) = nI 2 from rfl, nI_mul, nI_add, nI_mul]
  have hi2 : vp_in (2 * (5 * nI j + a 76 (nI j).toNatClampNeg)) 60 := by rw [e]; exact vp_in_nI (by omega) (by decide)
  have e3 : 2 * (5 * nI j + a 76 (nI j).toNatClampNeg) + 1 = nI (2 * (5 * j + k) + 1) := by rw [e, nI_1]
  have hi3 : vp_in (2 * (5 * nI j + a 76 (nI j).toNatClampNeg) + 1) 60 := by rw [e3]; exact vp_in_nI (by omega) (by decide)
  refine am_run_of rfl (am_wp_ok (inl := []) 30 2 143 [22] 0 _ _ _ _ ?_)
  refine am_br_f (nI_pos (by omega)) ?_
  refine am_br_f (show ¬ f 60 18 ≤ nI j by rw [hn]; exact nI_ge hj (by omega)) ?_
  refine And.intro hin ?_
  refine am_br_f (show ¬ a 76 (nI j).toNatClampNeg = nI 5 by rw [ek', nI_eq (by omega) (by decide)]; omega) ?_
  show am_T ro 2 143 22 [.ref 60, .int (nI j), .int (nI u), .int (nI v), am_un] [] (wd c a l f) _
  refine am_wp_ok (inl := []) 20 2 143 [34] _ _ _ _ _ ?_
  refine ⟨_, _, am_run_up (in6_t (j := u) (by omega)) (by decide), ?_⟩
  refine am_br_f (by decide) ?_
  show am_T ro 2 143 34 [.ref 60, .int (nI j), .int (nI u), .int (nI v), am_un] [] (wd c a l f) _
  refine am_wp_ok (inl := []) 20 2 143 [46] _ _ _ _ _ ?_
  refine ⟨_, _, am_run_up (in6_t (j := v) (by omega)) (by decide), ?_⟩
  refine am_br_f (by decide) ?_
  show am_T ro 2 143 46 [.ref 60, .int (nI j), .int (nI u), .int (nI v), am_un] [] (wd c a l f) _
  refine am_wp_ok (inl := []) 20 2 143 [53] _ _ _ _ _ ?_
  refine am_br_t (nI_le hu (by omega)) ?_
  show am_T ro 2 143 53 [.ref 60, .int (nI j), .int (nI u), .int (nI v), am_un] [] (wd c a l f) _
  refine am_wp_ok (inl := []) 60 2 143 [] _ _ _ _ _ ?_
  refine And.intro hin (And.intro hi2 (And.intro hi3 (And.intro hin (And.intro hin ?_))))
  refine And.intro rfl (And.intro rfl ?_)
  show (((wd c a l f).set 77 (.inl (.int, 60, .inl (upd (a 77) (2 * (5 * nI j + a 76 (nI j).toNatClampNeg)).toNatClampNeg (nI u))))).set 77 (.inl (.int, 60, .inl (upd (upd (a 77) (2 * (5 * nI j + a 76 (nI j).toNatClampNeg)).toNatClampNeg (nI u)) (2 * (5 * nI j + a 76 (nI j).toNatClampNeg) + 1).toNatClampNeg (nI v))))).set 76 (.inl (.int, 6, .inl (upd (a 76) (nI j).toNatClampNeg (a 76 (nI j).toNatClampNeg + 1)))) = _
  rw [ws_77, ws_77, ws_76, u2_u2, e3, e, nI_clamp (show 2 * (5 * j + k) < 2 ^ 31 by omega), nI_clamp (show 2 * (5 * j + k) + 1 < 2 ^ 31 by omega), ek', ej, nI_1]
set_option maxRecDepth 100000 in
set_option maxHeartbeats 4000000 in
theorem mo_allows_f {ro : Nat → Option am_C} {c : Bool} {a : Nat → Nat → Int32} {l : Nat → Int64} {f : Nat → Nat → Int32} {n : Nat} {x y z : Int32} (hn : f 60 18 = nI n) (hn6 : n ≤ 6) (hk : ∀ p, p < 6 → ∃ k : Nat, k ≤ 5 ∧ a 76 p = nI k) (h : ¬ ∃ j u v k : Nat, x = nI j ∧ y = nI u ∧ z = nI v ∧ j < n ∧ u ≤ v ∧ v < 1000000 ∧ k < 5 ∧ a 76 j = nI k) : am_run ro 3 143 [.ref 60, .int x, .int y, .int z] (wd c a l f) (some (.int 0)) (wd c a l f) := by
  refine am_run_of rfl (am_wp_ok (inl := []) 30 2 143 [22] 0 _ _ _ _ ?_)
  rcases bd x n (by omega) with ⟨j, hj, rfl⟩ | hx
  · refine am_br_f (nI_pos (by omega)) ?_
    refine am_br_f (show ¬ f 60 18 ≤ nI j by rw [hn]; exact nI_ge hj (by omega)) ?_
    have ej : (nI j).toNatClampNeg = j := nI_clamp (by omega)
    obtain ⟨k, hk5, ek⟩ := hk j (by omega)
    refine And.intro (vp_in_nI (by omega) (by decide)) ?_
    by_cases h5 : k = 5
    · refine am_br_t (show a 76 (nI j).toNatClampNeg = nI 5 by rw [ej, ek, h5]) ?_
      exact And.intro rfl (And.intro rfl rfl)
    · refine am_br_f (show ¬ a 76 (nI j).toNatClampNeg = nI 5 by rw [ej, ek, nI_eq (by omega) (by decide)]; exact h5) ?_
      show am_T ro 2 143 22 [.ref 60, .int (nI j), .int (y), .int (z), am_un] [] (wd c a l f) _
      refine am_wp_ok (inl := []) 20 2 143 [34] _ _ _ _ _ ?_
      rcases bd y 1000000 (by decide) with ⟨u, hu, rfl⟩ | hy
      · refine ⟨_, _, am_run_up (in6_t (j := u) (by omega)) (by decide), ?_⟩
        refine am_br_f (by decide) ?_
        show am_T ro 2 143 34 [.ref 60, .int (nI j), .int (nI u), .int (z), am_un] [] (wd c a l f) _
        refine am_wp_ok (inl := []) 20 2 143 [46] _ _ _ _ _ ?_
        rcases bd z 1000000 (by decide) with ⟨v, hv, rfl⟩ | hz
        · refine ⟨_, _, am_run_up (in6_t (j := v) (by omega)) (by decide), ?_⟩
          refine am_br_f (by decide) ?_
          have hq : ¬ u ≤ v := fun hq => h ⟨j, u, v, k, rfl, rfl, rfl, hj, hq, hv, by omega, ek⟩
          show am_T ro 2 143 46 [.ref 60, .int (nI j), .int (nI u), .int (nI v), am_un] [] (wd c a l f) _
          refine am_wp_ok (inl := []) 20 2 143 [] _ _ _ _ _ ?_
          refine am_br_f (nI_ge (by omega) (by omega)) ?_
          exact And.intro rfl (And.intro rfl rfl)
        · refine ⟨_, _, am_run_up (in6_f hz) (by decide), ?_⟩
          refine am_br_t (by decide) ?_
          exact And.intro rfl (And.intro rfl rfl)
      · refine ⟨_, _, am_run_up (in6_f hy) (by decide), ?_⟩
        refine am_br_t (by decide) ?_
        exact And.intro rfl (And.intro rfl rfl)
  · by_cases h0 : x < 0
    · refine am_br_t h0 ?_
      exact And.intro rfl (And.intro rfl rfl)
    · refine am_br_f h0 ?_
      refine am_br_t (show f 60 18 ≤ x by rw [hn]; exact hx.resolve_left h0) ?_
      exact And.intro rfl (And.intro rfl rfl)
set_option maxRecDepth 100000 in
set_option maxHeartbeats 4000000 in
theorem cl_allows {ro : Nat → Option am_C} {c : Bool} {a : Nat → Nat → Int32} {l : Nat → Int64} {f : Nat → Nat → Int32} {x y z r : Int32} {hp : am_H} (h : am_run ro 11 50 [.ref 9, .int x, .int y, .int z] (wd c a l f) (some (.int r)) hp) (hr : narrow .boolean (.int r) = .int r) : am_run ro 12 20 [.ref 0, .int x, .int y, .int z] (wd c a l f) (some (.int r)) hp := by
  refine am_run_of rfl (am_wp_ok (inl := []) 60 11 20 [] 0 _ _ _ _ ?_)
  refine ⟨_, _, h, ?_⟩
  exact And.intro hr (And.intro rfl rfl)
theorem op_allows {ro : Nat → Option am_C} (x y z : Int32) : lp_op ro Rl 20 143 [.int x, .int y, .int z] := by
  intro c a l f hR
  obtain ⟨h1, h2, h3, ⟨⟨n, hn, e1, e2⟩, h4, h5⟩, h6, h7⟩ := id hR
  by_cases hq : ∃ j u v k : Nat, x = nI j ∧ y = nI u ∧ z = nI v ∧ j < n ∧ u ≤ v ∧ v < 1000000 ∧ k < 5 ∧ a 10 j = nI k
  · obtain ⟨j, u, v, k, rfl, rfl, rfl, hj, hu, hv, hk, ek⟩ := hq
    have ek2 : a 76 j = nI k := by
      obtain ⟨k', -, g1, g2⟩ := h4 j (by omega)
      rw [g2, ← g1, ek]
    refine ⟨1, c, _, l, f, c, _, l, f, cl_allows (am_run_up (cs_span_t e1 hn hj hu hv hk ek) (by decide)) rfl, am_run_up (mo_allows_t (a := u2 (u2 (u2 a 11 (upd (a 11) (5 * j + k) (nI u))) 12 (upd (a 12) (5 * j + k) (nI v))) 10 (upd (a 10) j (nI (k + 1)))) e2 hn hj hu hv hk ek2) (by decide), ?_⟩
    refine ⟨h1, h2, h3, ⟨⟨n, hn, e1, e2⟩, fun p hp => ?_, fun q hq => ?_⟩, h6, by cases c <;> exact h7⟩
    · show ∃ k' : Nat, k' ≤ 5 ∧ upd (a 10) j (nI (k + 1)) p = nI k' ∧ upd (a 76) j (nI (k + 1)) p = nI k'
      by_cases e : p = j
      · subst e
        exact ⟨k + 1, by omega, upd_same, upd_same⟩
      · rw [upd_ne e, upd_ne e]
        exact h4 p hp
    · show upd (a 11) (5 * j + k) (nI u) q = upd (upd (a 77) (2 * (5 * j + k)) (nI u)) (2 * (5 * j + k) + 1) (nI v) (2 * q) ∧ upd (a 12) (5 * j + k) (nI v) q = upd (upd (a 77) (2 * (5 * j + k)) (nI u)) (2 * (5 * j + k) + 1) (nI v) (2 * q + 1)
      by_cases e : q = 5 * j + k
      · subst e
        rw [upd_same, upd_same, upd_ne (by omega), upd_same, upd_same]
        exact ⟨rfl, rfl⟩
      · rw [upd_ne e, upd_ne e, upd_ne (by omega), upd_ne (by omega), upd_ne (by omega), upd_ne (by omega)]
        exact h5 q hq
  · refine ⟨0, c, a, l, f, c, a, l, f, cl_allows (am_run_up (cs_span_f e1 hn (fun p hp => by obtain ⟨k, g1, g2, g3⟩ := h4 p hp; exact ⟨k, g1, g2⟩) hq) (by decide)) rfl, am_run_up (mo_allows_f e2 hn (fun p hp => by obtain ⟨k, g1, g2, g3⟩ := h4 p hp; exact ⟨k, g1, g3⟩) (fun ⟨j, u, v, k, q1, q2, q3, q4, q5, q6, q7, q8⟩ => hq ⟨j, u, v, k, q1, q2, q3, q4, q5, q6, q7, ?_⟩)) (by decide), hR⟩
    obtain ⟨k', -, g1, g2⟩ := h4 j (by omega)
    rw [g1, ← g2, q8]
