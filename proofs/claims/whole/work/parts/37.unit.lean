/-! unit -/
theorem nI_255 {x : Int32} (h : nI 256 ≤ x) : nI 255 < x := by
  rw [Int32.lt_iff_toInt_lt, nI_toInt (by decide)]
  have := Int32.le_iff_toInt_le.mp h
  rw [nI_toInt (by decide)] at this
  omega
set_option maxRecDepth 100000 in
set_option maxHeartbeats 4000000 in
theorem cs_app_t {ro : Nat → Option am_C} {c : Bool} {a : Nat → Nat → Int32} {l : Nat → Int64} {f : Nat → Nat → Int32} {u n : Nat} (hu : u < 256) (hn : n < 900) (en : f 1 1 = nI n) : am_run ro 1 25 [.ref 1, .int (nI u)] (wd c a l f) (some (.int 1)) (wd c (u2 a 2 (upd (a 2) n (nI (if u = 10 then 32 else u)))) l (u3 f 1 1 (nI (n + 1)))) := by
  refine am_run_of rfl (am_wp_ok (inl := []) 20 0 25 [25] 0 _ _ _ _ ?_)
  refine am_br_f (nI_pos (by omega)) ?_
  refine am_br_f (show ¬ nI 255 < nI u from nI_nlt (by omega) (by omega)) ?_
  refine am_br_t (show f 1 1 < nI 900 by rw [en]; exact nI_lt hn (by decide)) ?_
  show am_T ro 0 25 25 [.ref 1, .int (nI u)] [] (wd c a l f) _
  have hin : vp_in (f 1 1) 900 := by rw [en]; exact vp_in_nI hn (by decide)
  refine am_wp_ok (inl := []) 30 0 25 [] _ _ _ _ _ ?_
  by_cases h : u = 10
  · subst h
    refine am_br_f (show ¬ ¬ nI 10 = nI 10 from fun z => z rfl) ?_
    refine And.intro hin ?_
    refine And.intro rfl (And.intro rfl ?_)
    show ((wd c a l f).set 2 (.inl (.int, 900, .inl (upd (a 2) (f 1 1).toNatClampNeg (nI 32))))).set 1 (.inr (1, [.ref 2, .int (f 1 1), .int (f 1 2), .int (f 1 3), .int (f 1 4)].set 1 (.int (f 1 1 + 1)))) = _
    rw [ws_2, wf_1_1, en, nI_clamp (by omega), nI_1, if_pos rfl]
  · refine am_br_t (show ¬ nI u = nI 10 by rw [nI_eq (by omega) (by decide)]; exact h) ?_
    refine And.intro hin ?_
    refine And.intro rfl (And.intro rfl ?_)
    show ((wd c a l f).set 2 (.inl (.int, 900, .inl (upd (a 2) (f 1 1).toNatClampNeg (nI u))))).set 1 (.inr (1, [.ref 2, .int (f 1 1), .int (f 1 2), .int (f 1 3), .int (f 1 4)].set 1 (.int (f 1 1 + 1)))) = _
    rw [ws_2, wf_1_1, en, nI_clamp (by omega), nI_1, if_neg h]
set_option maxRecDepth 100000 in
set_option maxHeartbeats 4000000 in
theorem cs_app_f {ro : Nat → Option am_C} {c : Bool} {a : Nat → Nat → Int32} {l : Nat → Int64} {f : Nat → Nat → Int32} {x : Int32} {n : Nat} (hn : n ≤ 900) (en : f 1 1 = nI n) (h : (x < 0 ∨ nI 256 ≤ x) ∨ n = 900) : am_run ro 1 25 [.ref 1, .int x] (wd c a l f) (some (.int 0)) (wd c a l f) := by
  refine am_run_of rfl (am_wp_ok (inl := []) 20 0 25 [25] 0 _ _ _ _ ?_)
  by_cases h0 : x < 0
  · refine am_br_t h0 ?_
    exact And.intro rfl (And.intro rfl rfl)
  · refine am_br_f h0 ?_
    by_cases h1 : nI 255 < x
    · refine am_br_t h1 ?_
      exact And.intro rfl (And.intro rfl rfl)
    · refine am_br_f h1 ?_
      have h9 : n = 900 := by
        rcases h with (h | h) | h
        · exact absurd h h0
        · exact absurd (nI_255 h) h1
        · exact h
      refine am_br_f (show ¬ f 1 1 < nI 900 by rw [en, h9]; exact nI_nlt (by decide) (by decide)) ?_
      exact And.intro rfl (And.intro rfl rfl)
set_option maxRecDepth 100000 in
set_option maxHeartbeats 4000000 in
theorem mo_unit_t {ro : Nat → Option am_C} {c : Bool} {a : Nat → Nat → Int32} {l : Nat → Int64} {f : Nat → Nat → Int32} {u n : Nat} (hu : u < 256) (hn : n < 900) (en : f 60 1 = nI n) : am_run ro 2 104 [.ref 60, .int (nI u)] (wd c a l f) (some (.int 1)) (wd c (u2 a 61 (upd (a 61) n (nI u))) l (u3 f 60 1 (nI (n + 1)))) := by
  refine am_run_of rfl (am_wp_ok (inl := []) 20 1 104 [12] 0 _ _ _ _ ?_)
  refine ⟨_, _, am_run_up (in_t (j := u) (k := 255) (by omega) (by decide) rfl) (by decide), ?_⟩
  refine am_br_f (by decide) ?_
  show am_T ro 1 104 12 [.ref 60, .int (nI u)] [] (wd c a l f) _
  have hin : vp_in (f 60 1) 900 := by rw [en]; exact vp_in_nI hn (by decide)
  refine am_wp_ok (inl := []) 30 1 104 [24] _ _ _ _ _ ?_
  refine am_br_t (show ¬ f 60 1 = nI 900 by rw [en, nI_eq (by omega) (by decide)]; omega) ?_
  show am_T ro 1 104 24 [.ref 60, .int (nI u)] [] (wd c a l f) _
  refine am_wp_ok (inl := []) 30 1 104 [] _ _ _ _ _ ?_
  refine And.intro hin ?_
  refine And.intro rfl (And.intro rfl ?_)
  show ((wd c a l f).set 61 (.inl (.int, 900, .inl (upd (a 61) (f 60 1).toNatClampNeg (nI u))))).set 60 (.inr (10, [.ref 61, .int (f 60 1), .int (f 60 2), .int (f 60 3), .ref 62, .ref 63, .ref 64, .ref 65, .ref 66, .ref 67, .ref 68, .ref 69, .ref 70, .ref 71, .ref 72, .ref 73, .ref 74, .ref 75, .int (f 60 18), .ref 76, .ref 77, .ref 78, .ref 79, .int (f 60 23), .ref 80, .ref 81, .int (f 60 26), .int (f 60 27), .int (f 60 28)].set 1 (.int (f 60 1 + 1)))) = _
  rw [ws_61, wf_60_1, en, nI_clamp (by omega), nI_1]
set_option maxRecDepth 100000 in
set_option maxHeartbeats 4000000 in
theorem mo_unit_f {ro : Nat → Option am_C} {c : Bool} {a : Nat → Nat → Int32} {l : Nat → Int64} {f : Nat → Nat → Int32} {x : Int32} {n : Nat} (hn : n ≤ 900) (en : f 60 1 = nI n) (h : (x < 0 ∨ nI 256 ≤ x) ∨ n = 900) : am_run ro 2 104 [.ref 60, .int x] (wd c a l f) (some (.int 0)) (wd c a l f) := by
  refine am_run_of rfl (am_wp_ok (inl := []) 20 1 104 [12] 0 _ _ _ _ ?_)
  rcases bd x 256 (by decide) with ⟨u, hu, rfl⟩ | hx
  · have h9 : n = 900 := by
      rcases h with (h | h) | h
      · exact absurd h (nI_pos (by omega))
      · exact absurd h (nI_ge hu (by decide))
      · exact h
    refine ⟨_, _, am_run_up (in_t (j := u) (k := 255) (by omega) (by decide) rfl) (by decide), ?_⟩
    refine am_br_f (by decide) ?_
    show am_T ro 1 104 12 [.ref 60, .int (nI u)] [] (wd c a l f) _
    refine am_wp_ok (inl := []) 30 1 104 [24] _ _ _ _ _ ?_
    refine am_br_f (show ¬ ¬ f 60 1 = nI 900 by rw [en, h9]; exact fun z => z rfl) ?_
    exact And.intro rfl (And.intro rfl rfl)
  · refine ⟨_, _, am_run_up (in_f (k := 255) hx (by decide) rfl) (by decide), ?_⟩
    refine am_br_t (by decide) ?_
    exact And.intro rfl (And.intro rfl rfl)
set_option maxRecDepth 100000 in
set_option maxHeartbeats 4000000 in
theorem cl_unit {ro : Nat → Option am_C} {c : Bool} {a : Nat → Nat → Int32} {l : Nat → Int64} {f : Nat → Nat → Int32} {x r : Int32} {hp : am_H} (h : am_run ro 11 25 [.ref 1, .int x] (wd c a l f) (some (.int r)) hp) (hr : narrow .boolean (.int r) = .int r) : am_run ro 12 1 [.ref 0, .int x] (wd c a l f) (some (.int r)) hp := by
  refine am_run_of rfl (am_wp_ok (inl := []) 60 11 1 [] 0 _ _ _ _ ?_)
  refine ⟨_, _, h, ?_⟩
  exact And.intro hr (And.intro rfl rfl)
theorem op_unit {ro : Nat → Option am_C} (x : Int32) : lp_op ro Rl 1 104 [.int x] := by
  intro c a l f hR
  obtain ⟨⟨n, hn, e1, e2, h1⟩, h2, h3, h4, h5, h6⟩ := id hR
  by_cases hq : (x < 0 ∨ nI 256 ≤ x) ∨ n = 900
  · exact ⟨0, c, a, l, f, c, a, l, f, cl_unit (am_run_up (cs_app_f hn e1 hq) (by decide)) rfl, am_run_up (mo_unit_f hn e2 hq) (by decide), hR⟩
  · rcases bd x 256 (by decide) with ⟨u, hu, rfl⟩ | hx
    · have hn9 : n < 900 := by
        by_cases h9 : n = 900
        · exact absurd (Or.inr h9) hq
        · omega
      refine ⟨1, c, _, l, _, c, _, l, _, cl_unit (am_run_up (cs_app_t hu hn9 e1) (by decide)) rfl, am_run_up (mo_unit_t (a := u2 a 2 (upd (a 2) n (nI (if u = 10 then 32 else u)))) (f := u3 f 1 1 (nI (n + 1))) hu hn9 e2) (by decide), ?_⟩
      refine ⟨⟨n + 1, by omega, rfl, rfl, fun i hi => ?_⟩, h2, h3, h4, h5, by cases c <;> exact h6⟩
      show ∃ v : Nat, v < 256 ∧ upd (a 61) n (nI u) i = nI v ∧ upd (a 2) n (nI (if u = 10 then 32 else u)) i = nI (if v = 10 then 32 else v)
      by_cases e : i = n
      · subst e
        exact ⟨u, hu, upd_same, upd_same⟩
      · rw [upd_ne e, upd_ne e]
        exact h1 i (by omega)
    · exact absurd (Or.inl hx) hq
