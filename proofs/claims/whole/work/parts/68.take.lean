/-! take -/
set_option maxRecDepth 100000 in
set_option maxHeartbeats 4000000 in
theorem tk_0 {ro : Nat → Option am_C} {c : Bool} {a : Nat → Nat → Int32} {l : Nat → Int64} {f : Nat → Nat → Int32} {r : Bool} {hp : am_H} (hw : f 60 27 = nI 0) (h : am_run ro 2 111 [.ref 60] (wd c a l f) (some (.int (nI r.toNat))) hp) : am_run ro 3 109 [.ref 60] (wd c a l f) (some (.int (nI r.toNat))) hp := by
  refine am_run_of rfl (am_wp_ok (inl := []) 4 2 109 [15] 0 _ _ _ _ ?_)
  refine am_br_t (show f 60 27 = 0 from hw) ?_
  show am_T ro 2 109 15 [.ref 60, am_un] [] (wd c a l f) _
  refine am_wp_ok (inl := []) 5 2 109 [56] _ _ _ _ _ ?_
  refine am_br_t (show ¬ f 60 27 = nI 3 by rw [hw]; decide) ?_
  show am_T ro 2 109 56 [.ref 60, am_un] [] (wd c a l f) _
  refine am_wp_ok (inl := []) 3 2 109 [60] _ _ _ _ _ ?_
  refine ⟨_, _, h, ?_⟩
  refine am_wp_ok (inl := []) 2 2 109 [] _ _ _ _ _ ?_
  exact And.intro (nI_bo r) (And.intro rfl rfl)
set_option maxRecDepth 100000 in
set_option maxHeartbeats 4000000 in
theorem tk_33 {ro : Nat → Option am_C} {c : Bool} {a : Nat → Nat → Int32} {l : Nat → Int64} {f : Nat → Nat → Int32} {s t : Nat} {u : Nat → Nat} {b : Bool} {K : Option Value → am_H → Prop} (h2 : f 60 2 = nI s) (h3 : f 60 3 = nI t) (hst : s ≤ t) (ht : t ≤ 900) (hu : ∀ q, q < t - s → a 61 (s + q) = nI (u q) ∧ u q < 256) (hw : f 60 27 = nI 3) (hb : sw u (t - s) vt_1 4 = b) (kq : am_T ro 2 109 (bif b then 33 else 56) [.ref 60, am_un] [] (wd c a l f) K) : am_T ro 2 109 0 (am_l0 109 [.ref 60]) [] (wd c a l f) K := by
  refine am_wp_ok (inl := []) 4 2 109 [7] _ _ _ _ _ ?_
  refine am_br_f (show ¬ f 60 27 = 0 by rw [hw]; decide) ?_
  show am_T ro 2 109 7 [.ref 60, am_un] [] (wd c a l f) _
  refine am_wp_ok (inl := []) 5 2 109 [15] _ _ _ _ _ ?_
  refine am_br_f (show ¬ ¬ f 60 27 = nI 3 from fun z => z hw) ?_
  show am_T ro 2 109 15 [.ref 60, am_un] [] (wd c a l f) _
  refine am_wp_ok (inl := []) 5 2 109 [23] _ _ _ _ _ ?_
  refine am_br_f (show ¬ ¬ f 60 27 = nI 3 from fun z => z hw) ?_
  show am_T ro 2 109 23 [.ref 60, am_un] [] (wd c a l f) _
  refine am_wp_ok (inl := []) 4 2 109 [30] _ _ _ _ _ ?_
  refine ⟨_, _, am_run_up (mo_is_1 h2 h3 hst ht hu) (by decide), ?_⟩
  show am_T ro 2 109 30 [.ref 60, am_un] [.int (nI (sw u (t - s) vt_1 4).toNat)] (wd c a l f) _
  rw [hb]
  cases b with
  | true =>
    refine am_wp_ok (inl := []) 2 2 109 [33] _ _ _ _ _ ?_
    exact am_br_f (show ¬ nI 1 = 0 by decide) kq
  | false =>
    refine am_wp_ok (inl := []) 2 2 109 [56] _ _ _ _ _ ?_
    exact am_br_t (show nI 0 = 0 from rfl) kq
set_option maxRecDepth 100000 in
set_option maxHeartbeats 4000000 in
theorem tk_3n {ro : Nat → Option am_C} {c : Bool} {a : Nat → Nat → Int32} {l : Nat → Int64} {f : Nat → Nat → Int32} {s t : Nat} {u : Nat → Nat} {r : Bool} {hp : am_H} (h2 : f 60 2 = nI s) (h3 : f 60 3 = nI t) (hst : s ≤ t) (ht : t ≤ 900) (hu : ∀ q, q < t - s → a 61 (s + q) = nI (u q) ∧ u q < 256) (hw : f 60 27 = nI 3) (hb : sw u (t - s) vt_1 4 = false) (h : am_run ro 2 111 [.ref 60] (wd c a l f) (some (.int (nI r.toNat))) hp) : am_run ro 3 109 [.ref 60] (wd c a l f) (some (.int (nI r.toNat))) hp := by
  refine am_run_of rfl (tk_33 h2 h3 hst ht hu hw hb ?_)
  show am_T ro 2 109 56 [.ref 60, am_un] [] (wd c a l f) _
  refine am_wp_ok (inl := []) 3 2 109 [60] _ _ _ _ _ ?_
  refine ⟨_, _, h, ?_⟩
  refine am_wp_ok (inl := []) 2 2 109 [] _ _ _ _ _ ?_
  exact And.intro (nI_bo r) (And.intro rfl rfl)
set_option maxRecDepth 100000 in
set_option maxHeartbeats 4000000 in
theorem tk_3w {ro : Nat → Option am_C} {c : Bool} {a : Nat → Nat → Int32} {l : Nat → Int64} {f : Nat → Nat → Int32} {s t nc : Nat} {u : Nat → Nat} (h2 : f 60 2 = nI s) (h3 : f 60 3 = nI t) (hst : s ≤ t) (ht : t ≤ 900) (hu : ∀ q, q < t - s → a 61 (s + q) = nI (u q) ∧ u q < 256) (hw : f 60 27 = nI 3) (hb : sw u (t - s) vt_1 4 = true) (hc : nc ≤ 60) (e : a 62 7 = nI nc) : am_run ro 3 109 [.ref 60] (wd c a l f) (some (.int (nI (decide (nc < 60)).toNat))) (wd c a l (u3 f 60 27 4)) := by
  refine am_run_of rfl (tk_33 h2 h3 hst ht hu hw hb ?_)
  show am_T ro 2 109 33 [.ref 60, am_un] [] (wd c a l f) _
  refine am_wp_ok (inl := []) 4 2 109 [38] _ _ _ _ _ ?_
  show am_T ro 2 109 38 [.ref 60, am_un] [] ((wd c a l f).set 60 (.inr (10, [.ref 61, .int (f 60 1), .int (f 60 2), .int (f 60 3), .ref 62, .ref 63, .ref 64, .ref 65, .ref 66, .ref 67, .ref 68, .ref 69, .ref 70, .ref 71, .ref 72, .ref 73, .ref 74, .ref 75, .int (f 60 18), .ref 76, .ref 77, .ref 78, .ref 79, .int (f 60 23), .ref 80, .ref 81, .int (f 60 26), .int (f 60 27), .int (f 60 28)].set 27 (.int 4)))) _
  rw [wf_60_27]
  refine am_wp_ok (inl := []) 10 2 109 [] _ _ _ _ _ ?_
  refine And.intro (vp_in_nI (n := 7) (by decide) (by decide)) ?_
  by_cases hk : nc < 60
  · refine am_br_f (show ¬ nI 60 ≤ a 62 7 by rw [e]; exact nI_ge hk (by decide)) ?_
    rw [decide_eq_true hk]
    exact And.intro rfl (And.intro rfl rfl)
  · refine am_br_t (show nI 60 ≤ a 62 7 by rw [e]; exact nI_le (by omega) (by omega)) ?_
    rw [decide_eq_false hk]
    exact And.intro rfl (And.intro rfl rfl)
set_option maxRecDepth 100000 in
set_option maxHeartbeats 4000000 in
theorem tk_n {ro : Nat → Option am_C} {c : Bool} {a : Nat → Nat → Int32} {l : Nat → Int64} {f : Nat → Nat → Int32} {k : Nat} {v : Int32} {r : Bool} {hp : am_H} (hk0 : ¬ k = 0) (hk3 : ¬ k = 3) (hk15 : k ≤ 15) (hw : f 60 27 = nI k) (hn : am_run ro 1 112 [.ref 60] (wd c a l f) (some (.int v)) (wd c a l f)) (h : am_run ro 2 (if k < 7 then 113 else 114) [.ref 60, .int v] (wd c a l f) (some (.int (nI r.toNat))) hp) : am_run ro 3 109 [.ref 60] (wd c a l f) (some (.int (nI r.toNat))) hp := by
  refine am_run_of rfl (am_wp_ok (inl := []) 4 2 109 [7] 0 _ _ _ _ ?_)
  refine am_br_f (show ¬ f 60 27 = 0 by rw [hw]; exact fun z => hk0 ((nI_eq (a := k) (b := 0) (by omega) (by decide)).mp z)) ?_
  show am_T ro 2 109 7 [.ref 60, am_un] [] (wd c a l f) _
  refine am_wp_ok (inl := []) 5 2 109 [61] _ _ _ _ _ ?_
  refine am_br_t (show ¬ f 60 27 = nI 3 by rw [hw, nI_eq (by omega) (by decide)]; exact hk3) ?_
  show am_T ro 2 109 61 [.ref 60, am_un] [] (wd c a l f) _
  refine am_wp_ok (inl := []) 3 2 109 [65] _ _ _ _ _ ?_
  refine ⟨_, _, am_run_up hn (by decide), ?_⟩
  show am_T ro 2 109 65 [.ref 60, am_un] [.int v] (wd c a l f) _
  by_cases h7 : k < 7
  · rw [if_pos h7] at h
    refine am_wp_ok (inl := []) 6 2 109 [75] _ _ _ _ _ ?_
    refine am_br_f (show ¬ nI 7 ≤ f 60 27 by rw [hw]; exact nI_ge h7 (by decide)) ?_
    show am_T ro 2 109 75 [.ref 60, .int v] [] (wd c a l f) _
    refine am_wp_ok (inl := []) 4 2 109 [80] _ _ _ _ _ ?_
    refine ⟨_, _, h, ?_⟩
    refine am_wp_ok (inl := []) 3 2 109 [] _ _ _ _ _ ?_
    exact And.intro (nI_bo r) (And.intro rfl rfl)
  · rw [if_neg h7] at h
    refine am_wp_ok (inl := []) 6 2 109 [83] _ _ _ _ _ ?_
    refine am_br_t (show nI 7 ≤ f 60 27 by rw [hw]; exact nI_le (by omega) (by omega)) ?_
    show am_T ro 2 109 83 [.ref 60, .int v] [] (wd c a l f) _
    refine am_wp_ok (inl := []) 4 2 109 [88] _ _ _ _ _ ?_
    refine ⟨_, _, h, ?_⟩
    refine am_wp_ok (inl := []) 2 2 109 [] _ _ _ _ _ ?_
    exact And.intro (nI_bo r) (And.intro rfl rfl)
