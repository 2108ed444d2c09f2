/-! the reference's own questions: isMirrored, isName -/
set_option maxRecDepth 100000 in
set_option maxHeartbeats 4000000 in
theorem ri_loop {ro : Nat → Option am_C} {c : Bool} {a : Nat → Nat → Int32} {l : Nat → Int64} {f : Nat → Nat → Int32} {n : Nat} {x : Int32} (hn : n ≤ 16) (en : a 62 9 = nI n) : ∀ (m k : Nat) (w : Bool), k + m = 2 * n → am_T ro 0 115 4 [.ref 60, .int x, .int (nI w.toNat), .int (nI k)] [] (wd c a l f) (fun r hp' => r = some (.int (nI (w || an (fun q => decide (a 68 (32 + q) = x)) k m).toNat)) ∧ hp' = wd c a l f) := by
  have e2 : nI 2 * a 62 9 = nI (2 * n) := by rw [en, nI_mul]
  intro m
  induction m with
  | zero =>
    intro k w h
    refine am_wp_ok (inl := []) 11 0 115 [] _ _ _ _ _ ?_
    refine And.intro (vp_in_nI (n := 9) (by decide) (by decide)) ?_
    refine am_br_t (show nI 2 * a 62 9 ≤ nI k by rw [e2]; exact nI_le (by omega) (by omega)) ?_
    refine And.intro (nI_bo w) (And.intro ?_ rfl)
    show some (Value.int (nI w.toNat)) = some (.int (nI (w || false).toNat))
    rw [Bool.or_false]
  | succ m ih =>
    intro k w h
    have ek : (nI 32 + nI k).toNatClampNeg = 32 + k := by rw [nI_add, nI_clamp (by omega)]
    have nxt : ∀ w' : Bool, (w' || an (fun q => decide (a 68 (32 + q) = x)) (k + 1) m) = (w || an (fun q => decide (a 68 (32 + q) = x)) k (m + 1)) → am_T ro 0 115 4 [.ref 60, .int x, .int (nI w'.toNat), .int (nI k + 1)] [] (wd c a l f) (fun r hp' => r = some (.int (nI (w || an (fun q => decide (a 68 (32 + q) = x)) k (m + 1)).toNat)) ∧ hp' = wd c a l f) := by
      intro w' hq
      rw [nI_1]
      refine (ih (k + 1) w' (by omega)).mono (fun r hp' z => ?_)
      rw [hq] at z
      exact z
    refine am_wp_ok (inl := []) 9 0 115 [17] _ _ _ _ _ ?_
    refine And.intro (vp_in_nI (n := 9) (by decide) (by decide)) ?_
    refine am_br_f (show ¬ nI 2 * a 62 9 ≤ nI k by rw [e2]; exact nI_ge (by omega) (by omega)) ?_
    show am_T ro 0 115 17 [.ref 60, .int x, .int (nI w.toNat), .int (nI k)] [] (wd c a l f) _
    refine am_wp_ok (inl := []) 30 0 115 [4] _ _ _ _ _ ?_
    cases w with
    | true =>
      refine am_br_t (show ¬ nI true.toNat = 0 by decide) ?_
      exact nxt true (by simp)
    | false =>
      refine am_br_f (show ¬ ¬ nI false.toNat = 0 by decide) ?_
      refine And.intro (show vp_in (nI 32 + nI k) 64 by rw [nI_add]; exact vp_in_nI (by omega) (by decide)) ?_
      by_cases hq : a 68 (32 + k) = x
      · refine am_br_f (show ¬ ¬ a 68 (nI 32 + nI k).toNatClampNeg = x by rw [ek]; exact fun z => z hq) ?_
        exact nxt true (by rw [an_t (p := fun q => decide (a 68 (32 + q) = x)) (k := k) (decide_eq_true hq)]; rfl)
      · refine am_br_t (show ¬ a 68 (nI 32 + nI k).toNatClampNeg = x by rw [ek]; exact hq) ?_
        exact nxt false (by rw [an_f (p := fun q => decide (a 68 (32 + q) = x)) (k := k) (decide_eq_false hq)])
set_option maxRecDepth 100000 in
set_option maxHeartbeats 4000000 in
theorem mo_im {ro : Nat → Option am_C} {c : Bool} {a : Nat → Nat → Int32} {l : Nat → Int64} {f : Nat → Nat → Int32} {n : Nat} {x : Int32} (hn : n ≤ 16) (en : a 62 9 = nI n) : am_run ro 1 115 [.ref 60, .int x] (wd c a l f) (some (.int (nI (an (fun q => decide (a 68 (32 + q) = x)) 0 (2 * n)).toNat))) (wd c a l f) := by
  refine am_run_of rfl (am_wp_ok (inl := []) 5 0 115 [4] 0 _ _ _ _ ?_)
  exact ri_loop hn en (2 * n) 0 false (by omega)
set_option maxRecDepth 100000 in
set_option maxHeartbeats 4000000 in
theorem rn_loop {ro : Nat → Option am_C} {c : Bool} {a : Nat → Nat → Int32} {l : Nat → Int64} {f : Nat → Nat → Int32} {n : Nat} {v : Int64} (hn : n ≤ 20) (en : a 62 11 = nI n) : ∀ (m k : Nat) (w : Bool), k + m = n → am_T ro 0 117 5 [.ref 60, .long v, am_un, .int (nI w.toNat), .int (nI k)] [] (wd c a l f) (fun r hp' => r = some (.int (nI (w || an (fun q => decide (l (20 + q) = v)) k m).toNat)) ∧ hp' = wd c a l f) := by
  intro m
  induction m with
  | zero =>
    intro k w h
    refine am_wp_ok (inl := []) 11 0 117 [] _ _ _ _ _ ?_
    refine And.intro (vp_in_nI (n := 11) (by decide) (by decide)) ?_
    refine am_br_t (show a 62 11 ≤ nI k by rw [en]; exact nI_le (by omega) (by omega)) ?_
    refine And.intro (nI_bo w) (And.intro ?_ rfl)
    show some (Value.int (nI w.toNat)) = some (.int (nI (w || false).toNat))
    rw [Bool.or_false]
  | succ m ih =>
    intro k w h
    have ek : (nI 20 + nI k).toNatClampNeg = 20 + k := by rw [nI_add, nI_clamp (by omega)]
    have nxt : ∀ w' : Bool, (w' || an (fun q => decide (l (20 + q) = v)) (k + 1) m) = (w || an (fun q => decide (l (20 + q) = v)) k (m + 1)) → am_T ro 0 117 5 [.ref 60, .long v, am_un, .int (nI w'.toNat), .int (nI k + 1)] [] (wd c a l f) (fun r hp' => r = some (.int (nI (w || an (fun q => decide (l (20 + q) = v)) k (m + 1)).toNat)) ∧ hp' = wd c a l f) := by
      intro w' hq
      rw [nI_1]
      refine (ih (k + 1) w' (by omega)).mono (fun r hp' z => ?_)
      rw [hq] at z
      exact z
    refine am_wp_ok (inl := []) 8 0 117 [17] _ _ _ _ _ ?_
    refine And.intro (vp_in_nI (n := 11) (by decide) (by decide)) ?_
    refine am_br_f (show ¬ a 62 11 ≤ nI k by rw [en]; exact nI_ge (by omega) (by omega)) ?_
    show am_T ro 0 117 17 [.ref 60, .long v, am_un, .int (nI w.toNat), .int (nI k)] [] (wd c a l f) _
    refine am_wp_ok (inl := []) 30 0 117 [5] _ _ _ _ _ ?_
    cases w with
    | true =>
      refine am_br_t (show ¬ nI true.toNat = 0 by decide) ?_
      exact nxt true (by simp)
    | false =>
      refine am_br_f (show ¬ ¬ nI false.toNat = 0 by decide) ?_
      refine And.intro (show vp_in (nI 20 + nI k) 40 by rw [nI_add]; exact vp_in_nI (by omega) (by decide)) ?_
      by_cases hq : l (20 + k) = v
      · refine am_br_f (fun z => z ((lg_cmp_eq _ _).mpr (show l (nI 20 + nI k).toNatClampNeg = v by rw [ek]; exact hq))) ?_
        exact nxt true (by rw [an_t (p := fun q => decide (l (20 + q) = v)) (k := k) (decide_eq_true hq)]; rfl)
      · refine am_br_t (fun z => hq (by have z1 : l (nI 20 + nI k).toNatClampNeg = v := (lg_cmp_eq _ _).mp z
                                        rw [ek] at z1
                                        exact z1)) ?_
        exact nxt false (by rw [an_f (p := fun q => decide (l (20 + q) = v)) (k := k) (decide_eq_false hq)])
set_option maxRecDepth 100000 in
set_option maxHeartbeats 4000000 in
theorem mo_in {ro : Nat → Option am_C} {c : Bool} {a : Nat → Nat → Int32} {l : Nat → Int64} {f : Nat → Nat → Int32} {n : Nat} {v : Int64} (hn : n ≤ 20) (en : a 62 11 = nI n) : am_run ro 1 117 [.ref 60, .long v] (wd c a l f) (some (.int (nI (an (fun q => decide (l (20 + q) = v)) 0 n).toNat))) (wd c a l f) := by
  refine am_run_of rfl (am_wp_ok (inl := []) 5 0 117 [5] 0 _ _ _ _ ?_)
  exact rn_loop hn en n 0 false (by omega)
/-! begins -/
set_option maxRecDepth 100000 in
set_option maxHeartbeats 4000000 in
theorem bg_0 {ro : Nat → Option am_C} {c : Bool} {a : Nat → Nat → Int32} {l : Nat → Int64} {f : Nat → Nat → Int32} {s t : Nat} {u : Nat → Nat} (h2 : f 60 2 = nI s) (h3 : f 60 3 = nI t) (hst : s ≤ t) (ht : t ≤ 900) (hu : ∀ q, q < t - s → a 61 (s + q) = nI (u q) ∧ u q < 256) (w0 : sw u (t - s) vt_0 4 = true) {k : Nat} (hk2 : k < 2 ^ 31) (e : a 62 6 = nI k) : am_run ro 2 111 [.ref 60] (wd c a l f) (some (.int (nI (decide (k < 30)).toNat))) (wd c a l (u3 f 60 27 1)) := by
  refine am_run_of rfl (am_wp_ok (inl := []) 3 1 111 [3] 0 _ _ _ _ ?_)
  show am_T ro 1 111 3 [.ref 60, .int 6] [] (wd c a l f) _
  refine am_wp_ok (inl := []) 4 1 111 [10] _ _ _ _ _ ?_
  refine ⟨_, _, mo_is_0 h2 h3 hst ht hu, ?_⟩
  show am_T ro 1 111 10 [.ref 60, .int 6] [.int (nI (sw u (t - s) vt_0 4).toNat)] (wd c a l f) _
  rw [w0]
  refine am_wp_ok (inl := []) 2 1 111 [13] _ _ _ _ _ ?_
  refine am_br_f (show ¬ nI 1 = 0 by decide) ?_
  show am_T ro 1 111 13 [.ref 60, .int 6] [] (wd c a l f) _
  refine am_wp_ok (inl := []) 4 1 111 [18] _ _ _ _ _ ?_
  show am_T ro 1 111 18 [.ref 60, .int 6] [] ((wd c a l f).set 60 (.inr (10, [.ref 61, .int (f 60 1), .int (f 60 2), .int (f 60 3), .ref 62, .ref 63, .ref 64, .ref 65, .ref 66, .ref 67, .ref 68, .ref 69, .ref 70, .ref 71, .ref 72, .ref 73, .ref 74, .ref 75, .int (f 60 18), .ref 76, .ref 77, .ref 78, .ref 79, .int (f 60 23), .ref 80, .ref 81, .int (f 60 26), .int (f 60 27), .int (f 60 28)].set 27 (.int 1)))) _
  rw [wf_60_27]
  refine am_wp_ok (inl := []) 12 1 111 [] _ _ _ _ _ ?_
  refine And.intro (vp_in_nI (n := 6) (by decide) (by decide)) ?_
  by_cases hk : k < 30
  · refine am_br_f (show ¬ nI 30 ≤ a 62 6 by rw [e]; exact nI_ge hk (by decide)) ?_
    rw [decide_eq_true hk]
    exact And.intro rfl (And.intro rfl rfl)
  · refine am_br_t (show nI 30 ≤ a 62 6 by rw [e]; exact nI_le (by omega) (by omega)) ?_
    rw [decide_eq_false hk]
    exact And.intro rfl (And.intro rfl rfl)
set_option maxRecDepth 100000 in
set_option maxHeartbeats 4000000 in
theorem bg_5 {ro : Nat → Option am_C} {c : Bool} {a : Nat → Nat → Int32} {l : Nat → Int64} {f : Nat → Nat → Int32} {s t : Nat} {u : Nat → Nat} (h2 : f 60 2 = nI s) (h3 : f 60 3 = nI t) (hst : s ≤ t) (ht : t ≤ 900) (hu : ∀ q, q < t - s → a 61 (s + q) = nI (u q) ∧ u q < 256) (w0 : sw u (t - s) vt_0 4 = false) (w5 : sw u (t - s) vt_5 7 = true) {k : Nat} (hk2 : k < 2 ^ 31) (e : a 62 8 = nI k) : am_run ro 2 111 [.ref 60] (wd c a l f) (some (.int (nI (decide (k < 16)).toNat))) (wd c a l (u3 f 60 27 7)) := by
  refine am_run_of rfl (am_wp_ok (inl := []) 3 1 111 [3] 0 _ _ _ _ ?_)
  show am_T ro 1 111 3 [.ref 60, .int 6] [] (wd c a l f) _
  refine am_wp_ok (inl := []) 4 1 111 [10] _ _ _ _ _ ?_
  refine ⟨_, _, mo_is_0 h2 h3 hst ht hu, ?_⟩
  show am_T ro 1 111 10 [.ref 60, .int 6] [.int (nI (sw u (t - s) vt_0 4).toNat)] (wd c a l f) _
  rw [w0]
  refine am_wp_ok (inl := []) 2 1 111 [35] _ _ _ _ _ ?_
  refine am_br_t (show nI 0 = 0 from rfl) ?_
  show am_T ro 1 111 35 [.ref 60, .int 6] [] (wd c a l f) _
  refine am_wp_ok (inl := []) 4 1 111 [42] _ _ _ _ _ ?_
  refine ⟨_, _, mo_is_5 h2 h3 hst ht hu, ?_⟩
  show am_T ro 1 111 42 [.ref 60, .int 6] [.int (nI (sw u (t - s) vt_5 7).toNat)] (wd c a l f) _
  rw [w5]
  refine am_wp_ok (inl := []) 2 1 111 [45] _ _ _ _ _ ?_
  refine am_br_f (show ¬ nI 1 = 0 by decide) ?_
  show am_T ro 1 111 45 [.ref 60, .int 6] [] (wd c a l f) _
  refine am_wp_ok (inl := []) 4 1 111 [51] _ _ _ _ _ ?_
  show am_T ro 1 111 51 [.ref 60, .int 6] [] ((wd c a l f).set 60 (.inr (10, [.ref 61, .int (f 60 1), .int (f 60 2), .int (f 60 3), .ref 62, .ref 63, .ref 64, .ref 65, .ref 66, .ref 67, .ref 68, .ref 69, .ref 70, .ref 71, .ref 72, .ref 73, .ref 74, .ref 75, .int (f 60 18), .ref 76, .ref 77, .ref 78, .ref 79, .int (f 60 23), .ref 80, .ref 81, .int (f 60 26), .int (f 60 27), .int (f 60 28)].set 27 (.int 7)))) _
  rw [wf_60_27]
  refine am_wp_ok (inl := []) 12 1 111 [] _ _ _ _ _ ?_
  refine And.intro (vp_in_nI (n := 8) (by decide) (by decide)) ?_
  by_cases hk : k < 16
  · refine am_br_f (show ¬ nI 16 ≤ a 62 8 by rw [e]; exact nI_ge hk (by decide)) ?_
    rw [decide_eq_true hk]
    exact And.intro rfl (And.intro rfl rfl)
  · refine am_br_t (show nI 16 ≤ a 62 8 by rw [e]; exact nI_le (by omega) (by omega)) ?_
    rw [decide_eq_false hk]
    exact And.intro rfl (And.intro rfl rfl)
set_option maxRecDepth 100000 in
set_option maxHeartbeats 4000000 in
theorem bg_6 {ro : Nat → Option am_C} {c : Bool} {a : Nat → Nat → Int32} {l : Nat → Int64} {f : Nat → Nat → Int32} {s t : Nat} {u : Nat → Nat} (h2 : f 60 2 = nI s) (h3 : f 60 3 = nI t) (hst : s ≤ t) (ht : t ≤ 900) (hu : ∀ q, q < t - s → a 61 (s + q) = nI (u q) ∧ u q < 256) (w0 : sw u (t - s) vt_0 4 = false) (w5 : sw u (t - s) vt_5 7 = false) (w6 : sw u (t - s) vt_6 6 = true) {k : Nat} (hk2 : k < 2 ^ 31) (e : a 62 9 = nI k) : am_run ro 2 111 [.ref 60] (wd c a l f) (some (.int (nI (decide (k < 16)).toNat))) (wd c a l (u3 f 60 27 8)) := by
  refine am_run_of rfl (am_wp_ok (inl := []) 3 1 111 [3] 0 _ _ _ _ ?_)
  show am_T ro 1 111 3 [.ref 60, .int 6] [] (wd c a l f) _
  refine am_wp_ok (inl := []) 4 1 111 [10] _ _ _ _ _ ?_
  refine ⟨_, _, mo_is_0 h2 h3 hst ht hu, ?_⟩
  show am_T ro 1 111 10 [.ref 60, .int 6] [.int (nI (sw u (t - s) vt_0 4).toNat)] (wd c a l f) _
  rw [w0]
  refine am_wp_ok (inl := []) 2 1 111 [35] _ _ _ _ _ ?_
  refine am_br_t (show nI 0 = 0 from rfl) ?_
  show am_T ro 1 111 35 [.ref 60, .int 6] [] (wd c a l f) _
  refine am_wp_ok (inl := []) 4 1 111 [42] _ _ _ _ _ ?_
  refine ⟨_, _, mo_is_5 h2 h3 hst ht hu, ?_⟩
  show am_T ro 1 111 42 [.ref 60, .int 6] [.int (nI (sw u (t - s) vt_5 7).toNat)] (wd c a l f) _
  rw [w5]
  refine am_wp_ok (inl := []) 2 1 111 [70] _ _ _ _ _ ?_
  refine am_br_t (show nI 0 = 0 from rfl) ?_
  show am_T ro 1 111 70 [.ref 60, .int 6] [] (wd c a l f) _
  refine am_wp_ok (inl := []) 4 1 111 [77] _ _ _ _ _ ?_
  refine ⟨_, _, mo_is_6 h2 h3 hst ht hu, ?_⟩
  show am_T ro 1 111 77 [.ref 60, .int 6] [.int (nI (sw u (t - s) vt_6 6).toNat)] (wd c a l f) _
  rw [w6]
  refine am_wp_ok (inl := []) 2 1 111 [80] _ _ _ _ _ ?_
  refine am_br_f (show ¬ nI 1 = 0 by decide) ?_
  show am_T ro 1 111 80 [.ref 60, .int 6] [] (wd c a l f) _
  refine am_wp_ok (inl := []) 4 1 111 [86] _ _ _ _ _ ?_
  show am_T ro 1 111 86 [.ref 60, .int 6] [] ((wd c a l f).set 60 (.inr (10, [.ref 61, .int (f 60 1), .int (f 60 2), .int (f 60 3), .ref 62, .ref 63, .ref 64, .ref 65, .ref 66, .ref 67, .ref 68, .ref 69, .ref 70, .ref 71, .ref 72, .ref 73, .ref 74, .ref 75, .int (f 60 18), .ref 76, .ref 77, .ref 78, .ref 79, .int (f 60 23), .ref 80, .ref 81, .int (f 60 26), .int (f 60 27), .int (f 60 28)].set 27 (.int 8)))) _
  rw [wf_60_27]
  refine am_wp_ok (inl := []) 12 1 111 [] _ _ _ _ _ ?_
  refine And.intro (vp_in_nI (n := 9) (by decide) (by decide)) ?_
  by_cases hk : k < 16
  · refine am_br_f (show ¬ nI 16 ≤ a 62 9 by rw [e]; exact nI_ge hk (by decide)) ?_
    rw [decide_eq_true hk]
    exact And.intro rfl (And.intro rfl rfl)
  · refine am_br_t (show nI 16 ≤ a 62 9 by rw [e]; exact nI_le (by omega) (by omega)) ?_
    rw [decide_eq_false hk]
    exact And.intro rfl (And.intro rfl rfl)
set_option maxRecDepth 100000 in
set_option maxHeartbeats 4000000 in
theorem bg_7 {ro : Nat → Option am_C} {c : Bool} {a : Nat → Nat → Int32} {l : Nat → Int64} {f : Nat → Nat → Int32} {s t : Nat} {u : Nat → Nat} (h2 : f 60 2 = nI s) (h3 : f 60 3 = nI t) (hst : s ≤ t) (ht : t ≤ 900) (hu : ∀ q, q < t - s → a 61 (s + q) = nI (u q) ∧ u q < 256) (w0 : sw u (t - s) vt_0 4 = false) (w5 : sw u (t - s) vt_5 7 = false) (w6 : sw u (t - s) vt_6 6 = false) (w7 : sw u (t - s) vt_7 3 = true) {k : Nat} (hk2 : k < 2 ^ 31) (e : a 62 10 = nI k) : am_run ro 2 111 [.ref 60] (wd c a l f) (some (.int (nI (decide (k < 20)).toNat))) (wd c a l (u3 f 60 27 10)) := by
  refine am_run_of rfl (am_wp_ok (inl := []) 3 1 111 [3] 0 _ _ _ _ ?_)
  show am_T ro 1 111 3 [.ref 60, .int 6] [] (wd c a l f) _
  refine am_wp_ok (inl := []) 4 1 111 [10] _ _ _ _ _ ?_
  refine ⟨_, _, mo_is_0 h2 h3 hst ht hu, ?_⟩
  show am_T ro 1 111 10 [.ref 60, .int 6] [.int (nI (sw u (t - s) vt_0 4).toNat)] (wd c a l f) _
  rw [w0]
  refine am_wp_ok (inl := []) 2 1 111 [35] _ _ _ _ _ ?_
  refine am_br_t (show nI 0 = 0 from rfl) ?_
  show am_T ro 1 111 35 [.ref 60, .int 6] [] (wd c a l f) _
  refine am_wp_ok (inl := []) 4 1 111 [42] _ _ _ _ _ ?_
  refine ⟨_, _, mo_is_5 h2 h3 hst ht hu, ?_⟩
  show am_T ro 1 111 42 [.ref 60, .int 6] [.int (nI (sw u (t - s) vt_5 7).toNat)] (wd c a l f) _
  rw [w5]
  refine am_wp_ok (inl := []) 2 1 111 [70] _ _ _ _ _ ?_
  refine am_br_t (show nI 0 = 0 from rfl) ?_
  show am_T ro 1 111 70 [.ref 60, .int 6] [] (wd c a l f) _
  refine am_wp_ok (inl := []) 4 1 111 [77] _ _ _ _ _ ?_
  refine ⟨_, _, mo_is_6 h2 h3 hst ht hu, ?_⟩
  show am_T ro 1 111 77 [.ref 60, .int 6] [.int (nI (sw u (t - s) vt_6 6).toNat)] (wd c a l f) _
  rw [w6]
  refine am_wp_ok (inl := []) 2 1 111 [105] _ _ _ _ _ ?_
  refine am_br_t (show nI 0 = 0 from rfl) ?_
  show am_T ro 1 111 105 [.ref 60, .int 6] [] (wd c a l f) _
  refine am_wp_ok (inl := []) 4 1 111 [112] _ _ _ _ _ ?_
  refine ⟨_, _, mo_is_7 h2 h3 hst ht hu, ?_⟩
  show am_T ro 1 111 112 [.ref 60, .int 6] [.int (nI (sw u (t - s) vt_7 3).toNat)] (wd c a l f) _
  rw [w7]
  refine am_wp_ok (inl := []) 2 1 111 [115] _ _ _ _ _ ?_
  refine am_br_f (show ¬ nI 1 = 0 by decide) ?_
  show am_T ro 1 111 115 [.ref 60, .int 6] [] (wd c a l f) _
  refine am_wp_ok (inl := []) 4 1 111 [121] _ _ _ _ _ ?_
  show am_T ro 1 111 121 [.ref 60, .int 6] [] ((wd c a l f).set 60 (.inr (10, [.ref 61, .int (f 60 1), .int (f 60 2), .int (f 60 3), .ref 62, .ref 63, .ref 64, .ref 65, .ref 66, .ref 67, .ref 68, .ref 69, .ref 70, .ref 71, .ref 72, .ref 73, .ref 74, .ref 75, .int (f 60 18), .ref 76, .ref 77, .ref 78, .ref 79, .int (f 60 23), .ref 80, .ref 81, .int (f 60 26), .int (f 60 27), .int (f 60 28)].set 27 (.int 10)))) _
  rw [wf_60_27]
  refine am_wp_ok (inl := []) 12 1 111 [] _ _ _ _ _ ?_
  refine And.intro (vp_in_nI (n := 10) (by decide) (by decide)) ?_
  by_cases hk : k < 20
  · refine am_br_f (show ¬ nI 20 ≤ a 62 10 by rw [e]; exact nI_ge hk (by decide)) ?_
    rw [decide_eq_true hk]
    exact And.intro rfl (And.intro rfl rfl)
  · refine am_br_t (show nI 20 ≤ a 62 10 by rw [e]; exact nI_le (by omega) (by omega)) ?_
    rw [decide_eq_false hk]
    exact And.intro rfl (And.intro rfl rfl)
set_option maxRecDepth 100000 in
set_option maxHeartbeats 4000000 in
theorem bg_8 {ro : Nat → Option am_C} {c : Bool} {a : Nat → Nat → Int32} {l : Nat → Int64} {f : Nat → Nat → Int32} {s t : Nat} {u : Nat → Nat} (h2 : f 60 2 = nI s) (h3 : f 60 3 = nI t) (hst : s ≤ t) (ht : t ≤ 900) (hu : ∀ q, q < t - s → a 61 (s + q) = nI (u q) ∧ u q < 256) (w0 : sw u (t - s) vt_0 4 = false) (w5 : sw u (t - s) vt_5 7 = false) (w6 : sw u (t - s) vt_6 6 = false) (w7 : sw u (t - s) vt_7 3 = false) (w8 : sw u (t - s) vt_8 4 = true) {k : Nat} (hk2 : k < 2 ^ 31) (e : a 62 11 = nI k) : am_run ro 2 111 [.ref 60] (wd c a l f) (some (.int (nI (decide (k < 20)).toNat))) (wd c a l (u3 f 60 27 14)) := by
  refine am_run_of rfl (am_wp_ok (inl := []) 3 1 111 [3] 0 _ _ _ _ ?_)
  show am_T ro 1 111 3 [.ref 60, .int 6] [] (wd c a l f) _
  refine am_wp_ok (inl := []) 4 1 111 [10] _ _ _ _ _ ?_
  refine ⟨_, _, mo_is_0 h2 h3 hst ht hu, ?_⟩
  show am_T ro 1 111 10 [.ref 60, .int 6] [.int (nI (sw u (t - s) vt_0 4).toNat)] (wd c a l f) _
  rw [w0]
  refine am_wp_ok (inl := []) 2 1 111 [35] _ _ _ _ _ ?_
  refine am_br_t (show nI 0 = 0 from rfl) ?_
  show am_T ro 1 111 35 [.ref 60, .int 6] [] (wd c a l f) _
  refine am_wp_ok (inl := []) 4 1 111 [42] _ _ _ _ _ ?_
  refine ⟨_, _, mo_is_5 h2 h3 hst ht hu, ?_⟩
  show am_T ro 1 111 42 [.ref 60, .int 6] [.int (nI (sw u (t - s) vt_5 7).toNat)] (wd c a l f) _
  rw [w5]
  refine am_wp_ok (inl := []) 2 1 111 [70] _ _ _ _ _ ?_
  refine am_br_t (show nI 0 = 0 from rfl) ?_
  show am_T ro 1 111 70 [.ref 60, .int 6] [] (wd c a l f) _
  refine am_wp_ok (inl := []) 4 1 111 [77] _ _ _ _ _ ?_
  refine ⟨_, _, mo_is_6 h2 h3 hst ht hu, ?_⟩
  show am_T ro 1 111 77 [.ref 60, .int 6] [.int (nI (sw u (t - s) vt_6 6).toNat)] (wd c a l f) _
  rw [w6]
  refine am_wp_ok (inl := []) 2 1 111 [105] _ _ _ _ _ ?_
  refine am_br_t (show nI 0 = 0 from rfl) ?_
  show am_T ro 1 111 105 [.ref 60, .int 6] [] (wd c a l f) _
  refine am_wp_ok (inl := []) 4 1 111 [112] _ _ _ _ _ ?_
  refine ⟨_, _, mo_is_7 h2 h3 hst ht hu, ?_⟩
  show am_T ro 1 111 112 [.ref 60, .int 6] [.int (nI (sw u (t - s) vt_7 3).toNat)] (wd c a l f) _
  rw [w7]
  refine am_wp_ok (inl := []) 2 1 111 [140] _ _ _ _ _ ?_
  refine am_br_t (show nI 0 = 0 from rfl) ?_
  show am_T ro 1 111 140 [.ref 60, .int 6] [] (wd c a l f) _
  refine am_wp_ok (inl := []) 4 1 111 [147] _ _ _ _ _ ?_
  refine ⟨_, _, mo_is_8 h2 h3 hst ht hu, ?_⟩
  show am_T ro 1 111 147 [.ref 60, .int 6] [.int (nI (sw u (t - s) vt_8 4).toNat)] (wd c a l f) _
  rw [w8]
  refine am_wp_ok (inl := []) 2 1 111 [150] _ _ _ _ _ ?_
  refine am_br_f (show ¬ nI 1 = 0 by decide) ?_
  show am_T ro 1 111 150 [.ref 60, .int 6] [] (wd c a l f) _
  refine am_wp_ok (inl := []) 4 1 111 [156] _ _ _ _ _ ?_
  show am_T ro 1 111 156 [.ref 60, .int 6] [] ((wd c a l f).set 60 (.inr (10, [.ref 61, .int (f 60 1), .int (f 60 2), .int (f 60 3), .ref 62, .ref 63, .ref 64, .ref 65, .ref 66, .ref 67, .ref 68, .ref 69, .ref 70, .ref 71, .ref 72, .ref 73, .ref 74, .ref 75, .int (f 60 18), .ref 76, .ref 77, .ref 78, .ref 79, .int (f 60 23), .ref 80, .ref 81, .int (f 60 26), .int (f 60 27), .int (f 60 28)].set 27 (.int 14)))) _
  rw [wf_60_27]
  refine am_wp_ok (inl := []) 12 1 111 [] _ _ _ _ _ ?_
  refine And.intro (vp_in_nI (n := 11) (by decide) (by decide)) ?_
  by_cases hk : k < 20
  · refine am_br_f (show ¬ nI 20 ≤ a 62 11 by rw [e]; exact nI_ge hk (by decide)) ?_
    rw [decide_eq_true hk]
    exact And.intro rfl (And.intro rfl rfl)
  · refine am_br_t (show nI 20 ≤ a 62 11 by rw [e]; exact nI_le (by omega) (by omega)) ?_
    rw [decide_eq_false hk]
    exact And.intro rfl (And.intro rfl rfl)
set_option maxRecDepth 100000 in
set_option maxHeartbeats 4000000 in
theorem bg_n {ro : Nat → Option am_C} {c : Bool} {a : Nat → Nat → Int32} {l : Nat → Int64} {f : Nat → Nat → Int32} {s t : Nat} {u : Nat → Nat} (h2 : f 60 2 = nI s) (h3 : f 60 3 = nI t) (hst : s ≤ t) (ht : t ≤ 900) (hu : ∀ q, q < t - s → a 61 (s + q) = nI (u q) ∧ u q < 256) (w0 : sw u (t - s) vt_0 4 = false) (w5 : sw u (t - s) vt_5 7 = false) (w6 : sw u (t - s) vt_6 6 = false) (w7 : sw u (t - s) vt_7 3 = false) (w8 : sw u (t - s) vt_8 4 = false) : am_run ro 2 111 [.ref 60] (wd c a l f) (some (.int (nI 0))) (wd c a l f) := by
  refine am_run_of rfl (am_wp_ok (inl := []) 3 1 111 [3] 0 _ _ _ _ ?_)
  show am_T ro 1 111 3 [.ref 60, .int 6] [] (wd c a l f) _
  refine am_wp_ok (inl := []) 4 1 111 [10] _ _ _ _ _ ?_
  refine ⟨_, _, mo_is_0 h2 h3 hst ht hu, ?_⟩
  show am_T ro 1 111 10 [.ref 60, .int 6] [.int (nI (sw u (t - s) vt_0 4).toNat)] (wd c a l f) _
  rw [w0]
  refine am_wp_ok (inl := []) 2 1 111 [35] _ _ _ _ _ ?_
  refine am_br_t (show nI 0 = 0 from rfl) ?_
  show am_T ro 1 111 35 [.ref 60, .int 6] [] (wd c a l f) _
  refine am_wp_ok (inl := []) 4 1 111 [42] _ _ _ _ _ ?_
  refine ⟨_, _, mo_is_5 h2 h3 hst ht hu, ?_⟩
  show am_T ro 1 111 42 [.ref 60, .int 6] [.int (nI (sw u (t - s) vt_5 7).toNat)] (wd c a l f) _
  rw [w5]
  refine am_wp_ok (inl := []) 2 1 111 [70] _ _ _ _ _ ?_
  refine am_br_t (show nI 0 = 0 from rfl) ?_
  show am_T ro 1 111 70 [.ref 60, .int 6] [] (wd c a l f) _
  refine am_wp_ok (inl := []) 4 1 111 [77] _ _ _ _ _ ?_
  refine ⟨_, _, mo_is_6 h2 h3 hst ht hu, ?_⟩
  show am_T ro 1 111 77 [.ref 60, .int 6] [.int (nI (sw u (t - s) vt_6 6).toNat)] (wd c a l f) _
  rw [w6]
  refine am_wp_ok (inl := []) 2 1 111 [105] _ _ _ _ _ ?_
  refine am_br_t (show nI 0 = 0 from rfl) ?_
  show am_T ro 1 111 105 [.ref 60, .int 6] [] (wd c a l f) _
  refine am_wp_ok (inl := []) 4 1 111 [112] _ _ _ _ _ ?_
  refine ⟨_, _, mo_is_7 h2 h3 hst ht hu, ?_⟩
  show am_T ro 1 111 112 [.ref 60, .int 6] [.int (nI (sw u (t - s) vt_7 3).toNat)] (wd c a l f) _
  rw [w7]
  refine am_wp_ok (inl := []) 2 1 111 [140] _ _ _ _ _ ?_
  refine am_br_t (show nI 0 = 0 from rfl) ?_
  show am_T ro 1 111 140 [.ref 60, .int 6] [] (wd c a l f) _
  refine am_wp_ok (inl := []) 4 1 111 [147] _ _ _ _ _ ?_
  refine ⟨_, _, mo_is_8 h2 h3 hst ht hu, ?_⟩
  show am_T ro 1 111 147 [.ref 60, .int 6] [.int (nI (sw u (t - s) vt_8 4).toNat)] (wd c a l f) _
  rw [w8]
  refine am_wp_ok (inl := []) 2 1 111 [175] _ _ _ _ _ ?_
  refine am_br_t (show nI 0 = 0 from rfl) ?_
  show am_T ro 1 111 175 [.ref 60, .int 6] [] (wd c a l f) _
  refine am_wp_ok (inl := []) 3 1 111 [] _ _ _ _ _ ?_
  exact And.intro rfl (And.intro rfl rfl)
