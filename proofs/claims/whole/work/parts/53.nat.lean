/-! nameAt -/
theorem na_add {P x : Nat} (h1 : 97 ≤ x) (h2 : x ≤ 122) : (27 : Int64) * lN P + (nI x - nI 97 + 1).toInt64 = lN (27 * P + (x - 96)) := by
  rw [nI_sub h1, nI_1, nI_l (by omega), show (27 : Int64) = lN 27 from rfl, lN_mul, lN_add]
  exact congrArg lN (by omega)
set_option maxRecDepth 100000 in
set_option maxHeartbeats 4000000 in
theorem na_out {ro : Nat → Option am_C} {c : Bool} {a : Nat → Nat → Int32} {l : Nat → Int64} {f : Nat → Nat → Int32} {t i : Nat} {v : Int64} (h3 : f 60 3 = nI t) (ht : t ≤ 900) (hi : i ≤ 901) : am_T ro 0 116 41 [.ref 60, .long v, am_un, .int 0, .int (nI i)] [] (wd c a l f) (fun r hp' => r = some (.long 0) ∧ hp' = wd c a l f) := by
  refine am_wp_ok (inl := []) 12 0 116 [118] _ _ _ _ _ ?_
  have go : am_T ro 0 116 118 [.ref 60, .long v, am_un, .int 0, .int (nI i)] [] (wd c a l f) (fun r hp' => r = some (.long 0) ∧ hp' = wd c a l f) := by
    refine am_wp_ok (inl := []) 12 0 116 [] _ _ _ _ _ ?_
    refine am_br_t (by decide) ?_
    exact And.intro rfl rfl
  by_cases h : t ≤ i
  · refine am_br_t (show f 60 3 ≤ nI i by rw [h3]; exact nI_le h (by omega)) ?_
    exact go
  · refine am_br_f (show ¬ f 60 3 ≤ nI i by rw [h3]; exact nI_ge (by omega) (by omega)) ?_
    refine am_br_t (by decide) ?_
    exact go
set_option maxRecDepth 100000 in
set_option maxHeartbeats 4000000 in
theorem na_loop {ro : Nat → Option am_C} {c : Bool} {a : Nat → Nat → Int32} {l : Nat → Int64} {f : Nat → Nat → Int32} {s t : Nat} {u : Nat → Nat} (h3 : f 60 3 = nI t) (hst : s ≤ t) (ht : t ≤ 900) (hu : ∀ q, q < t - s → a 61 (s + q) = nI (u q) ∧ u q < 256) : ∀ (m k P : Nat), k + m = t - s → am_T ro 0 116 41 [.ref 60, .long (lN P), am_un, .int 1, .int (nI (s + k))] [] (wd c a l f) (fun r hp' => r = some (.long (bif al (lz u) k m then lN (pf u k m P) else 0)) ∧ hp' = wd c a l f) := by
  intro m
  induction m with
  | zero =>
    intro k P h
    refine am_wp_ok (inl := []) 12 0 116 [118] _ _ _ _ _ ?_
    refine am_br_t (show f 60 3 ≤ nI (s + k) by rw [h3]; exact nI_le (by omega) (by omega)) ?_
    show am_T ro 0 116 118 [.ref 60, .long (lN P), am_un, .int 1, .int (nI (s + k))] [] (wd c a l f) _
    refine am_wp_ok (inl := []) 12 0 116 [] _ _ _ _ _ ?_
    refine am_br_f (by decide) ?_
    exact And.intro rfl rfl
  | succ m ih =>
    intro k P h
    obtain ⟨e, hb⟩ := hu k (by omega)
    have e' : a 61 (nI (s + k)).toNatClampNeg = nI (u k) := by rw [nI_clamp (by omega)]; exact e
    have hin : vp_in (nI (s + k)) 900 := vp_in_nI (by omega) (by decide)
    refine am_wp_ok (inl := []) 12 0 116 [54] _ _ _ _ _ ?_
    refine am_br_f (show ¬ f 60 3 ≤ nI (s + k) by rw [h3]; exact nI_ge (by omega) (by omega)) ?_
    refine am_br_f (by decide) ?_
    show am_T ro 0 116 54 [.ref 60, .long (lN P), am_un, .int 1, .int (nI (s + k))] [] (wd c a l f) _
    have bad : lz u k = false → am_T ro 0 116 82 [.ref 60, .long (lN P), am_un, .int 1, .int (nI (s + k))] [] (wd c a l f) (fun r hp' => r = some (.long (bif al (lz u) k (m + 1) then lN (pf u k (m + 1) P) else 0)) ∧ hp' = wd c a l f) := by
      intro hz
      rw [al_f (p := lz u) hz]
      refine am_wp_ok (inl := []) 3 0 116 [84] _ _ _ _ _ ?_
      show am_T ro 0 116 84 [.ref 60, .long (lN P), am_un, .int 0, .int (nI (s + k))] [] (wd c a l f) _
      refine am_wp_ok (inl := []) 12 0 116 [112] _ _ _ _ _ ?_
      refine am_br_t (by decide) ?_
      show am_T ro 0 116 112 [.ref 60, .long (27 * lN P + (0 : Int32).toInt64), am_un, .int 0, .int (nI (s + k))] [] (wd c a l f) _
      refine am_wp_ok (inl := []) 4 0 116 [41] _ _ _ _ _ ?_
      show am_T ro 0 116 41 [.ref 60, .long (27 * lN P + (0 : Int32).toInt64), am_un, .int 0, .int (nI (s + k) + 1)] [] (wd c a l f) _
      rw [nI_1]
      exact na_out h3 ht (by omega)
    refine am_wp_ok (inl := []) 12 0 116 [66, 82] _ _ _ _ _ ?_
    refine And.intro hin ?_
    by_cases h97 : u k < 97
    · refine am_br_t (show a 61 (nI (s + k)).toNatClampNeg < nI 97 by rw [e']; exact nI_lt h97 (by decide)) ?_
      exact bad (by unfold lz; rw [decide_eq_false (show ¬ 97 ≤ u k by omega)]; rfl)
    · refine am_br_f (show ¬ a 61 (nI (s + k)).toNatClampNeg < nI 97 by rw [e']; exact nI_nlt (by omega) (by omega)) ?_
      show am_T ro 0 116 66 [.ref 60, .long (lN P), am_un, .int 1, .int (nI (s + k))] [] (wd c a l f) _
      refine am_wp_ok (inl := []) 12 0 116 [78, 82] _ _ _ _ _ ?_
      refine And.intro hin ?_
      by_cases h122 : u k ≤ 122
      · refine am_br_f (show ¬ nI 122 < a 61 (nI (s + k)).toNatClampNeg by rw [e']; exact nI_nlt h122 (by decide)) ?_
        show am_T ro 0 116 78 [.ref 60, .long (lN P), am_un, .int 1, .int (nI (s + k))] [] (wd c a l f) _
        refine am_wp_ok (inl := []) 4 0 116 [84] _ _ _ _ _ ?_
        show am_T ro 0 116 84 [.ref 60, .long (lN P), am_un, .int 1, .int (nI (s + k))] [] (wd c a l f) _
        refine am_wp_ok (inl := []) 20 0 116 [112] _ _ _ _ _ ?_
        refine am_br_f (by decide) ?_
        refine And.intro hin ?_
        show am_T ro 0 116 112 [.ref 60, .long (27 * lN P + (a 61 (nI (s + k)).toNatClampNeg - nI 97 + 1).toInt64), am_un, .int 1, .int (nI (s + k))] [] (wd c a l f) _
        rw [e', na_add (by omega) h122]
        refine am_wp_ok (inl := []) 4 0 116 [41] _ _ _ _ _ ?_
        show am_T ro 0 116 41 [.ref 60, .long (lN (27 * P + (u k - 96))), am_un, .int 1, .int (nI (s + k) + 1)] [] (wd c a l f) _
        rw [nI_1, al_t (p := lz u) (show lz u k = true by unfold lz; rw [decide_eq_true (show 97 ≤ u k by omega), decide_eq_true h122]; rfl)]
        exact ih (k + 1) _ (by omega)
      · refine am_br_t (show nI 122 < a 61 (nI (s + k)).toNatClampNeg by rw [e']; exact nI_lt (by omega) (by omega)) ?_
        exact bad (by unfold lz; rw [decide_eq_false h122, Bool.and_false])
set_option maxRecDepth 100000 in
set_option maxHeartbeats 4000000 in
theorem mo_nameAt {ro : Nat → Option am_C} {c : Bool} {a : Nat → Nat → Int32} {l : Nat → Int64} {f : Nat → Nat → Int32} {s t : Nat} {u : Nat → Nat} (h2 : f 60 2 = nI s) (h3 : f 60 3 = nI t) (hst : s ≤ t) (ht : t ≤ 900) (hu : ∀ q, q < t - s → a 61 (s + q) = nI (u q) ∧ u q < 256) : am_run ro 1 116 [.ref 60] (wd c a l f) (some (.long (bif nm u (t - s) then lN (pf u 0 (t - s) 0) else 0))) (wd c a l f) := by
  have ed : f 60 3 - f 60 2 = nI (t - s) := by rw [h2, h3, nI_sub hst]
  have no : nm u (t - s) = false → am_T ro 0 116 33 [.ref 60, .long 0, am_un, am_un, am_un] [] (wd c a l f) (fun r hp' => r = some (.long (bif nm u (t - s) then lN (pf u 0 (t - s) 0) else 0)) ∧ hp' = wd c a l f) := by
    intro hq
    rw [hq]
    refine am_wp_ok (inl := []) 8 0 116 [41] _ _ _ _ _ ?_
    show am_T ro 0 116 41 [.ref 60, .long 0, am_un, .int 0, .int (f 60 2)] [] (wd c a l f) _
    rw [h2]
    exact na_out h3 ht (by omega)
  refine am_run_of rfl (am_wp_ok (inl := []) 12 0 116 [15, 33] 0 _ _ _ _ ?_)
  by_cases h1 : t - s < 1
  · refine am_br_t (show f 60 3 - f 60 2 < nI 1 by rw [ed]; exact nI_lt h1 (by decide)) ?_
    exact no (by unfold nm; rw [decide_eq_false (show ¬ 1 ≤ t - s by omega)]; rfl)
  · refine am_br_f (show ¬ f 60 3 - f 60 2 < nI 1 by rw [ed]; exact nI_nlt (by omega) (by omega)) ?_
    show am_T ro 0 116 15 [.ref 60, .long 0, am_un, am_un, am_un] [] (wd c a l f) _
    refine am_wp_ok (inl := []) 12 0 116 [29, 33] _ _ _ _ _ ?_
    by_cases h8 : t - s ≤ 8
    · refine am_br_f (show ¬ nI 8 < f 60 3 - f 60 2 by rw [ed]; exact nI_nlt h8 (by decide)) ?_
      show am_T ro 0 116 29 [.ref 60, .long 0, am_un, am_un, am_un] [] (wd c a l f) _
      refine am_wp_ok (inl := []) 8 0 116 [41] _ _ _ _ _ ?_
      show am_T ro 0 116 41 [.ref 60, .long (lN 0), am_un, .int 1, .int (f 60 2)] [] (wd c a l f) _
      rw [h2, show nm u (t - s) = al (lz u) 0 (t - s) by unfold nm; rw [decide_eq_true (show 1 ≤ t - s by omega), decide_eq_true h8]; rfl]
      exact na_loop h3 hst ht hu (t - s) 0 0 (by omega)
    · refine am_br_t (show nI 8 < f 60 3 - f 60 2 by rw [ed]; exact nI_lt (by omega) (by omega)) ?_
      exact no (by unfold nm; rw [decide_eq_false h8, Bool.and_false]; rfl)
