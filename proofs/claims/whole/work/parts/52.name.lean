/-! NAMES: is the word one, and what is it, packed -/
def al (p : Nat → Bool) : Nat → Nat → Bool
  | _, 0 => true
  | k, m + 1 => p k && al p (k + 1) m
theorem al_t {p : Nat → Bool} {k m : Nat} (h : p k = true) : al p k (m + 1) = al p (k + 1) m := by
  show (p k && _) = _
  rw [h]
  rfl
theorem al_f {p : Nat → Bool} {k m : Nat} (h : p k = false) : al p k (m + 1) = false := by
  show (p k && _) = _
  rw [h]
  rfl
/-- a small letter -/
def lz (u : Nat → Nat) (q : Nat) : Bool := decide (97 ≤ u q) && decide (u q ≤ 122)
set_option maxRecDepth 100000 in
set_option maxHeartbeats 4000000 in
theorem in_loop {ro : Nat → Option am_C} {c : Bool} {a : Nat → Nat → Int32} {l : Nat → Int64} {f : Nat → Nat → Int32} {s t : Nat} {u : Nat → Nat} (h2 : f 1 2 = nI s) (h3 : f 1 3 = nI t) (hst : s ≤ t) (ht : t ≤ 900) (hu : ∀ q, q < t - s → a 2 (s + q) = nI (u q) ∧ u q < 256) : ∀ (m k : Nat), k + m = t - s → am_T ro 1 33 21 [.ref 1, .int (nI k)] [] (wd c a l f) (fun r hp' => r = some (.int (nI (al (lz u) k m).toNat)) ∧ hp' = wd c a l f) := by
  intro m
  induction m with
  | zero =>
    intro k h
    refine am_wp_ok (inl := []) 12 1 33 [26] _ _ _ _ _ ?_
    refine ⟨_, _, sp_len h2 h3 hst, ?_⟩
    show am_T ro 1 33 26 [.ref 1, .int (nI k)] [.int (nI (t - s)), .int (nI k)] (wd c a l f) _
    refine am_wp_ok (inl := []) 12 1 33 [] _ _ _ _ _ ?_
    refine am_br_t (nI_le (by omega) (by omega)) ?_
    exact And.intro rfl (And.intro rfl rfl)
  | succ m ih =>
    intro k h
    obtain ⟨e, hb⟩ := hu k (by omega)
    have hbt : am_run ro 1 31 [.ref 1, .int (nI k)] (wd c a l f) (some (.int (nI (u k)))) (wd c a l f) := by rw [← e]; exact sp_byte_t h2 h3 hst ht (by omega)
    refine am_wp_ok (inl := []) 12 1 33 [26] _ _ _ _ _ ?_
    refine ⟨_, _, sp_len h2 h3 hst, ?_⟩
    show am_T ro 1 33 26 [.ref 1, .int (nI k)] [.int (nI (t - s)), .int (nI k)] (wd c a l f) _
    refine am_wp_ok (inl := []) 12 1 33 [29] _ _ _ _ _ ?_
    refine am_br_f (nI_ge (by omega) (by omega)) ?_
    show am_T ro 1 33 29 [.ref 1, .int (nI k)] [] (wd c a l f) _
    refine am_wp_ok (inl := []) 12 1 33 [34] _ _ _ _ _ ?_
    refine ⟨_, _, hbt, ?_⟩
    show am_T ro 1 33 34 [.ref 1, .int (nI k)] [.int (nI (u k))] (wd c a l f) _
    refine am_wp_ok (inl := []) 12 1 33 [39] _ _ _ _ _ ?_
    by_cases h97 : u k < 97
    · refine am_br_t (show nI (u k) < nI 97 from nI_lt h97 (by decide)) ?_
      rw [al_f (p := lz u) (show lz u k = false by unfold lz; rw [decide_eq_false (show ¬ 97 ≤ u k by omega)]; rfl)]
      exact And.intro rfl (And.intro rfl rfl)
    · refine am_br_f (show ¬ nI (u k) < nI 97 from nI_nlt (by omega) (by omega)) ?_
      show am_T ro 1 33 39 [.ref 1, .int (nI k)] [] (wd c a l f) _
      refine am_wp_ok (inl := []) 12 1 33 [44] _ _ _ _ _ ?_
      refine ⟨_, _, hbt, ?_⟩
      show am_T ro 1 33 44 [.ref 1, .int (nI k)] [.int (nI (u k))] (wd c a l f) _
      refine am_wp_ok (inl := []) 12 1 33 [51] _ _ _ _ _ ?_
      by_cases h122 : u k ≤ 122
      · refine am_br_t (show nI (u k) ≤ nI 122 from nI_le h122 (by decide)) ?_
        show am_T ro 1 33 51 [.ref 1, .int (nI k)] [] (wd c a l f) _
        refine am_wp_ok (inl := []) 4 1 33 [21] _ _ _ _ _ ?_
        show am_T ro 1 33 21 [.ref 1, .int (nI k + 1)] [] (wd c a l f) _
        rw [nI_1, al_t (p := lz u) (show lz u k = true by unfold lz; rw [decide_eq_true (show 97 ≤ u k by omega), decide_eq_true h122]; rfl)]
        exact ih (k + 1) (by omega)
      · refine am_br_f (show ¬ nI (u k) ≤ nI 122 from nI_ge (by omega) (by omega)) ?_
        rw [al_f (p := lz u) (show lz u k = false by unfold lz; rw [decide_eq_false h122, Bool.and_false])]
        exact And.intro rfl (And.intro rfl rfl)
/-- is it a name -/
def nm (u : Nat → Nat) (k : Nat) : Bool := decide (1 ≤ k) && decide (k ≤ 8) && al (lz u) 0 k
set_option maxRecDepth 100000 in
set_option maxHeartbeats 4000000 in
theorem cs_name {ro : Nat → Option am_C} {c : Bool} {a : Nat → Nat → Int32} {l : Nat → Int64} {f : Nat → Nat → Int32} {s t : Nat} {u : Nat → Nat} (h2 : f 1 2 = nI s) (h3 : f 1 3 = nI t) (hst : s ≤ t) (ht : t ≤ 900) (hu : ∀ q, q < t - s → a 2 (s + q) = nI (u q) ∧ u q < 256) : am_run ro 2 33 [.ref 1] (wd c a l f) (some (.int (nI (nm u (t - s)).toNat))) (wd c a l f) := by
  refine am_run_of rfl (am_wp_ok (inl := []) 6 1 33 [4] 0 _ _ _ _ ?_)
  refine ⟨_, _, sp_len h2 h3 hst, ?_⟩
  show am_T ro 1 33 4 [.ref 1, am_un] [.int (nI (t - s))] (wd c a l f) _
  refine am_wp_ok (inl := []) 6 1 33 [8] _ _ _ _ _ ?_
  by_cases h1 : t - s < 1
  · refine am_br_t (show nI (t - s) < nI 1 from nI_lt h1 (by decide)) ?_
    rw [show nm u (t - s) = false by unfold nm; rw [decide_eq_false (show ¬ 1 ≤ t - s by omega)]; rfl]
    exact And.intro rfl (And.intro rfl rfl)
  · refine am_br_f (show ¬ nI (t - s) < nI 1 from nI_nlt (by omega) (by omega)) ?_
    show am_T ro 1 33 8 [.ref 1, am_un] [] (wd c a l f) _
    refine am_wp_ok (inl := []) 6 1 33 [12] _ _ _ _ _ ?_
    refine ⟨_, _, sp_len h2 h3 hst, ?_⟩
    show am_T ro 1 33 12 [.ref 1, am_un] [.int (nI (t - s))] (wd c a l f) _
    refine am_wp_ok (inl := []) 6 1 33 [19] _ _ _ _ _ ?_
    by_cases h8 : t - s ≤ 8
    · refine am_br_t (show nI (t - s) ≤ nI 8 from nI_le h8 (by decide)) ?_
      show am_T ro 1 33 19 [.ref 1, am_un] [] (wd c a l f) _
      refine am_wp_ok (inl := []) 6 1 33 [21] _ _ _ _ _ ?_
      rw [show nm u (t - s) = al (lz u) 0 (t - s) by unfold nm; rw [decide_eq_true (show 1 ≤ t - s by omega), decide_eq_true h8]; rfl]
      exact in_loop h2 h3 hst ht hu (t - s) 0 (by omega)
    · refine am_br_f (show ¬ nI (t - s) ≤ nI 8 from nI_ge (by omega) (by omega)) ?_
      rw [show nm u (t - s) = false by unfold nm; rw [decide_eq_false h8, Bool.and_false]; rfl]
      exact And.intro rfl (And.intro rfl rfl)
