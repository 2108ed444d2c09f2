/-! A BRANCH'S TRIAL, in the class -/
def cmp (v o b : Int32) : Bool := if o = nI 60 then decide (v < b) else if o = nI 61 then decide (v = b) else decide (b < v)
/-- 1: it fits; 0: it doesn't; -2 less the fact that is asked for -/
def mt (K V A P B : Nat → Int32) : Nat → Nat → Int32
  | _, 0 => 1
  | k, m + 1 => if K (A k).toNatClampNeg = 0 then nI 0 - nI 2 - A k else bif cmp (V (A k).toNatClampNeg) (P k) (B k) then mt K V A P B (k + 1) m else 0
theorem mt_a {K V A P B : Nat → Int32} {k m : Nat} (h : K (A k).toNatClampNeg = 0) : mt K V A P B k (m + 1) = nI 0 - nI 2 - A k := if_pos h
theorem mt_n {K V A P B : Nat → Int32} {k m : Nat} (h : ¬ K (A k).toNatClampNeg = 0) (h2 : cmp (V (A k).toNatClampNeg) (P k) (B k) = false) : mt K V A P B k (m + 1) = 0 := by
  show (if _ then _ else _) = _
  rw [if_neg h, h2]
  rfl
theorem mt_y {K V A P B : Nat → Int32} {k m : Nat} (h : ¬ K (A k).toNatClampNeg = 0) (h2 : cmp (V (A k).toNatClampNeg) (P k) (B k) = true) : mt K V A P B k (m + 1) = mt K V A P B (k + 1) m := by
  show (if _ then _ else _) = _
  rw [if_neg h, h2]
  rfl
theorem mt_eq {K V A P B K' V' A' P' B' : Nat → Int32} : ∀ (m k : Nat), (∀ i, k ≤ i → i < k + m → A i = A' i ∧ P i = P' i ∧ B i = B' i ∧ K (A i).toNatClampNeg = K' (A i).toNatClampNeg ∧ V (A i).toNatClampNeg = V' (A i).toNatClampNeg) → mt K V A P B k m = mt K' V' A' P' B' k m := by
  intro m
  induction m with
  | zero => intro k h; rfl
  | succ m ih =>
    intro k h
    obtain ⟨h1, h2, h3, h4, h5⟩ := h k (by omega) (by omega)
    show (if _ then _ else _) = (if _ then _ else _)
    rw [h4, h5, h1, h2, h3, ih (k + 1) (fun i a b => h i (by omega) (by omega))]
set_option maxRecDepth 100000 in
set_option maxHeartbeats 4000000 in
theorem sp_cmp {ro : Nat → Option am_C} {v p b : Int32} {hp : am_H} : am_run ro 1 78 [.int v, .int p, .int b] hp (some (.int (nI (cmp v p b).toNat))) hp := by
  refine am_run_of rfl (am_wp_ok (inl := []) 30 0 78 [] 0 _ _ _ _ ?_)
  by_cases h1 : p = nI 60
  · refine am_br_f (show ¬ ¬ p = nI 60 from fun z => z h1) ?_
    by_cases h2 : v < b
    · refine am_br_f (show ¬ b ≤ v from Int32.not_le.mpr h2) ?_
      refine And.intro rfl (And.intro ?_ rfl)
      show some (Value.int 1) = _
      rw [show cmp v p b = true by unfold cmp; rw [if_pos h1, decide_eq_true h2]]
      rfl
    · refine am_br_t (show b ≤ v from Int32.not_lt.mp h2) ?_
      refine And.intro rfl (And.intro ?_ rfl)
      show some (Value.int 0) = _
      rw [show cmp v p b = false by unfold cmp; rw [if_pos h1, decide_eq_false h2]]
      rfl
  · refine am_br_t h1 ?_
    by_cases h3 : p = nI 61
    · refine am_br_f (show ¬ ¬ p = nI 61 from fun z => z h3) ?_
      by_cases h2 : v = b
      · refine am_br_f (show ¬ ¬ v = b from fun z => z h2) ?_
        refine And.intro rfl (And.intro ?_ rfl)
        show some (Value.int 1) = _
        rw [show cmp v p b = true by unfold cmp; rw [if_neg h1, if_pos h3, decide_eq_true h2]]
        rfl
      · refine am_br_t h2 ?_
        refine And.intro rfl (And.intro ?_ rfl)
        show some (Value.int 0) = _
        rw [show cmp v p b = false by unfold cmp; rw [if_neg h1, if_pos h3, decide_eq_false h2]]
        rfl
    · refine am_br_t h3 ?_
      by_cases h2 : b < v
      · refine am_br_f (show ¬ v ≤ b from Int32.not_le.mpr h2) ?_
        refine And.intro rfl (And.intro ?_ rfl)
        show some (Value.int 1) = _
        rw [show cmp v p b = true by unfold cmp; rw [if_neg h1, if_neg h3, decide_eq_true h2]]
        rfl
      · refine am_br_t (show v ≤ b from Int32.not_lt.mp h2) ?_
        refine And.intro rfl (And.intro ?_ rfl)
        show some (Value.int 0) = _
        rw [show cmp v p b = false by unfold cmp; rw [if_neg h1, if_neg h3, decide_eq_false h2]]
        rfl
set_option maxRecDepth 100000 in
set_option maxHeartbeats 4000000 in
theorem sp_known_f {ro : Nat → Option am_C} {c : Bool} {a : Nat → Nat → Int32} {l : Nat → Int64} {f : Nat → Nat → Int32} {q : Nat} (hq : q < 10) (h : a 4 q = 0) : am_run ro 2 39 [.ref 3, .int (nI q)] (wd c a l f) (some (.int 0)) (wd c a l f) := by
  refine am_run_of rfl (am_wp_ok (inl := []) 20 1 39 [] 0 _ _ _ _ ?_)
  refine ⟨_, _, sp_below_t (nI_pos (by omega)) (nI_ge (b := 10) hq (by decide)), ?_⟩
  refine am_br_f (by decide) ?_
  refine And.intro (vp_in_nI hq (by decide)) ?_
  refine am_br_t (show a 4 (nI q).toNatClampNeg = 0 by rw [nI_clamp (by omega)]; exact h) ?_
  exact And.intro rfl (And.intro rfl rfl)
set_option maxRecDepth 100000 in
set_option maxHeartbeats 4000000 in
theorem sp_known_t {ro : Nat → Option am_C} {c : Bool} {a : Nat → Nat → Int32} {l : Nat → Int64} {f : Nat → Nat → Int32} {q : Nat} (hq : q < 10) (h : ¬ a 4 q = 0) : am_run ro 2 39 [.ref 3, .int (nI q)] (wd c a l f) (some (.int 1)) (wd c a l f) := by
  refine am_run_of rfl (am_wp_ok (inl := []) 20 1 39 [] 0 _ _ _ _ ?_)
  refine ⟨_, _, sp_below_t (nI_pos (by omega)) (nI_ge (b := 10) hq (by decide)), ?_⟩
  refine am_br_f (by decide) ?_
  refine And.intro (vp_in_nI hq (by decide)) ?_
  refine am_br_f (show ¬ a 4 (nI q).toNatClampNeg = 0 by rw [nI_clamp (by omega)]; exact h) ?_
  exact And.intro rfl (And.intro rfl rfl)
set_option maxRecDepth 100000 in
set_option maxHeartbeats 4000000 in
theorem sp_value {ro : Nat → Option am_C} {c : Bool} {a : Nat → Nat → Int32} {l : Nat → Int64} {f : Nat → Nat → Int32} {q : Nat} (hq : q < 10) : am_run ro 2 40 [.ref 3, .int (nI q)] (wd c a l f) (some (.int (a 5 q))) (wd c a l f) := by
  refine am_run_of rfl (am_wp_ok (inl := []) 20 1 40 [] 0 _ _ _ _ ?_)
  refine ⟨_, _, sp_below_t (nI_pos (by omega)) (nI_ge (b := 10) hq (by decide)), ?_⟩
  refine am_br_f (by decide) ?_
  refine And.intro (vp_in_nI hq (by decide)) ?_
  refine And.intro (show some (Value.int (a 5 (nI q).toNatClampNeg)) = _ by rw [nI_clamp (by omega)]) rfl
set_option maxRecDepth 100000 in
set_option maxHeartbeats 4000000 in
theorem me_loop_16 {ro : Nat → Option am_C} {c : Bool} {a : Nat → Nat → Int32} {l : Nat → Int64} {f : Nat → Nat → Int32} {i E nc : Nat} (hi : i < 30) (hE : E ≤ nc) (hnc : nc ≤ 60) (eE : a 20 i = nI E) (ec : f 17 7 = nI nc) (hA : ∀ k, k < nc → ∃ q : Nat, q < 10 ∧ a 21 k = nI q) : ∀ (m k : Nat) (X : Int32), k + m = E → am_T ro 2 77 33 [.ref 17, .int (nI i), .ref 3, .int X, .int (nI k)] [] (wd c a l f) (fun r hp' => r = some (.int (mt (a 4) (a 5) (a 21) (a 22) (a 23) k m)) ∧ hp' = wd c a l f) := by
  have ei : (nI i).toNatClampNeg = i := nI_clamp (by omega)
  have eE' : a 20 (nI i).toNatClampNeg = nI E := by rw [ei]; exact eE
  have hin : vp_in (nI i) 30 := vp_in_nI hi (by decide)
  intro m
  induction m with
  | zero =>
    intro k X h
    refine am_wp_ok (inl := []) 12 2 77 [] _ _ _ _ _ ?_
    refine And.intro hin ?_
    refine am_br_t (show a 20 (nI i).toNatClampNeg ≤ nI k by rw [eE']; exact nI_le (by omega) (by omega)) ?_
    exact And.intro rfl rfl
  | succ m ih =>
    intro k X h
    have ek : (nI k).toNatClampNeg = k := nI_clamp (by omega)
    have hk : vp_in (nI k) 60 := vp_in_nI (by omega) (by decide)
    obtain ⟨q, hq, eq⟩ := hA k (by omega)
    have eq' : a 21 (nI k).toNatClampNeg = nI q := by rw [ek]; exact eq
    have cq : (a 21 k).toNatClampNeg = q := by rw [eq]; exact nI_clamp (by omega)
    refine am_wp_ok (inl := []) 20 2 77 [53] _ _ _ _ _ ?_
    refine And.intro hin ?_
    refine am_br_f (show ¬ a 20 (nI i).toNatClampNeg ≤ nI k by rw [eE']; exact nI_ge (by omega) (by omega)) ?_
    refine am_br_f (show ¬ f 17 7 ≤ nI k by rw [ec]; exact nI_ge (by omega) (by omega)) ?_
    show am_T ro 2 77 53 [.ref 17, .int (nI i), .ref 3, .int X, .int (nI k)] [] (wd c a l f) _
    refine am_wp_ok (inl := []) 20 2 77 [67, 78] _ _ _ _ _ ?_
    refine And.intro hk ?_
    by_cases hz : a 4 q = 0
    · have hs : am_run ro 2 39 [.ref 3, .int (a 21 (nI k).toNatClampNeg)] (wd c a l f) (some (.int 0)) (wd c a l f) := by rw [eq']; exact sp_known_f hq hz
      refine ⟨_, _, hs, ?_⟩
      refine am_br_f (by decide) ?_
      show am_T ro 2 77 67 [.ref 17, .int (nI i), .ref 3, .int X, .int (nI k)] [] (wd c a l f) _
      refine am_wp_ok (inl := []) 20 2 77 [] _ _ _ _ _ ?_
      refine And.intro hk ?_
      refine And.intro ?_ rfl
      show some (Value.int (-2 - a 21 (nI k).toNatClampNeg)) = _
      rw [mt_a (K := a 4) (A := a 21) (k := k) (by rw [cq]; exact hz), ek]
      rfl
    · have hs : am_run ro 2 39 [.ref 3, .int (a 21 (nI k).toNatClampNeg)] (wd c a l f) (some (.int 1)) (wd c a l f) := by rw [eq']; exact sp_known_t hq hz
      refine ⟨_, _, hs, ?_⟩
      refine am_br_t (by decide) ?_
      show am_T ro 2 77 78 [.ref 17, .int (nI i), .ref 3, .int X, .int (nI k)] [] (wd c a l f) _
      refine am_wp_ok (inl := []) 30 2 77 [33] _ _ _ _ _ ?_
      refine And.intro hk ?_
      have hs2 : am_run ro 2 40 [.ref 3, .int (a 21 (nI k).toNatClampNeg)] (wd c a l f) (some (.int (a 5 q))) (wd c a l f) := by rw [eq']; exact sp_value hq
      refine ⟨_, _, hs2, ?_⟩
      refine And.intro hk (And.intro hk ?_)
      have hs3 : am_run ro 2 78 [.int (a 5 q), .int (a 22 (nI k).toNatClampNeg), .int (a 23 (nI k).toNatClampNeg)] (wd c a l f) (some (.int (nI (cmp (a 5 q) (a 22 k) (a 23 k)).toNat))) (wd c a l f) := by rw [ek]; exact am_run_up sp_cmp (by decide)
      refine ⟨_, _, hs3, ?_⟩
      cases hb : cmp (a 5 q) (a 22 k) (a 23 k) with
      | false =>
        refine am_br_f (show ¬ ¬ nI false.toNat = 0 from fun z => z rfl) ?_
        refine And.intro ?_ rfl
        rw [mt_n (K := a 4) (V := a 5) (A := a 21) (P := a 22) (B := a 23) (k := k) (by rw [cq]; exact hz) (by rw [cq]; exact hb)]
        rfl
      | true =>
        refine am_br_t (show ¬ nI true.toNat = 0 by decide) ?_
        show am_T ro 2 77 33 [.ref 17, .int (nI i), .ref 3, .int X, .int (nI k + 1)] [] (wd c a l f) _
        rw [nI_1, mt_y (K := a 4) (V := a 5) (A := a 21) (P := a 22) (B := a 23) (k := k) (by rw [cq]; exact hz) (by rw [cq]; exact hb)]
        exact ih (k + 1) X (by omega)
set_option maxRecDepth 100000 in
set_option maxHeartbeats 4000000 in
theorem me_16 {ro : Nat → Option am_C} {c : Bool} {a : Nat → Nat → Int32} {l : Nat → Int64} {f : Nat → Nat → Int32} {i nb nc : Nat} {e : Nat → Nat} (hb : nb ≤ 30) (hnc : nc ≤ 60) (hi : i < nb) (ecnt : f 17 6 = nI nb) (ec : f 17 7 = nI nc) (e0 : e 0 = 0) (he : ∀ i, i < nb → e i ≤ e (i + 1) ∧ e (i + 1) ≤ nc ∧ a 20 i = nI (e (i + 1))) (hA : ∀ k, k < nc → ∃ q : Nat, q < 10 ∧ a 21 k = nI q) : am_run ro 3 77 [.ref 17, .int (nI i), .ref 3] (wd c a l f) (some (.int (mt (a 4) (a 5) (a 21) (a 22) (a 23) (e i) (e (i + 1) - e i)))) (wd c a l f) := by
  obtain ⟨g1, g2, g3⟩ := he i hi
  refine am_run_of rfl (am_wp_ok (inl := []) 20 2 77 [13] 0 _ _ _ _ ?_)
  refine ⟨_, _, am_run_up (sp_below_t (nI_pos (by omega)) (show ¬ f 17 6 ≤ nI i by rw [ecnt]; exact nI_ge hi (by omega))) (by decide), ?_⟩
  refine am_br_t (by decide) ?_
  show am_T ro 2 77 13 [.ref 17, .int (nI i), .ref 3, am_un, am_un] [] (wd c a l f) _
  refine am_wp_ok (inl := []) 20 2 77 [33] _ _ _ _ _ ?_
  by_cases hz : i = 0
  · subst hz
    refine am_br_f (show ¬ ¬ nI 0 = 0 from fun z => z rfl) ?_
    show am_T ro 2 77 33 [.ref 17, .int (nI 0), .ref 3, .int (nI 0), .int (nI 0)] [] (wd c a l f) _
    have := me_loop_16 (ro := ro) (c := c) (l := l) (by omega) g2 hnc g3 ec hA (e (0 + 1) - e 0) (e 0) (nI 0) (by omega)
    rw [e0] at this ⊢
    exact this
  · refine am_br_t (nI_ne0 (by omega) (by omega)) ?_
    have e1 : nI i - 1 = nI (i - 1) := nI_sub (y := 1) (by omega)
    refine And.intro (show vp_in (nI i - 1) 30 by rw [e1]; exact vp_in_nI (by omega) (by decide)) ?_
    show am_T ro 2 77 33 [.ref 17, .int (nI i), .ref 3, .int (a 20 (nI i - 1).toNatClampNeg), .int (a 20 (nI i - 1).toNatClampNeg)] [] (wd c a l f) _
    rw [e1, nI_clamp (show i - 1 < 2 ^ 31 by omega), (he (i - 1) (by omega)).2.2, show i - 1 + 1 = i by omega]
    exact me_loop_16 (by omega) g2 hnc g3 ec hA (e (i + 1) - e i) (e i) (nI (e i)) (by omega)
set_option maxRecDepth 100000 in
set_option maxHeartbeats 4000000 in
theorem me_loop_38 {ro : Nat → Option am_C} {c : Bool} {a : Nat → Nat → Int32} {l : Nat → Int64} {f : Nat → Nat → Int32} {i E nc : Nat} (hi : i < 30) (hE : E ≤ nc) (hnc : nc ≤ 60) (eE : a 42 i = nI E) (ec : f 39 7 = nI nc) (hA : ∀ k, k < nc → ∃ q : Nat, q < 10 ∧ a 43 k = nI q) : ∀ (m k : Nat) (X : Int32), k + m = E → am_T ro 2 77 33 [.ref 39, .int (nI i), .ref 3, .int X, .int (nI k)] [] (wd c a l f) (fun r hp' => r = some (.int (mt (a 4) (a 5) (a 43) (a 44) (a 45) k m)) ∧ hp' = wd c a l f) := by
  have ei : (nI i).toNatClampNeg = i := nI_clamp (by omega)
  have eE' : a 42 (nI i).toNatClampNeg = nI E := by rw [ei]; exact eE
  have hin : vp_in (nI i) 30 := vp_in_nI hi (by decide)
  intro m
  induction m with
  | zero =>
    intro k X h
    refine am_wp_ok (inl := []) 12 2 77 [] _ _ _ _ _ ?_
    refine And.intro hin ?_
    refine am_br_t (show a 42 (nI i).toNatClampNeg ≤ nI k by rw [eE']; exact nI_le (by omega) (by omega)) ?_
    exact And.intro rfl rfl
  | succ m ih =>
    intro k X h
    have ek : (nI k).toNatClampNeg = k := nI_clamp (by omega)
    have hk : vp_in (nI k) 60 := vp_in_nI (by omega) (by decide)
    obtain ⟨q, hq, eq⟩ := hA k (by omega)
    have eq' : a 43 (nI k).toNatClampNeg = nI q := by rw [ek]; exact eq
    have cq : (a 43 k).toNatClampNeg = q := by rw [eq]; exact nI_clamp (by omega)
    refine am_wp_ok (inl := []) 20 2 77 [53] _ _ _ _ _ ?_
    refine And.intro hin ?_
    refine am_br_f (show ¬ a 42 (nI i).toNatClampNeg ≤ nI k by rw [eE']; exact nI_ge (by omega) (by omega)) ?_
    refine am_br_f (show ¬ f 39 7 ≤ nI k by rw [ec]; exact nI_ge (by omega) (by omega)) ?_
    show am_T ro 2 77 53 [.ref 39, .int (nI i), .ref 3, .int X, .int (nI k)] [] (wd c a l f) _
    refine am_wp_ok (inl := []) 20 2 77 [67, 78] _ _ _ _ _ ?_
    refine And.intro hk ?_
    by_cases hz : a 4 q = 0
    · have hs : am_run ro 2 39 [.ref 3, .int (a 43 (nI k).toNatClampNeg)] (wd c a l f) (some (.int 0)) (wd c a l f) := by rw [eq']; exact sp_known_f hq hz
      refine ⟨_, _, hs, ?_⟩
      refine am_br_f (by decide) ?_
      show am_T ro 2 77 67 [.ref 39, .int (nI i), .ref 3, .int X, .int (nI k)] [] (wd c a l f) _
      refine am_wp_ok (inl := []) 20 2 77 [] _ _ _ _ _ ?_
      refine And.intro hk ?_
      refine And.intro ?_ rfl
      show some (Value.int (-2 - a 43 (nI k).toNatClampNeg)) = _
      rw [mt_a (K := a 4) (A := a 43) (k := k) (by rw [cq]; exact hz), ek]
      rfl
    · have hs : am_run ro 2 39 [.ref 3, .int (a 43 (nI k).toNatClampNeg)] (wd c a l f) (some (.int 1)) (wd c a l f) := by rw [eq']; exact sp_known_t hq hz
      refine ⟨_, _, hs, ?_⟩
      refine am_br_t (by decide) ?_
      show am_T ro 2 77 78 [.ref 39, .int (nI i), .ref 3, .int X, .int (nI k)] [] (wd c a l f) _
      refine am_wp_ok (inl := []) 30 2 77 [33] _ _ _ _ _ ?_
      refine And.intro hk ?_
      have hs2 : am_run ro 2 40 [.ref 3, .int (a 43 (nI k).toNatClampNeg)] (wd c a l f) (some (.int (a 5 q))) (wd c a l f) := by rw [eq']; exact sp_value hq
      refine ⟨_, _, hs2, ?_⟩
      refine And.intro hk (And.intro hk ?_)
      have hs3 : am_run ro 2 78 [.int (a 5 q), .int (a 44 (nI k).toNatClampNeg), .int (a 45 (nI k).toNatClampNeg)] (wd c a l f) (some (.int (nI (cmp (a 5 q) (a 44 k) (a 45 k)).toNat))) (wd c a l f) := by rw [ek]; exact am_run_up sp_cmp (by decide)
      refine ⟨_, _, hs3, ?_⟩
      cases hb : cmp (a 5 q) (a 44 k) (a 45 k) with
      | false =>
        refine am_br_f (show ¬ ¬ nI false.toNat = 0 from fun z => z rfl) ?_
        refine And.intro ?_ rfl
        rw [mt_n (K := a 4) (V := a 5) (A := a 43) (P := a 44) (B := a 45) (k := k) (by rw [cq]; exact hz) (by rw [cq]; exact hb)]
        rfl
      | true =>
        refine am_br_t (show ¬ nI true.toNat = 0 by decide) ?_
        show am_T ro 2 77 33 [.ref 39, .int (nI i), .ref 3, .int X, .int (nI k + 1)] [] (wd c a l f) _
        rw [nI_1, mt_y (K := a 4) (V := a 5) (A := a 43) (P := a 44) (B := a 45) (k := k) (by rw [cq]; exact hz) (by rw [cq]; exact hb)]
        exact ih (k + 1) X (by omega)
set_option maxRecDepth 100000 in
set_option maxHeartbeats 4000000 in
theorem me_38 {ro : Nat → Option am_C} {c : Bool} {a : Nat → Nat → Int32} {l : Nat → Int64} {f : Nat → Nat → Int32} {i nb nc : Nat} {e : Nat → Nat} (hb : nb ≤ 30) (hnc : nc ≤ 60) (hi : i < nb) (ecnt : f 39 6 = nI nb) (ec : f 39 7 = nI nc) (e0 : e 0 = 0) (he : ∀ i, i < nb → e i ≤ e (i + 1) ∧ e (i + 1) ≤ nc ∧ a 42 i = nI (e (i + 1))) (hA : ∀ k, k < nc → ∃ q : Nat, q < 10 ∧ a 43 k = nI q) : am_run ro 3 77 [.ref 39, .int (nI i), .ref 3] (wd c a l f) (some (.int (mt (a 4) (a 5) (a 43) (a 44) (a 45) (e i) (e (i + 1) - e i)))) (wd c a l f) := by
  obtain ⟨g1, g2, g3⟩ := he i hi
  refine am_run_of rfl (am_wp_ok (inl := []) 20 2 77 [13] 0 _ _ _ _ ?_)
  refine ⟨_, _, am_run_up (sp_below_t (nI_pos (by omega)) (show ¬ f 39 6 ≤ nI i by rw [ecnt]; exact nI_ge hi (by omega))) (by decide), ?_⟩
  refine am_br_t (by decide) ?_
  show am_T ro 2 77 13 [.ref 39, .int (nI i), .ref 3, am_un, am_un] [] (wd c a l f) _
  refine am_wp_ok (inl := []) 20 2 77 [33] _ _ _ _ _ ?_
  by_cases hz : i = 0
  · subst hz
    refine am_br_f (show ¬ ¬ nI 0 = 0 from fun z => z rfl) ?_
    show am_T ro 2 77 33 [.ref 39, .int (nI 0), .ref 3, .int (nI 0), .int (nI 0)] [] (wd c a l f) _
    have := me_loop_38 (ro := ro) (c := c) (l := l) (by omega) g2 hnc g3 ec hA (e (0 + 1) - e 0) (e 0) (nI 0) (by omega)
    rw [e0] at this ⊢
    exact this
  · refine am_br_t (nI_ne0 (by omega) (by omega)) ?_
    have e1 : nI i - 1 = nI (i - 1) := nI_sub (y := 1) (by omega)
    refine And.intro (show vp_in (nI i - 1) 30 by rw [e1]; exact vp_in_nI (by omega) (by decide)) ?_
    show am_T ro 2 77 33 [.ref 39, .int (nI i), .ref 3, .int (a 42 (nI i - 1).toNatClampNeg), .int (a 42 (nI i - 1).toNatClampNeg)] [] (wd c a l f) _
    rw [e1, nI_clamp (show i - 1 < 2 ^ 31 by omega), (he (i - 1) (by omega)).2.2, show i - 1 + 1 = i by omega]
    exact me_loop_38 (by omega) g2 hnc g3 ec hA (e (i + 1) - e i) (e i) (nI (e i)) (by omega)
