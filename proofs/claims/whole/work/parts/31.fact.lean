/-! FACTS: fact, clearFacts -/
theorem u2_id {α : Type} {a : Nat → α} {k : Nat} : u2 a k (a k) = a := by
  funext j
  by_cases h : j = k
  · rw [h, u2_same]
  · rw [u2_ne h]
theorem u2_u2 {α : Type} {a : Nat → α} {k : Nat} {x y : α} : u2 (u2 a k x) k y = u2 a k y := by
  funext j
  by_cases h : j = k
  · rw [h, u2_same, u2_same]
  · rw [u2_ne h, u2_ne h, u2_ne h]
theorem upd_same {g : Nat → Int32} {k : Nat} {x : Int32} : upd g k x k = x := by simp [upd]
theorem upd_ne {g : Nat → Int32} {k j : Nat} {x : Int32} (h : j ≠ k) : upd g k x j = g j := by simp [upd, h]
set_option maxRecDepth 100000 in
set_option maxHeartbeats 4000000 in
theorem cs_learn_t {ro : Nat → Option am_C} {c : Bool} {a : Nat → Nat → Int32} {l : Nat → Int64} {f : Nat → Nat → Int32} {j : Nat} (hj : j < 10) (y : Int32) : am_run ro 2 37 [.ref 3, .int (nI j), .int y] (wd c a l f) (some (.int 1)) (wd c (u2 (u2 a 4 (upd (a 4) j 1)) 5 (upd (a 5) j y)) l f) := by
  have hin : vp_in (nI j) 10 := vp_in_nI hj (by decide)
  have ej : (nI j).toNatClampNeg = j := nI_clamp (by omega)
  refine am_run_of rfl (am_wp_ok (inl := []) 60 1 37 [] 0 _ _ _ _ ?_)
  refine ⟨_, _, am_run_up (sp_below_t (nI_pos (by omega)) (nI_ge (b := 10) hj (by decide))) (by decide), ?_⟩
  refine am_br_t (by decide) ?_
  refine And.intro hin (And.intro hin ?_)
  refine And.intro rfl (And.intro rfl ?_)
  show ((wd c a l f).set 4 (.inl (.boolean, 10, .inl (upd (a 4) (nI j).toNatClampNeg (vp_nar .boolean 1))))).set 5 (.inl (.int, 10, .inl (upd (a 5) (nI j).toNatClampNeg y))) = _
  rw [ws_4, ws_5, show vp_nar .boolean 1 = 1 from rfl, ej]
theorem cs_learn_f {ro : Nat → Option am_C} {c : Bool} {a : Nat → Nat → Int32} {l : Nat → Int64} {f : Nat → Nat → Int32} {x : Int32} (h : x < 0 ∨ nI 10 ≤ x) (y : Int32) : am_run ro 2 37 [.ref 3, .int x, .int y] (wd c a l f) (some (.int 0)) (wd c a l f) := by
  refine am_run_of rfl (am_wp_ok (inl := []) 60 1 37 [] 0 _ _ _ _ ?_)
  refine ⟨_, _, am_run_up (sp_below_f h) (by decide), ?_⟩
  refine am_br_f (by decide) ?_
  exact And.intro rfl (And.intro rfl rfl)
theorem mo_fact_t {ro : Nat → Option am_C} {c : Bool} {a : Nat → Nat → Int32} {l : Nat → Int64} {f : Nat → Nat → Int32} {j : Nat} (hj : j < 10) (y : Int32) : am_run ro 2 120 [.ref 60, .int (nI j), .int y] (wd c a l f) (some (.int 1)) (wd c (u2 (u2 a 72 (upd (a 72) j 1)) 73 (upd (a 73) j y)) l f) := by
  have hin : vp_in (nI j) 10 := vp_in_nI hj (by decide)
  have ej : (nI j).toNatClampNeg = j := nI_clamp (by omega)
  refine am_run_of rfl (am_wp_ok (inl := []) 60 1 120 [] 0 _ _ _ _ ?_)
  refine ⟨_, _, am_run_up (in_t (j := j) (k := 9) (by omega) (by decide) rfl) (by decide), ?_⟩
  refine am_br_t (by decide) ?_
  refine And.intro hin (And.intro hin ?_)
  refine And.intro rfl (And.intro rfl ?_)
  show ((wd c a l f).set 72 (.inl (.boolean, 10, .inl (upd (a 72) (nI j).toNatClampNeg (vp_nar .boolean 1))))).set 73 (.inl (.int, 10, .inl (upd (a 73) (nI j).toNatClampNeg y))) = _
  rw [ws_72, ws_73, show vp_nar .boolean 1 = 1 from rfl, ej]
theorem mo_fact_f {ro : Nat → Option am_C} {c : Bool} {a : Nat → Nat → Int32} {l : Nat → Int64} {f : Nat → Nat → Int32} {x : Int32} (h : x < 0 ∨ nI 10 ≤ x) (y : Int32) : am_run ro 2 120 [.ref 60, .int x, .int y] (wd c a l f) (some (.int 0)) (wd c a l f) := by
  refine am_run_of rfl (am_wp_ok (inl := []) 60 1 120 [] 0 _ _ _ _ ?_)
  refine ⟨_, _, am_run_up (in_f (k := 9) h (by decide) rfl) (by decide), ?_⟩
  refine am_br_f (by decide) ?_
  exact And.intro rfl (And.intro rfl rfl)
theorem cl_fact {ro : Nat → Option am_C} {c : Bool} {a : Nat → Nat → Int32} {l : Nat → Int64} {f : Nat → Nat → Int32} {x y r : Int32} {hp : am_H} (h : am_run ro 11 37 [.ref 3, .int x, .int y] (wd c a l f) (some (.int r)) hp) (hr : narrow .boolean (.int r) = .int r) : am_run ro 12 3 [.ref 0, .int x, .int y] (wd c a l f) (some (.int r)) hp := by
  refine am_run_of rfl (am_wp_ok (inl := []) 60 11 3 [] 0 _ _ _ _ ?_)
  refine ⟨_, _, h, ?_⟩
  exact And.intro hr (And.intro rfl rfl)
theorem op_fact {ro : Nat → Option am_C} (x y : Int32) : lp_op ro Rl 3 120 [.int x, .int y] := by
  intro c a l f hR
  rcases bd x 10 (by decide) with ⟨j, hj, rfl⟩ | h
  · refine ⟨1, c, _, l, f, c, _, l, f, cl_fact (am_run_up (cs_learn_t hj y) (by decide)) rfl, am_run_up (mo_fact_t hj y) (by decide), ?_⟩
    obtain ⟨h1, h2, h3, h4, h5, h6⟩ := hR
    refine ⟨h1, fun i hi => ?_, h3, h4, h5, by cases c <;> exact h6⟩
    show upd (a 4) j 1 i = upd (a 72) j 1 i ∧ (upd (a 4) j 1 i = 0 ∨ upd (a 4) j 1 i = 1) ∧ upd (a 5) j y i = upd (a 73) j y i
    by_cases e : i = j
    · subst e
      rw [upd_same, upd_same, upd_same, upd_same]
      exact ⟨rfl, Or.inr rfl, rfl⟩
    · rw [upd_ne e, upd_ne e, upd_ne e, upd_ne e]
      exact h2 i hi
  · exact ⟨0, c, a, l, f, c, a, l, f, cl_fact (am_run_up (cs_learn_f h y) (by decide)) rfl, am_run_up (mo_fact_f h y) (by decide), hR⟩
/-- counting and clearing, from k on, m places -/
def lc : (Nat → Int32) → Int32 → Nat → Nat → Int32 × (Nat → Int32)
  | g, w, _, 0 => (w, g)
  | g, w, k, m + 1 => lc (upd g k 0) (if g k = 0 then w else w + 1) (k + 1) m
theorem lc_eq : ∀ (m k : Nat) (g g' : Nat → Int32) (w : Int32), (∀ i, k ≤ i → i < k + m → g i = g' i) → (lc g w k m).1 = (lc g' w k m).1 := by
  intro m
  induction m with
  | zero => intro k g g' w h; rfl
  | succ m ih =>
    intro k g g' w h
    show (lc (upd g k 0) (if g k = 0 then w else w + 1) (k + 1) m).1 = (lc (upd g' k 0) (if g' k = 0 then w else w + 1) (k + 1) m).1
    rw [h k (by omega) (by omega)]
    refine ih (k + 1) _ _ _ (fun i h1 h2 => ?_)
    rw [upd_ne (by omega), upd_ne (by omega)]
    exact h i (by omega) (by omega)
theorem lc_get : ∀ (m k : Nat) (g : Nat → Int32) (w : Int32) (i : Nat), (lc g w k m).2 i = if k ≤ i ∧ i < k + m then 0 else g i := by
  intro m
  induction m with
  | zero => intro k g w i; rw [if_neg (by omega)]; rfl
  | succ m ih =>
    intro k g w i
    show (lc (upd g k 0) (if g k = 0 then w else w + 1) (k + 1) m).2 i = _
    rw [ih]
    by_cases h1 : i = k
    · subst h1
      rw [if_neg (by omega), if_pos (by omega), upd_same]
    · rw [upd_ne h1]
      by_cases h2 : k + 1 ≤ i ∧ i < k + 1 + m
      · rw [if_pos h2, if_pos (by omega)]
      · rw [if_neg h2, if_neg (by omega)]
set_option maxRecDepth 100000 in
set_option maxHeartbeats 4000000 in
theorem cf_loop {ro : Nat → Option am_C} {c : Bool} {l : Nat → Int64} {f : Nat → Nat → Int32} : ∀ (m k : Nat) (a : Nat → Nat → Int32) (w : Int32), k + m = 10 → am_T ro 10 38 4 [.ref 3, .int w, .int (nI k)] [] (wd c a l f) (fun r hp' => r = some (.int (lc (a 4) w k m).1) ∧ hp' = wd c (u2 a 4 (lc (a 4) w k m).2) l f) := by
  intro m
  induction m with
  | zero =>
    intro k a w h
    refine am_wp_ok (inl := []) 10 10 38 [] _ _ _ _ _ ?_
    refine am_br_t (show nI 10 ≤ nI k from nI_le (by omega) (by omega)) ?_
    exact And.intro rfl (by rw [show (lc (a 4) w k 0).2 = a 4 from rfl, u2_id])
  | succ m ih =>
    intro k a w h
    have ek : (nI k).toNatClampNeg = k := nI_clamp (by omega)
    have hin : vp_in (nI k) 10 := vp_in_nI (by omega) (by omega)
    have fin : ∀ w', w' = (if a 4 k = 0 then w else w + 1) → am_T ro 10 38 4 [.ref 3, .int w', .int (nI k + 1)] [] (wd c (u2 a 4 (upd (a 4) (nI k).toNatClampNeg 0)) l f) (fun r hp' => r = some (.int (lc (a 4) w k (m + 1)).1) ∧ hp' = wd c (u2 a 4 (lc (a 4) w k (m + 1)).2) l f) := by
      intro w' hw
      rw [ek, nI_1]
      refine (ih (k + 1) (u2 a 4 (upd (a 4) k 0)) w' (by omega)).mono (fun r hp' e => ?_)
      rw [u2_u2] at e
      rw [hw] at e
      exact e
    refine am_wp_ok (inl := []) 30 10 38 [4] _ _ _ _ _ ?_
    refine am_br_f (show ¬ nI 10 ≤ nI k from nI_ge (by omega) (by omega)) ?_
    refine And.intro hin ?_
    by_cases hz : a 4 k = 0
    · refine am_br_t (show a 4 (nI k).toNatClampNeg = 0 by rw [ek]; exact hz) ?_
      refine And.intro hin ?_
      exact fin w (by rw [if_pos hz])
    · refine am_br_f (show ¬ a 4 (nI k).toNatClampNeg = 0 by rw [ek]; exact hz) ?_
      refine And.intro hin ?_
      exact fin (w + 1) (by rw [if_neg hz])
set_option maxRecDepth 100000 in
set_option maxHeartbeats 4000000 in
theorem mf_loop {ro : Nat → Option am_C} {c : Bool} {l : Nat → Int64} {f : Nat → Nat → Int32} : ∀ (m k : Nat) (a : Nat → Nat → Int32) (w : Int32), k + m = 10 → am_T ro 11 121 4 [.ref 60, .int w, .int (nI k)] [] (wd c a l f) (fun r hp' => r = some (.int (lc (a 72) w k m).1) ∧ hp' = wd c (u2 a 72 (lc (a 72) w k m).2) l f) := by
  intro m
  induction m with
  | zero =>
    intro k a w h
    refine am_wp_ok (inl := []) 10 11 121 [] _ _ _ _ _ ?_
    refine am_br_t (show nI 10 ≤ nI k from nI_le (by omega) (by omega)) ?_
    exact And.intro rfl (by rw [show (lc (a 72) w k 0).2 = a 72 from rfl, u2_id])
  | succ m ih =>
    intro k a w h
    have ek : (nI k).toNatClampNeg = k := nI_clamp (by omega)
    have hin : vp_in (nI k) 10 := vp_in_nI (by omega) (by omega)
    have fin : ∀ w', w' = (if a 72 k = 0 then w else w + 1) → am_T ro 11 121 4 [.ref 60, .int w', .int (nI k + 1)] [] (wd c (u2 a 72 (upd (a 72) (nI k).toNatClampNeg 0)) l f) (fun r hp' => r = some (.int (lc (a 72) w k (m + 1)).1) ∧ hp' = wd c (u2 a 72 (lc (a 72) w k (m + 1)).2) l f) := by
      intro w' hw
      rw [ek, nI_1]
      refine (ih (k + 1) (u2 a 72 (upd (a 72) k 0)) w' (by omega)).mono (fun r hp' e => ?_)
      rw [u2_u2] at e
      rw [hw] at e
      exact e
    refine am_wp_ok (inl := []) 30 11 121 [4] _ _ _ _ _ ?_
    refine am_br_f (show ¬ nI 10 ≤ nI k from nI_ge (by omega) (by omega)) ?_
    refine And.intro hin ?_
    by_cases hz : a 72 k = 0
    · refine am_br_t (show a 72 (nI k).toNatClampNeg = 0 by rw [ek]; exact hz) ?_
      refine And.intro hin ?_
      exact fin (w + 0) (by rw [if_pos hz, Int32.add_zero])
    · refine am_br_f (show ¬ a 72 (nI k).toNatClampNeg = 0 by rw [ek]; exact hz) ?_
      refine And.intro hin ?_
      exact fin (w + 1) (by rw [if_neg hz])
set_option maxRecDepth 100000 in
set_option maxHeartbeats 4000000 in
theorem op_clear {ro : Nat → Option am_C} : lp_op ro Rl 5 121 [] := by
  intro c a l f hR
  obtain ⟨h1, h2, h3, h4, h5, h6⟩ := hR
  refine ⟨(lc (a 4) 0 0 10).1, c, u2 a 4 (lc (a 4) 0 0 10).2, l, f, c, u2 (u2 a 4 (lc (a 4) 0 0 10).2) 72 (lc (a 72) 0 0 10).2, l, f, ?_, ?_, ?_⟩
  · refine am_run_of rfl (am_wp_ok (inl := []) 60 11 5 [] 0 _ _ _ _ ?_)
    have h0 : am_run ro 11 38 [.ref 3] (wd c a l f) (some (.int (lc (a 4) 0 0 10).1)) (wd c (u2 a 4 (lc (a 4) 0 0 10).2) l f) := am_run_of rfl (am_wp_ok (inl := []) 10 10 38 [4] 0 _ _ _ _ (cf_loop 10 0 a 0 (by omega)))
    refine ⟨_, _, h0, ?_⟩
    exact And.intro rfl rfl
  · refine am_run_of rfl (am_wp_ok (inl := []) 10 11 121 [4] 0 _ _ _ _ ?_)
    rw [lc_eq 10 0 (a 4) (a 72) 0 (fun i _ hi => (h2 i (by omega)).1)]
    exact mf_loop 10 0 (u2 a 4 (lc (a 4) 0 0 10).2) 0 (by omega)
  · refine ⟨h1, fun i hi => ?_, h3, h4, h5, by cases c <;> exact h6⟩
    show (lc (a 4) 0 0 10).2 i = (lc (a 72) 0 0 10).2 i ∧ ((lc (a 4) 0 0 10).2 i = 0 ∨ (lc (a 4) 0 0 10).2 i = 1) ∧ a 5 i = a 73 i
    rw [lc_get, lc_get, if_pos (by omega), if_pos (by omega)]
    exact ⟨rfl, Or.inl rfl, (h2 i hi).2.2⟩
