/-! history -/
theorem hi_ix {p n k : Nat} (h : k < n) (hp : p < 8) (hn : n ≤ 12) : nI p * 12 + nI n - 1 - nI k = nI (12 * p + (n - 1 - k)) ∧ 12 * nI p + nI n - 1 - nI k = nI (12 * p + (n - 1 - k)) := by
  rw [show (12 : Int32) = nI 12 from rfl, show (1 : Int32) = nI 1 from rfl, nI_mul, nI_mul, nI_add, nI_add, nI_sub (by omega), nI_sub (by omega), nI_sub (by omega), nI_sub (by omega)]
  exact ⟨congrArg nI (by omega), congrArg nI (by omega)⟩
set_option maxRecDepth 100000 in
set_option maxHeartbeats 4000000 in
theorem cs_rec_t {ro : Nat → Option am_C} {c : Bool} {a : Nat → Nat → Int32} {l : Nat → Int64} {f : Nat → Nat → Int32} {p n k : Nat} (hp : p < 8) (hn : n ≤ 12) (en : a 14 p = nI n) (hk : k < n) : am_run ro 2 55 [.ref 13, .int (nI p), .int (nI k)] (wd c a l f) (some (.int (a 15 (12 * p + (n - 1 - k))))) (wd c a l f) := by
  have ep : (nI p).toNatClampNeg = p := nI_clamp (by omega)
  have en' : a 14 (nI p).toNatClampNeg = nI n := by rw [ep]; exact en
  have hin : vp_in (nI p) 8 := vp_in_nI hp (by decide)
  have e := (hi_ix hk hp hn).1
  refine am_run_of rfl (am_wp_ok (inl := []) 20 1 55 [9] 0 _ _ _ _ ?_)
  refine ⟨_, _, am_run_up (sp_below_t (nI_pos (by omega)) (nI_ge (b := 8) hp (by decide))) (by decide), ?_⟩
  refine am_br_f (by decide) ?_
  show am_T ro 1 55 9 [.ref 13, .int (nI p), .int (nI k)] [] (wd c a l f) _
  refine am_wp_ok (inl := []) 20 1 55 [24] _ _ _ _ _ ?_
  refine And.intro hin ?_
  refine ⟨_, _, am_run_up (sp_below_t (nI_pos (by omega)) (show ¬ a 14 (nI p).toNatClampNeg ≤ nI k by rw [en']; exact nI_ge hk (by omega))) (by decide), ?_⟩
  refine am_br_t (by decide) ?_
  show am_T ro 1 55 24 [.ref 13, .int (nI p), .int (nI k)] [] (wd c a l f) _
  refine am_wp_ok (inl := []) 30 1 55 [] _ _ _ _ _ ?_
  refine And.intro hin ?_
  refine And.intro (show vp_in (nI p * 12 + a 14 (nI p).toNatClampNeg - 1 - nI k) 96 by rw [en', e]; exact vp_in_nI (by omega) (by decide)) ?_
  refine And.intro (show some (Value.int (a 15 (nI p * 12 + a 14 (nI p).toNatClampNeg - 1 - nI k).toNatClampNeg)) = _ by rw [en', e, nI_clamp (by omega)]) rfl
set_option maxRecDepth 100000 in
set_option maxHeartbeats 4000000 in
theorem cs_rec_f {ro : Nat → Option am_C} {c : Bool} {a : Nat → Nat → Int32} {l : Nat → Int64} {f : Nat → Nat → Int32} {x k : Int32} (hc : ∀ p, p < 8 → ∃ n : Nat, n ≤ 12 ∧ a 14 p = nI n) (h : ¬ ∃ p n j : Nat, x = nI p ∧ k = nI j ∧ p < 8 ∧ a 14 p = nI n ∧ n ≤ 12 ∧ j < n) : am_run ro 2 55 [.ref 13, .int x, .int k] (wd c a l f) (some (.int (-1))) (wd c a l f) := by
  refine am_run_of rfl (am_wp_ok (inl := []) 20 1 55 [9] 0 _ _ _ _ ?_)
  rcases bd x 8 (by decide) with ⟨p, hp, rfl⟩ | hx
  · refine ⟨_, _, am_run_up (sp_below_t (nI_pos (by omega)) (nI_ge (b := 8) hp (by decide))) (by decide), ?_⟩
    refine am_br_f (by decide) ?_
    show am_T ro 1 55 9 [.ref 13, .int (nI p), .int k] [] (wd c a l f) _
    refine am_wp_ok (inl := []) 20 1 55 [24] _ _ _ _ _ ?_
    refine And.intro (vp_in_nI hp (by decide)) ?_
    obtain ⟨n, hn, en⟩ := hc p hp
    have en' : a 14 (nI p).toNatClampNeg = nI n := by rw [nI_clamp (by omega)]; exact en
    have hk : k < 0 ∨ nI n ≤ k := by
      rcases bd k n (by omega) with ⟨j, hj, rfl⟩ | hk
      · exact absurd ⟨p, n, j, rfl, rfl, hp, en, hn, hj⟩ h
      · exact hk
    refine ⟨_, _, am_run_up (sp_below_f (show k < 0 ∨ a 14 (nI p).toNatClampNeg ≤ k by rw [en']; exact hk)) (by decide), ?_⟩
    refine am_br_f (by decide) ?_
    exact And.intro rfl rfl
  · refine ⟨_, _, am_run_up (sp_below_f hx) (by decide), ?_⟩
    refine am_br_t (by decide) ?_
    exact And.intro rfl rfl
set_option maxRecDepth 100000 in
set_option maxHeartbeats 4000000 in
theorem mo_his_t {ro : Nat → Option am_C} {c : Bool} {a : Nat → Nat → Int32} {l : Nat → Int64} {f : Nat → Nat → Int32} {p n k : Nat} (hp : p < 8) (hn : n ≤ 12) (en : a 78 p = nI n) (hk : k < n) : am_run ro 2 146 [.ref 60, .int (nI p), .int (nI k)] (wd c a l f) (some (.int (a 79 (12 * p + (n - 1 - k))))) (wd c a l f) := by
  have ep : (nI p).toNatClampNeg = p := nI_clamp (by omega)
  have en' : a 78 (nI p).toNatClampNeg = nI n := by rw [ep]; exact en
  have hin : vp_in (nI p) 8 := vp_in_nI hp (by decide)
  have e := (hi_ix hk hp hn).2
  refine am_run_of rfl (am_wp_ok (inl := []) 20 1 146 [12] 0 _ _ _ _ ?_)
  refine ⟨_, _, am_run_up (in_t (j := p) (k := 7) (by omega) (by decide) rfl) (by decide), ?_⟩
  refine am_br_f (by decide) ?_
  show am_T ro 1 146 12 [.ref 60, .int (nI p), .int (nI k)] [] (wd c a l f) _
  refine am_wp_ok (inl := []) 20 1 146 [28] _ _ _ _ _ ?_
  refine am_br_f (nI_pos (by omega)) ?_
  refine And.intro hin ?_
  refine am_br_t (show nI k < a 78 (nI p).toNatClampNeg by rw [en']; exact nI_lt hk (by omega)) ?_
  show am_T ro 1 146 28 [.ref 60, .int (nI p), .int (nI k)] [] (wd c a l f) _
  refine am_wp_ok (inl := []) 30 1 146 [] _ _ _ _ _ ?_
  refine And.intro hin ?_
  refine And.intro (show vp_in (12 * nI p + a 78 (nI p).toNatClampNeg - 1 - nI k) 96 by rw [en', e]; exact vp_in_nI (by omega) (by decide)) ?_
  refine And.intro (show some (Value.int (a 79 (12 * nI p + a 78 (nI p).toNatClampNeg - 1 - nI k).toNatClampNeg)) = _ by rw [en', e, nI_clamp (by omega)]) rfl
set_option maxRecDepth 100000 in
set_option maxHeartbeats 4000000 in
theorem mo_his_f {ro : Nat → Option am_C} {c : Bool} {a : Nat → Nat → Int32} {l : Nat → Int64} {f : Nat → Nat → Int32} {x k : Int32} (hc : ∀ p, p < 8 → ∃ n : Nat, n ≤ 12 ∧ a 78 p = nI n) (h : ¬ ∃ p n j : Nat, x = nI p ∧ k = nI j ∧ p < 8 ∧ a 78 p = nI n ∧ n ≤ 12 ∧ j < n) : am_run ro 2 146 [.ref 60, .int x, .int k] (wd c a l f) (some (.int (-1))) (wd c a l f) := by
  refine am_run_of rfl (am_wp_ok (inl := []) 20 1 146 [12] 0 _ _ _ _ ?_)
  rcases bd x 8 (by decide) with ⟨p, hp, rfl⟩ | hx
  · refine ⟨_, _, am_run_up (in_t (j := p) (k := 7) (by omega) (by decide) rfl) (by decide), ?_⟩
    refine am_br_f (by decide) ?_
    show am_T ro 1 146 12 [.ref 60, .int (nI p), .int k] [] (wd c a l f) _
    refine am_wp_ok (inl := []) 20 1 146 [28] _ _ _ _ _ ?_
    obtain ⟨n, hn, en⟩ := hc p hp
    have en' : a 78 (nI p).toNatClampNeg = nI n := by rw [nI_clamp (by omega)]; exact en
    by_cases h0 : k < 0
    · refine am_br_t h0 ?_
      exact And.intro rfl rfl
    · refine am_br_f h0 ?_
      refine And.intro (vp_in_nI hp (by decide)) ?_
      refine am_br_f (show ¬ k < a 78 (nI p).toNatClampNeg from fun q => ?_) ?_
      · rw [en'] at q
        obtain ⟨j, hj, rfl⟩ := nI_of h0
        exact h ⟨p, n, j, rfl, rfl, hp, en, hn, (nI_ltI hj (by omega)).mp q⟩
      · exact And.intro rfl rfl
  · refine ⟨_, _, am_run_up (in_f (k := 7) hx (by decide) rfl) (by decide), ?_⟩
    refine am_br_t (by decide) ?_
    exact And.intro rfl rfl
set_option maxRecDepth 100000 in
set_option maxHeartbeats 4000000 in
theorem cl_history {ro : Nat → Option am_C} {c : Bool} {a : Nat → Nat → Int32} {l : Nat → Int64} {f : Nat → Nat → Int32} {x y r : Int32} {hp : am_H} (h : am_run ro 11 55 [.ref 13, .int x, .int y] (wd c a l f) (some (.int r)) hp) : am_run ro 12 23 [.ref 0, .int x, .int y] (wd c a l f) (some (.int r)) hp := by
  refine am_run_of rfl (am_wp_ok (inl := []) 60 11 23 [] 0 _ _ _ _ ?_)
  refine ⟨_, _, h, ?_⟩
  exact And.intro rfl rfl
theorem op_history {ro : Nat → Option am_C} (x k : Int32) : lp_op ro Rl 23 146 [.int x, .int k] := by
  intro c a l f hR
  obtain ⟨h1, h2, h3, h4, ⟨h5, h6⟩, h7⟩ := id hR
  by_cases hq : ∃ p n j : Nat, x = nI p ∧ k = nI j ∧ p < 8 ∧ a 14 p = nI n ∧ n ≤ 12 ∧ j < n
  · obtain ⟨p, n, j, rfl, rfl, hp, en, hn, hj⟩ := hq
    have en2 : a 78 p = nI n := by
      obtain ⟨n', -, g1, g2⟩ := h5 p hp
      rw [g2, ← g1, en]
    refine ⟨_, c, a, l, f, c, a, l, f, cl_history (am_run_up (cs_rec_t hp hn en hj) (by decide)), ?_, hR⟩
    rw [h6 _ (by omega)]
    exact am_run_up (mo_his_t hp hn en2 hj) (by decide)
  · refine ⟨-1, c, a, l, f, c, a, l, f, cl_history (am_run_up (cs_rec_f (fun p hp => by obtain ⟨n, g1, g2, g3⟩ := h5 p hp; exact ⟨n, g1, g2⟩) hq) (by decide)), am_run_up (mo_his_f (fun p hp => by obtain ⟨n, g1, g2, g3⟩ := h5 p hp; exact ⟨n, g1, g3⟩) (fun ⟨p, n, j, q1, q2, q3, q4, q5, q6⟩ => hq ⟨p, n, j, q1, q2, q3, ?_, q5, q6⟩)) (by decide), hR⟩
    obtain ⟨n', -, g1, g2⟩ := h5 p q3
    rw [g1, ← g2, q4]
