/-! put -/
set_option maxRecDepth 100000 in
set_option maxHeartbeats 4000000 in
theorem cs_room_t {ro : Nat → Option am_C} {c : Bool} {a : Nat → Nat → Int32} {l : Nat → Int64} {f : Nat → Nat → Int32} {p n : Nat} (hp : p < 8) (hn : n < 12) (en : a 14 p = nI n) : am_run ro 2 53 [.ref 13, .int (nI p)] (wd c a l f) (some (.int 1)) (wd c a l f) := by
  refine am_run_of rfl (am_wp_ok (inl := []) 20 1 53 [] 0 _ _ _ _ ?_)
  refine ⟨_, _, sp_below_t (nI_pos (by omega)) (nI_ge (b := 8) hp (by decide)), ?_⟩
  refine am_br_f (by decide) ?_
  refine And.intro (vp_in_nI hp (by decide)) ?_
  refine am_br_f (show ¬ nI 12 ≤ a 14 (nI p).toNatClampNeg by rw [nI_clamp (by omega), en]; exact nI_ge hn (by decide)) ?_
  exact And.intro rfl (And.intro rfl rfl)
set_option maxRecDepth 100000 in
set_option maxHeartbeats 4000000 in
theorem cs_room_f {ro : Nat → Option am_C} {c : Bool} {a : Nat → Nat → Int32} {l : Nat → Int64} {f : Nat → Nat → Int32} {x : Int32} (h : (x < 0 ∨ nI 8 ≤ x) ∨ ∃ p : Nat, p < 8 ∧ x = nI p ∧ a 14 p = nI 12) : am_run ro 2 53 [.ref 13, .int x] (wd c a l f) (some (.int 0)) (wd c a l f) := by
  refine am_run_of rfl (am_wp_ok (inl := []) 20 1 53 [] 0 _ _ _ _ ?_)
  rcases h with h | ⟨p, hp, rfl, en⟩
  · refine ⟨_, _, sp_below_f h, ?_⟩
    refine am_br_t (by decide) ?_
    exact And.intro rfl (And.intro rfl rfl)
  · refine ⟨_, _, sp_below_t (nI_pos (by omega)) (nI_ge (b := 8) hp (by decide)), ?_⟩
    refine am_br_f (by decide) ?_
    refine And.intro (vp_in_nI hp (by decide)) ?_
    refine am_br_t (show nI 12 ≤ a 14 (nI p).toNatClampNeg by rw [nI_clamp (by omega), en]; exact nI_le (by omega) (by decide)) ?_
    exact And.intro rfl (And.intro rfl rfl)
set_option maxRecDepth 100000 in
set_option maxHeartbeats 4000000 in
theorem cs_apd {ro : Nat → Option am_C} {c : Bool} {a : Nat → Nat → Int32} {l : Nat → Int64} {f : Nat → Nat → Int32} {p n : Nat} {v : Int32} (hp : p < 8) (hn : n < 12) (en : a 14 p = nI n) : am_run ro 3 54 [.ref 13, .int (nI p), .int v] (wd c a l f) none (wd c (u2 (u2 a 15 (upd (a 15) (12 * p + n) v)) 14 (upd (a 14) p (nI (n + 1)))) l f) := by
  have ep : (nI p).toNatClampNeg = p := nI_clamp (by omega)
  have en' : a 14 (nI p).toNatClampNeg = nI n := by rw [ep]; exact en
  have hin : vp_in (nI p) 8 := vp_in_nI hp (by decide)
  have e : nI p * 12 + a 14 (nI p).toNatClampNeg = nI (12 * p + n) := by
    rw [en', show (12 : Int32) = nI 12 from rfl, nI_mul, nI_add]
    exact congrArg nI (by omega)
  refine am_run_of rfl (am_wp_ok (inl := []) 20 2 54 [9] 0 _ _ _ _ ?_)
  refine ⟨_, _, cs_room_t hp hn en, ?_⟩
  refine am_br_t (by decide) ?_
  show am_T ro 2 54 9 [.ref 13, .int (nI p), .int v] [] (wd c a l f) _
  refine am_wp_ok (inl := []) 40 2 54 [] _ _ _ _ _ ?_
  refine And.intro hin ?_
  refine And.intro (show vp_in (nI p * 12 + a 14 (nI p).toNatClampNeg) 96 by rw [e]; exact vp_in_nI (by omega) (by decide)) ?_
  refine And.intro hin (And.intro hin ?_)
  refine And.intro rfl ?_
  show ((wd c a l f).set 15 (.inl (.int, 96, .inl (upd (a 15) (nI p * 12 + a 14 (nI p).toNatClampNeg).toNatClampNeg v)))).set 14 (.inl (.int, 8, .inl (upd (a 14) (nI p).toNatClampNeg (a 14 (nI p).toNatClampNeg + 1)))) = _
  rw [ws_15, ws_14, e, nI_clamp (show 12 * p + n < 2 ^ 31 by omega), en', ep, nI_1]
set_option maxRecDepth 100000 in
set_option maxHeartbeats 4000000 in
theorem pt_s {ro : Nat → Option am_C} {c : Bool} {a : Nat → Nat → Int32} {l : Nat → Int64} {f : Nat → Nat → Int32} {x y : Int32} {K : Option Value → am_H → Prop} (h : am_run ro 11 53 [.ref 13, .int x] (wd c a l f) (some (.int y)) (wd c a l f)) (k : am_T ro 11 22 8 [.ref 0, .int x, am_un] [.int y] (wd c a l f) K) : am_T ro 11 22 0 [.ref 0, .int x, am_un] [] (wd c a l f) K := by
  refine am_wp_ok (inl := []) 6 11 22 [8] _ _ _ _ _ ?_
  refine ⟨_, _, h, ?_⟩
  exact k
set_option maxRecDepth 100000 in
set_option maxHeartbeats 4000000 in
theorem pt_c {ro : Nat → Option am_C} {c : Bool} {a : Nat → Nat → Int32} {l : Nat → Int64} {f : Nat → Nat → Int32} {x v : Int32} {K : Option Value → am_H → Prop} (h : am_run ro 11 6 [.ref 0] (wd c a l f) (some (.int v)) (wd c a l f)) (k : am_T ro 11 22 18 [.ref 0, .int x, .int v] [] (wd c a l f) K) : am_T ro 11 22 8 [.ref 0, .int x, am_un] [.int 1] (wd c a l f) K := by
  refine am_wp_ok (inl := []) 6 11 22 [13] _ _ _ _ _ ?_
  refine am_br_t (by decide) ?_
  show am_T ro 11 22 13 [.ref 0, .int x, am_un] [] (wd c a l f) K
  refine am_wp_ok (inl := []) 6 11 22 [17] _ _ _ _ _ ?_
  refine ⟨_, _, h, ?_⟩
  show am_T ro 11 22 17 [.ref 0, .int x, am_un] [.int v] (wd c a l f) K
  refine am_wp_ok (inl := []) 6 11 22 [18] _ _ _ _ _ ?_
  exact k
set_option maxRecDepth 100000 in
set_option maxHeartbeats 4000000 in
theorem cl_put_f {ro : Nat → Option am_C} {c : Bool} {a : Nat → Nat → Int32} {l : Nat → Int64} {f : Nat → Nat → Int32} {x : Int32} (h : am_run ro 11 53 [.ref 13, .int x] (wd c a l f) (some (.int 0)) (wd c a l f)) : am_run ro 12 22 [.ref 0, .int x] (wd c a l f) (some (.int (-1))) (wd c a l f) := by
  refine am_run_of rfl (pt_s h ?_)
  refine am_wp_ok (inl := []) 6 11 22 [13] _ _ _ _ _ ?_
  refine am_br_f (by decide) ?_
  exact And.intro rfl rfl
set_option maxRecDepth 100000 in
set_option maxHeartbeats 4000000 in
theorem cl_put_n {ro : Nat → Option am_C} {c : Bool} {a : Nat → Nat → Int32} {l : Nat → Int64} {f : Nat → Nat → Int32} {x v : Int32} (h : am_run ro 11 53 [.ref 13, .int x] (wd c a l f) (some (.int 1)) (wd c a l f)) (h2 : am_run ro 11 6 [.ref 0] (wd c a l f) (some (.int v)) (wd c a l f)) (hv : v < 0) : am_run ro 12 22 [.ref 0, .int x] (wd c a l f) (some (.int v)) (wd c a l f) := by
  refine am_run_of rfl (pt_s h (pt_c h2 ?_))
  refine am_wp_ok (inl := []) 6 11 22 [22] _ _ _ _ _ ?_
  refine am_br_t hv ?_
  exact And.intro rfl rfl
set_option maxRecDepth 100000 in
set_option maxHeartbeats 4000000 in
theorem cl_put_y {ro : Nat → Option am_C} {c : Bool} {a : Nat → Nat → Int32} {l : Nat → Int64} {f : Nat → Nat → Int32} {x v : Int32} {a' : Nat → Nat → Int32} (h : am_run ro 11 53 [.ref 13, .int x] (wd c a l f) (some (.int 1)) (wd c a l f)) (h2 : am_run ro 11 6 [.ref 0] (wd c a l f) (some (.int v)) (wd c a l f)) (hv : ¬ v < 0) (h3 : am_run ro 11 54 [.ref 13, .int x, .int v] (wd c a l f) none (wd c a' l f)) : am_run ro 12 22 [.ref 0, .int x] (wd c a l f) (some (.int v)) (wd c a' l f) := by
  refine am_run_of rfl (pt_s h (pt_c h2 ?_))
  refine am_wp_ok (inl := []) 6 11 22 [22] _ _ _ _ _ ?_
  refine am_br_f hv ?_
  show am_T ro 11 22 22 [.ref 0, .int x, .int v] [] (wd c a l f) _
  refine am_wp_ok (inl := []) 8 11 22 [31] _ _ _ _ _ ?_
  refine ⟨_, _, h3, ?_⟩
  show am_T ro 11 22 31 [.ref 0, .int x, .int v] [] (wd c a' l f) _
  refine am_wp_ok (inl := []) 8 11 22 [] _ _ _ _ _ ?_
  exact And.intro rfl rfl
set_option maxRecDepth 100000 in
set_option maxHeartbeats 4000000 in
theorem ml_put_f {ro : Nat → Option am_C} {c : Bool} {a : Nat → Nat → Int32} {l : Nat → Int64} {f : Nat → Nat → Int32} {x : Int32} (h : (x < 0 ∨ nI 8 ≤ x) ∨ ∃ p : Nat, p < 8 ∧ x = nI p ∧ a 78 p = nI 12) : am_run ro 12 145 [.ref 60, .int x] (wd c a l f) (some (.int (-1))) (wd c a l f) := by
  refine am_run_of rfl (am_wp_ok (inl := []) 20 11 145 [12] 0 _ _ _ _ ?_)
  rcases h with h | ⟨p, hp, rfl, en⟩
  · refine ⟨_, _, am_run_up (in_f (k := 7) h (by decide) rfl) (by decide), ?_⟩
    refine am_br_t (by decide) ?_
    exact And.intro rfl rfl
  · refine ⟨_, _, am_run_up (in_t (j := p) (k := 7) (by omega) (by decide) rfl) (by decide), ?_⟩
    refine am_br_f (by decide) ?_
    show am_T ro 11 145 12 [.ref 60, .int (nI p), am_un] [] (wd c a l f) _
    refine am_wp_ok (inl := []) 20 11 145 [25] _ _ _ _ _ ?_
    refine And.intro (show vp_in (nI p) 8 from vp_in_nI hp (by decide)) ?_
    refine am_br_f (show ¬ ¬ a 78 (nI p).toNatClampNeg = nI 12 by rw [nI_clamp (by omega), en]; exact fun z => z rfl) ?_
    exact And.intro rfl rfl
set_option maxRecDepth 100000 in
set_option maxHeartbeats 4000000 in
theorem ml_put_s {ro : Nat → Option am_C} {c : Bool} {a : Nat → Nat → Int32} {l : Nat → Int64} {f : Nat → Nat → Int32} {p n : Nat} {K : Option Value → am_H → Prop} (hp : p < 8) (hn : n < 12) (en : a 78 p = nI n) (k : am_T ro 11 145 25 [.ref 60, .int (nI p), am_un] [] (wd c a l f) K) : am_T ro 11 145 0 [.ref 60, .int (nI p), am_un] [] (wd c a l f) K := by
  refine am_wp_ok (inl := []) 20 11 145 [12] _ _ _ _ _ ?_
  refine ⟨_, _, am_run_up (in_t (j := p) (k := 7) (by omega) (by decide) rfl) (by decide), ?_⟩
  refine am_br_f (by decide) ?_
  show am_T ro 11 145 12 [.ref 60, .int (nI p), am_un] [] (wd c a l f) _
  refine am_wp_ok (inl := []) 20 11 145 [25] _ _ _ _ _ ?_
  refine And.intro (show vp_in (nI p) 8 from vp_in_nI hp (by decide)) ?_
  refine am_br_t (show ¬ a 78 (nI p).toNatClampNeg = nI 12 by rw [nI_clamp (by omega), en, nI_eq (by omega) (by decide)]; omega) ?_
  exact k
set_option maxRecDepth 100000 in
set_option maxHeartbeats 4000000 in
theorem ml_put_n {ro : Nat → Option am_C} {c : Bool} {a : Nat → Nat → Int32} {l : Nat → Int64} {f : Nat → Nat → Int32} {p n : Nat} {v : Int32} {f' : Nat → Nat → Int32} (hp : p < 8) (hn : n < 12) (en : a 78 p = nI n) (h2 : am_run ro 11 123 [.ref 60] (wd c a l f) (some (.int v)) (wd c a l f')) (hv : v < 0) : am_run ro 12 145 [.ref 60, .int (nI p)] (wd c a l f) (some (.int v)) (wd c a l f') := by
  refine am_run_of rfl (ml_put_s hp hn en ?_)
  refine am_wp_ok (inl := []) 20 11 145 [30] _ _ _ _ _ ?_
  refine ⟨_, _, h2, ?_⟩
  show am_T ro 11 145 30 [.ref 60, .int (nI p), .int v] [] (wd c a l f') _
  refine am_wp_ok (inl := []) 20 11 145 [] _ _ _ _ _ ?_
  refine am_br_t hv ?_
  exact And.intro rfl rfl
set_option maxRecDepth 100000 in
set_option maxHeartbeats 4000000 in
theorem ml_put_y {ro : Nat → Option am_C} {c : Bool} {a : Nat → Nat → Int32} {l : Nat → Int64} {f : Nat → Nat → Int32} {p n : Nat} {v : Int32} {f' : Nat → Nat → Int32} (hp : p < 8) (hn : n < 12) (en : a 78 p = nI n) (h2 : am_run ro 11 123 [.ref 60] (wd c a l f) (some (.int v)) (wd c a l f')) (hv : ¬ v < 0) : am_run ro 12 145 [.ref 60, .int (nI p)] (wd c a l f) (some (.int v)) (wd c (u2 (u2 a 79 (upd (a 79) (12 * p + n) v)) 78 (upd (a 78) p (nI (n + 1)))) l f') := by
  have ep : (nI p).toNatClampNeg = p := nI_clamp (by omega)
  have en' : a 78 (nI p).toNatClampNeg = nI n := by rw [ep]; exact en
  have hin : vp_in (nI p) 8 := vp_in_nI hp (by decide)
  have e : 12 * nI p + a 78 (nI p).toNatClampNeg = nI (12 * p + n) := by
    rw [en', show (12 : Int32) = nI 12 from rfl, nI_mul, nI_add]
  refine am_run_of rfl (ml_put_s hp hn en ?_)
  refine am_wp_ok (inl := []) 20 11 145 [30] _ _ _ _ _ ?_
  refine ⟨_, _, h2, ?_⟩
  show am_T ro 11 145 30 [.ref 60, .int (nI p), .int v] [] (wd c a l f') _
  refine am_wp_ok (inl := []) 20 11 145 [34] _ _ _ _ _ ?_
  refine am_br_f hv ?_
  show am_T ro 11 145 34 [.ref 60, .int (nI p), .int v] [] (wd c a l f') _
  refine am_wp_ok (inl := []) 40 11 145 [] _ _ _ _ _ ?_
  refine And.intro hin ?_
  refine And.intro (show vp_in (12 * nI p + a 78 (nI p).toNatClampNeg) 96 by rw [e]; exact vp_in_nI (by omega) (by decide)) ?_
  refine And.intro hin (And.intro hin ?_)
  refine And.intro rfl ?_
  show ((wd c a l f').set 79 (.inl (.int, 96, .inl (upd (a 79) (12 * nI p + a 78 (nI p).toNatClampNeg).toNatClampNeg v)))).set 78 (.inl (.int, 8, .inl (upd (a 78) (nI p).toNatClampNeg (a 78 (nI p).toNatClampNeg + 1)))) = _
  rw [ws_79, ws_78, e, nI_clamp (show 12 * p + n < 2 ^ 31 by omega), en', ep, nI_1]
/-- the histories of the class alone differ: the rest of what ties them stands -/
theorem op_put {ro : Nat → Option am_C} (x : Int32) : lp_op ro Rl 22 145 [.int x] := by
  intro c a l f hR
  obtain ⟨h1, h2, h3, h4, ⟨h5, h6⟩, h7⟩ := id hR
  by_cases hq : (x < 0 ∨ nI 8 ≤ x) ∨ ∃ p : Nat, p < 8 ∧ x = nI p ∧ a 14 p = nI 12
  · have hq' : (x < 0 ∨ nI 8 ≤ x) ∨ ∃ p : Nat, p < 8 ∧ x = nI p ∧ a 78 p = nI 12 := by
      rcases hq with h | ⟨p, hp, ex, en⟩
      · exact Or.inl h
      · obtain ⟨n, -, g1, g2⟩ := h5 p hp
        exact Or.inr ⟨p, hp, ex, by rw [g2, ← g1]; exact en⟩
    exact ⟨-1, c, a, l, f, c, a, l, f, cl_put_f (am_run_up (cs_room_f hq) (by decide)), ml_put_f hq', hR⟩
  · rcases bd x 8 (by decide) with ⟨p, hp, rfl⟩ | hx
    · obtain ⟨n, hn, g1, g2⟩ := h5 p hp
      have hn12 : n < 12 := by
        by_cases h : n = 12
        · exact absurd (Or.inr ⟨p, hp, rfl, by rw [← h]; exact g1⟩) hq
        · omega
      obtain ⟨v, w, k1, k2, k3⟩ := both_code (ro := ro) hR
      by_cases hv : v < 0
      · exact ⟨v, c, a, l, f, c, a, l, _, cl_put_n (am_run_up (cs_room_t hp hn12 g1) (by decide)) k1 hv, ml_put_n hp hn12 g2 k2 hv, Rl_23 hR⟩
      · refine ⟨v, c, _, l, f, c, _, l, _, cl_put_y (am_run_up (cs_room_t hp hn12 g1) (by decide)) k1 hv (am_run_up (cs_apd hp hn12 g1) (by decide)), ml_put_y (a := u2 (u2 a 15 (upd (a 15) (12 * p + n) v)) 14 (upd (a 14) p (nI (n + 1)))) hp hn12 g2 (k3 _ _) hv, ?_⟩
        refine ⟨h1, h2, h3, h4, ⟨fun i hi => ?_, fun q hq => ?_⟩, by cases c <;> exact h7⟩
        · show ∃ k : Nat, k ≤ 12 ∧ upd (a 14) p (nI (n + 1)) i = nI k ∧ upd (a 78) p (nI (n + 1)) i = nI k
          by_cases e : i = p
          · subst e
            exact ⟨n + 1, by omega, upd_same, upd_same⟩
          · rw [upd_ne e, upd_ne e]
            exact h5 i hi
        · show upd (a 15) (12 * p + n) v q = upd (a 79) (12 * p + n) v q
          by_cases e : q = 12 * p + n
          · subst e
            rw [upd_same, upd_same]
          · rw [upd_ne e, upd_ne e]
            exact h6 q hq
    · exact absurd (Or.inl hx) hq
