/-! code, taken, asks -/
theorem out_eq {T G T' G' : Nat → Int32} {gn gn' : Int32 → Bool} {M M' : Nat → Int32} {nb : Nat} (hb : nb ≤ 30) (ht : ∀ i, i < nb → tri (M i)) (h : ∀ i, i < nb → T i = T' i ∧ G i = G' i ∧ M i = M' i) (hg : ∀ x, gn x = gn' x) : outc T G gn M nb = outc T' G' gn' M' nb := by
  have hF : fft (fun _ => true) M 0 nb = fft (fun _ => true) M' 0 nb := fft_eq nb 0 (fun i _ hi => ⟨rfl, (h i (by omega)).2.2⟩)
  rcases fft_cases (ok := fun _ => true) nb 0 (fun i _ hi => ht i (by omega)) with h1 | ⟨i, -, hi, h1⟩ | ⟨q, hq, h1⟩
  · rw [out_neg (T := T) (G := G) (gn := gn) (by rw [h1]; decide), out_neg (T := T') (G := G') (gn := gn') (by rw [← hF, h1]; decide), hF]
  · have hi' : i < nb := by omega
    have h1' : fft (fun _ => true) M' 0 nb = nI i := by rw [← hF]; exact h1
    cases hq : gn (T i) with
    | false => rw [out_pl h1 (by omega) hq, out_pl h1' (by omega) (by rw [← hg, ← (h i hi').1]; exact hq)]
    | true =>
      rw [out_sp h1 (by omega) hq, out_sp h1' (by omega) (by rw [← hg, ← (h i hi').1]; exact hq)]
      rw [fft_eq (ok' := fun j => decide (G' j = G' i) && !gn' (T' j)) (M' := M') (nb - (i + 1)) (i + 1) (fun j h2 h3 => ⟨by rw [(h j (by omega)).1, (h j (by omega)).2.1, (h i hi').2.1, hg], (h j (by omega)).2.2⟩)]
  · rw [out_neg (T := T) (G := G) (gn := gn) (by rw [h1]; exact (ask_q hq (x := 0)).2.1), out_neg (T := T') (G := G') (gn := gn') (by rw [← hF, h1]; exact (ask_q hq (x := 0)).2.1), hF]
theorem m2_gt {x : Int32} (h : ¬ x ≤ -2) : -2 < x := Int32.not_le.mp h
set_option maxRecDepth 100000 in
set_option maxHeartbeats 4000000 in
theorem cl_taken {ro : Nat → Option am_C} {c : Bool} {a : Nat → Nat → Int32} {l : Nat → Int64} {f : Nat → Nat → Int32} {x : Int32} (h : am_run ro 11 65 [.ref (ob c), .ref 3] (wd c a l f) (some (.int x)) (wd c a l f)) : am_run ro 12 7 [.ref 0] (wd c a l f) (some (.int (tres x))) (wd c a l f) := by
  cases c
  all_goals
    refine am_run_of rfl (am_wp_ok (inl := []) 20 11 7 [] 0 _ _ _ _ ?_)
    refine ⟨_, _, h, ?_⟩
    by_cases hx : x ≤ -2
    · refine am_br_f (show ¬ (-2 : Int32) < x from Int32.not_lt.mpr hx) ?_
      exact And.intro (by rw [show tres x = -2 from if_pos hx]; rfl) rfl
    · refine am_br_t (m2_gt hx) ?_
      exact And.intro (by rw [show tres x = x from if_neg hx]) rfl
set_option maxRecDepth 100000 in
set_option maxHeartbeats 4000000 in
theorem cl_asks {ro : Nat → Option am_C} {c : Bool} {a : Nat → Nat → Int32} {l : Nat → Int64} {f : Nat → Nat → Int32} {x : Int32} (h : am_run ro 11 65 [.ref (ob c), .ref 3] (wd c a l f) (some (.int x)) (wd c a l f)) : am_run ro 12 8 [.ref 0] (wd c a l f) (some (.int (tas x))) (wd c a l f) := by
  cases c
  all_goals
    refine am_run_of rfl (am_wp_ok (inl := []) 20 11 8 [] 0 _ _ _ _ ?_)
    refine ⟨_, _, h, ?_⟩
    by_cases hx : x ≤ -2
    · refine am_br_f (show ¬ (-2 : Int32) < x from Int32.not_lt.mpr hx) ?_
      exact And.intro (by rw [show tas x = -2 - x from if_pos hx]; rfl) rfl
    · refine am_br_t (m2_gt hx) ?_
      exact And.intro (by rw [show tas x = -1 from if_neg hx]; rfl) rfl
set_option maxRecDepth 100000 in
set_option maxHeartbeats 4000000 in
theorem cl_code_q {ro : Nat → Option am_C} {c : Bool} {a : Nat → Nat → Int32} {l : Nat → Int64} {f : Nat → Nat → Int32} {x : Int32} (h : am_run ro 10 65 [.ref (ob c), .ref 3] (wd c a l f) (some (.int x)) (wd c a l f)) (hx : x ≤ -2) : am_run ro 11 6 [.ref 0] (wd c a l f) (some (.int (-2))) (wd c a l f) := by
  cases c
  all_goals
    refine am_run_of rfl (am_wp_ok (inl := []) 20 10 6 [] 0 _ _ _ _ ?_)
    refine ⟨_, _, h, ?_⟩
    refine am_br_f (show ¬ (-2 : Int32) < x from Int32.not_lt.mpr hx) ?_
    exact And.intro rfl rfl
set_option maxRecDepth 100000 in
set_option maxHeartbeats 4000000 in
theorem cl_code_n {ro : Nat → Option am_C} {c : Bool} {a : Nat → Nat → Int32} {l : Nat → Int64} {f : Nat → Nat → Int32} {x r : Int32} (h : am_run ro 10 65 [.ref (ob c), .ref 3] (wd c a l f) (some (.int x)) (wd c a l f)) (hx : ¬ x ≤ -2) (h2 : am_run ro 10 76 [.ref (ob c + 1), .int x] (wd c a l f) (some (.int r)) (wd c a l f)) : am_run ro 11 6 [.ref 0] (wd c a l f) (some (.int r)) (wd c a l f) := by
  cases c
  all_goals
    refine am_run_of rfl (am_wp_ok (inl := []) 20 10 6 [] 0 _ _ _ _ ?_)
    refine ⟨_, _, h, ?_⟩
    refine am_br_t (m2_gt hx) ?_
    refine ⟨_, _, h2, ?_⟩
    exact And.intro rfl rfl
set_option maxRecDepth 100000 in
set_option maxHeartbeats 4000000 in
theorem ml_taken {ro : Nat → Option am_C} {c : Bool} {a : Nat → Nat → Int32} {l : Nat → Int64} {f : Nat → Nat → Int32} {x : Int32} {hp : am_H} (h : am_run ro 11 124 [.ref 60] (wd c a l f) (some (.int x)) hp) : am_run ro 12 127 [.ref 60] (wd c a l f) (some (.int x)) hp := by
  refine am_run_of rfl (am_wp_ok (inl := []) 20 11 127 [] 0 _ _ _ _ ?_)
  refine ⟨_, _, h, ?_⟩
  exact And.intro rfl rfl
set_option maxRecDepth 100000 in
set_option maxHeartbeats 4000000 in
theorem ml_asks {ro : Nat → Option am_C} {c : Bool} {a : Nat → Nat → Int32} {l : Nat → Int64} {f : Nat → Nat → Int32} {x : Int32} {f' : Nat → Nat → Int32} (h : am_run ro 11 124 [.ref 60] (wd c a l f) (some (.int (tres x))) (wd c a l f')) (hf : f' 60 23 = tas x) (hx : tres x = -2 ∨ (¬ tres x = -2 ∧ tas x = -1)) : am_run ro 12 128 [.ref 60] (wd c a l f) (some (.int (tas x))) (wd c a l f') := by
  refine am_run_of rfl (am_wp_ok (inl := []) 20 11 128 [] 0 _ _ _ _ ?_)
  refine ⟨_, _, h, ?_⟩
  rcases hx with hx | ⟨hx, hy⟩
  · refine am_br_f (show ¬ ¬ tres x = -2 from fun z => z hx) ?_
    exact And.intro (by rw [← hf]) rfl
  · refine am_br_t hx ?_
    exact And.intro (by rw [hy]; rfl) rfl
set_option maxRecDepth 100000 in
set_option maxHeartbeats 4000000 in
theorem ml_code_q {ro : Nat → Option am_C} {c : Bool} {a : Nat → Nat → Int32} {l : Nat → Int64} {f : Nat → Nat → Int32} {x : Int32} {f' : Nat → Nat → Int32} (h : am_run ro 10 124 [.ref 60] (wd c a l f) (some (.int x)) (wd c a l f')) (hx : ¬ 0 ≤ x) : am_run ro 11 123 [.ref 60] (wd c a l f) (some (.int x)) (wd c a l f') := by
  refine am_run_of rfl (am_wp_ok (inl := []) 20 10 123 [] 0 _ _ _ _ ?_)
  refine ⟨_, _, h, ?_⟩
  refine am_br_f hx ?_
  exact And.intro rfl rfl
set_option maxRecDepth 100000 in
set_option maxHeartbeats 4000000 in
theorem ml_code_n {ro : Nat → Option am_C} {c : Bool} {a : Nat → Nat → Int32} {l : Nat → Int64} {f : Nat → Nat → Int32} {i : Nat} {f' : Nat → Nat → Int32} (h : am_run ro 10 124 [.ref 60] (wd c a l f) (some (.int (nI i))) (wd c a l f')) (hi : i < 30) : am_run ro 11 123 [.ref 60] (wd c a l f) (some (.int (a 63 i))) (wd c a l f') := by
  refine am_run_of rfl (am_wp_ok (inl := []) 20 10 123 [] 0 _ _ _ _ ?_)
  refine ⟨_, _, h, ?_⟩
  refine am_br_t (nI_pos' (by omega)) ?_
  refine And.intro (show vp_in (nI i) 60 from vp_in_nI (by omega) (by decide)) ?_
  refine And.intro (show some (Value.int (a 63 (nI i).toNatClampNeg)) = _ by rw [nI_clamp (by omega)]) rfl
/-- both come to one outcome -/
theorem both {ro : Nat → Option am_C} {c : Bool} {a : Nat → Nat → Int32} {l : Nat → Int64} {f : Nat → Nat → Int32} (hR : Rl c a l f) : ∃ (x : Int32) (nb : Nat), nb ≤ 30 ∧ oc nb x ∧ am_run ro 5 65 [.ref (ob c), .ref 3] (wd c a l f) (some (.int x)) (wd c a l f) ∧ am_run ro 3 124 [.ref 60] (wd c a l f) (some (.int (tres x))) (wd c a l (u3 f 60 23 (tas x))) ∧ (∀ i, i < nb → am_run ro 2 76 [.ref (ob c + 1), .int (nI i)] (wd c a l f) (some (.int (a 63 i))) (wd c a l f)) ∧ am_run ro 2 76 [.ref (ob c + 1), .int (-1)] (wd c a l f) (some (.int (-1))) (wd c a l f) ∧ ∀ g1 g2 : Nat → Int32, am_run ro 3 124 [.ref 60] (wd c (u2 (u2 a 15 g1) 14 g2) l f) (some (.int (tres x))) (wd c (u2 (u2 a 15 g1) 14 g2) l (u3 f 60 23 (tas x))) := by
  obtain ⟨h1, h2, h3, h4, h5, ⟨nb, nc, ng, nm, np, nn, ⟨b1, b2, b3, b4, ⟨e, e0, enb, he⟩, b6, b7, b8⟩, h7⟩⟩ := hR
  obtain ⟨hb, hnc, hng, -⟩ := b1
  have hA' : ∀ k, k < nc → ∃ q : Nat, q < 10 ∧ a (ob c + 5) k = nI q := fun k hk => by obtain ⟨⟨q, q1, q2, -⟩, -⟩ := b6 k hk; exact ⟨q, q1, q2⟩
  have hA : ∀ k, k < nc → ∃ q : Nat, q < 10 ∧ a 66 (3 * k) = nI q := fun k hk => by
    obtain ⟨⟨q, q1, -, q3⟩, -⟩ := b6 k hk
    rw [show 180 * 0 + 3 * k = 3 * k by omega] at q3
    exact ⟨q, q1, q3⟩
  have hS : ∀ i, i ≤ nb → a 65 i = nI (e i) := fun i hi => by
    by_cases h : i < nb
    · have := (he i h).2.2.2
      rw [show 31 * 0 + i = i by omega] at this
      exact this
    · have : i = nb := by omega
      rw [this, enb]
      exact h7
  have hM : ∀ i, i < nb → mt (a 4) (a 5) (a (ob c + 5)) (a (ob c + 6)) (a (ob c + 7)) (e i) (e (i + 1) - e i) = mt (a 72) (a 73) (fun z => a 66 (3 * z)) (fun z => a 66 (3 * z + 1)) (fun z => a 66 (3 * z + 2)) (e i) (e (i + 1) - e i) := fun i hi => by
    obtain ⟨g1, g2, -⟩ := he i hi
    refine mt_eq _ _ (fun k k1 k2 => ?_)
    obtain ⟨⟨q, q1, q2, q3⟩, q4, q5⟩ := b6 k (by omega)
    rw [show 180 * 0 + 3 * k = 3 * k by omega] at q3 q4 q5
    rw [q2, nI_clamp (by omega)]
    exact ⟨q3.symm, q4, q5, (h2 q q1).1, (h2 q q1).2.2⟩
  have trc : ∀ i, i < nb → tri (mt (a 4) (a 5) (a (ob c + 5)) (a (ob c + 6)) (a (ob c + 7)) (e i) (e (i + 1) - e i)) := fun i hi => mt_tri _ _ (fun k k1 k2 => hA' k (by have := he i hi; omega))
  have hgn : ∀ x, an (fun q => decide (a (ob c + 9) q = x)) 0 ng = an (fun q => decide (a 67 q = x)) 0 ng := fun x => an_eq ng 0 (fun i _ hi => by
    have := b7 i (by omega)
    rw [show 16 * 0 + i = i by omega] at this
    rw [this])
  have hTG : ∀ i, i < nb → a (ob c + 2) i = a 63 i ∧ a (ob c + 3) i = a 64 i := fun i hi => by
    have := b4 i hi
    rw [show 30 * 0 + i = i by omega] at this
    exact ⟨this.1, this.2.1⟩
  have heq : outc (a (ob c + 2)) (a (ob c + 3)) (fun x => an (fun q => decide (a (ob c + 9) q = x)) 0 ng) (fun i => mt (a 4) (a 5) (a (ob c + 5)) (a (ob c + 6)) (a (ob c + 7)) (e i) (e (i + 1) - e i)) nb = outc (a 63) (a 64) (fun x => an (fun q => decide (a 67 q = x)) 0 ng) (fun i => mt (a 72) (a 73) (fun z => a 66 (3 * z)) (fun z => a 66 (3 * z + 1)) (fun z => a 66 (3 * z + 2)) (e i) (e (i + 1) - e i)) nb := out_eq hb trc (fun i hi => ⟨(hTG i hi).1, (hTG i hi).2, hM i hi⟩) hgn
  have he' : ∀ i, i < nb → e i ≤ e (i + 1) ∧ e (i + 1) ≤ nc ∧ a (ob c + 4) i = nI (e (i + 1)) := fun i hi => ⟨(he i hi).1, (he i hi).2.1, (he i hi).2.2.1⟩
  have hG' : ∀ i, i < nb → ∃ g : Nat, g < 10 ∧ a (ob c + 3) i = nI g := fun i hi => (b4 i hi).2.2
  have hoc : oc nb (outc (a 63) (a 64) (fun x => an (fun q => decide (a 67 q = x)) 0 ng) (fun i => mt (a 72) (a 73) (fun z => a 66 (3 * z)) (fun z => a 66 (3 * z + 1)) (fun z => a 66 (3 * z + 2)) (e i) (e (i + 1) - e i)) nb) := by rw [← heq]; exact out_oc hb trc
  have ho : am_run ro 5 65 [.ref (ob c), .ref 3] (wd c a l f) (some (.int (outc (a 63) (a 64) (fun x => an (fun q => decide (a 67 q = x)) 0 ng) (fun i => mt (a 72) (a 73) (fun z => a 66 (3 * z)) (fun z => a 66 (3 * z + 1)) (fun z => a 66 (3 * z + 2)) (e i) (e (i + 1) - e i)) nb))) (wd c a l f) := by
    rw [← heq]
    cases c
    · exact ou_16 hb hnc hng b2.1 b2.2.1 b2.2.2.1 e0 he' hA' hG'
    · exact ou_38 hb hnc hng b2.1 b2.2.1 b2.2.2.1 e0 he' hA' hG'
  refine ⟨_, nb, hb, hoc, ho, mo_trial hb hnc b3.1 (fun i hi => ⟨(he i hi).1, (he i hi).2.1⟩) hS hA hng b3.2.2.1, fun i hi => ?_, ?_, fun g1 g2 => mo_trial (a := u2 (u2 a 15 g1) 14 g2) hb hnc b3.1 (fun i hi => ⟨(he i hi).1, (he i hi).2.1⟩) hS hA hng b3.2.2.1⟩
  · rw [← (hTG i hi).1]
    cases c
    · exact co_16 hb hi b2.1
    · exact co_38 hb hi b2.1
  · cases c
    · exact cn_16 (by decide)
    · exact cn_38 (by decide)
theorem Rl_23 {c : Bool} {a : Nat → Nat → Int32} {l : Nat → Int64} {f : Nat → Nat → Int32} {v : Int32} (h : Rl c a l f) : Rl c a l (u3 f 60 23 v) := by
  obtain ⟨h1, h2, h3, h4, h5, h6⟩ := h
  exact ⟨h1, h2, h3, h4, h5, by cases c <;> exact h6⟩
theorem op_taken {ro : Nat → Option am_C} : lp_op ro Rl 7 127 [] := by
  intro c a l f hR
  obtain ⟨x, nb, hb, hoc, h1, h2, -⟩ := both (ro := ro) hR
  exact ⟨_, c, a, l, f, c, a, l, _, cl_taken (am_run_up h1 (by decide)), ml_taken (am_run_up h2 (by decide)), Rl_23 hR⟩
theorem op_asks {ro : Nat → Option am_C} : lp_op ro Rl 8 128 [] := by
  intro c a l f hR
  obtain ⟨x, nb, hb, hoc, h1, h2, -⟩ := both (ro := ro) hR
  refine ⟨_, c, a, l, f, c, a, l, _, cl_asks (am_run_up h1 (by decide)), ml_asks (am_run_up h2 (by decide)) rfl ?_, Rl_23 hR⟩
  rcases hoc with rfl | ⟨i, hi, rfl⟩ | ⟨q, hq, rfl⟩
  · exact Or.inr ⟨by rw [tr_m.1]; decide, tr_m.2⟩
  · exact Or.inr ⟨by rw [(tr_n (by omega)).1]; exact fun z => nI_m2 (by omega) (show nI i ≤ -2 by rw [z]; decide), (tr_n (by omega)).2⟩
  · exact Or.inl (tr_q hq).1
/-- code of both, and what it can be -/
theorem both_code {ro : Nat → Option am_C} {c : Bool} {a : Nat → Nat → Int32} {l : Nat → Int64} {f : Nat → Nat → Int32} (hR : Rl c a l f) : ∃ x v : Int32, am_run ro 11 6 [.ref 0] (wd c a l f) (some (.int x)) (wd c a l f) ∧ am_run ro 11 123 [.ref 60] (wd c a l f) (some (.int x)) (wd c a l (u3 f 60 23 v)) ∧ ∀ g1 g2 : Nat → Int32, am_run ro 11 123 [.ref 60] (wd c (u2 (u2 a 15 g1) 14 g2) l f) (some (.int x)) (wd c (u2 (u2 a 15 g1) 14 g2) l (u3 f 60 23 v)) := by
  obtain ⟨x, nb, hb, hoc, h1, h2, h3, h4, h5⟩ := both (ro := ro) hR
  rcases hoc with rfl | ⟨i, hi, rfl⟩ | ⟨q, hq, rfl⟩
  · rw [tr_m.1] at h2 h5
    exact ⟨-1, _, cl_code_n (am_run_up h1 (by decide)) (by decide) (am_run_up h4 (by decide)), ml_code_q (am_run_up h2 (by decide)) (by decide), fun g1 g2 => ml_code_q (am_run_up (h5 g1 g2) (by decide)) (by decide)⟩
  · rw [(tr_n (by omega)).1] at h2 h5
    exact ⟨a 63 i, _, cl_code_n (am_run_up h1 (by decide)) (nI_m2 (by omega)) (am_run_up (h3 i hi) (by decide)), ml_code_n (am_run_up h2 (by decide)) (by omega), fun g1 g2 => ml_code_n (a := u2 (u2 a 15 g1) 14 g2) (am_run_up (h5 g1 g2) (by decide)) (by omega)⟩
  · rw [(tr_q hq).1] at h2 h5
    exact ⟨-2, _, cl_code_q (am_run_up h1 (by decide)) (ask_q hq (x := 0)).2.2.2.2.2, ml_code_q (am_run_up h2 (by decide)) (by decide), fun g1 g2 => ml_code_q (am_run_up (h5 g1 g2) (by decide)) (by decide)⟩
theorem op_code {ro : Nat → Option am_C} : lp_op ro Rl 6 123 [] := by
  intro c a l f hR
  obtain ⟨x, v, h1, h2, -⟩ := both_code (ro := ro) hR
  exact ⟨x, c, a, l, f, c, a, l, _, am_run_up h1 (by decide), am_run_up h2 (by decide), Rl_23 hR⟩
