/-! THE TRIAL, in the reference -/
def fnd (F : Int32) : Int32 := if F < 0 then -1 else F
theorem fnd_m1 : fnd (-1) = -1 := if_pos (by decide)
theorem ask_m1 : ask (-1) (-1) = -1 := by decide
theorem ask_1 {x : Int32} : ask 1 x = x := if_neg (by decide)
theorem ask_0 {x : Int32} : ask 0 x = x := if_neg (by decide)
theorem n0_in : vp_in (nI 0) 12 := vp_in_nI (by decide) (by decide)
set_option maxRecDepth 100000 in
set_option maxHeartbeats 4000000 in
theorem t1_out {ro : Nat → Option am_C} {c : Bool} {a : Nat → Nat → Int32} {l : Nat → Int64} {f : Nat → Nat → Int32} {nb b : Nat} {x : Int32} {Y Z : Value} {K : Option Value → am_H → Prop} (hb : nb ≤ 30) (hbb : b ≤ 30) (ecnt : a 62 0 = nI nb) (h : 0 ≤ x ∨ 0 ≤ f 60 23) (k : am_T ro 2 124 50 [.ref 60, .int x, .int (nI b), Y, Z] [] (wd c a l f) K) : am_T ro 2 124 9 [.ref 60, .int x, .int (nI b), Y, Z] [] (wd c a l f) K := by
  refine am_wp_ok (inl := []) 20 2 124 [50] _ _ _ _ _ ?_
  refine And.intro n0_in ?_
  by_cases h1 : nb ≤ b
  · refine am_br_t (show a 62 0 ≤ nI b by rw [ecnt]; exact nI_le h1 (by omega)) ?_
    exact k
  · refine am_br_f (show ¬ a 62 0 ≤ nI b by rw [ecnt]; exact nI_ge (by omega) (by omega)) ?_
    by_cases h2 : 0 ≤ x
    · refine am_br_t h2 ?_
      exact k
    · refine am_br_f h2 ?_
      refine am_br_t (h.resolve_left h2) ?_
      exact k
set_option maxRecDepth 100000 in
set_option maxHeartbeats 4000000 in
theorem t1_loop {ro : Nat → Option am_C} {c : Bool} {a : Nat → Nat → Int32} {l : Nat → Int64} {f : Nat → Nat → Int32} {nb nc : Nat} {e : Nat → Nat} {Y Z : Value} {K : Option Value → am_H → Prop} (hb : nb ≤ 30) (hnc : nc ≤ 60) (ecnt : a 62 0 = nI nb) (he : ∀ i, i < nb → e i ≤ e (i + 1) ∧ e (i + 1) ≤ nc) (hS : ∀ i, i ≤ nb → a 65 i = nI (e i)) (hA : ∀ k, k < nc → ∃ q : Nat, q < 10 ∧ a 66 (3 * k) = nI q) (hf : f 60 23 = -1) : ∀ (m b : Nat), b + m = nb → (∀ b' : Nat, am_T ro 2 124 50 [.ref 60, .int (fnd (fft (fun _ => true) (fun i => mt (a 72) (a 73) (fun z => a 66 (3 * z)) (fun z => a 66 (3 * z + 1)) (fun z => a 66 (3 * z + 2)) (e i) (e (i + 1) - e i)) b m)), .int (nI b'), Y, Z] [] (wd c a l (u3 f 60 23 (ask (fft (fun _ => true) (fun i => mt (a 72) (a 73) (fun z => a 66 (3 * z)) (fun z => a 66 (3 * z + 1)) (fun z => a 66 (3 * z + 2)) (e i) (e (i + 1) - e i)) b m) (-1)))) K) → am_T ro 2 124 9 [.ref 60, .int (-1), .int (nI b), Y, Z] [] (wd c a l f) K := by
  have same : u3 f 60 23 (-1) = f := by rw [← hf]; exact u3_id
  intro m
  induction m with
  | zero =>
    intro b h k
    refine am_wp_ok (inl := []) 20 2 124 [50] _ _ _ _ _ ?_
    refine And.intro n0_in ?_
    refine am_br_t (show a 62 0 ≤ nI b by rw [ecnt]; exact nI_le (by omega) (by omega)) ?_
    have k1 : am_T ro 2 124 50 [.ref 60, .int (fnd (-1)), .int (nI b), Y, Z] [] (wd c a l (u3 f 60 23 (ask (-1) (-1)))) K := k b
    rw [ask_m1, fnd_m1, same] at k1
    exact k1
  | succ m ih =>
    intro b h k
    obtain ⟨g1, g2⟩ := he b (by omega)
    have hft := mo_fits (ro := ro) (c := c) (l := l) (f := f) (b := b) (by omega) (hS b (by omega)) (hS (b + 1) (by omega)) g1 (by omega) (fun k hk => hA k (by omega))
    have tr : tri (mt (a 72) (a 73) (fun z => a 66 (3 * z)) (fun z => a 66 (3 * z + 1)) (fun z => a 66 (3 * z + 2)) (e b) (e (b + 1) - e b)) := mt_tri _ _ (fun k h1 h2 => hA k (by omega))
    refine am_wp_ok (inl := []) 20 2 124 [30] _ _ _ _ _ ?_
    refine And.intro n0_in ?_
    refine am_br_f (show ¬ a 62 0 ≤ nI b by rw [ecnt]; exact nI_ge (by omega) (by omega)) ?_
    refine am_br_f (show ¬ (0 : Int32) ≤ -1 by decide) ?_
    refine am_br_f (show ¬ 0 ≤ f 60 23 by rw [hf]; decide) ?_
    show am_T ro 2 124 30 [.ref 60, .int (-1), .int (nI b), Y, Z] [] (wd c a l f) _
    rcases tr with h0 | h1 | ⟨q, hq, h2⟩
    · rw [h0, decide_eq_false (show ¬ (0 : Int32) = 1 by decide), ask_0, u3_id] at hft
      rw [fft_0 (ok := fun _ => true) (M := (fun i => mt (a 72) (a 73) (fun z => a 66 (3 * z)) (fun z => a 66 (3 * z + 1)) (fun z => a 66 (3 * z + 2)) (e i) (e (i + 1) - e i))) rfl h0] at k
      refine am_wp_ok (inl := []) 20 2 124 [9] _ _ _ _ _ ?_
      refine ⟨_, _, hft, ?_⟩
      refine am_br_t (show nI false.toNat = 0 from rfl) ?_
      show am_T ro 2 124 9 [.ref 60, .int (-1), .int (nI b + 1), Y, Z] [] (wd c a l f) _
      rw [nI_1]
      exact ih (b + 1) (by omega) k
    · rw [h1, decide_eq_true (show (1 : Int32) = 1 from rfl), ask_1, u3_id] at hft
      have k1 := k (b + 1)
      rw [fft_1 (ok := fun _ => true) (M := (fun i => mt (a 72) (a 73) (fun z => a 66 (3 * z)) (fun z => a 66 (3 * z + 1)) (fun z => a 66 (3 * z + 2)) (e i) (e (i + 1) - e i))) rfl h1, show fnd (nI b) = nI b from if_neg (nI_pos (by omega)), show ask (nI b) (-1) = -1 from if_neg (nI_pos (by omega)), same] at k1
      refine am_wp_ok (inl := []) 20 2 124 [9] _ _ _ _ _ ?_
      refine ⟨_, _, hft, ?_⟩
      refine am_br_f (show ¬ nI true.toNat = 0 by decide) ?_
      show am_T ro 2 124 9 [.ref 60, .int (nI b), .int (nI b + 1), Y, Z] [] (wd c a l f) _
      rw [nI_1]
      exact t1_out hb (by omega) ecnt (Or.inl (nI_pos' (by omega))) k1
    · rw [h2, decide_eq_false (ask_q hq (x := 0)).2.2.1, (ask_q hq).1] at hft
      have k1 := k (b + 1)
      rw [fft_q (ok := fun _ => true) (M := (fun i => mt (a 72) (a 73) (fun z => a 66 (3 * z)) (fun z => a 66 (3 * z + 1)) (fun z => a 66 (3 * z + 2)) (e i) (e (i + 1) - e i))) rfl (show ¬ (mt (a 72) (a 73) (fun z => a 66 (3 * z)) (fun z => a 66 (3 * z + 1)) (fun z => a 66 (3 * z + 2)) (e b) (e (b + 1) - e b)) = 0 by rw [h2]; exact (ask_q hq (x := 0)).2.2.2.1) (show ¬ (mt (a 72) (a 73) (fun z => a 66 (3 * z)) (fun z => a 66 (3 * z + 1)) (fun z => a 66 (3 * z + 2)) (e b) (e (b + 1) - e b)) = 1 by rw [h2]; exact (ask_q hq (x := 0)).2.2.1)] at k1
      replace k1 : am_T ro 2 124 50 [.ref 60, .int (fnd (mt (a 72) (a 73) (fun z => a 66 (3 * z)) (fun z => a 66 (3 * z + 1)) (fun z => a 66 (3 * z + 2)) (e b) (e (b + 1) - e b))), .int (nI (b + 1)), Y, Z] [] (wd c a l (u3 f 60 23 (ask (mt (a 72) (a 73) (fun z => a 66 (3 * z)) (fun z => a 66 (3 * z + 1)) (fun z => a 66 (3 * z + 2)) (e b) (e (b + 1) - e b)) (-1)))) K := k1
      rw [h2, show fnd (nI 0 - nI 2 - nI q) = -1 from if_pos (ask_q hq (x := 0)).2.1, (ask_q hq).1] at k1
      refine am_wp_ok (inl := []) 20 2 124 [9] _ _ _ _ _ ?_
      refine ⟨_, _, hft, ?_⟩
      refine am_br_t (show nI false.toNat = 0 from rfl) ?_
      show am_T ro 2 124 9 [.ref 60, .int (-1), .int (nI b + 1), Y, Z] [] (wd c a l (u3 f 60 23 (nI q))) _
      rw [nI_1]
      exact t1_out hb (by omega) ecnt (Or.inr (show 0 ≤ nI q from nI_pos' (by omega))) k1
set_option maxRecDepth 100000 in
set_option maxHeartbeats 4000000 in
theorem t2_out {ro : Nat → Option am_C} {c : Bool} {a : Nat → Nat → Int32} {l : Nat → Int64} {f : Nat → Nat → Int32} {nb b i0 : Nat} {x : Int32} {Z : Value} {K : Option Value → am_H → Prop} (hb : nb ≤ 30) (hbb : b ≤ 31) (ecnt : a 62 0 = nI nb) (h : 0 ≤ x ∨ 0 ≤ f 60 23) (k : am_T ro 2 124 154 [.ref 60, .int (nI i0), .int x, .int (nI b), Z] [] (wd c a l f) K) : am_T ro 2 124 73 [.ref 60, .int (nI i0), .int x, .int (nI b), Z] [] (wd c a l f) K := by
  refine am_wp_ok (inl := []) 20 2 124 [154] _ _ _ _ _ ?_
  refine And.intro n0_in ?_
  by_cases h1 : nb ≤ b
  · refine am_br_t (show a 62 0 ≤ nI b by rw [ecnt]; exact nI_le h1 (by omega)) ?_
    exact k
  · refine am_br_f (show ¬ a 62 0 ≤ nI b by rw [ecnt]; exact nI_ge (by omega) (by omega)) ?_
    by_cases h2 : 0 ≤ x
    · refine am_br_t h2 ?_
      exact k
    · refine am_br_f h2 ?_
      refine am_br_t (h.resolve_left h2) ?_
      exact k
set_option maxRecDepth 100000 in
set_option maxHeartbeats 4000000 in
theorem t2_loop {ro : Nat → Option am_C} {c : Bool} {a : Nat → Nat → Int32} {l : Nat → Int64} {f : Nat → Nat → Int32} {nb nc ng i0 : Nat} {e : Nat → Nat} {K : Option Value → am_H → Prop} (hb : nb ≤ 30) (hnc : nc ≤ 60) (ecnt : a 62 0 = nI nb) (he : ∀ i, i < nb → e i ≤ e (i + 1) ∧ e (i + 1) ≤ nc) (hS : ∀ i, i ≤ nb → a 65 i = nI (e i)) (hA : ∀ k, k < nc → ∃ q : Nat, q < 10 ∧ a 66 (3 * k) = nI q) (hng : ng ≤ 16) (eg : a 62 2 = nI ng) (hi0 : i0 < nb) (hf : f 60 23 = -1) : ∀ (m b : Nat) (Z : Value), Nat.beq Z.category 1 = true → b + m = nb → (∀ (b' : Nat) (Z' : Value), am_T ro 2 124 154 [.ref 60, .int (nI i0), .int (fnd (fft (fun j => decide (a 64 j = a 64 i0) && !an (fun q => decide (a 67 q = a 63 j)) 0 ng) (fun i => mt (a 72) (a 73) (fun z => a 66 (3 * z)) (fun z => a 66 (3 * z + 1)) (fun z => a 66 (3 * z + 2)) (e i) (e (i + 1) - e i)) b m)), .int (nI b'), Z'] [] (wd c a l (u3 f 60 23 (ask (fft (fun j => decide (a 64 j = a 64 i0) && !an (fun q => decide (a 67 q = a 63 j)) 0 ng) (fun i => mt (a 72) (a 73) (fun z => a 66 (3 * z)) (fun z => a 66 (3 * z + 1)) (fun z => a 66 (3 * z + 2)) (e i) (e (i + 1) - e i)) b m) (-1)))) K) → am_T ro 2 124 73 [.ref 60, .int (nI i0), .int (-1), .int (nI b), Z] [] (wd c a l f) K := by
  have same : u3 f 60 23 (-1) = f := by rw [← hf]; exact u3_id
  have hi1 : vp_in (nI i0) 60 := vp_in_nI (by omega) (by decide)
  have ci : (nI i0).toNatClampNeg = i0 := nI_clamp (by omega)
  intro m
  induction m with
  | zero =>
    intro b Z hZ h k
    refine am_wp_ok (inl := []) 20 2 124 [154] _ _ _ _ _ ?_
    refine And.intro n0_in ?_
    refine am_br_t (show a 62 0 ≤ nI b by rw [ecnt]; exact nI_le (by omega) (by omega)) ?_
    have k1 : am_T ro 2 124 154 [.ref 60, .int (nI i0), .int (fnd (-1)), .int (nI b), Z] [] (wd c a l (u3 f 60 23 (ask (-1) (-1)))) K := k b Z
    rw [ask_m1, fnd_m1, same] at k1
    exact k1
  | succ m ih =>
    intro b Z hZ h k
    have hib : vp_in (nI b) 60 := vp_in_nI (by omega) (by decide)
    have cb : (nI b).toNatClampNeg = b := nI_clamp (by omega)
    obtain ⟨g1, g2⟩ := he b (by omega)
    have hft := mo_fits (ro := ro) (c := c) (l := l) (f := f) (b := b) (by omega) (hS b (by omega)) (hS (b + 1) (by omega)) g1 (by omega) (fun k hk => hA k (by omega))
    have tr : tri (mt (a 72) (a 73) (fun z => a 66 (3 * z)) (fun z => a 66 (3 * z + 1)) (fun z => a 66 (3 * z + 2)) (e b) (e (b + 1) - e b)) := mt_tri _ _ (fun k h1 h2 => hA k (by omega))
    have no : (decide (a 64 b = a 64 i0) && !an (fun q => decide (a 67 q = a 63 b)) 0 ng) = false → am_T ro 2 124 126 [.ref 60, .int (nI i0), .int (-1), .int (nI b), Z] [] (wd c a l f) K := by
      intro hq
      rw [fft_no (ok := (fun j => decide (a 64 j = a 64 i0) && !an (fun q => decide (a 67 q = a 63 j)) 0 ng)) (M := (fun i => mt (a 72) (a 73) (fun z => a 66 (3 * z)) (fun z => a 66 (3 * z + 1)) (fun z => a 66 (3 * z + 2)) (e i) (e (i + 1) - e i))) hq] at k
      refine am_wp_ok (inl := []) 20 2 124 [73] _ _ _ _ _ ?_
      refine am_br_t (by decide) ?_
      show am_T ro 2 124 73 [.ref 60, .int (nI i0), .int (-1), .int (nI b + 1), .int 0] [] (wd c a l f) _
      rw [nI_1]
      exact ih (b + 1) _ rfl (by omega) k
    refine am_wp_ok (inl := []) 20 2 124 [94] _ _ _ _ _ ?_
    refine And.intro n0_in ?_
    refine am_br_f (show ¬ a 62 0 ≤ nI b by rw [ecnt]; exact nI_ge (by omega) (by omega)) ?_
    refine am_br_f (show ¬ (0 : Int32) ≤ -1 by decide) ?_
    refine am_br_f (show ¬ 0 ≤ f 60 23 by rw [hf]; decide) ?_
    show am_T ro 2 124 94 [.ref 60, .int (nI i0), .int (-1), .int (nI b), Z] [] (wd c a l f) _
    refine am_wp_ok (inl := []) 20 2 124 [109, 126] _ _ _ _ _ ?_
    refine And.intro hib (And.intro hi1 ?_)
    by_cases hgr : a 64 b = a 64 i0
    · refine am_br_f (show ¬ ¬ a 64 (nI b).toNatClampNeg = a 64 (nI i0).toNatClampNeg by rw [cb, ci]; exact fun z => z hgr) ?_
      show am_T ro 2 124 109 [.ref 60, .int (nI i0), .int (-1), .int (nI b), Z] [] (wd c a l f) _
      refine am_wp_ok (inl := []) 20 2 124 [122, 126] _ _ _ _ _ ?_
      refine And.intro hib ?_
      have hgen : am_run ro 2 122 [.ref 60, .int (a 63 (nI b).toNatClampNeg)] (wd c a l f) (some (.int (nI (an (fun q => decide (a 67 q = a 63 b)) 0 ng).toNat))) (wd c a l f) := by rw [cb]; exact am_run_up (mo_gen hng eg) (by decide)
      refine ⟨_, _, hgen, ?_⟩
      cases hgn : an (fun q => decide (a 67 q = a 63 b)) 0 ng with
      | true =>
        refine am_br_t (show ¬ nI true.toNat = 0 by decide) ?_
        exact no (by rw [hgn, Bool.not_true, Bool.and_false])
      | false =>
        refine am_br_f (show ¬ ¬ nI false.toNat = 0 from fun z => z rfl) ?_
        have hk : (decide (a 64 b = a 64 i0) && !an (fun q => decide (a 67 q = a 63 b)) 0 ng) = true := by rw [hgn, decide_eq_true hgr]; rfl
        show am_T ro 2 124 122 [.ref 60, .int (nI i0), .int (-1), .int (nI b), Z] [] (wd c a l f) _
        refine am_wp_ok (inl := []) 20 2 124 [134] _ _ _ _ _ ?_
        refine am_br_f (by decide) ?_
        show am_T ro 2 124 134 [.ref 60, .int (nI i0), .int (-1), .int (nI b), .int 1] [] (wd c a l f) _
        rcases tr with h0 | h1 | ⟨q, hq, h2⟩
        · rw [h0, decide_eq_false (show ¬ (0 : Int32) = 1 by decide), ask_0, u3_id] at hft
          rw [fft_0 (ok := (fun j => decide (a 64 j = a 64 i0) && !an (fun q => decide (a 67 q = a 63 j)) 0 ng)) (M := (fun i => mt (a 72) (a 73) (fun z => a 66 (3 * z)) (fun z => a 66 (3 * z + 1)) (fun z => a 66 (3 * z + 2)) (e i) (e (i + 1) - e i))) hk h0] at k
          refine am_wp_ok (inl := []) 20 2 124 [73] _ _ _ _ _ ?_
          refine ⟨_, _, hft, ?_⟩
          refine am_br_t (show nI false.toNat = 0 from rfl) ?_
          show am_T ro 2 124 73 [.ref 60, .int (nI i0), .int (-1), .int (nI b + 1), .int 1] [] (wd c a l f) _
          rw [nI_1]
          exact ih (b + 1) _ rfl (by omega) k
        · rw [h1, decide_eq_true (show (1 : Int32) = 1 from rfl), ask_1, u3_id] at hft
          have k1 := k (b + 1) (.int 1)
          rw [fft_1 (ok := (fun j => decide (a 64 j = a 64 i0) && !an (fun q => decide (a 67 q = a 63 j)) 0 ng)) (M := (fun i => mt (a 72) (a 73) (fun z => a 66 (3 * z)) (fun z => a 66 (3 * z + 1)) (fun z => a 66 (3 * z + 2)) (e i) (e (i + 1) - e i))) hk h1, show fnd (nI b) = nI b from if_neg (nI_pos (by omega)), show ask (nI b) (-1) = -1 from if_neg (nI_pos (by omega)), same] at k1
          refine am_wp_ok (inl := []) 20 2 124 [73] _ _ _ _ _ ?_
          refine ⟨_, _, hft, ?_⟩
          refine am_br_f (show ¬ nI true.toNat = 0 by decide) ?_
          show am_T ro 2 124 73 [.ref 60, .int (nI i0), .int (nI b), .int (nI b + 1), .int 1] [] (wd c a l f) _
          rw [nI_1]
          exact t2_out hb (by omega) ecnt (Or.inl (nI_pos' (by omega))) k1
        · rw [h2, decide_eq_false (ask_q hq (x := 0)).2.2.1, (ask_q hq).1] at hft
          have k1 := k (b + 1) (.int 1)
          rw [fft_q (ok := (fun j => decide (a 64 j = a 64 i0) && !an (fun q => decide (a 67 q = a 63 j)) 0 ng)) (M := (fun i => mt (a 72) (a 73) (fun z => a 66 (3 * z)) (fun z => a 66 (3 * z + 1)) (fun z => a 66 (3 * z + 2)) (e i) (e (i + 1) - e i))) hk (show ¬ (mt (a 72) (a 73) (fun z => a 66 (3 * z)) (fun z => a 66 (3 * z + 1)) (fun z => a 66 (3 * z + 2)) (e b) (e (b + 1) - e b)) = 0 by rw [h2]; exact (ask_q hq (x := 0)).2.2.2.1) (show ¬ (mt (a 72) (a 73) (fun z => a 66 (3 * z)) (fun z => a 66 (3 * z + 1)) (fun z => a 66 (3 * z + 2)) (e b) (e (b + 1) - e b)) = 1 by rw [h2]; exact (ask_q hq (x := 0)).2.2.1)] at k1
          replace k1 : am_T ro 2 124 154 [.ref 60, .int (nI i0), .int (fnd (mt (a 72) (a 73) (fun z => a 66 (3 * z)) (fun z => a 66 (3 * z + 1)) (fun z => a 66 (3 * z + 2)) (e b) (e (b + 1) - e b))), .int (nI (b + 1)), .int 1] [] (wd c a l (u3 f 60 23 (ask (mt (a 72) (a 73) (fun z => a 66 (3 * z)) (fun z => a 66 (3 * z + 1)) (fun z => a 66 (3 * z + 2)) (e b) (e (b + 1) - e b)) (-1)))) K := k1
          rw [h2, show fnd (nI 0 - nI 2 - nI q) = -1 from if_pos (ask_q hq (x := 0)).2.1, (ask_q hq).1] at k1
          refine am_wp_ok (inl := []) 20 2 124 [73] _ _ _ _ _ ?_
          refine ⟨_, _, hft, ?_⟩
          refine am_br_t (show nI false.toNat = 0 from rfl) ?_
          show am_T ro 2 124 73 [.ref 60, .int (nI i0), .int (-1), .int (nI b + 1), .int 1] [] (wd c a l (u3 f 60 23 (nI q))) _
          rw [nI_1]
          exact t2_out hb (by omega) ecnt (Or.inr (show 0 ≤ nI q from nI_pos' (by omega))) k1
    · refine am_br_t (show ¬ a 64 (nI b).toNatClampNeg = a 64 (nI i0).toNatClampNeg by rw [cb, ci]; exact hgr) ?_
      exact no (by rw [decide_eq_false hgr, Bool.false_and])
