/-- what is to be shown of the twenty calls -/
def lp_all (ro : Nat → Option am_C) (Rl : lp_R) : Prop := (∀ x0 : Int32, lp_op ro Rl 1 104 [.int x0]) ∧ lp_op ro Rl 2 106 [] ∧ (∀ x0 x1 : Int32, lp_op ro Rl 3 120 [.int x0, .int x1]) ∧ lp_op ro Rl 5 121 [] ∧ lp_op ro Rl 6 123 [] ∧ lp_op ro Rl 7 127 [] ∧ lp_op ro Rl 8 128 [] ∧ (∀ x0 : Int32, lp_op ro Rl 9 122 [.int x0]) ∧ (∀ x0 x1 : Int32, x1 = 0 ∨ x1 = 1 → lp_op ro Rl 10 129 [.int x0, .int x1]) ∧ (∀ x0 x1 x2 : Int32, lp_op ro Rl 11 130 [.int x0, .int x1, .int x2]) ∧ (∀ x0 : Int32, lp_op ro Rl 13 131 [.int x0]) ∧ (∀ x0 : Int32, lp_op ro Rl 15 137 [.int x0]) ∧ (∀ x0 x1 : Int32, lp_op ro Rl 16 138 [.int x0, .int x1]) ∧ (∀ x0 x1 : Int32, lp_op ro Rl 17 140 [.int x0, .int x1]) ∧ (∀ x0 x1 : Int32, lp_op ro Rl 18 141 [.int x0, .int x1]) ∧ lp_op ro Rl 19 142 [] ∧ (∀ x0 x1 x2 : Int32, lp_op ro Rl 20 143 [.int x0, .int x1, .int x2]) ∧ (∀ x0 x1 : Int32, lp_op ro Rl 21 144 [.int x0, .int x1]) ∧ (∀ x0 : Int32, lp_op ro Rl 22 145 [.int x0]) ∧ (∀ x0 x1 : Int32, lp_op ro Rl 23 146 [.int x0, .int x1])
theorem lp_in {n k j : Nat} (hn : n ≤ 2048) (h : k + j < n) {v : Int32} (hv : v = Int32.ofNat j) : vp_in (Int32.ofNat k + v) n := by
  subst hv
  rw [← Int32.ofNat_add]
  unfold vp_in
  rw [Int32.toNatClampNeg_ofNat_of_lt (by omega)]
  intro q
  rcases q with q | q
  · rw [Int32.lt_iff_toInt_lt, Int32.toInt_ofNat_of_lt (by omega)] at q
    have : (0 : Int32).toInt = 0 := rfl
    omega
  · omega
theorem lp_and (x : Int32) : ∃ j : Nat, j < 32 ∧ x &&& 31 = Int32.ofNat j := by
  refine ⟨(x.toBitVec &&& 31#32).toNat, ?_, ?_⟩
  · rw [BitVec.toNat_and]
    exact Nat.lt_of_le_of_lt Nat.and_le_right (by decide)
  · apply Int32.toBitVec_inj.mp
    rw [Int32.toBitVec_ofNat', BitVec.ofNat_toNat]
    simp
set_option maxRecDepth 100000 in
set_option maxHeartbeats 4000000 in
theorem lp_loop {n : Nat} {xs : Nat → Int32} {Rl : lp_R} (hn : n ≤ 2048) (hA : lp_all (wd_ro n xs) Rl) : ∀ (z k : Nat), n ≤ k + z → k ≤ n → ∀ c a l f, Rl c a l f → lp_H (wd_ro n xs) (Int32.ofNat k) (wd c a l f) := by
  intro z
  induction z using Nat.strongRecOn with
  | ind z ih =>
  intro k hz hk c a l f hR
  unfold lp_H
  by_cases hq : k + 4 ≤ n
  · have hc : ¬ Int32.ofNat n - Int32.ofNat 4 < Int32.ofNat k := by
      rw [← Int32.ofNat_sub _ _ (by omega), Int32.ofNat_lt_iff_lt (by omega) (by omega)]
      omega
    have IH : ∀ c a l f, Rl c a l f → lp_H (wd_ro n xs) (Int32.ofNat k + 4) (wd c a l f) := by
      intro c a l f hR
      have := ih (z - 1) (by omega) (k + 4) (by omega) (by omega) c a l f hR
      rw [Int32.ofNat_add] at this
      exact this
    refine am_wp_ok (inl := []) 12 12 154 [] _ _ _ _ _ ?_
    refine am_br_f hc ?_
    refine And.intro (by have := lp_in (v := 0) (j := 0) (k := k) hn (by omega) rfl; rwa [Int32.add_zero] at this) ?_
    refine And.intro (by decide) ?_
    show am_T (wd_ro n xs) 12 154 (am_ts 32 (xs (Int32.ofNat k).toNatClampNeg &&& 31) 622 0 19 #[96, 119, 132, 165, 178, 191, 204, 217, 240, 289, 332, 355, 378, 411, 444, 477, 490, 533, 566, 589]) [.retAddr 1, .ref 0, .ref 60, .int (Int32.ofNat k)] [] (wd c a l f) lp_K
    obtain ⟨j, hj, ej⟩ := lp_and (xs (Int32.ofNat k).toNatClampNeg)
    rw [ej]
    have h1 : vp_in (Int32.ofNat k + 1) n := lp_in (j := 1) hn (by omega) rfl
    have h2 : vp_in (Int32.ofNat k + 2) n := lp_in (j := 2) hn (by omega) rfl
    have h3 : vp_in (Int32.ofNat k + 3) n := lp_in (j := 3) hn (by omega) rfl
    obtain ⟨o0, o1, o2, o3, o4, o5, o6, o7, o8, o9, o10, o11, o12, o13, o14, o15, o16, o17, o18, o19⟩ := hA
    have hj : j = 0 ∨ j = 1 ∨ j = 2 ∨ j = 3 ∨ j = 4 ∨ j = 5 ∨ j = 6 ∨ j = 7 ∨ j = 8 ∨ j = 9 ∨ j = 10 ∨ j = 11 ∨ j = 12 ∨ j = 13 ∨ j = 14 ∨ j = 15 ∨ j = 16 ∨ j = 17 ∨ j = 18 ∨ j = 19 ∨ j = 20 ∨ j = 21 ∨ j = 22 ∨ j = 23 ∨ j = 24 ∨ j = 25 ∨ j = 26 ∨ j = 27 ∨ j = 28 ∨ j = 29 ∨ j = 30 ∨ j = 31 := by omega
    rcases hj with rfl | rfl | rfl | rfl | rfl | rfl | rfl | rfl | rfl | rfl | rfl | rfl | rfl | rfl | rfl | rfl | rfl | rfl | rfl | rfl | rfl | rfl | rfl | rfl | rfl | rfl | rfl | rfl | rfl | rfl | rfl | rfl
    · rw [show am_ts 32 (Int32.ofNat 0) 622 0 19 #[96, 119, 132, 165, 178, 191, 204, 217, 240, 289, 332, 355, 378, 411, 444, 477, 490, 533, 566, 589] = 128 from by decide +kernel]
      exact lp_0 h1 (o0 _) hR IH
    · rw [show am_ts 32 (Int32.ofNat 1) 622 0 19 #[96, 119, 132, 165, 178, 191, 204, 217, 240, 289, 332, 355, 378, 411, 444, 477, 490, 533, 566, 589] = 151 from by decide +kernel]
      exact lp_1 o1 hR IH
    · rw [show am_ts 32 (Int32.ofNat 2) 622 0 19 #[96, 119, 132, 165, 178, 191, 204, 217, 240, 289, 332, 355, 378, 411, 444, 477, 490, 533, 566, 589] = 164 from by decide +kernel]
      exact lp_2 h1 h2 (o2 _ _) hR IH
    · rw [show am_ts 32 (Int32.ofNat 3) 622 0 19 #[96, 119, 132, 165, 178, 191, 204, 217, 240, 289, 332, 355, 378, 411, 444, 477, 490, 533, 566, 589] = 197 from by decide +kernel]
      exact lp_3 o3 hR IH
    · rw [show am_ts 32 (Int32.ofNat 4) 622 0 19 #[96, 119, 132, 165, 178, 191, 204, 217, 240, 289, 332, 355, 378, 411, 444, 477, 490, 533, 566, 589] = 210 from by decide +kernel]
      exact lp_4 o4 hR IH
    · rw [show am_ts 32 (Int32.ofNat 5) 622 0 19 #[96, 119, 132, 165, 178, 191, 204, 217, 240, 289, 332, 355, 378, 411, 444, 477, 490, 533, 566, 589] = 223 from by decide +kernel]
      exact lp_5 o5 hR IH
    · rw [show am_ts 32 (Int32.ofNat 6) 622 0 19 #[96, 119, 132, 165, 178, 191, 204, 217, 240, 289, 332, 355, 378, 411, 444, 477, 490, 533, 566, 589] = 236 from by decide +kernel]
      exact lp_6 o6 hR IH
    · rw [show am_ts 32 (Int32.ofNat 7) 622 0 19 #[96, 119, 132, 165, 178, 191, 204, 217, 240, 289, 332, 355, 378, 411, 444, 477, 490, 533, 566, 589] = 249 from by decide +kernel]
      exact lp_7 h1 (o7 _) hR IH
    · rw [show am_ts 32 (Int32.ofNat 8) 622 0 19 #[96, 119, 132, 165, 178, 191, 204, 217, 240, 289, 332, 355, 378, 411, 444, 477, 490, 533, 566, 589] = 272 from by decide +kernel]
      exact lp_8 h1 h2 (o8 _ _ (by split <;> simp)) hR IH
    · rw [show am_ts 32 (Int32.ofNat 9) 622 0 19 #[96, 119, 132, 165, 178, 191, 204, 217, 240, 289, 332, 355, 378, 411, 444, 477, 490, 533, 566, 589] = 321 from by decide +kernel]
      exact lp_9 h1 h2 h3 (o9 _ _ _) hR IH
    · rw [show am_ts 32 (Int32.ofNat 10) 622 0 19 #[96, 119, 132, 165, 178, 191, 204, 217, 240, 289, 332, 355, 378, 411, 444, 477, 490, 533, 566, 589] = 364 from by decide +kernel]
      exact lp_10 h1 (o10 _) hR IH
    · rw [show am_ts 32 (Int32.ofNat 11) 622 0 19 #[96, 119, 132, 165, 178, 191, 204, 217, 240, 289, 332, 355, 378, 411, 444, 477, 490, 533, 566, 589] = 387 from by decide +kernel]
      exact lp_11 h1 (o11 _) hR IH
    · rw [show am_ts 32 (Int32.ofNat 12) 622 0 19 #[96, 119, 132, 165, 178, 191, 204, 217, 240, 289, 332, 355, 378, 411, 444, 477, 490, 533, 566, 589] = 410 from by decide +kernel]
      exact lp_12 h1 h2 (o12 _ _) hR IH
    · rw [show am_ts 32 (Int32.ofNat 13) 622 0 19 #[96, 119, 132, 165, 178, 191, 204, 217, 240, 289, 332, 355, 378, 411, 444, 477, 490, 533, 566, 589] = 443 from by decide +kernel]
      exact lp_13 h1 h2 (o13 _ _) hR IH
    · rw [show am_ts 32 (Int32.ofNat 14) 622 0 19 #[96, 119, 132, 165, 178, 191, 204, 217, 240, 289, 332, 355, 378, 411, 444, 477, 490, 533, 566, 589] = 476 from by decide +kernel]
      exact lp_14 h1 h2 (o14 _ _) hR IH
    · rw [show am_ts 32 (Int32.ofNat 15) 622 0 19 #[96, 119, 132, 165, 178, 191, 204, 217, 240, 289, 332, 355, 378, 411, 444, 477, 490, 533, 566, 589] = 509 from by decide +kernel]
      exact lp_15 o15 hR IH
    · rw [show am_ts 32 (Int32.ofNat 16) 622 0 19 #[96, 119, 132, 165, 178, 191, 204, 217, 240, 289, 332, 355, 378, 411, 444, 477, 490, 533, 566, 589] = 522 from by decide +kernel]
      exact lp_16 h1 h2 h3 (o16 _ _ _) hR IH
    · rw [show am_ts 32 (Int32.ofNat 17) 622 0 19 #[96, 119, 132, 165, 178, 191, 204, 217, 240, 289, 332, 355, 378, 411, 444, 477, 490, 533, 566, 589] = 565 from by decide +kernel]
      exact lp_17 h1 h2 (o17 _ _) hR IH
    · rw [show am_ts 32 (Int32.ofNat 18) 622 0 19 #[96, 119, 132, 165, 178, 191, 204, 217, 240, 289, 332, 355, 378, 411, 444, 477, 490, 533, 566, 589] = 598 from by decide +kernel]
      exact lp_18 h1 (o18 _) hR IH
    · rw [show am_ts 32 (Int32.ofNat 19) 622 0 19 #[96, 119, 132, 165, 178, 191, 204, 217, 240, 289, 332, 355, 378, 411, 444, 477, 490, 533, 566, 589] = 621 from by decide +kernel]
      exact lp_19 h1 h2 (o19 _ _) hR IH
    · rw [show am_ts 32 (Int32.ofNat 20) 622 0 19 #[96, 119, 132, 165, 178, 191, 204, 217, 240, 289, 332, 355, 378, 411, 444, 477, 490, 533, 566, 589] = 654 from by decide +kernel]
      exact lp_next (IH _ _ _ _ hR)
    · rw [show am_ts 32 (Int32.ofNat 21) 622 0 19 #[96, 119, 132, 165, 178, 191, 204, 217, 240, 289, 332, 355, 378, 411, 444, 477, 490, 533, 566, 589] = 654 from by decide +kernel]
      exact lp_next (IH _ _ _ _ hR)
    · rw [show am_ts 32 (Int32.ofNat 22) 622 0 19 #[96, 119, 132, 165, 178, 191, 204, 217, 240, 289, 332, 355, 378, 411, 444, 477, 490, 533, 566, 589] = 654 from by decide +kernel]
      exact lp_next (IH _ _ _ _ hR)
    · rw [show am_ts 32 (Int32.ofNat 23) 622 0 19 #[96, 119, 132, 165, 178, 191, 204, 217, 240, 289, 332, 355, 378, 411, 444, 477, 490, 533, 566, 589] = 654 from by decide +kernel]
      exact lp_next (IH _ _ _ _ hR)
    · rw [show am_ts 32 (Int32.ofNat 24) 622 0 19 #[96, 119, 132, 165, 178, 191, 204, 217, 240, 289, 332, 355, 378, 411, 444, 477, 490, 533, 566, 589] = 654 from by decide +kernel]
      exact lp_next (IH _ _ _ _ hR)
    · rw [show am_ts 32 (Int32.ofNat 25) 622 0 19 #[96, 119, 132, 165, 178, 191, 204, 217, 240, 289, 332, 355, 378, 411, 444, 477, 490, 533, 566, 589] = 654 from by decide +kernel]
      exact lp_next (IH _ _ _ _ hR)
    · rw [show am_ts 32 (Int32.ofNat 26) 622 0 19 #[96, 119, 132, 165, 178, 191, 204, 217, 240, 289, 332, 355, 378, 411, 444, 477, 490, 533, 566, 589] = 654 from by decide +kernel]
      exact lp_next (IH _ _ _ _ hR)
    · rw [show am_ts 32 (Int32.ofNat 27) 622 0 19 #[96, 119, 132, 165, 178, 191, 204, 217, 240, 289, 332, 355, 378, 411, 444, 477, 490, 533, 566, 589] = 654 from by decide +kernel]
      exact lp_next (IH _ _ _ _ hR)
    · rw [show am_ts 32 (Int32.ofNat 28) 622 0 19 #[96, 119, 132, 165, 178, 191, 204, 217, 240, 289, 332, 355, 378, 411, 444, 477, 490, 533, 566, 589] = 654 from by decide +kernel]
      exact lp_next (IH _ _ _ _ hR)
    · rw [show am_ts 32 (Int32.ofNat 29) 622 0 19 #[96, 119, 132, 165, 178, 191, 204, 217, 240, 289, 332, 355, 378, 411, 444, 477, 490, 533, 566, 589] = 654 from by decide +kernel]
      exact lp_next (IH _ _ _ _ hR)
    · rw [show am_ts 32 (Int32.ofNat 30) 622 0 19 #[96, 119, 132, 165, 178, 191, 204, 217, 240, 289, 332, 355, 378, 411, 444, 477, 490, 533, 566, 589] = 654 from by decide +kernel]
      exact lp_next (IH _ _ _ _ hR)
    · rw [show am_ts 32 (Int32.ofNat 31) 622 0 19 #[96, 119, 132, 165, 178, 191, 204, 217, 240, 289, 332, 355, 378, 411, 444, 477, 490, 533, 566, 589] = 654 from by decide +kernel]
      exact lp_next (IH _ _ _ _ hR)
  · have hc : Int32.ofNat n - Int32.ofNat 4 < Int32.ofNat k := by
      rw [Int32.lt_iff_toInt_lt, Int32.toInt_ofNat_of_lt (show k < 2 ^ 31 by omega)]
      have h4 : (Int32.ofNat n - Int32.ofNat 4).toInt = (n : Int) - 4 := by
        rw [Int32.toInt_sub, Int32.toInt_ofNat_of_lt (by omega), Int32.toInt_ofNat_of_lt (by omega)]
        exact Int.bmod_eq_of_le (by omega) (by omega)
      omega
    refine am_wp_ok (inl := []) 12 12 154 [] _ _ _ _ _ ?_
    refine am_br_t hc ?_
    exact And.intro rfl (And.intro rfl (And.intro (Nat.le_of_eq wd_len) (Nat.le_of_eq wd_sz)))
set_option maxRecDepth 100000 in
set_option maxHeartbeats 4000000 in
/-- the law, from its first instruction -/
theorem lp_whole {n : Nat} {xs : Nat → Int32} {Rl : lp_R} (hn : n ≤ 2048) (hA : lp_all (wd_ro n xs) Rl) (h0 : Rl false (fun _ _ => 0) (fun _ => 0) (fun _ _ => 0)) : am_T (wd_ro n xs) 12 154 0 (am_l0 154 [.retAddr 1]) [] [] lp_K := by
  refine am_wp_ok (inl := []) 4 12 154 [7] _ _ _ _ _ ?_
  refine ⟨_, _, am_run_up (ct_0 (wd_ro n xs)) (by decide), ?_⟩
  refine am_wp_ok (inl := []) 5 12 154 [15] _ _ _ _ _ ?_
  refine ⟨_, _, am_run_up (ct_60 (wd_ro n xs) _ _ _ _ _ _ _ _ _ _ _ _ _ _ _ _ _ _ _ _ _ _ _ _ _ _ _ _ _ _ _ _ _ _ _ _ _ _ _ _ _ _ _ _ _ _ _ _ _ _ _ _ _ _ _ _ _ _ _ _) (by decide), ?_⟩
  refine am_wp_ok (inl := []) 5 12 154 [18] _ _ _ _ _ ?_
  exact lp_loop hn hA n 0 (by omega) (by omega) false _ _ _ h0

