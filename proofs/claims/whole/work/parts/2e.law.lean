/-! THE 154'S LOOP over what each call does -/
abbrev lp_R : Type := Bool → (Nat → Nat → Int32) → (Nat → Int64) → (Nat → Nat → Int32) → Prop
/-- a call of both: the same answer, and the relation stands behind it -/
def lp_op (ro : Nat → Option am_C) (Rl : lp_R) (mi mj : Nat) (as : List Value) : Prop := ∀ c a l f, Rl c a l f → ∃ (r : Int32) (c1 : Bool) (a1 : Nat → Nat → Int32) (l1 : Nat → Int64) (f1 : Nat → Nat → Int32) (c' : Bool) (a' : Nat → Nat → Int32) (l' : Nat → Int64) (f' : Nat → Nat → Int32), am_run ro 12 mi (.ref 0 :: as) (wd c a l f) (some (.int r)) (wd c1 a1 l1 f1) ∧ am_run ro 12 mj (.ref 60 :: as) (wd c1 a1 l1 f1) (some (.int r)) (wd c' a' l' f') ∧ Rl c' a' l' f'
theorem wd_len {c : Bool} {a : Nat → Nat → Int32} {l : Nat → Int64} {f : Nat → Nat → Int32} : (wd c a l f).length = 82 := rfl
set_option maxRecDepth 100000 in
theorem wd_sz {c : Bool} {a : Nat → Nat → Int32} {l : Nat → Int64} {f : Nat → Nat → Int32} : am_sz (wd c a l f) = 4590 := by
  simp [wd, am_sz, am_cs]
def lp_K : Option Value → am_H → Prop := fun r hp' => r = some (.int 1) ∧ hp'.length ≤ 82 ∧ am_sz hp' ≤ 4590
/-- at the head of the loop -/
def lp_H (ro : Nat → Option am_C) (i : Int32) (hp : am_H) : Prop := am_T ro 12 154 18 [.retAddr 1, .ref 0, .ref 60, .int i] [] hp lp_K
theorem lp_next {ro : Nat → Option am_C} {i : Int32} {hp : am_H} (h : lp_H ro (i + 4) hp) : am_T ro 12 154 654 [.retAddr 1, .ref 0, .ref 60, .int i] [] hp lp_K := by
  refine am_wp_ok (inl := []) 5 12 154 [18] _ _ _ _ _ ?_
  exact h
set_option maxRecDepth 100000 in
set_option maxHeartbeats 4000000 in
/-- unit -/
theorem lp_0 {n : Nat} {xs : Nat → Int32} {Rl : lp_R} {c : Bool} {a : Nat → Nat → Int32} {l : Nat → Int64} {f : Nat → Nat → Int32} {i : Int32} (h1 : vp_in (i + 1) n) (hop : lp_op (wd_ro n xs) Rl 1 104 [.int (xs (i + 1).toNatClampNeg)]) (hR : Rl c a l f) (IH : ∀ c a l f, Rl c a l f → lp_H (wd_ro n xs) (i + 4) (wd c a l f)) : am_T (wd_ro n xs) 12 154 128 [.retAddr 1, .ref 0, .ref 60, .int i] [] (wd c a l f) lp_K := by
  obtain ⟨r, c0, a0, l0, f0, c1, a1, l1, f1, e1, e2, hR1⟩ := hop c a l f hR
  refine am_wp_ok (inl := []) 60 12 154 [654] _ _ _ _ _ ?_
  refine And.intro h1 ?_
  refine ⟨_, _, e1, ?_⟩
  refine And.intro h1 ?_
  refine ⟨_, _, e2, ?_⟩
  refine am_br_t rfl ?_
  exact lp_next (IH _ _ _ _ hR1)
set_option maxRecDepth 100000 in
set_option maxHeartbeats 4000000 in
/-- read -/
theorem lp_1 {n : Nat} {xs : Nat → Int32} {Rl : lp_R} {c : Bool} {a : Nat → Nat → Int32} {l : Nat → Int64} {f : Nat → Nat → Int32} {i : Int32} (hop : lp_op (wd_ro n xs) Rl 2 106 []) (hR : Rl c a l f) (IH : ∀ c a l f, Rl c a l f → lp_H (wd_ro n xs) (i + 4) (wd c a l f)) : am_T (wd_ro n xs) 12 154 151 [.retAddr 1, .ref 0, .ref 60, .int i] [] (wd c a l f) lp_K := by
  obtain ⟨r, c0, a0, l0, f0, c1, a1, l1, f1, e1, e2, hR1⟩ := hop c a l f hR
  refine am_wp_ok (inl := []) 60 12 154 [654] _ _ _ _ _ ?_
  refine ⟨_, _, e1, ?_⟩
  refine ⟨_, _, e2, ?_⟩
  refine am_br_t rfl ?_
  exact lp_next (IH _ _ _ _ hR1)
set_option maxRecDepth 100000 in
set_option maxHeartbeats 4000000 in
/-- fact -/
theorem lp_2 {n : Nat} {xs : Nat → Int32} {Rl : lp_R} {c : Bool} {a : Nat → Nat → Int32} {l : Nat → Int64} {f : Nat → Nat → Int32} {i : Int32} (h1 : vp_in (i + 1) n) (h2 : vp_in (i + 2) n) (hop : lp_op (wd_ro n xs) Rl 3 120 [.int (xs (i + 1).toNatClampNeg), .int (xs (i + 2).toNatClampNeg)]) (hR : Rl c a l f) (IH : ∀ c a l f, Rl c a l f → lp_H (wd_ro n xs) (i + 4) (wd c a l f)) : am_T (wd_ro n xs) 12 154 164 [.retAddr 1, .ref 0, .ref 60, .int i] [] (wd c a l f) lp_K := by
  obtain ⟨r, c0, a0, l0, f0, c1, a1, l1, f1, e1, e2, hR1⟩ := hop c a l f hR
  refine am_wp_ok (inl := []) 60 12 154 [654] _ _ _ _ _ ?_
  refine And.intro h1 ?_
  refine And.intro h2 ?_
  refine ⟨_, _, e1, ?_⟩
  refine And.intro h1 ?_
  refine And.intro h2 ?_
  refine ⟨_, _, e2, ?_⟩
  refine am_br_t rfl ?_
  exact lp_next (IH _ _ _ _ hR1)
set_option maxRecDepth 100000 in
set_option maxHeartbeats 4000000 in
/-- clearFacts -/
theorem lp_3 {n : Nat} {xs : Nat → Int32} {Rl : lp_R} {c : Bool} {a : Nat → Nat → Int32} {l : Nat → Int64} {f : Nat → Nat → Int32} {i : Int32} (hop : lp_op (wd_ro n xs) Rl 5 121 []) (hR : Rl c a l f) (IH : ∀ c a l f, Rl c a l f → lp_H (wd_ro n xs) (i + 4) (wd c a l f)) : am_T (wd_ro n xs) 12 154 197 [.retAddr 1, .ref 0, .ref 60, .int i] [] (wd c a l f) lp_K := by
  obtain ⟨r, c0, a0, l0, f0, c1, a1, l1, f1, e1, e2, hR1⟩ := hop c a l f hR
  refine am_wp_ok (inl := []) 60 12 154 [654] _ _ _ _ _ ?_
  refine ⟨_, _, e1, ?_⟩
  refine ⟨_, _, e2, ?_⟩
  refine am_br_t rfl ?_
  exact lp_next (IH _ _ _ _ hR1)
set_option maxRecDepth 100000 in
set_option maxHeartbeats 4000000 in
/-- code -/
theorem lp_4 {n : Nat} {xs : Nat → Int32} {Rl : lp_R} {c : Bool} {a : Nat → Nat → Int32} {l : Nat → Int64} {f : Nat → Nat → Int32} {i : Int32} (hop : lp_op (wd_ro n xs) Rl 6 123 []) (hR : Rl c a l f) (IH : ∀ c a l f, Rl c a l f → lp_H (wd_ro n xs) (i + 4) (wd c a l f)) : am_T (wd_ro n xs) 12 154 210 [.retAddr 1, .ref 0, .ref 60, .int i] [] (wd c a l f) lp_K := by
  obtain ⟨r, c0, a0, l0, f0, c1, a1, l1, f1, e1, e2, hR1⟩ := hop c a l f hR
  refine am_wp_ok (inl := []) 60 12 154 [654] _ _ _ _ _ ?_
  refine ⟨_, _, e1, ?_⟩
  refine ⟨_, _, e2, ?_⟩
  refine am_br_t rfl ?_
  exact lp_next (IH _ _ _ _ hR1)
set_option maxRecDepth 100000 in
set_option maxHeartbeats 4000000 in
/-- taken -/
theorem lp_5 {n : Nat} {xs : Nat → Int32} {Rl : lp_R} {c : Bool} {a : Nat → Nat → Int32} {l : Nat → Int64} {f : Nat → Nat → Int32} {i : Int32} (hop : lp_op (wd_ro n xs) Rl 7 127 []) (hR : Rl c a l f) (IH : ∀ c a l f, Rl c a l f → lp_H (wd_ro n xs) (i + 4) (wd c a l f)) : am_T (wd_ro n xs) 12 154 223 [.retAddr 1, .ref 0, .ref 60, .int i] [] (wd c a l f) lp_K := by
  obtain ⟨r, c0, a0, l0, f0, c1, a1, l1, f1, e1, e2, hR1⟩ := hop c a l f hR
  refine am_wp_ok (inl := []) 60 12 154 [654] _ _ _ _ _ ?_
  refine ⟨_, _, e1, ?_⟩
  refine ⟨_, _, e2, ?_⟩
  refine am_br_t rfl ?_
  exact lp_next (IH _ _ _ _ hR1)
set_option maxRecDepth 100000 in
set_option maxHeartbeats 4000000 in
/-- asks -/
theorem lp_6 {n : Nat} {xs : Nat → Int32} {Rl : lp_R} {c : Bool} {a : Nat → Nat → Int32} {l : Nat → Int64} {f : Nat → Nat → Int32} {i : Int32} (hop : lp_op (wd_ro n xs) Rl 8 128 []) (hR : Rl c a l f) (IH : ∀ c a l f, Rl c a l f → lp_H (wd_ro n xs) (i + 4) (wd c a l f)) : am_T (wd_ro n xs) 12 154 236 [.retAddr 1, .ref 0, .ref 60, .int i] [] (wd c a l f) lp_K := by
  obtain ⟨r, c0, a0, l0, f0, c1, a1, l1, f1, e1, e2, hR1⟩ := hop c a l f hR
  refine am_wp_ok (inl := []) 60 12 154 [654] _ _ _ _ _ ?_
  refine ⟨_, _, e1, ?_⟩
  refine ⟨_, _, e2, ?_⟩
  refine am_br_t rfl ?_
  exact lp_next (IH _ _ _ _ hR1)
set_option maxRecDepth 100000 in
set_option maxHeartbeats 4000000 in
/-- general -/
theorem lp_7 {n : Nat} {xs : Nat → Int32} {Rl : lp_R} {c : Bool} {a : Nat → Nat → Int32} {l : Nat → Int64} {f : Nat → Nat → Int32} {i : Int32} (h1 : vp_in (i + 1) n) (hop : lp_op (wd_ro n xs) Rl 9 122 [.int (xs (i + 1).toNatClampNeg)]) (hR : Rl c a l f) (IH : ∀ c a l f, Rl c a l f → lp_H (wd_ro n xs) (i + 4) (wd c a l f)) : am_T (wd_ro n xs) 12 154 249 [.retAddr 1, .ref 0, .ref 60, .int i] [] (wd c a l f) lp_K := by
  obtain ⟨r, c0, a0, l0, f0, c1, a1, l1, f1, e1, e2, hR1⟩ := hop c a l f hR
  refine am_wp_ok (inl := []) 60 12 154 [654] _ _ _ _ _ ?_
  refine And.intro h1 ?_
  refine ⟨_, _, e1, ?_⟩
  refine And.intro h1 ?_
  refine ⟨_, _, e2, ?_⟩
  refine am_br_t rfl ?_
  exact lp_next (IH _ _ _ _ hR1)
set_option maxRecDepth 100000 in
set_option maxHeartbeats 4000000 in
/-- mirror -/
theorem lp_8 {n : Nat} {xs : Nat → Int32} {Rl : lp_R} {c : Bool} {a : Nat → Nat → Int32} {l : Nat → Int64} {f : Nat → Nat → Int32} {i : Int32} (h1 : vp_in (i + 1) n) (h2 : vp_in (i + 2) n) (hop : lp_op (wd_ro n xs) Rl 10 129 [.int (xs (i + 1).toNatClampNeg), .int (if xs (i + 2).toNatClampNeg = 0 then 0 else 1)]) (hR : Rl c a l f) (IH : ∀ c a l f, Rl c a l f → lp_H (wd_ro n xs) (i + 4) (wd c a l f)) : am_T (wd_ro n xs) 12 154 272 [.retAddr 1, .ref 0, .ref 60, .int i] [] (wd c a l f) lp_K := by
  obtain ⟨r, c0, a0, l0, f0, c1, a1, l1, f1, e1, e2, hR1⟩ := hop c a l f hR
  by_cases hz : xs (i + 2).toNatClampNeg = 0
  · rw [if_pos hz] at e1 e2
    refine am_wp_ok (inl := []) 60 12 154 [654] _ _ _ _ _ ?_
    refine And.intro h1 ?_
    refine And.intro h2 ?_
    refine am_br_t hz ?_
    refine ⟨_, _, e1, ?_⟩
    refine And.intro h1 ?_
    refine And.intro h2 ?_
    refine am_br_t hz ?_
    refine ⟨_, _, e2, ?_⟩
    refine am_br_t rfl ?_
    exact lp_next (IH _ _ _ _ hR1)
  · rw [if_neg hz] at e1 e2
    refine am_wp_ok (inl := []) 60 12 154 [654] _ _ _ _ _ ?_
    refine And.intro h1 ?_
    refine And.intro h2 ?_
    refine am_br_f hz ?_
    refine ⟨_, _, e1, ?_⟩
    refine And.intro h1 ?_
    refine And.intro h2 ?_
    refine am_br_f hz ?_
    refine ⟨_, _, e2, ?_⟩
    refine am_br_t rfl ?_
    exact lp_next (IH _ _ _ _ hR1)
set_option maxRecDepth 100000 in
set_option maxHeartbeats 4000000 in
/-- map -/
theorem lp_9 {n : Nat} {xs : Nat → Int32} {Rl : lp_R} {c : Bool} {a : Nat → Nat → Int32} {l : Nat → Int64} {f : Nat → Nat → Int32} {i : Int32} (h1 : vp_in (i + 1) n) (h2 : vp_in (i + 2) n) (h3 : vp_in (i + 3) n) (hop : lp_op (wd_ro n xs) Rl 11 130 [.int (xs (i + 1).toNatClampNeg), .int (xs (i + 2).toNatClampNeg), .int (xs (i + 3).toNatClampNeg)]) (hR : Rl c a l f) (IH : ∀ c a l f, Rl c a l f → lp_H (wd_ro n xs) (i + 4) (wd c a l f)) : am_T (wd_ro n xs) 12 154 321 [.retAddr 1, .ref 0, .ref 60, .int i] [] (wd c a l f) lp_K := by
  obtain ⟨r, c0, a0, l0, f0, c1, a1, l1, f1, e1, e2, hR1⟩ := hop c a l f hR
  refine am_wp_ok (inl := []) 60 12 154 [654] _ _ _ _ _ ?_
  refine And.intro h1 ?_
  refine And.intro h2 ?_
  refine And.intro h3 ?_
  refine ⟨_, _, e1, ?_⟩
  refine And.intro h1 ?_
  refine And.intro h2 ?_
  refine And.intro h3 ?_
  refine ⟨_, _, e2, ?_⟩
  refine am_br_t rfl ?_
  exact lp_next (IH _ _ _ _ hR1)
set_option maxRecDepth 100000 in
set_option maxHeartbeats 4000000 in
/-- near -/
theorem lp_10 {n : Nat} {xs : Nat → Int32} {Rl : lp_R} {c : Bool} {a : Nat → Nat → Int32} {l : Nat → Int64} {f : Nat → Nat → Int32} {i : Int32} (h1 : vp_in (i + 1) n) (hop : lp_op (wd_ro n xs) Rl 13 131 [.int (xs (i + 1).toNatClampNeg)]) (hR : Rl c a l f) (IH : ∀ c a l f, Rl c a l f → lp_H (wd_ro n xs) (i + 4) (wd c a l f)) : am_T (wd_ro n xs) 12 154 364 [.retAddr 1, .ref 0, .ref 60, .int i] [] (wd c a l f) lp_K := by
  obtain ⟨r, c0, a0, l0, f0, c1, a1, l1, f1, e1, e2, hR1⟩ := hop c a l f hR
  refine am_wp_ok (inl := []) 60 12 154 [654] _ _ _ _ _ ?_
  refine And.intro h1 ?_
  refine ⟨_, _, e1, ?_⟩
  refine And.intro h1 ?_
  refine ⟨_, _, e2, ?_⟩
  refine am_br_t rfl ?_
  exact lp_next (IH _ _ _ _ hR1)
set_option maxRecDepth 100000 in
set_option maxHeartbeats 4000000 in
/-- edits -/
theorem lp_11 {n : Nat} {xs : Nat → Int32} {Rl : lp_R} {c : Bool} {a : Nat → Nat → Int32} {l : Nat → Int64} {f : Nat → Nat → Int32} {i : Int32} (h1 : vp_in (i + 1) n) (hop : lp_op (wd_ro n xs) Rl 15 137 [.int (xs (i + 1).toNatClampNeg)]) (hR : Rl c a l f) (IH : ∀ c a l f, Rl c a l f → lp_H (wd_ro n xs) (i + 4) (wd c a l f)) : am_T (wd_ro n xs) 12 154 387 [.retAddr 1, .ref 0, .ref 60, .int i] [] (wd c a l f) lp_K := by
  obtain ⟨r, c0, a0, l0, f0, c1, a1, l1, f1, e1, e2, hR1⟩ := hop c a l f hR
  refine am_wp_ok (inl := []) 60 12 154 [654] _ _ _ _ _ ?_
  refine And.intro h1 ?_
  refine ⟨_, _, e1, ?_⟩
  refine And.intro h1 ?_
  refine ⟨_, _, e2, ?_⟩
  refine am_br_t rfl ?_
  exact lp_next (IH _ _ _ _ hR1)
set_option maxRecDepth 100000 in
set_option maxHeartbeats 4000000 in
/-- needs -/
theorem lp_12 {n : Nat} {xs : Nat → Int32} {Rl : lp_R} {c : Bool} {a : Nat → Nat → Int32} {l : Nat → Int64} {f : Nat → Nat → Int32} {i : Int32} (h1 : vp_in (i + 1) n) (h2 : vp_in (i + 2) n) (hop : lp_op (wd_ro n xs) Rl 16 138 [.int (xs (i + 1).toNatClampNeg), .int (xs (i + 2).toNatClampNeg)]) (hR : Rl c a l f) (IH : ∀ c a l f, Rl c a l f → lp_H (wd_ro n xs) (i + 4) (wd c a l f)) : am_T (wd_ro n xs) 12 154 410 [.retAddr 1, .ref 0, .ref 60, .int i] [] (wd c a l f) lp_K := by
  obtain ⟨r, c0, a0, l0, f0, c1, a1, l1, f1, e1, e2, hR1⟩ := hop c a l f hR
  refine am_wp_ok (inl := []) 60 12 154 [654] _ _ _ _ _ ?_
  refine And.intro h1 ?_
  refine And.intro h2 ?_
  refine ⟨_, _, e1, ?_⟩
  refine And.intro h1 ?_
  refine And.intro h2 ?_
  refine ⟨_, _, e2, ?_⟩
  refine am_br_t rfl ?_
  exact lp_next (IH _ _ _ _ hR1)
set_option maxRecDepth 100000 in
set_option maxHeartbeats 4000000 in
/-- paper -/
theorem lp_13 {n : Nat} {xs : Nat → Int32} {Rl : lp_R} {c : Bool} {a : Nat → Nat → Int32} {l : Nat → Int64} {f : Nat → Nat → Int32} {i : Int32} (h1 : vp_in (i + 1) n) (h2 : vp_in (i + 2) n) (hop : lp_op (wd_ro n xs) Rl 17 140 [.int (xs (i + 1).toNatClampNeg), .int (xs (i + 2).toNatClampNeg)]) (hR : Rl c a l f) (IH : ∀ c a l f, Rl c a l f → lp_H (wd_ro n xs) (i + 4) (wd c a l f)) : am_T (wd_ro n xs) 12 154 443 [.retAddr 1, .ref 0, .ref 60, .int i] [] (wd c a l f) lp_K := by
  obtain ⟨r, c0, a0, l0, f0, c1, a1, l1, f1, e1, e2, hR1⟩ := hop c a l f hR
  refine am_wp_ok (inl := []) 60 12 154 [654] _ _ _ _ _ ?_
  refine And.intro h1 ?_
  refine And.intro h2 ?_
  refine ⟨_, _, e1, ?_⟩
  refine And.intro h1 ?_
  refine And.intro h2 ?_
  refine ⟨_, _, e2, ?_⟩
  refine am_br_t rfl ?_
  exact lp_next (IH _ _ _ _ hR1)
set_option maxRecDepth 100000 in
set_option maxHeartbeats 4000000 in
/-- lacks -/
theorem lp_14 {n : Nat} {xs : Nat → Int32} {Rl : lp_R} {c : Bool} {a : Nat → Nat → Int32} {l : Nat → Int64} {f : Nat → Nat → Int32} {i : Int32} (h1 : vp_in (i + 1) n) (h2 : vp_in (i + 2) n) (hop : lp_op (wd_ro n xs) Rl 18 141 [.int (xs (i + 1).toNatClampNeg), .int (xs (i + 2).toNatClampNeg)]) (hR : Rl c a l f) (IH : ∀ c a l f, Rl c a l f → lp_H (wd_ro n xs) (i + 4) (wd c a l f)) : am_T (wd_ro n xs) 12 154 476 [.retAddr 1, .ref 0, .ref 60, .int i] [] (wd c a l f) lp_K := by
  obtain ⟨r, c0, a0, l0, f0, c1, a1, l1, f1, e1, e2, hR1⟩ := hop c a l f hR
  refine am_wp_ok (inl := []) 60 12 154 [654] _ _ _ _ _ ?_
  refine And.intro h1 ?_
  refine And.intro h2 ?_
  refine ⟨_, _, e1, ?_⟩
  refine And.intro h1 ?_
  refine And.intro h2 ?_
  refine ⟨_, _, e2, ?_⟩
  refine am_br_t rfl ?_
  exact lp_next (IH _ _ _ _ hR1)
set_option maxRecDepth 100000 in
set_option maxHeartbeats 4000000 in
/-- permit -/
theorem lp_15 {n : Nat} {xs : Nat → Int32} {Rl : lp_R} {c : Bool} {a : Nat → Nat → Int32} {l : Nat → Int64} {f : Nat → Nat → Int32} {i : Int32} (hop : lp_op (wd_ro n xs) Rl 19 142 []) (hR : Rl c a l f) (IH : ∀ c a l f, Rl c a l f → lp_H (wd_ro n xs) (i + 4) (wd c a l f)) : am_T (wd_ro n xs) 12 154 509 [.retAddr 1, .ref 0, .ref 60, .int i] [] (wd c a l f) lp_K := by
  obtain ⟨r, c0, a0, l0, f0, c1, a1, l1, f1, e1, e2, hR1⟩ := hop c a l f hR
  refine am_wp_ok (inl := []) 60 12 154 [654] _ _ _ _ _ ?_
  refine ⟨_, _, e1, ?_⟩
  refine ⟨_, _, e2, ?_⟩
  refine am_br_t rfl ?_
  exact lp_next (IH _ _ _ _ hR1)
set_option maxRecDepth 100000 in
set_option maxHeartbeats 4000000 in
/-- allows -/
theorem lp_16 {n : Nat} {xs : Nat → Int32} {Rl : lp_R} {c : Bool} {a : Nat → Nat → Int32} {l : Nat → Int64} {f : Nat → Nat → Int32} {i : Int32} (h1 : vp_in (i + 1) n) (h2 : vp_in (i + 2) n) (h3 : vp_in (i + 3) n) (hop : lp_op (wd_ro n xs) Rl 20 143 [.int (xs (i + 1).toNatClampNeg), .int (xs (i + 2).toNatClampNeg), .int (xs (i + 3).toNatClampNeg)]) (hR : Rl c a l f) (IH : ∀ c a l f, Rl c a l f → lp_H (wd_ro n xs) (i + 4) (wd c a l f)) : am_T (wd_ro n xs) 12 154 522 [.retAddr 1, .ref 0, .ref 60, .int i] [] (wd c a l f) lp_K := by
  obtain ⟨r, c0, a0, l0, f0, c1, a1, l1, f1, e1, e2, hR1⟩ := hop c a l f hR
  refine am_wp_ok (inl := []) 60 12 154 [654] _ _ _ _ _ ?_
  refine And.intro h1 ?_
  refine And.intro h2 ?_
  refine And.intro h3 ?_
  refine ⟨_, _, e1, ?_⟩
  refine And.intro h1 ?_
  refine And.intro h2 ?_
  refine And.intro h3 ?_
  refine ⟨_, _, e2, ?_⟩
  refine am_br_t rfl ?_
  exact lp_next (IH _ _ _ _ hR1)
set_option maxRecDepth 100000 in
set_option maxHeartbeats 4000000 in
/-- check -/
theorem lp_17 {n : Nat} {xs : Nat → Int32} {Rl : lp_R} {c : Bool} {a : Nat → Nat → Int32} {l : Nat → Int64} {f : Nat → Nat → Int32} {i : Int32} (h1 : vp_in (i + 1) n) (h2 : vp_in (i + 2) n) (hop : lp_op (wd_ro n xs) Rl 21 144 [.int (xs (i + 1).toNatClampNeg), .int (xs (i + 2).toNatClampNeg)]) (hR : Rl c a l f) (IH : ∀ c a l f, Rl c a l f → lp_H (wd_ro n xs) (i + 4) (wd c a l f)) : am_T (wd_ro n xs) 12 154 565 [.retAddr 1, .ref 0, .ref 60, .int i] [] (wd c a l f) lp_K := by
  obtain ⟨r, c0, a0, l0, f0, c1, a1, l1, f1, e1, e2, hR1⟩ := hop c a l f hR
  refine am_wp_ok (inl := []) 60 12 154 [654] _ _ _ _ _ ?_
  refine And.intro h1 ?_
  refine And.intro h2 ?_
  refine ⟨_, _, e1, ?_⟩
  refine And.intro h1 ?_
  refine And.intro h2 ?_
  refine ⟨_, _, e2, ?_⟩
  refine am_br_t rfl ?_
  exact lp_next (IH _ _ _ _ hR1)
set_option maxRecDepth 100000 in
set_option maxHeartbeats 4000000 in
/-- put -/
theorem lp_18 {n : Nat} {xs : Nat → Int32} {Rl : lp_R} {c : Bool} {a : Nat → Nat → Int32} {l : Nat → Int64} {f : Nat → Nat → Int32} {i : Int32} (h1 : vp_in (i + 1) n) (hop : lp_op (wd_ro n xs) Rl 22 145 [.int (xs (i + 1).toNatClampNeg)]) (hR : Rl c a l f) (IH : ∀ c a l f, Rl c a l f → lp_H (wd_ro n xs) (i + 4) (wd c a l f)) : am_T (wd_ro n xs) 12 154 598 [.retAddr 1, .ref 0, .ref 60, .int i] [] (wd c a l f) lp_K := by
  obtain ⟨r, c0, a0, l0, f0, c1, a1, l1, f1, e1, e2, hR1⟩ := hop c a l f hR
  refine am_wp_ok (inl := []) 60 12 154 [654] _ _ _ _ _ ?_
  refine And.intro h1 ?_
  refine ⟨_, _, e1, ?_⟩
  refine And.intro h1 ?_
  refine ⟨_, _, e2, ?_⟩
  refine am_br_t rfl ?_
  exact lp_next (IH _ _ _ _ hR1)
set_option maxRecDepth 100000 in
set_option maxHeartbeats 4000000 in
/-- history -/
theorem lp_19 {n : Nat} {xs : Nat → Int32} {Rl : lp_R} {c : Bool} {a : Nat → Nat → Int32} {l : Nat → Int64} {f : Nat → Nat → Int32} {i : Int32} (h1 : vp_in (i + 1) n) (h2 : vp_in (i + 2) n) (hop : lp_op (wd_ro n xs) Rl 23 146 [.int (xs (i + 1).toNatClampNeg), .int (xs (i + 2).toNatClampNeg)]) (hR : Rl c a l f) (IH : ∀ c a l f, Rl c a l f → lp_H (wd_ro n xs) (i + 4) (wd c a l f)) : am_T (wd_ro n xs) 12 154 621 [.retAddr 1, .ref 0, .ref 60, .int i] [] (wd c a l f) lp_K := by
  obtain ⟨r, c0, a0, l0, f0, c1, a1, l1, f1, e1, e2, hR1⟩ := hop c a l f hR
  refine am_wp_ok (inl := []) 60 12 154 [654] _ _ _ _ _ ?_
  refine And.intro h1 ?_
  refine And.intro h2 ?_
  refine ⟨_, _, e1, ?_⟩
  refine And.intro h1 ?_
  refine And.intro h2 ?_
  refine ⟨_, _, e2, ?_⟩
  refine am_br_t rfl ?_
  exact lp_next (IH _ _ _ _ hR1)
