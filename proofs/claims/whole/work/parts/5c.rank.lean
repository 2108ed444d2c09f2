/-! rank, in the class -/
def bf (D : Nat → Int32) (i k : Nat) : Bool := decide (D k < D i) || (decide (D k = D i) && decide (k < i))
def rk (D : Nat → Int32) (i : Nat) : Nat → Nat → Int32 → Int32
  | _, 0, w => w
  | k, m + 1, w => rk D i (k + 1) m (bif bf D i k then w + 1 else w)
set_option maxRecDepth 100000 in
set_option maxHeartbeats 4000000 in
theorem rk_loop_16 {ro : Nat → Option am_C} {c : Bool} {a : Nat → Nat → Int32} {l : Nat → Int64} {f : Nat → Nat → Int32} {i n : Nat} (hn : n ≤ 20) (hi : i < n) (en : f 32 5 = nI n) : ∀ (m k : Nat) (w : Int32) (U4 U5 : Value), Nat.beq U4.category 1 = true → Nat.beq U5.category 1 = true → k + m = n → am_T ro 0 100 4 [.ref 32, .int (nI i), .int w, .int (nI k), U4, U5] [] (wd c a l f) (fun r hp' => r = some (.int (rk (a 36) i k m w)) ∧ hp' = wd c a l f) := by
  have ci : (nI i).toNatClampNeg = i := nI_clamp (by omega)
  have hii : vp_in (nI i) 20 := vp_in_nI (by omega) (by decide)
  intro m
  induction m with
  | zero =>
    intro k w U4 U5 g4 g5 h
    refine am_wp_ok (inl := []) 8 0 100 [] _ _ _ _ _ ?_
    refine am_br_t (show f 32 5 ≤ nI k by rw [en]; exact nI_le (by omega) (by omega)) ?_
    exact And.intro rfl rfl
  | succ m ih =>
    intro k w U4 U5 g4 g5 h
    have ck : (nI k).toNatClampNeg = k := nI_clamp (by omega)
    have hik : vp_in (nI k) 20 := vp_in_nI (by omega) (by decide)
    have fin : ∀ (b1 b2 : Int32), (bif bf (a 36) i k then w + 1 else w) = (if b1 = 0 then (if b2 = 0 then w else w + 1) else w + 1) → am_T ro 0 100 61 [.ref 32, .int (nI i), .int w, .int (nI k), .int b1, .int b2] [] (wd c a l f) (fun r hp' => r = some (.int (rk (a 36) i k (m + 1) w)) ∧ hp' = wd c a l f) := by
      intro b1 b2 hq
      have nx : ∀ w' : Int32, (bif bf (a 36) i k then w + 1 else w) = w' → am_T ro 0 100 74 [.ref 32, .int (nI i), .int w', .int (nI k), .int b1, .int b2] [] (wd c a l f) (fun r hp' => r = some (.int (rk (a 36) i k (m + 1) w)) ∧ hp' = wd c a l f) := by
        intro w' hw
        refine am_wp_ok (inl := []) 4 0 100 [4] _ _ _ _ _ ?_
        show am_T ro 0 100 4 [.ref 32, .int (nI i), .int w', .int (nI k + 1), .int b1, .int b2] [] (wd c a l f) _
        rw [nI_1, ← hw]
        exact ih (k + 1) _ _ _ rfl rfl (by omega)
      refine am_wp_ok (inl := []) 8 0 100 [74] _ _ _ _ _ ?_
      by_cases h1 : b1 = 0
      · refine am_br_f (fun z => z h1) ?_
        by_cases h2 : b2 = 0
        · refine am_br_t h2 ?_
          exact nx w (by rw [hq, if_pos h1, if_pos h2])
        · refine am_br_f h2 ?_
          exact nx (w + 1) (by rw [hq, if_pos h1, if_neg h2])
      · refine am_br_t h1 ?_
        exact nx (w + 1) (by rw [hq, if_neg h1])
    have mid : ∀ b1 : Int32, (¬ b1 = 0 ↔ a 36 k < a 36 i) → am_T ro 0 100 34 [.ref 32, .int (nI i), .int w, .int (nI k), .int b1, U5] [] (wd c a l f) (fun r hp' => r = some (.int (rk (a 36) i k (m + 1) w)) ∧ hp' = wd c a l f) := by
      intro b1 hb
      have val : ∀ b2 : Int32, (¬ b2 = 0 ↔ (a 36 k = a 36 i ∧ k < i)) → (bif bf (a 36) i k then w + 1 else w) = (if b1 = 0 then (if b2 = 0 then w else w + 1) else w + 1) := by
        intro b2 hb2
        unfold bf
        by_cases c1 : a 36 k < a 36 i
        · rw [decide_eq_true c1, if_neg (hb.mpr c1)]; rfl
        · have z1 : b1 = 0 := Classical.byContradiction fun z => c1 (hb.mp z)
          rw [decide_eq_false c1, if_pos z1]
          by_cases c2 : a 36 k = a 36 i ∧ k < i
          · rw [decide_eq_true c2.1, decide_eq_true c2.2, if_neg (hb2.mpr c2)]; rfl
          · have z2 : b2 = 0 := Classical.byContradiction fun z => c2 (hb2.mp z)
            rw [if_pos z2, ← Bool.decide_and, decide_eq_false c2]; rfl
      refine am_wp_ok (inl := []) 14 0 100 [49, 58] _ _ _ _ _ ?_
      refine And.intro hik (And.intro hii ?_)
      by_cases c1 : a 36 k = a 36 i
      · refine am_br_f (show ¬ ¬ a 36 (nI k).toNatClampNeg = a 36 (nI i).toNatClampNeg by rw [ck, ci]; exact fun z => z c1) ?_
        show am_T ro 0 100 49 [.ref 32, .int (nI i), .int w, .int (nI k), .int b1, U5] [] (wd c a l f) _
        refine am_wp_ok (inl := []) 8 0 100 [61] _ _ _ _ _ ?_
        by_cases c2 : k < i
        · refine am_br_f (nI_ge c2 (by omega)) ?_
          exact fin b1 1 (val 1 ⟨fun _ => ⟨c1, c2⟩, fun _ => by decide⟩)
        · refine am_br_t (nI_le (by omega) (by omega)) ?_
          exact fin b1 0 (val 0 ⟨fun z => absurd rfl z, fun z => absurd z.2 c2⟩)
      · refine am_br_t (show ¬ a 36 (nI k).toNatClampNeg = a 36 (nI i).toNatClampNeg by rw [ck, ci]; exact c1) ?_
        show am_T ro 0 100 58 [.ref 32, .int (nI i), .int w, .int (nI k), .int b1, U5] [] (wd c a l f) _
        refine am_wp_ok (inl := []) 4 0 100 [61] _ _ _ _ _ ?_
        exact fin b1 0 (val 0 ⟨fun z => absurd rfl z, fun z => absurd z.1 c1⟩)
    refine am_wp_ok (inl := []) 8 0 100 [12] _ _ _ _ _ ?_
    refine am_br_f (show ¬ f 32 5 ≤ nI k by rw [en]; exact nI_ge (by omega) (by omega)) ?_
    show am_T ro 0 100 12 [.ref 32, .int (nI i), .int w, .int (nI k), U4, U5] [] (wd c a l f) _
    refine am_wp_ok (inl := []) 14 0 100 [34] _ _ _ _ _ ?_
    refine And.intro hik (And.intro hii ?_)
    by_cases c1 : a 36 k < a 36 i
    · refine am_br_f (show ¬ a 36 (nI i).toNatClampNeg ≤ a 36 (nI k).toNatClampNeg by rw [ck, ci]; exact Int32.not_le.mpr c1) ?_
      exact mid 1 ⟨fun _ => c1, fun _ => by decide⟩
    · refine am_br_t (show a 36 (nI i).toNatClampNeg ≤ a 36 (nI k).toNatClampNeg by rw [ck, ci]; exact Int32.not_lt.mp c1) ?_
      exact mid 0 ⟨fun z => absurd rfl z, fun z => absurd z c1⟩
set_option maxRecDepth 100000 in
set_option maxHeartbeats 4000000 in
theorem cs_rank_16 {ro : Nat → Option am_C} {c : Bool} {a : Nat → Nat → Int32} {l : Nat → Int64} {f : Nat → Nat → Int32} {i n : Nat} (hn : n ≤ 20) (hi : i < n) (en : f 32 5 = nI n) : am_run ro 1 100 [.ref 32, .int (nI i)] (wd c a l f) (some (.int (rk (a 36) i 0 n 0))) (wd c a l f) := by
  refine am_run_of rfl (am_wp_ok (inl := []) 6 0 100 [4] 0 _ _ _ _ ?_)
  exact rk_loop_16 hn hi en n 0 0 am_un am_un rfl rfl (by omega)
set_option maxRecDepth 100000 in
set_option maxHeartbeats 4000000 in
theorem rk_loop_38 {ro : Nat → Option am_C} {c : Bool} {a : Nat → Nat → Int32} {l : Nat → Int64} {f : Nat → Nat → Int32} {i n : Nat} (hn : n ≤ 20) (hi : i < n) (en : f 54 5 = nI n) : ∀ (m k : Nat) (w : Int32) (U4 U5 : Value), Nat.beq U4.category 1 = true → Nat.beq U5.category 1 = true → k + m = n → am_T ro 0 100 4 [.ref 54, .int (nI i), .int w, .int (nI k), U4, U5] [] (wd c a l f) (fun r hp' => r = some (.int (rk (a 58) i k m w)) ∧ hp' = wd c a l f) := by
  have ci : (nI i).toNatClampNeg = i := nI_clamp (by omega)
  have hii : vp_in (nI i) 20 := vp_in_nI (by omega) (by decide)
  intro m
  induction m with
  | zero =>
    intro k w U4 U5 g4 g5 h
    refine am_wp_ok (inl := []) 8 0 100 [] _ _ _ _ _ ?_
    refine am_br_t (show f 54 5 ≤ nI k by rw [en]; exact nI_le (by omega) (by omega)) ?_
    exact And.intro rfl rfl
  | succ m ih =>
    intro k w U4 U5 g4 g5 h
    have ck : (nI k).toNatClampNeg = k := nI_clamp (by omega)
    have hik : vp_in (nI k) 20 := vp_in_nI (by omega) (by decide)
    have fin : ∀ (b1 b2 : Int32), (bif bf (a 58) i k then w + 1 else w) = (if b1 = 0 then (if b2 = 0 then w else w + 1) else w + 1) → am_T ro 0 100 61 [.ref 54, .int (nI i), .int w, .int (nI k), .int b1, .int b2] [] (wd c a l f) (fun r hp' => r = some (.int (rk (a 58) i k (m + 1) w)) ∧ hp' = wd c a l f) := by
      intro b1 b2 hq
      have nx : ∀ w' : Int32, (bif bf (a 58) i k then w + 1 else w) = w' → am_T ro 0 100 74 [.ref 54, .int (nI i), .int w', .int (nI k), .int b1, .int b2] [] (wd c a l f) (fun r hp' => r = some (.int (rk (a 58) i k (m + 1) w)) ∧ hp' = wd c a l f) := by
        intro w' hw
        refine am_wp_ok (inl := []) 4 0 100 [4] _ _ _ _ _ ?_
        show am_T ro 0 100 4 [.ref 54, .int (nI i), .int w', .int (nI k + 1), .int b1, .int b2] [] (wd c a l f) _
        rw [nI_1, ← hw]
        exact ih (k + 1) _ _ _ rfl rfl (by omega)
      refine am_wp_ok (inl := []) 8 0 100 [74] _ _ _ _ _ ?_
      by_cases h1 : b1 = 0
      · refine am_br_f (fun z => z h1) ?_
        by_cases h2 : b2 = 0
        · refine am_br_t h2 ?_
          exact nx w (by rw [hq, if_pos h1, if_pos h2])
        · refine am_br_f h2 ?_
          exact nx (w + 1) (by rw [hq, if_pos h1, if_neg h2])
      · refine am_br_t h1 ?_
        exact nx (w + 1) (by rw [hq, if_neg h1])
    have mid : ∀ b1 : Int32, (¬ b1 = 0 ↔ a 58 k < a 58 i) → am_T ro 0 100 34 [.ref 54, .int (nI i), .int w, .int (nI k), .int b1, U5] [] (wd c a l f) (fun r hp' => r = some (.int (rk (a 58) i k (m + 1) w)) ∧ hp' = wd c a l f) := by
      intro b1 hb
      have val : ∀ b2 : Int32, (¬ b2 = 0 ↔ (a 58 k = a 58 i ∧ k < i)) → (bif bf (a 58) i k then w + 1 else w) = (if b1 = 0 then (if b2 = 0 then w else w + 1) else w + 1) := by
        intro b2 hb2
        unfold bf
        by_cases c1 : a 58 k < a 58 i
        · rw [decide_eq_true c1, if_neg (hb.mpr c1)]; rfl
        · have z1 : b1 = 0 := Classical.byContradiction fun z => c1 (hb.mp z)
          rw [decide_eq_false c1, if_pos z1]
          by_cases c2 : a 58 k = a 58 i ∧ k < i
          · rw [decide_eq_true c2.1, decide_eq_true c2.2, if_neg (hb2.mpr c2)]; rfl
          · have z2 : b2 = 0 := Classical.byContradiction fun z => c2 (hb2.mp z)
            rw [if_pos z2, ← Bool.decide_and, decide_eq_false c2]; rfl
      refine am_wp_ok (inl := []) 14 0 100 [49, 58] _ _ _ _ _ ?_
      refine And.intro hik (And.intro hii ?_)
      by_cases c1 : a 58 k = a 58 i
      · refine am_br_f (show ¬ ¬ a 58 (nI k).toNatClampNeg = a 58 (nI i).toNatClampNeg by rw [ck, ci]; exact fun z => z c1) ?_
        show am_T ro 0 100 49 [.ref 54, .int (nI i), .int w, .int (nI k), .int b1, U5] [] (wd c a l f) _
        refine am_wp_ok (inl := []) 8 0 100 [61] _ _ _ _ _ ?_
        by_cases c2 : k < i
        · refine am_br_f (nI_ge c2 (by omega)) ?_
          exact fin b1 1 (val 1 ⟨fun _ => ⟨c1, c2⟩, fun _ => by decide⟩)
        · refine am_br_t (nI_le (by omega) (by omega)) ?_
          exact fin b1 0 (val 0 ⟨fun z => absurd rfl z, fun z => absurd z.2 c2⟩)
      · refine am_br_t (show ¬ a 58 (nI k).toNatClampNeg = a 58 (nI i).toNatClampNeg by rw [ck, ci]; exact c1) ?_
        show am_T ro 0 100 58 [.ref 54, .int (nI i), .int w, .int (nI k), .int b1, U5] [] (wd c a l f) _
        refine am_wp_ok (inl := []) 4 0 100 [61] _ _ _ _ _ ?_
        exact fin b1 0 (val 0 ⟨fun z => absurd rfl z, fun z => absurd z.1 c1⟩)
    refine am_wp_ok (inl := []) 8 0 100 [12] _ _ _ _ _ ?_
    refine am_br_f (show ¬ f 54 5 ≤ nI k by rw [en]; exact nI_ge (by omega) (by omega)) ?_
    show am_T ro 0 100 12 [.ref 54, .int (nI i), .int w, .int (nI k), U4, U5] [] (wd c a l f) _
    refine am_wp_ok (inl := []) 14 0 100 [34] _ _ _ _ _ ?_
    refine And.intro hik (And.intro hii ?_)
    by_cases c1 : a 58 k < a 58 i
    · refine am_br_f (show ¬ a 58 (nI i).toNatClampNeg ≤ a 58 (nI k).toNatClampNeg by rw [ck, ci]; exact Int32.not_le.mpr c1) ?_
      exact mid 1 ⟨fun _ => c1, fun _ => by decide⟩
    · refine am_br_t (show a 58 (nI i).toNatClampNeg ≤ a 58 (nI k).toNatClampNeg by rw [ck, ci]; exact Int32.not_lt.mp c1) ?_
      exact mid 0 ⟨fun z => absurd rfl z, fun z => absurd z c1⟩
set_option maxRecDepth 100000 in
set_option maxHeartbeats 4000000 in
theorem cs_rank_38 {ro : Nat → Option am_C} {c : Bool} {a : Nat → Nat → Int32} {l : Nat → Int64} {f : Nat → Nat → Int32} {i n : Nat} (hn : n ≤ 20) (hi : i < n) (en : f 54 5 = nI n) : am_run ro 1 100 [.ref 54, .int (nI i)] (wd c a l f) (some (.int (rk (a 58) i 0 n 0))) (wd c a l f) := by
  refine am_run_of rfl (am_wp_ok (inl := []) 6 0 100 [4] 0 _ _ _ _ ?_)
  exact rk_loop_38 hn hi en n 0 0 am_un am_un rfl rfl (by omega)
