/-! map -/
def nf (M C D N : Nat → Int32) (x y d : Int32) : Nat → Nat → Int32 → Int32 → Int32
  | _, 0, nt, _ => nt
  | k, m + 1, nt, lt => if M k = x ∧ C k = y ∧ D k ≤ d ∧ lt ≤ D k then nf M C D N x y d (k + 1) m (N k) (D k) else nf M C D N x y d (k + 1) m nt lt
theorem nf_t {M C D N : Nat → Int32} {x y d : Int32} {k m : Nat} {nt lt : Int32} (h : M k = x ∧ C k = y ∧ D k ≤ d ∧ lt ≤ D k) : nf M C D N x y d k (m + 1) nt lt = nf M C D N x y d (k + 1) m (N k) (D k) := if_pos h
theorem nf_f {M C D N : Nat → Int32} {x y d : Int32} {k m : Nat} {nt lt : Int32} (h : ¬ (M k = x ∧ C k = y ∧ D k ≤ d ∧ lt ≤ D k)) : nf M C D N x y d k (m + 1) nt lt = nf M C D N x y d (k + 1) m nt lt := if_neg h
theorem nf_eq {M C D N M' C' D' N' : Nat → Int32} {x y d : Int32} : ∀ (m k : Nat) (nt lt : Int32), (∀ i, k ≤ i → i < k + m → M i = M' i ∧ C i = C' i ∧ D i = D' i ∧ N i = N' i) → nf M C D N x y d k m nt lt = nf M' C' D' N' x y d k m nt lt := by
  intro m
  induction m with
  | zero => intro k nt lt h; rfl
  | succ m ih =>
    intro k nt lt h
    have h0 := h k (by omega) (by omega)
    have h1 : ∀ i, k + 1 ≤ i → i < k + 1 + m → M i = M' i ∧ C i = C' i ∧ D i = D' i ∧ N i = N' i := fun i a b => h i (by omega) (by omega)
    show (if M k = x ∧ C k = y ∧ D k ≤ d ∧ lt ≤ D k then nf M C D N x y d (k + 1) m (N k) (D k) else nf M C D N x y d (k + 1) m nt lt) = (if M' k = x ∧ C' k = y ∧ D' k ≤ d ∧ lt ≤ D' k then nf M' C' D' N' x y d (k + 1) m (N' k) (D' k) else nf M' C' D' N' x y d (k + 1) m nt lt)
    rw [h0.1, h0.2.1, h0.2.2.1, h0.2.2.2, ih (k + 1) _ _ h1, ih (k + 1) _ _ h1]
set_option maxRecDepth 100000 in
set_option maxHeartbeats 4000000 in
theorem na_loop_16 {ro : Nat → Option am_C} {c : Bool} {a : Nat → Nat → Int32} {l : Nat → Int64} {f : Nat → Nat → Int32} {n : Nat} {x y d : Int32} (hn : n ≤ 20) (en : f 24 9 = nI n) : ∀ (m k : Nat) (nt lt : Int32) (X : Value), Nat.beq X.category 1 = true → k + m = n → am_T ro 0 90 9 [.ref 24, .int x, .int y, .int d, .int nt, .int lt, .int (nI k), X] [] (wd c a l f) (fun r hp' => r = some (.int (nf (a 28) (a 29) (a 30) (a 31) x y d k m nt lt)) ∧ hp' = wd c a l f) := by
  intro m
  induction m with
  | zero =>
    intro k nt lt X hX hk
    refine am_wp_ok (inl := []) 12 0 90 [] _ _ _ _ _ ?_
    refine am_br_t (show f 24 9 ≤ nI k by rw [en]; exact nI_le (by omega) (by omega)) ?_
    exact And.intro rfl rfl
  | succ m ih =>
    intro k nt lt X hX hk
    have ek : (nI k).toNatClampNeg = k := nI_clamp (by omega)
    have hin : vp_in (nI k) 20 := vp_in_nI (by omega) (by decide)
    have nxt : ∀ (nt' lt' : Int32) (Y : Int32), nf (a 28) (a 29) (a 30) (a 31) x y d k (m + 1) nt lt = nf (a 28) (a 29) (a 30) (a 31) x y d (k + 1) m nt' lt' → am_T ro 0 90 93 [.ref 24, .int x, .int y, .int d, .int nt', .int lt', .int (nI k), .int Y] [] (wd c a l f) (fun r hp' => r = some (.int (nf (a 28) (a 29) (a 30) (a 31) x y d k (m + 1) nt lt)) ∧ hp' = wd c a l f) := by
      intro nt' lt' Y hq
      refine am_wp_ok (inl := []) 5 0 90 [9] _ _ _ _ _ ?_
      show am_T ro 0 90 9 [.ref 24, .int x, .int y, .int d, .int nt', .int lt', .int (nI k + 1), .int Y] [] (wd c a l f) _
      rw [nI_1, hq]
      exact ih (k + 1) nt' lt' (.int Y) rfl (by omega)
    have no : ¬ (a 28 k = x ∧ a 29 k = y ∧ a 30 k ≤ d ∧ lt ≤ a 30 k) → am_T ro 0 90 55 [.ref 24, .int x, .int y, .int d, .int nt, .int lt, .int (nI k), X] [] (wd c a l f) (fun r hp' => r = some (.int (nf (a 28) (a 29) (a 30) (a 31) x y d k (m + 1) nt lt)) ∧ hp' = wd c a l f) := by
      intro hq
      refine am_wp_ok (inl := []) 5 0 90 [93] _ _ _ _ _ ?_
      refine am_br_t (by decide) ?_
      exact nxt nt lt 0 (nf_f hq)
    refine am_wp_ok (inl := []) 12 0 90 [18] _ _ _ _ _ ?_
    refine am_br_f (show ¬ f 24 9 ≤ nI k by rw [en]; exact nI_ge (by omega) (by omega)) ?_
    show am_T ro 0 90 18 [.ref 24, .int x, .int y, .int d, .int nt, .int lt, .int (nI k), X] [] (wd c a l f) _
    refine am_wp_ok (inl := []) 30 0 90 [29, 55] _ _ _ _ _ ?_
    refine And.intro hin ?_
    by_cases h1 : a 28 k = x
    · refine am_br_f (show ¬ ¬ a 28 (nI k).toNatClampNeg = x by rw [ek]; exact fun z => z h1) ?_
      show am_T ro 0 90 29 [.ref 24, .int x, .int y, .int d, .int nt, .int lt, .int (nI k), X] [] (wd c a l f) _
      refine am_wp_ok (inl := []) 30 0 90 [40, 55] _ _ _ _ _ ?_
      refine And.intro hin ?_
      by_cases h2 : a 29 k = y
      · refine am_br_f (show ¬ ¬ a 29 (nI k).toNatClampNeg = y by rw [ek]; exact fun z => z h2) ?_
        show am_T ro 0 90 40 [.ref 24, .int x, .int y, .int d, .int nt, .int lt, .int (nI k), X] [] (wd c a l f) _
        refine am_wp_ok (inl := []) 30 0 90 [51, 55] _ _ _ _ _ ?_
        refine And.intro hin ?_
        by_cases h3 : d < a 30 k
        · refine am_br_t (show d < a 30 (nI k).toNatClampNeg by rw [ek]; exact h3) ?_
          exact no (fun z => absurd z.2.2.1 (Int32.not_le.mpr h3))
        · refine am_br_f (show ¬ d < a 30 (nI k).toNatClampNeg by rw [ek]; exact h3) ?_
          show am_T ro 0 90 51 [.ref 24, .int x, .int y, .int d, .int nt, .int lt, .int (nI k), X] [] (wd c a l f) _
          refine am_wp_ok (inl := []) 8 0 90 [63] _ _ _ _ _ ?_
          refine am_br_f (by decide) ?_
          show am_T ro 0 90 63 [.ref 24, .int x, .int y, .int d, .int nt, .int lt, .int (nI k), .int 1] [] (wd c a l f) _
          refine am_wp_ok (inl := []) 30 0 90 [75, 93] _ _ _ _ _ ?_
          refine And.intro hin ?_
          by_cases h4 : a 30 k < lt
          · refine am_br_t (show a 30 (nI k).toNatClampNeg < lt by rw [ek]; exact h4) ?_
            exact nxt nt lt 1 (nf_f (fun z => absurd z.2.2.2 (Int32.not_le.mpr h4)))
          · refine am_br_f (show ¬ a 30 (nI k).toNatClampNeg < lt by rw [ek]; exact h4) ?_
            show am_T ro 0 90 75 [.ref 24, .int x, .int y, .int d, .int nt, .int lt, .int (nI k), .int 1] [] (wd c a l f) _
            refine am_wp_ok (inl := []) 20 0 90 [93] _ _ _ _ _ ?_
            refine And.intro hin (And.intro hin ?_)
            show am_T ro 0 90 93 [.ref 24, .int x, .int y, .int d, .int (a 31 (nI k).toNatClampNeg), .int (a 30 (nI k).toNatClampNeg), .int (nI k), .int 1] [] (wd c a l f) _
            rw [ek]
            exact nxt _ _ 1 (nf_t ⟨h1, h2, Int32.not_lt.mp h3, Int32.not_lt.mp h4⟩)
      · refine am_br_t (show ¬ a 29 (nI k).toNatClampNeg = y by rw [ek]; exact h2) ?_
        exact no (fun z => h2 z.2.1)
    · refine am_br_t (show ¬ a 28 (nI k).toNatClampNeg = x by rw [ek]; exact h1) ?_
      exact no (fun z => h1 z.1)
set_option maxRecDepth 100000 in
set_option maxHeartbeats 4000000 in
theorem na_16 {ro : Nat → Option am_C} {c : Bool} {a : Nat → Nat → Int32} {l : Nat → Int64} {f : Nat → Nat → Int32} {n : Nat} {x y d : Int32} (hn : n ≤ 20) (en : f 24 9 = nI n) : am_run ro 1 90 [.ref 24, .int x, .int y, .int d] (wd c a l f) (some (.int (nf (a 28) (a 29) (a 30) (a 31) x y d 0 n x (-1)))) (wd c a l f) := by
  refine am_run_of rfl (am_wp_ok (inl := []) 9 0 90 [9] 0 _ _ _ _ ?_)
  exact na_loop_16 hn en n 0 x (-1) am_un rfl (by omega)
set_option maxRecDepth 100000 in
set_option maxHeartbeats 4000000 in
theorem na_loop_38 {ro : Nat → Option am_C} {c : Bool} {a : Nat → Nat → Int32} {l : Nat → Int64} {f : Nat → Nat → Int32} {n : Nat} {x y d : Int32} (hn : n ≤ 20) (en : f 46 9 = nI n) : ∀ (m k : Nat) (nt lt : Int32) (X : Value), Nat.beq X.category 1 = true → k + m = n → am_T ro 0 90 9 [.ref 46, .int x, .int y, .int d, .int nt, .int lt, .int (nI k), X] [] (wd c a l f) (fun r hp' => r = some (.int (nf (a 50) (a 51) (a 52) (a 53) x y d k m nt lt)) ∧ hp' = wd c a l f) := by
  intro m
  induction m with
  | zero =>
    intro k nt lt X hX hk
    refine am_wp_ok (inl := []) 12 0 90 [] _ _ _ _ _ ?_
    refine am_br_t (show f 46 9 ≤ nI k by rw [en]; exact nI_le (by omega) (by omega)) ?_
    exact And.intro rfl rfl
  | succ m ih =>
    intro k nt lt X hX hk
    have ek : (nI k).toNatClampNeg = k := nI_clamp (by omega)
    have hin : vp_in (nI k) 20 := vp_in_nI (by omega) (by decide)
    have nxt : ∀ (nt' lt' : Int32) (Y : Int32), nf (a 50) (a 51) (a 52) (a 53) x y d k (m + 1) nt lt = nf (a 50) (a 51) (a 52) (a 53) x y d (k + 1) m nt' lt' → am_T ro 0 90 93 [.ref 46, .int x, .int y, .int d, .int nt', .int lt', .int (nI k), .int Y] [] (wd c a l f) (fun r hp' => r = some (.int (nf (a 50) (a 51) (a 52) (a 53) x y d k (m + 1) nt lt)) ∧ hp' = wd c a l f) := by
      intro nt' lt' Y hq
      refine am_wp_ok (inl := []) 5 0 90 [9] _ _ _ _ _ ?_
      show am_T ro 0 90 9 [.ref 46, .int x, .int y, .int d, .int nt', .int lt', .int (nI k + 1), .int Y] [] (wd c a l f) _
      rw [nI_1, hq]
      exact ih (k + 1) nt' lt' (.int Y) rfl (by omega)
    have no : ¬ (a 50 k = x ∧ a 51 k = y ∧ a 52 k ≤ d ∧ lt ≤ a 52 k) → am_T ro 0 90 55 [.ref 46, .int x, .int y, .int d, .int nt, .int lt, .int (nI k), X] [] (wd c a l f) (fun r hp' => r = some (.int (nf (a 50) (a 51) (a 52) (a 53) x y d k (m + 1) nt lt)) ∧ hp' = wd c a l f) := by
      intro hq
      refine am_wp_ok (inl := []) 5 0 90 [93] _ _ _ _ _ ?_
      refine am_br_t (by decide) ?_
      exact nxt nt lt 0 (nf_f hq)
    refine am_wp_ok (inl := []) 12 0 90 [18] _ _ _ _ _ ?_
    refine am_br_f (show ¬ f 46 9 ≤ nI k by rw [en]; exact nI_ge (by omega) (by omega)) ?_
    show am_T ro 0 90 18 [.ref 46, .int x, .int y, .int d, .int nt, .int lt, .int (nI k), X] [] (wd c a l f) _
    refine am_wp_ok (inl := []) 30 0 90 [29, 55] _ _ _ _ _ ?_
    refine And.intro hin ?_
    by_cases h1 : a 50 k = x
    · refine am_br_f (show ¬ ¬ a 50 (nI k).toNatClampNeg = x by rw [ek]; exact fun z => z h1) ?_
      show am_T ro 0 90 29 [.ref 46, .int x, .int y, .int d, .int nt, .int lt, .int (nI k), X] [] (wd c a l f) _
      refine am_wp_ok (inl := []) 30 0 90 [40, 55] _ _ _ _ _ ?_
      refine And.intro hin ?_
      by_cases h2 : a 51 k = y
      · refine am_br_f (show ¬ ¬ a 51 (nI k).toNatClampNeg = y by rw [ek]; exact fun z => z h2) ?_
        show am_T ro 0 90 40 [.ref 46, .int x, .int y, .int d, .int nt, .int lt, .int (nI k), X] [] (wd c a l f) _
        refine am_wp_ok (inl := []) 30 0 90 [51, 55] _ _ _ _ _ ?_
        refine And.intro hin ?_
        by_cases h3 : d < a 52 k
        · refine am_br_t (show d < a 52 (nI k).toNatClampNeg by rw [ek]; exact h3) ?_
          exact no (fun z => absurd z.2.2.1 (Int32.not_le.mpr h3))
        · refine am_br_f (show ¬ d < a 52 (nI k).toNatClampNeg by rw [ek]; exact h3) ?_
          show am_T ro 0 90 51 [.ref 46, .int x, .int y, .int d, .int nt, .int lt, .int (nI k), X] [] (wd c a l f) _
          refine am_wp_ok (inl := []) 8 0 90 [63] _ _ _ _ _ ?_
          refine am_br_f (by decide) ?_
          show am_T ro 0 90 63 [.ref 46, .int x, .int y, .int d, .int nt, .int lt, .int (nI k), .int 1] [] (wd c a l f) _
          refine am_wp_ok (inl := []) 30 0 90 [75, 93] _ _ _ _ _ ?_
          refine And.intro hin ?_
          by_cases h4 : a 52 k < lt
          · refine am_br_t (show a 52 (nI k).toNatClampNeg < lt by rw [ek]; exact h4) ?_
            exact nxt nt lt 1 (nf_f (fun z => absurd z.2.2.2 (Int32.not_le.mpr h4)))
          · refine am_br_f (show ¬ a 52 (nI k).toNatClampNeg < lt by rw [ek]; exact h4) ?_
            show am_T ro 0 90 75 [.ref 46, .int x, .int y, .int d, .int nt, .int lt, .int (nI k), .int 1] [] (wd c a l f) _
            refine am_wp_ok (inl := []) 20 0 90 [93] _ _ _ _ _ ?_
            refine And.intro hin (And.intro hin ?_)
            show am_T ro 0 90 93 [.ref 46, .int x, .int y, .int d, .int (a 53 (nI k).toNatClampNeg), .int (a 52 (nI k).toNatClampNeg), .int (nI k), .int 1] [] (wd c a l f) _
            rw [ek]
            exact nxt _ _ 1 (nf_t ⟨h1, h2, Int32.not_lt.mp h3, Int32.not_lt.mp h4⟩)
      · refine am_br_t (show ¬ a 51 (nI k).toNatClampNeg = y by rw [ek]; exact h2) ?_
        exact no (fun z => h2 z.2.1)
    · refine am_br_t (show ¬ a 50 (nI k).toNatClampNeg = x by rw [ek]; exact h1) ?_
      exact no (fun z => h1 z.1)
set_option maxRecDepth 100000 in
set_option maxHeartbeats 4000000 in
theorem na_38 {ro : Nat → Option am_C} {c : Bool} {a : Nat → Nat → Int32} {l : Nat → Int64} {f : Nat → Nat → Int32} {n : Nat} {x y d : Int32} (hn : n ≤ 20) (en : f 46 9 = nI n) : am_run ro 1 90 [.ref 46, .int x, .int y, .int d] (wd c a l f) (some (.int (nf (a 50) (a 51) (a 52) (a 53) x y d 0 n x (-1)))) (wd c a l f) := by
  refine am_run_of rfl (am_wp_ok (inl := []) 9 0 90 [9] 0 _ _ _ _ ?_)
  exact na_loop_38 hn en n 0 x (-1) am_un rfl (by omega)
theorem cs_nat (b : Bool) {ro : Nat → Option am_C} {c : Bool} {a : Nat → Nat → Int32} {l : Nat → Int64} {f : Nat → Nat → Int32} {n : Nat} {x y d : Int32} (hn : n ≤ 20) (en : f (ob b + 8) 9 = nI n) : am_run ro 1 90 [.ref (ob b + 8), .int x, .int y, .int d] (wd c a l f) (some (.int (nf (a (ob b + 12)) (a (ob b + 13)) (a (ob b + 14)) (a (ob b + 15)) x y d 0 n x (-1)))) (wd c a l f) := by
  cases b
  · exact na_16 hn en
  · exact na_38 hn en
set_option maxRecDepth 100000 in
set_option maxHeartbeats 4000000 in
theorem ma_loop {ro : Nat → Option am_C} {c : Bool} {a : Nat → Nat → Int32} {l : Nat → Int64} {f : Nat → Nat → Int32} {n : Nat} {x y d : Int32} (hn : n ≤ 20) (en : a 62 4 = nI n) : ∀ (m k : Nat) (nt lt : Int32) (X : Value), Nat.beq X.category 1 = true → k + m = n → am_T ro 1 130 47 [.ref 60, .int x, .int y, .int d, .int nt, .int lt, .int (nI k), X] [] (wd c a l f) (fun r hp' => r = some (.int (nf (fun q => a 69 (4 * q)) (fun q => a 69 (4 * q + 1)) (fun q => a 69 (4 * q + 2)) (fun q => a 69 (4 * q + 3)) x y d k m nt lt)) ∧ hp' = wd c a l f) := by
  intro m
  induction m with
  | zero =>
    intro k nt lt X hX hk
    refine am_wp_ok (inl := []) 12 1 130 [] _ _ _ _ _ ?_
    refine And.intro (vp_in_nI (n := 4) (by decide) (by decide)) ?_
    refine am_br_t (show a 62 4 ≤ nI k by rw [en]; exact nI_le (by omega) (by omega)) ?_
    exact And.intro rfl rfl
  | succ m ih =>
    intro k nt lt X hX hk
    have e0 : 4 * nI k = nI (4 * k) := by rw [show (4 : Int32) = nI 4 from rfl, nI_mul]
    have e1 : 4 * nI k + 1 = nI (4 * k + 1) := by rw [e0, nI_1]
    have e2 : 4 * nI k + 2 = nI (4 * k + 2) := by rw [e0, show (2 : Int32) = nI 2 from rfl, nI_add]
    have e3 : 4 * nI k + 3 = nI (4 * k + 3) := by rw [e0, show (3 : Int32) = nI 3 from rfl, nI_add]
    have c0 : (4 * nI k).toNatClampNeg = 4 * k := by rw [e0]; exact nI_clamp (by omega)
    have c1 : (4 * nI k + 1).toNatClampNeg = 4 * k + 1 := by rw [e1]; exact nI_clamp (by omega)
    have c2 : (4 * nI k + 2).toNatClampNeg = 4 * k + 2 := by rw [e2]; exact nI_clamp (by omega)
    have c3 : (4 * nI k + 3).toNatClampNeg = 4 * k + 3 := by rw [e3]; exact nI_clamp (by omega)
    have i0 : vp_in (4 * nI k) 160 := by rw [e0]; exact vp_in_nI (by omega) (by decide)
    have i1 : vp_in (4 * nI k + 1) 160 := by rw [e1]; exact vp_in_nI (by omega) (by decide)
    have i2 : vp_in (4 * nI k + 2) 160 := by rw [e2]; exact vp_in_nI (by omega) (by decide)
    have i3 : vp_in (4 * nI k + 3) 160 := by rw [e3]; exact vp_in_nI (by omega) (by decide)
    have nxt : ∀ (nt' lt' : Int32) (Y : Int32), nf (fun q => a 69 (4 * q)) (fun q => a 69 (4 * q + 1)) (fun q => a 69 (4 * q + 2)) (fun q => a 69 (4 * q + 3)) x y d k (m + 1) nt lt = nf (fun q => a 69 (4 * q)) (fun q => a 69 (4 * q + 1)) (fun q => a 69 (4 * q + 2)) (fun q => a 69 (4 * q + 3)) x y d (k + 1) m nt' lt' → am_T ro 1 130 170 [.ref 60, .int x, .int y, .int d, .int nt', .int lt', .int (nI k), .int Y] [] (wd c a l f) (fun r hp' => r = some (.int (nf (fun q => a 69 (4 * q)) (fun q => a 69 (4 * q + 1)) (fun q => a 69 (4 * q + 2)) (fun q => a 69 (4 * q + 3)) x y d k (m + 1) nt lt)) ∧ hp' = wd c a l f) := by
      intro nt' lt' Y hq
      refine am_wp_ok (inl := []) 5 1 130 [47] _ _ _ _ _ ?_
      show am_T ro 1 130 47 [.ref 60, .int x, .int y, .int d, .int nt', .int lt', .int (nI k + 1), .int Y] [] (wd c a l f) _
      rw [nI_1, hq]
      exact ih (k + 1) nt' lt' (.int Y) rfl (by omega)
    have no : ¬ (a 69 (4 * k) = x ∧ a 69 (4 * k + 1) = y ∧ a 69 (4 * k + 2) ≤ d ∧ lt ≤ a 69 (4 * k + 2)) → am_T ro 1 130 121 [.ref 60, .int x, .int y, .int d, .int nt, .int lt, .int (nI k), X] [] (wd c a l f) (fun r hp' => r = some (.int (nf (fun q => a 69 (4 * q)) (fun q => a 69 (4 * q + 1)) (fun q => a 69 (4 * q + 2)) (fun q => a 69 (4 * q + 3)) x y d k (m + 1) nt lt)) ∧ hp' = wd c a l f) := by
      intro hq
      refine am_wp_ok (inl := []) 20 1 130 [170] _ _ _ _ _ ?_
      refine am_br_t (by decide) ?_
      refine am_br_t (by decide) ?_
      exact nxt nt lt 0 (nf_f hq)
    refine am_wp_ok (inl := []) 12 1 130 [58] _ _ _ _ _ ?_
    refine And.intro (vp_in_nI (n := 4) (by decide) (by decide)) ?_
    refine am_br_f (show ¬ a 62 4 ≤ nI k by rw [en]; exact nI_ge (by omega) (by omega)) ?_
    show am_T ro 1 130 58 [.ref 60, .int x, .int y, .int d, .int nt, .int lt, .int (nI k), X] [] (wd c a l f) _
    refine am_wp_ok (inl := []) 30 1 130 [71, 121] _ _ _ _ _ ?_
    refine And.intro i0 ?_
    by_cases h1 : a 69 (4 * k) = x
    · refine am_br_f (show ¬ ¬ a 69 (4 * nI k).toNatClampNeg = x by rw [c0]; exact fun z => z h1) ?_
      show am_T ro 1 130 71 [.ref 60, .int x, .int y, .int d, .int nt, .int lt, .int (nI k), X] [] (wd c a l f) _
      refine am_wp_ok (inl := []) 30 1 130 [86, 121] _ _ _ _ _ ?_
      refine And.intro i1 ?_
      by_cases h2 : a 69 (4 * k + 1) = y
      · refine am_br_f (show ¬ ¬ a 69 (4 * nI k + 1).toNatClampNeg = y by rw [c1]; exact fun z => z h2) ?_
        show am_T ro 1 130 86 [.ref 60, .int x, .int y, .int d, .int nt, .int lt, .int (nI k), X] [] (wd c a l f) _
        refine am_wp_ok (inl := []) 30 1 130 [101, 121] _ _ _ _ _ ?_
        refine And.intro i2 ?_
        by_cases h3 : d < a 69 (4 * k + 2)
        · refine am_br_t (show d < a 69 (4 * nI k + 2).toNatClampNeg by rw [c2]; exact h3) ?_
          exact no (fun z => absurd z.2.2.1 (Int32.not_le.mpr h3))
        · refine am_br_f (show ¬ d < a 69 (4 * nI k + 2).toNatClampNeg by rw [c2]; exact h3) ?_
          show am_T ro 1 130 101 [.ref 60, .int x, .int y, .int d, .int nt, .int lt, .int (nI k), X] [] (wd c a l f) _
          refine am_wp_ok (inl := []) 30 1 130 [117, 121] _ _ _ _ _ ?_
          refine And.intro i2 ?_
          by_cases h4 : a 69 (4 * k + 2) < lt
          · refine am_br_t (show a 69 (4 * nI k + 2).toNatClampNeg < lt by rw [c2]; exact h4) ?_
            exact no (fun z => absurd z.2.2.2 (Int32.not_le.mpr h4))
          · refine am_br_f (show ¬ a 69 (4 * nI k + 2).toNatClampNeg < lt by rw [c2]; exact h4) ?_
            show am_T ro 1 130 117 [.ref 60, .int x, .int y, .int d, .int nt, .int lt, .int (nI k), X] [] (wd c a l f) _
            refine am_wp_ok (inl := []) 20 1 130 [147] _ _ _ _ _ ?_
            refine am_br_f (by decide) ?_
            refine And.intro i3 ?_
            show am_T ro 1 130 147 [.ref 60, .int x, .int y, .int d, .int (a 69 (4 * nI k + 3).toNatClampNeg), .int lt, .int (nI k), .int 1] [] (wd c a l f) _
            refine am_wp_ok (inl := []) 20 1 130 [170] _ _ _ _ _ ?_
            refine am_br_f (by decide) ?_
            refine And.intro i2 ?_
            show am_T ro 1 130 170 [.ref 60, .int x, .int y, .int d, .int (a 69 (4 * nI k + 3).toNatClampNeg), .int (a 69 (4 * nI k + 2).toNatClampNeg), .int (nI k), .int 1] [] (wd c a l f) _
            rw [c2, c3]
            exact nxt _ _ 1 (nf_t ⟨h1, h2, Int32.not_lt.mp h3, Int32.not_lt.mp h4⟩)
      · refine am_br_t (show ¬ a 69 (4 * nI k + 1).toNatClampNeg = y by rw [c1]; exact h2) ?_
        exact no (fun z => h2 z.2.1)
    · refine am_br_t (show ¬ a 69 (4 * nI k).toNatClampNeg = x by rw [c0]; exact h1) ?_
      exact no (fun z => h1 z.1)
set_option maxRecDepth 100000 in
set_option maxHeartbeats 4000000 in
theorem mo_map_t {ro : Nat → Option am_C} {c : Bool} {a : Nat → Nat → Int32} {l : Nat → Int64} {f : Nat → Nat → Int32} {n x y d : Nat} (hx : x < 1000000) (hy : y < 10) (hd : d < 1000000) (hn : n ≤ 20) (en : a 62 4 = nI n) : am_run ro 2 130 [.ref 60, .int (nI x), .int (nI y), .int (nI d)] (wd c a l f) (some (.int (nf (fun q => a 69 (4 * q)) (fun q => a 69 (4 * q + 1)) (fun q => a 69 (4 * q + 2)) (fun q => a 69 (4 * q + 3)) (nI x) (nI y) (nI d) 0 n (nI x) (-1)))) (wd c a l f) := by
  refine am_run_of rfl (am_wp_ok (inl := []) 20 1 130 [12] 0 _ _ _ _ ?_)
  refine ⟨_, _, in6_t hx, ?_⟩
  refine am_br_f (by decide) ?_
  show am_T ro 1 130 12 [.ref 60, .int (nI x), .int (nI y), .int (nI d), am_un, am_un, am_un, am_un] [] (wd c a l f) _
  refine am_wp_ok (inl := []) 20 1 130 [24] _ _ _ _ _ ?_
  refine ⟨_, _, in_t (j := y) (k := 9) (by omega) (by decide) rfl, ?_⟩
  refine am_br_f (by decide) ?_
  show am_T ro 1 130 24 [.ref 60, .int (nI x), .int (nI y), .int (nI d), am_un, am_un, am_un, am_un] [] (wd c a l f) _
  refine am_wp_ok (inl := []) 20 1 130 [38] _ _ _ _ _ ?_
  refine ⟨_, _, in6_t hd, ?_⟩
  refine am_br_t (by decide) ?_
  show am_T ro 1 130 38 [.ref 60, .int (nI x), .int (nI y), .int (nI d), am_un, am_un, am_un, am_un] [] (wd c a l f) _
  refine am_wp_ok (inl := []) 20 1 130 [47] _ _ _ _ _ ?_
  exact ma_loop hn en n 0 (nI x) (-1) am_un rfl (by omega)
set_option maxRecDepth 100000 in
set_option maxHeartbeats 4000000 in
theorem mo_map_f {ro : Nat → Option am_C} {c : Bool} {a : Nat → Nat → Int32} {l : Nat → Int64} {f : Nat → Nat → Int32} {x y d : Int32} (h : ¬ ∃ u v w : Nat, x = nI u ∧ y = nI v ∧ d = nI w ∧ u < 1000000 ∧ v < 10 ∧ w < 1000000) : am_run ro 2 130 [.ref 60, .int x, .int y, .int d] (wd c a l f) (some (.int (-1))) (wd c a l f) := by
  refine am_run_of rfl (am_wp_ok (inl := []) 20 1 130 [12] 0 _ _ _ _ ?_)
  rcases bd x 1000000 (by decide) with ⟨u, hu, rfl⟩ | hx
  · refine ⟨_, _, in6_t hu, ?_⟩
    refine am_br_f (by decide) ?_
    show am_T ro 1 130 12 [.ref 60, .int (nI u), .int y, .int d, am_un, am_un, am_un, am_un] [] (wd c a l f) _
    refine am_wp_ok (inl := []) 20 1 130 [24] _ _ _ _ _ ?_
    rcases bd y 10 (by decide) with ⟨v, hv, rfl⟩ | hy
    · refine ⟨_, _, in_t (j := v) (k := 9) (by omega) (by decide) rfl, ?_⟩
      refine am_br_f (by decide) ?_
      show am_T ro 1 130 24 [.ref 60, .int (nI u), .int (nI v), .int d, am_un, am_un, am_un, am_un] [] (wd c a l f) _
      refine am_wp_ok (inl := []) 20 1 130 [38] _ _ _ _ _ ?_
      rcases bd d 1000000 (by decide) with ⟨w, hw, rfl⟩ | hd
      · exact absurd ⟨u, v, w, rfl, rfl, rfl, hu, hv, hw⟩ h
      · refine ⟨_, _, in6_f hd, ?_⟩
        refine am_br_f (by decide) ?_
        exact And.intro rfl rfl
    · refine ⟨_, _, in_f (k := 9) hy (by decide) rfl, ?_⟩
      refine am_br_t (by decide) ?_
      exact And.intro rfl rfl
  · refine ⟨_, _, in6_f hx, ?_⟩
    refine am_br_t (by decide) ?_
    exact And.intro rfl rfl
set_option maxRecDepth 100000 in
set_option maxHeartbeats 4000000 in
theorem cl_map_t {ro : Nat → Option am_C} {c : Bool} {a : Nat → Nat → Int32} {l : Nat → Int64} {f : Nat → Nat → Int32} {x y d : Nat} {r : Int32} {hp : am_H} (hx : x < 1000000) (hy : y < 10) (hd : d < 1000000) (e : am_run ro 11 90 [.ref (ob c + 8), .int (nI x), .int (nI y), .int (nI d)] (wd c a l f) (some (.int r)) hp) : am_run ro 12 11 [.ref 0, .int (nI x), .int (nI y), .int (nI d)] (wd c a l f) (some (.int r)) hp := by
  refine am_run_of rfl (am_wp_ok (inl := []) 20 11 11 [7] 0 _ _ _ _ ?_)
  refine ⟨_, _, am_run_up (sp_num_t hx) (by decide), ?_⟩
  refine am_br_f (by decide) ?_
  show am_T ro 11 11 7 [.ref 0, .int (nI x), .int (nI y), .int (nI d)] [] (wd c a l f) _
  refine am_wp_ok (inl := []) 20 11 11 [16] _ _ _ _ _ ?_
  refine ⟨_, _, am_run_up (sp_below_t (nI_pos (by omega)) (nI_ge (b := 10) hy (by decide))) (by decide), ?_⟩
  refine am_br_f (by decide) ?_
  show am_T ro 11 11 16 [.ref 0, .int (nI x), .int (nI y), .int (nI d)] [] (wd c a l f) _
  refine am_wp_ok (inl := []) 20 11 11 [25] _ _ _ _ _ ?_
  refine ⟨_, _, am_run_up (sp_num_t hd) (by decide), ?_⟩
  refine am_br_t (by decide) ?_
  show am_T ro 11 11 25 [.ref 0, .int (nI x), .int (nI y), .int (nI d)] [] (wd c a l f) _
  cases c
  · refine am_wp_ok (inl := []) 20 11 11 [] _ _ _ _ _ ?_
    refine ⟨_, _, e, ?_⟩
    exact And.intro rfl rfl
  · refine am_wp_ok (inl := []) 20 11 11 [] _ _ _ _ _ ?_
    refine ⟨_, _, e, ?_⟩
    exact And.intro rfl rfl
set_option maxRecDepth 100000 in
set_option maxHeartbeats 4000000 in
theorem cl_map_f {ro : Nat → Option am_C} {c : Bool} {a : Nat → Nat → Int32} {l : Nat → Int64} {f : Nat → Nat → Int32} {x y d : Int32} (h : ¬ ∃ u v w : Nat, x = nI u ∧ y = nI v ∧ d = nI w ∧ u < 1000000 ∧ v < 10 ∧ w < 1000000) : am_run ro 12 11 [.ref 0, .int x, .int y, .int d] (wd c a l f) (some (.int (-1))) (wd c a l f) := by
  refine am_run_of rfl (am_wp_ok (inl := []) 20 11 11 [7] 0 _ _ _ _ ?_)
  rcases bd x 1000000 (by decide) with ⟨u, hu, rfl⟩ | hx
  · refine ⟨_, _, am_run_up (sp_num_t hu) (by decide), ?_⟩
    refine am_br_f (by decide) ?_
    show am_T ro 11 11 7 [.ref 0, .int (nI u), .int y, .int d] [] (wd c a l f) _
    refine am_wp_ok (inl := []) 20 11 11 [16] _ _ _ _ _ ?_
    rcases bd y 10 (by decide) with ⟨v, hv, rfl⟩ | hy
    · refine ⟨_, _, am_run_up (sp_below_t (nI_pos (by omega)) (nI_ge (b := 10) hv (by decide))) (by decide), ?_⟩
      refine am_br_f (by decide) ?_
      show am_T ro 11 11 16 [.ref 0, .int (nI u), .int (nI v), .int d] [] (wd c a l f) _
      refine am_wp_ok (inl := []) 20 11 11 [25] _ _ _ _ _ ?_
      rcases bd d 1000000 (by decide) with ⟨w, hw, rfl⟩ | hd
      · exact absurd ⟨u, v, w, rfl, rfl, rfl, hu, hv, hw⟩ h
      · refine ⟨_, _, am_run_up (sp_num_f hd) (by decide), ?_⟩
        refine am_br_f (by decide) ?_
        exact And.intro rfl rfl
    · refine ⟨_, _, am_run_up (sp_below_f hy) (by decide), ?_⟩
      refine am_br_t (by decide) ?_
      exact And.intro rfl rfl
  · refine ⟨_, _, am_run_up (sp_num_f hx) (by decide), ?_⟩
    refine am_br_t (by decide) ?_
    exact And.intro rfl rfl
theorem op_map {ro : Nat → Option am_C} (x y d : Int32) : lp_op ro Rl 11 130 [.int x, .int y, .int d] := by
  intro c a l f hR
  obtain ⟨h1, h2, h3, h4, h5, ⟨nb, nc, ng, nm, np, nn, ⟨b1, b2, b3, b4, b5, b6, b7, b8, b9, b10⟩, h7⟩⟩ := id hR
  by_cases hq : ∃ u v w : Nat, x = nI u ∧ y = nI v ∧ d = nI w ∧ u < 1000000 ∧ v < 10 ∧ w < 1000000
  · obtain ⟨u, v, w, rfl, rfl, rfl, hu, hv, hw⟩ := hq
    refine ⟨_, c, a, l, f, c, a, l, f, cl_map_t hu hv hw (am_run_up (cs_nat c b1.2.2.2.2.1 b2.2.2.2.2.1) (by decide)), ?_, hR⟩
    rw [nf_eq (M' := fun q => a 69 (4 * q)) (C' := fun q => a 69 (4 * q + 1)) (D' := fun q => a 69 (4 * q + 2)) (N' := fun q => a 69 (4 * q + 3)) np 0 _ _ (fun i _ hi => by
      have := b9 i (by omega)
      rw [show 80 * 0 + 4 * i = 4 * i by omega] at this
      exact this)]
    exact am_run_up (mo_map_t hu hv hw b1.2.2.2.2.1 b3.2.2.2.2.1) (by decide)
  · exact ⟨-1, c, a, l, f, c, a, l, f, cl_map_f hq, am_run_up (mo_map_f hq) (by decide), hR⟩
