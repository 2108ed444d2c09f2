/-! the nearest name: the distances of all names, then the first of rank k, in both -/
theorem u2_cm {α : Type} {b : Nat → α} (i j : Nat) {x y : α} (h : Nat.beq i j = false) : u2 (u2 b i x) j y = u2 (u2 b j y) i x := by
  funext k
  unfold u2
  cases h1 : Nat.beq k i <;> cases h2 : Nat.beq k j
  · rfl
  · rfl
  · rfl
  · have e1 := Nat.eq_of_beq_eq_true h1
    have e2 := Nat.eq_of_beq_eq_true h2
    subst e1
    subst e2
    rw [h1] at h
    cases h
/-- a run out of a stretch of code, with what K says -/
theorem am_run_ex {ro : Nat → Option am_C} {d mi : Nat} {as : List Value} {hp : am_H} {K : Option Value → am_H → Prop} (hl : Nat.ble (am_lay as).length (am_mL mi) = true) (h : am_T ro d mi 0 (am_l0 mi as) [] hp K) : ∃ r hp', am_run ro (d + 1) mi as hp r hp' ∧ K r hp' := by
  obtain ⟨r1, hp1, hk, g⟩ := h
  exact ⟨r1, hp1, ⟨Nat.le_of_ble_eq_true hl, hk⟩, g⟩
/-- the first place from k on, of m, that p takes; else -1 -/
def ft (p : Nat → Bool) : Nat → Nat → Int32
  | _, 0 => -1
  | k, m + 1 => bif p k then nI k else ft p (k + 1) m
theorem ft_t {p : Nat → Bool} {k m : Nat} (h : p k = true) : ft p k (m + 1) = nI k := by
  show (bif p k then nI k else ft p (k + 1) m) = _
  rw [h]; rfl
theorem ft_f {p : Nat → Bool} {k m : Nat} (h : p k = false) : ft p k (m + 1) = ft p (k + 1) m := by
  show (bif p k then nI k else ft p (k + 1) m) = _
  rw [h]; rfl
theorem ft_none {p : Nat → Bool} : ∀ (m k : Nat), (∀ i, k ≤ i → i < k + m → p i = false) → ft p k m = -1 := by
  intro m
  induction m with
  | zero => intro k _; rfl
  | succ m ih =>
    intro k h
    rw [ft_f (h k (by omega) (by omega))]
    exact ih (k + 1) (fun i h1 h2 => h i (by omega) (by omega))
theorem ft_eq {p p' : Nat → Bool} : ∀ (m k : Nat), (∀ i, k ≤ i → i < k + m → p i = p' i) → ft p k m = ft p' k m := by
  intro m
  induction m with
  | zero => intro k _; rfl
  | succ m ih =>
    intro k h
    have h0 := h k (by omega) (by omega)
    cases e : p k with
    | true => rw [ft_t e, ft_t (by rw [← h0]; exact e)]
    | false =>
      rw [ft_f e, ft_f (by rw [← h0]; exact e)]
      exact ih (k + 1) (fun i h1 h2 => h i (by omega) (by omega))
theorem ft_is {p : Nat → Bool} : ∀ (m k : Nat), ft p k m = -1 ∨ ∃ i, k ≤ i ∧ i < k + m ∧ ft p k m = nI i := by
  intro m
  induction m with
  | zero => intro k; exact Or.inl rfl
  | succ m ih =>
    intro k
    cases e : p k with
    | true => exact Or.inr ⟨k, by omega, by omega, ft_t e⟩
    | false =>
      rw [ft_f e]
      rcases ih (k + 1) with h | ⟨i, h1, h2, h3⟩
      · exact Or.inl h
      · exact Or.inr ⟨i, by omega, by omega, h3⟩
theorem rk_eq {D D' : Nat → Int32} {i : Nat} : ∀ (m k : Nat) (w : Int32), D i = D' i → (∀ p, p < k + m → D p = D' p) → rk D i k m w = rk D' i k m w := by
  intro m
  induction m with
  | zero => intro k w _ _; rfl
  | succ m ih =>
    intro k w hi h
    show rk D i (k + 1) m (bif bf D i k then w + 1 else w) = rk D' i (k + 1) m (bif bf D' i k then w + 1 else w)
    have e : bf D i k = bf D' i k := by
      unfold bf
      rw [hi, h k (by omega)]
    rw [e]
    exact ih (k + 1) _ hi (fun p hp => h p (by omega))
theorem rk_val {D : Nat → Int32} {i : Nat} : ∀ (m k w : Nat), ∃ r : Nat, rk D i k m (nI w) = nI r ∧ r ≤ w + m ∧ (k ≤ i → i < k + m → r < w + m) := by
  intro m
  induction m with
  | zero => intro k w; exact ⟨w, rfl, by omega, fun _ _ => by omega⟩
  | succ m ih =>
    intro k w
    show ∃ r : Nat, rk D i (k + 1) m (bif bf D i k then nI w + 1 else nI w) = nI r ∧ _
    cases e : bf D i k with
    | false =>
      obtain ⟨r, h1, h2, h3⟩ := ih (k + 1) w
      exact ⟨r, h1, by omega, fun _ _ => by omega⟩
    | true =>
      obtain ⟨r, h1, h2, h3⟩ := ih (k + 1) (w + 1)
      refine ⟨r, ?_, by omega, fun g1 g2 => ?_⟩
      · show rk D i (k + 1) m (nI w + 1) = nI r
        rw [nI_1]
        exact h1
      · have ne : ¬ k = i := by
          intro z
          subst z
          unfold bf at e
          rw [decide_eq_false (show ¬ D k < D k from fun z => absurd z (by rw [Int32.not_lt]; exact Int32.le_refl _)), decide_eq_false (show ¬ k < k by omega), Bool.and_false] at e
          cases e
        have := h3 (by omega) (by omega)
        omega
/-- a rank asked for that no name has -/
theorem ft_rk {D : Nat → Int32} {n : Nat} {kk : Int32} (hn : n ≤ 20) (h : kk < 0 ∨ nI n ≤ kk) : ft (fun i => decide (rk D i 0 n 0 = kk)) 0 n = -1 := by
  refine ft_none n 0 (fun i _ hi => decide_eq_false (fun z => ?_))
  obtain ⟨r, h1, -, h3⟩ := rk_val (D := D) (i := i) n 0 0
  have h4 := h3 (by omega) hi
  have h5 : rk D i 0 n 0 = nI r := h1
  rw [h5] at z
  rw [← z] at h
  rcases h with h | h
  · exact nI_pos (by omega) h
  · exact nI_ge (show r < n by omega) (by omega) h
set_option maxRecDepth 100000 in
set_option maxHeartbeats 4000000 in
theorem nf_16 {ro : Nat → Option am_C} {c : Bool} {a : Nat → Nat → Int32} {l : Nat → Int64} {f : Nat → Nat → Int32} {s t n : Nat} {kk : Int32} {dd : Nat → Int32} {K : Option Value → am_H → Prop} (h2 : f 1 2 = nI s) (h3 : f 1 3 = nI t) (hst : s ≤ t) (ht : t ≤ 900) (hn : n ≤ 20) (en : f 32 5 = nI n) (hdd : ∀ i, i < n → ∃ m : Nat, m ≤ 8 ∧ a 34 i = nI m ∧ ∀ R : Nat → Int32, eo (fun x y => decide (a 2 (s + (x - 1)) = a 35 (8 * i + (y - 1)))) m (t - s) 1 (fl 0 (m + 1) R) m = dd i) : ∀ (m k : Nat) (D R : Nat → Int32), k + m = n → (∀ i, i < k → D i = dd i) → (∀ D' R' : Nat → Int32, (∀ i, i < n → D' i = dd i) → am_T ro 2 98 28 [.ref 32, .ref 1, .int kk, .int (nI n)] [] (wd c (u2 (u2 a 36 D') 37 R') l f) K) → am_T ro 2 98 2 [.ref 32, .ref 1, .int kk, .int (nI k)] [] (wd c (u2 (u2 a 36 D) 37 R) l f) K := by
  intro m
  induction m with
  | zero =>
    intro k D R h hD kq
    refine am_wp_ok (inl := []) 6 2 98 [28] _ _ _ _ _ ?_
    refine am_br_t (show f 32 5 ≤ nI k by rw [en]; exact nI_le (by omega) (by omega)) ?_
    have e : k = n := by omega
    subst e
    exact kq D R hD
  | succ m ih =>
    intro k D R h hD kq
    refine am_wp_ok (inl := []) 6 2 98 [10] _ _ _ _ _ ?_
    refine am_br_f (show ¬ f 32 5 ≤ nI k by rw [en]; exact nI_ge (by omega) (by omega)) ?_
    show am_T ro 2 98 10 [.ref 32, .ref 1, .int kk, .int (nI k)] [] (wd c (u2 (u2 a 36 D) 37 R) l f) K
    obtain ⟨m', hm', em, hd⟩ := hdd k (by omega)
    have hr : ∃ R1 : Nat → Int32, am_run ro 2 99 [.ref 32, .int (nI k), .ref 1] (wd c (u2 (u2 a 36 D) 37 R) l f) (some (.int (dd k))) (wd c (u2 (u2 a 36 D) 37 R1) l f) := by
      have h0 := cs_dist_16 (ro := ro) (c := c) (a := u2 (u2 a 36 D) 37 R) (l := l) (f := f) h2 h3 hst ht (show k < 20 by omega) hm' em
      rw [u2_u2] at h0
      rw [← hd R]
      exact ⟨_, h0⟩
    obtain ⟨R1, hr⟩ := hr
    refine am_wp_ok (inl := []) 10 2 98 [21] _ _ _ _ _ ?_
    refine ⟨_, _, hr, ?_⟩
    show am_T ro 2 98 21 [.ref 32, .ref 1, .int kk, .int (nI k)] [.int (dd k), .int (nI k), .ref 36] (wd c (u2 (u2 a 36 D) 37 R1) l f) K
    refine am_wp_ok (inl := []) 3 2 98 [22] _ _ _ _ _ ?_
    refine And.intro (vp_in_nI (by omega) (by decide)) ?_
    show am_T ro 2 98 22 [.ref 32, .ref 1, .int kk, .int (nI k)] [] ((wd c (u2 (u2 a 36 D) 37 R1) l f).set 36 (.inl (.int, 20, .inl (upd D (nI k).toNatClampNeg (dd k))))) K
    rw [ws_36, u2_cm 37 36 rfl, u2_u2, nI_clamp (show k < 2 ^ 31 by omega)]
    refine am_wp_ok (inl := []) 4 2 98 [2] _ _ _ _ _ ?_
    show am_T ro 2 98 2 [.ref 32, .ref 1, .int kk, .int (nI k + 1)] [] (wd c (u2 (u2 a 36 (upd D k (dd k))) 37 R1) l f) K
    rw [nI_1]
    refine ih (k + 1) _ _ (by omega) (fun i hi => ?_) kq
    by_cases hq : i = k
    · rw [hq, upd_same]
    · rw [upd_ne hq]
      exact hD i (by omega)
set_option maxRecDepth 100000 in
set_option maxHeartbeats 4000000 in
theorem ns_16 {ro : Nat → Option am_C} {c : Bool} {a : Nat → Nat → Int32} {l : Nat → Int64} {f : Nat → Nat → Int32} {n : Nat} {kk : Int32} (hn : n ≤ 20) (en : f 32 5 = nI n) : ∀ (m k : Nat), k + m = n → am_T ro 2 98 30 [.ref 32, .ref 1, .int kk, .int (nI k)] [] (wd c a l f) (fun r hp' => r = some (.int (ft (fun i => decide (rk (a 36) i 0 n 0 = kk)) k m)) ∧ hp' = wd c a l f) := by
  intro m
  induction m with
  | zero =>
    intro k h
    refine am_wp_ok (inl := []) 8 2 98 [] _ _ _ _ _ ?_
    refine am_br_t (show f 32 5 ≤ nI k by rw [en]; exact nI_le (by omega) (by omega)) ?_
    exact And.intro rfl rfl
  | succ m ih =>
    intro k h
    refine am_wp_ok (inl := []) 6 2 98 [38] _ _ _ _ _ ?_
    refine am_br_f (show ¬ f 32 5 ≤ nI k by rw [en]; exact nI_ge (by omega) (by omega)) ?_
    show am_T ro 2 98 38 [.ref 32, .ref 1, .int kk, .int (nI k)] [] (wd c a l f) _
    refine am_wp_ok (inl := []) 6 2 98 [43] _ _ _ _ _ ?_
    refine ⟨_, _, am_run_up (cs_rank_16 hn (show k < n by omega) en) (by decide), ?_⟩
    show am_T ro 2 98 43 [.ref 32, .ref 1, .int kk, .int (nI k)] [.int (rk (a 36) k 0 n 0)] (wd c a l f) _
    refine am_wp_ok (inl := []) 6 2 98 [49] _ _ _ _ _ ?_
    by_cases hq : rk (a 36) k 0 n 0 = kk
    · refine am_br_f (fun z => z hq) ?_
      rw [ft_t (decide_eq_true hq)]
      exact And.intro rfl rfl
    · refine am_br_t hq ?_
      show am_T ro 2 98 49 [.ref 32, .ref 1, .int kk, .int (nI k)] [] (wd c a l f) _
      rw [ft_f (decide_eq_false hq)]
      refine am_wp_ok (inl := []) 4 2 98 [30] _ _ _ _ _ ?_
      show am_T ro 2 98 30 [.ref 32, .ref 1, .int kk, .int (nI k + 1)] [] (wd c a l f) _
      rw [nI_1]
      exact ih (k + 1) (by omega)
set_option maxRecDepth 100000 in
set_option maxHeartbeats 4000000 in
theorem cs_nt_16 {ro : Nat → Option am_C} {c : Bool} {a : Nat → Nat → Int32} {l : Nat → Int64} {f : Nat → Nat → Int32} {s t n : Nat} {kk : Int32} {dd : Nat → Int32} (h2 : f 1 2 = nI s) (h3 : f 1 3 = nI t) (hst : s ≤ t) (ht : t ≤ 900) (hn : n ≤ 20) (en : f 32 5 = nI n) (hdd : ∀ i, i < n → ∃ m : Nat, m ≤ 8 ∧ a 34 i = nI m ∧ ∀ R : Nat → Int32, eo (fun x y => decide (a 2 (s + (x - 1)) = a 35 (8 * i + (y - 1)))) m (t - s) 1 (fl 0 (m + 1) R) m = dd i) : ∃ D R : Nat → Int32, (∀ i, i < n → D i = dd i) ∧ am_run ro 3 98 [.ref 32, .ref 1, .int kk] (wd c a l f) (some (.int (ft (fun i => decide (rk dd i 0 n 0 = kk)) 0 n))) (wd c (u2 (u2 a 36 D) 37 R) l f) := by
  have h0 : am_T ro 2 98 0 (am_l0 98 [.ref 32, .ref 1, .int kk]) [] (wd c a l f) (fun r hp' => ∃ D R : Nat → Int32, (∀ i, i < n → D i = dd i) ∧ r = some (.int (ft (fun i => decide (rk dd i 0 n 0 = kk)) 0 n)) ∧ hp' = wd c (u2 (u2 a 36 D) 37 R) l f) := by
    refine am_wp_ok (inl := []) 4 2 98 [2] _ _ _ _ _ ?_
    show am_T ro 2 98 2 [.ref 32, .ref 1, .int kk, .int (nI 0)] [] (wd c a l f) _
    have hw : wd c a l f = wd c (u2 (u2 a 36 (a 36)) 37 (a 37)) l f := by
      rw [u2_id, u2_id]
    rw [hw]
    refine nf_16 h2 h3 hst ht hn en hdd n 0 _ _ (by omega) (fun i hi => absurd hi (by omega)) (fun D R hD => ?_)
    refine am_wp_ok (inl := []) 4 2 98 [30] _ _ _ _ _ ?_
    show am_T ro 2 98 30 [.ref 32, .ref 1, .int kk, .int (nI 0)] [] (wd c (u2 (u2 a 36 D) 37 R) l f) _
    refine am_T.mono (ns_16 (a := u2 (u2 a 36 D) 37 R) hn en n 0 (by omega)) (fun r hp' g => ?_)
    refine ⟨D, R, hD, ?_, g.2⟩
    rw [g.1]
    refine congrArg (fun z => some (Value.int z)) (ft_eq n 0 (fun i _ hi => ?_))
    show decide (rk D i 0 n 0 = kk) = _
    rw [rk_eq (D' := dd) n 0 0 (hD i (by omega)) (fun p hp => hD p (by omega))]
  obtain ⟨r, hp', g1, D, R, g2, rfl, rfl⟩ := am_run_ex rfl h0
  exact ⟨D, R, g2, g1⟩
set_option maxRecDepth 100000 in
set_option maxHeartbeats 4000000 in
theorem nf_38 {ro : Nat → Option am_C} {c : Bool} {a : Nat → Nat → Int32} {l : Nat → Int64} {f : Nat → Nat → Int32} {s t n : Nat} {kk : Int32} {dd : Nat → Int32} {K : Option Value → am_H → Prop} (h2 : f 1 2 = nI s) (h3 : f 1 3 = nI t) (hst : s ≤ t) (ht : t ≤ 900) (hn : n ≤ 20) (en : f 54 5 = nI n) (hdd : ∀ i, i < n → ∃ m : Nat, m ≤ 8 ∧ a 56 i = nI m ∧ ∀ R : Nat → Int32, eo (fun x y => decide (a 2 (s + (x - 1)) = a 57 (8 * i + (y - 1)))) m (t - s) 1 (fl 0 (m + 1) R) m = dd i) : ∀ (m k : Nat) (D R : Nat → Int32), k + m = n → (∀ i, i < k → D i = dd i) → (∀ D' R' : Nat → Int32, (∀ i, i < n → D' i = dd i) → am_T ro 2 98 28 [.ref 54, .ref 1, .int kk, .int (nI n)] [] (wd c (u2 (u2 a 58 D') 59 R') l f) K) → am_T ro 2 98 2 [.ref 54, .ref 1, .int kk, .int (nI k)] [] (wd c (u2 (u2 a 58 D) 59 R) l f) K := by
  intro m
  induction m with
  | zero =>
    intro k D R h hD kq
    refine am_wp_ok (inl := []) 6 2 98 [28] _ _ _ _ _ ?_
    refine am_br_t (show f 54 5 ≤ nI k by rw [en]; exact nI_le (by omega) (by omega)) ?_
    have e : k = n := by omega
    subst e
    exact kq D R hD
  | succ m ih =>
    intro k D R h hD kq
    refine am_wp_ok (inl := []) 6 2 98 [10] _ _ _ _ _ ?_
    refine am_br_f (show ¬ f 54 5 ≤ nI k by rw [en]; exact nI_ge (by omega) (by omega)) ?_
    show am_T ro 2 98 10 [.ref 54, .ref 1, .int kk, .int (nI k)] [] (wd c (u2 (u2 a 58 D) 59 R) l f) K
    obtain ⟨m', hm', em, hd⟩ := hdd k (by omega)
    have hr : ∃ R1 : Nat → Int32, am_run ro 2 99 [.ref 54, .int (nI k), .ref 1] (wd c (u2 (u2 a 58 D) 59 R) l f) (some (.int (dd k))) (wd c (u2 (u2 a 58 D) 59 R1) l f) := by
      have h0 := cs_dist_38 (ro := ro) (c := c) (a := u2 (u2 a 58 D) 59 R) (l := l) (f := f) h2 h3 hst ht (show k < 20 by omega) hm' em
      rw [u2_u2] at h0
      rw [← hd R]
      exact ⟨_, h0⟩
    obtain ⟨R1, hr⟩ := hr
    refine am_wp_ok (inl := []) 10 2 98 [21] _ _ _ _ _ ?_
    refine ⟨_, _, hr, ?_⟩
    show am_T ro 2 98 21 [.ref 54, .ref 1, .int kk, .int (nI k)] [.int (dd k), .int (nI k), .ref 58] (wd c (u2 (u2 a 58 D) 59 R1) l f) K
    refine am_wp_ok (inl := []) 3 2 98 [22] _ _ _ _ _ ?_
    refine And.intro (vp_in_nI (by omega) (by decide)) ?_
    show am_T ro 2 98 22 [.ref 54, .ref 1, .int kk, .int (nI k)] [] ((wd c (u2 (u2 a 58 D) 59 R1) l f).set 58 (.inl (.int, 20, .inl (upd D (nI k).toNatClampNeg (dd k))))) K
    rw [ws_58, u2_cm 59 58 rfl, u2_u2, nI_clamp (show k < 2 ^ 31 by omega)]
    refine am_wp_ok (inl := []) 4 2 98 [2] _ _ _ _ _ ?_
    show am_T ro 2 98 2 [.ref 54, .ref 1, .int kk, .int (nI k + 1)] [] (wd c (u2 (u2 a 58 (upd D k (dd k))) 59 R1) l f) K
    rw [nI_1]
    refine ih (k + 1) _ _ (by omega) (fun i hi => ?_) kq
    by_cases hq : i = k
    · rw [hq, upd_same]
    · rw [upd_ne hq]
      exact hD i (by omega)
set_option maxRecDepth 100000 in
set_option maxHeartbeats 4000000 in
theorem ns_38 {ro : Nat → Option am_C} {c : Bool} {a : Nat → Nat → Int32} {l : Nat → Int64} {f : Nat → Nat → Int32} {n : Nat} {kk : Int32} (hn : n ≤ 20) (en : f 54 5 = nI n) : ∀ (m k : Nat), k + m = n → am_T ro 2 98 30 [.ref 54, .ref 1, .int kk, .int (nI k)] [] (wd c a l f) (fun r hp' => r = some (.int (ft (fun i => decide (rk (a 58) i 0 n 0 = kk)) k m)) ∧ hp' = wd c a l f) := by
  intro m
  induction m with
  | zero =>
    intro k h
    refine am_wp_ok (inl := []) 8 2 98 [] _ _ _ _ _ ?_
    refine am_br_t (show f 54 5 ≤ nI k by rw [en]; exact nI_le (by omega) (by omega)) ?_
    exact And.intro rfl rfl
  | succ m ih =>
    intro k h
    refine am_wp_ok (inl := []) 6 2 98 [38] _ _ _ _ _ ?_
    refine am_br_f (show ¬ f 54 5 ≤ nI k by rw [en]; exact nI_ge (by omega) (by omega)) ?_
    show am_T ro 2 98 38 [.ref 54, .ref 1, .int kk, .int (nI k)] [] (wd c a l f) _
    refine am_wp_ok (inl := []) 6 2 98 [43] _ _ _ _ _ ?_
    refine ⟨_, _, am_run_up (cs_rank_38 hn (show k < n by omega) en) (by decide), ?_⟩
    show am_T ro 2 98 43 [.ref 54, .ref 1, .int kk, .int (nI k)] [.int (rk (a 58) k 0 n 0)] (wd c a l f) _
    refine am_wp_ok (inl := []) 6 2 98 [49] _ _ _ _ _ ?_
    by_cases hq : rk (a 58) k 0 n 0 = kk
    · refine am_br_f (fun z => z hq) ?_
      rw [ft_t (decide_eq_true hq)]
      exact And.intro rfl rfl
    · refine am_br_t hq ?_
      show am_T ro 2 98 49 [.ref 54, .ref 1, .int kk, .int (nI k)] [] (wd c a l f) _
      rw [ft_f (decide_eq_false hq)]
      refine am_wp_ok (inl := []) 4 2 98 [30] _ _ _ _ _ ?_
      show am_T ro 2 98 30 [.ref 54, .ref 1, .int kk, .int (nI k + 1)] [] (wd c a l f) _
      rw [nI_1]
      exact ih (k + 1) (by omega)
set_option maxRecDepth 100000 in
set_option maxHeartbeats 4000000 in
theorem cs_nt_38 {ro : Nat → Option am_C} {c : Bool} {a : Nat → Nat → Int32} {l : Nat → Int64} {f : Nat → Nat → Int32} {s t n : Nat} {kk : Int32} {dd : Nat → Int32} (h2 : f 1 2 = nI s) (h3 : f 1 3 = nI t) (hst : s ≤ t) (ht : t ≤ 900) (hn : n ≤ 20) (en : f 54 5 = nI n) (hdd : ∀ i, i < n → ∃ m : Nat, m ≤ 8 ∧ a 56 i = nI m ∧ ∀ R : Nat → Int32, eo (fun x y => decide (a 2 (s + (x - 1)) = a 57 (8 * i + (y - 1)))) m (t - s) 1 (fl 0 (m + 1) R) m = dd i) : ∃ D R : Nat → Int32, (∀ i, i < n → D i = dd i) ∧ am_run ro 3 98 [.ref 54, .ref 1, .int kk] (wd c a l f) (some (.int (ft (fun i => decide (rk dd i 0 n 0 = kk)) 0 n))) (wd c (u2 (u2 a 58 D) 59 R) l f) := by
  have h0 : am_T ro 2 98 0 (am_l0 98 [.ref 54, .ref 1, .int kk]) [] (wd c a l f) (fun r hp' => ∃ D R : Nat → Int32, (∀ i, i < n → D i = dd i) ∧ r = some (.int (ft (fun i => decide (rk dd i 0 n 0 = kk)) 0 n)) ∧ hp' = wd c (u2 (u2 a 58 D) 59 R) l f) := by
    refine am_wp_ok (inl := []) 4 2 98 [2] _ _ _ _ _ ?_
    show am_T ro 2 98 2 [.ref 54, .ref 1, .int kk, .int (nI 0)] [] (wd c a l f) _
    have hw : wd c a l f = wd c (u2 (u2 a 58 (a 58)) 59 (a 59)) l f := by
      rw [u2_id, u2_id]
    rw [hw]
    refine nf_38 h2 h3 hst ht hn en hdd n 0 _ _ (by omega) (fun i hi => absurd hi (by omega)) (fun D R hD => ?_)
    refine am_wp_ok (inl := []) 4 2 98 [30] _ _ _ _ _ ?_
    show am_T ro 2 98 30 [.ref 54, .ref 1, .int kk, .int (nI 0)] [] (wd c (u2 (u2 a 58 D) 59 R) l f) _
    refine am_T.mono (ns_38 (a := u2 (u2 a 58 D) 59 R) hn en n 0 (by omega)) (fun r hp' g => ?_)
    refine ⟨D, R, hD, ?_, g.2⟩
    rw [g.1]
    refine congrArg (fun z => some (Value.int z)) (ft_eq n 0 (fun i _ hi => ?_))
    show decide (rk D i 0 n 0 = kk) = _
    rw [rk_eq (D' := dd) n 0 0 (hD i (by omega)) (fun p hp => hD p (by omega))]
  obtain ⟨r, hp', g1, D, R, g2, rfl, rfl⟩ := am_run_ex rfl h0
  exact ⟨D, R, g2, g1⟩
set_option maxRecDepth 100000 in
set_option maxHeartbeats 4000000 in
theorem mf {ro : Nat → Option am_C} {c : Bool} {a : Nat → Nat → Int32} {l : Nat → Int64} {f : Nat → Nat → Int32} {n v T : Nat} {kk : Int32} {X2 X6 X7 : Value} {dd : Nat → Int32} {K : Option Value → am_H → Prop} (hv : v < 27 ^ 8) (hT : dc 8 v = T) (hT8 : T ≤ 8) (hn : n ≤ 20) (en : a 62 5 = nI n) (hdd : ∀ i, i < n → ∃ w m : Nat, w < 27 ^ 8 ∧ dc 8 w = m ∧ m ≤ 8 ∧ l i = lN w ∧ ∀ R : Nat → Int32, eo (fun x y => decide (v / 27 ^ (T - x) % 27 = w / 27 ^ (m - y) % 27)) m T 1 (fl 0 (m + 1) R) m = dd i) : ∀ (m k : Nat) (D R : Nat → Int32), k + m = n → (∀ i, i < k → D i = dd i) → (∀ D' R' : Nat → Int32, (∀ i, i < n → D' i = dd i) → am_T ro 2 132 84 [.ref 60, .int kk, X2, .long (lN v), am_un, .int (nI n), X6, X7] [] (wd c (u2 (u2 a 81 D') 80 R') l f) K) → am_T ro 2 132 48 [.ref 60, .int kk, X2, .long (lN v), am_un, .int (nI k), X6, X7] [] (wd c (u2 (u2 a 81 D) 80 R) l f) K := by
  have h5 : vp_in (nI 5) 12 := vp_in_nI (by decide) (by decide)
  intro m
  induction m with
  | zero =>
    intro k D R h hD kq
    refine am_wp_ok (inl := []) 8 2 132 [84] _ _ _ _ _ ?_
    refine And.intro h5 ?_
    refine am_br_t (show a 62 5 ≤ nI k by rw [en]; exact nI_le (by omega) (by omega)) ?_
    have e : k = n := by omega
    subst e
    exact kq D R hD
  | succ m ih =>
    intro k D R h hD kq
    refine am_wp_ok (inl := []) 8 2 132 [59] _ _ _ _ _ ?_
    refine And.intro h5 ?_
    refine am_br_f (show ¬ a 62 5 ≤ nI k by rw [en]; exact nI_ge (by omega) (by omega)) ?_
    show am_T ro 2 132 59 [.ref 60, .int kk, X2, .long (lN v), am_un, .int (nI k), X6, X7] [] (wd c (u2 (u2 a 81 D) 80 R) l f) K
    obtain ⟨w, m', hw, hm, hm8, el, hd⟩ := hdd k (by omega)
    have hr : ∃ R1 : Nat → Int32, am_run ro 2 133 [.ref 60, .long (lN v), .long (lN w)] (wd c (u2 (u2 a 81 D) 80 R) l f) (some (.int (dd k))) (wd c (u2 (u2 a 81 D) 80 R1) l f) := by
      have h0 := mo_edits (ro := ro) (c := c) (a := u2 (u2 a 81 D) 80 R) (l := l) (f := f) hv hw hT hm hT8 hm8
      rw [u2_u2] at h0
      rw [← hd R]
      exact ⟨_, h0⟩
    obtain ⟨R1, hr⟩ := hr
    refine am_wp_ok (inl := []) 10 2 132 [74] _ _ _ _ _ ?_
    refine And.intro (vp_in_nI (by omega) (by decide)) ?_
    show am_T ro 2 132 74 [.ref 60, .int kk, X2, .long (lN v), am_un, .int (nI k), X6, X7] [.long (l (nI k).toNatClampNeg), .long (lN v), .ref 60, .int (nI k), .ref 81] (wd c (u2 (u2 a 81 D) 80 R) l f) K
    rw [nI_clamp (show k < 2 ^ 31 by omega), el]
    refine am_wp_ok (inl := []) 3 2 132 [77] _ _ _ _ _ ?_
    refine ⟨_, _, hr, ?_⟩
    show am_T ro 2 132 77 [.ref 60, .int kk, X2, .long (lN v), am_un, .int (nI k), X6, X7] [.int (dd k), .int (nI k), .ref 81] (wd c (u2 (u2 a 81 D) 80 R1) l f) K
    refine am_wp_ok (inl := []) 3 2 132 [78] _ _ _ _ _ ?_
    refine And.intro (vp_in_nI (by omega) (by decide)) ?_
    show am_T ro 2 132 78 [.ref 60, .int kk, X2, .long (lN v), am_un, .int (nI k), X6, X7] [] ((wd c (u2 (u2 a 81 D) 80 R1) l f).set 81 (.inl (.int, 20, .inl (upd D (nI k).toNatClampNeg (dd k))))) K
    rw [ws_81, u2_cm 80 81 rfl, u2_u2, nI_clamp (show k < 2 ^ 31 by omega)]
    refine am_wp_ok (inl := []) 4 2 132 [48] _ _ _ _ _ ?_
    show am_T ro 2 132 48 [.ref 60, .int kk, X2, .long (lN v), am_un, .int (nI k + 1), X6, X7] [] (wd c (u2 (u2 a 81 (upd D k (dd k))) 80 R1) l f) K
    rw [nI_1]
    refine ih (k + 1) _ _ (by omega) (fun i hi => ?_) kq
    by_cases hq : i = k
    · rw [hq, upd_same]
    · rw [upd_ne hq]
      exact hD i (by omega)
set_option maxRecDepth 100000 in
set_option maxHeartbeats 4000000 in
theorem ms {ro : Nat → Option am_C} {c : Bool} {a : Nat → Nat → Int32} {l : Nat → Int64} {f : Nat → Nat → Int32} {n v : Nat} {kk : Int32} {X2 : Value} (hn : n ≤ 20) (en : a 62 5 = nI n) : ∀ (m k : Nat) (X6 X7 : Value), Nat.beq X6.category 1 = true → Nat.beq X7.category 1 = true → k + m = n → am_T ro 2 132 87 [.ref 60, .int kk, X2, .long (lN v), am_un, .int (nI k), X6, X7] [] (wd c a l f) (fun r hp' => r = some (.int (ft (fun i => decide (rk (a 81) i 0 n 0 = kk)) k m)) ∧ hp' = wd c a l f) := by
  have h5 : vp_in (nI 5) 12 := vp_in_nI (by decide) (by decide)
  intro m
  induction m with
  | zero =>
    intro k X6 X7 g6 g7 h
    refine am_wp_ok (inl := []) 9 2 132 [] _ _ _ _ _ ?_
    refine And.intro h5 ?_
    refine am_br_t (show a 62 5 ≤ nI k by rw [en]; exact nI_le (by omega) (by omega)) ?_
    exact And.intro rfl rfl
  | succ m ih =>
    intro k X6 X7 g6 g7 h
    refine am_wp_ok (inl := []) 8 2 132 [98] _ _ _ _ _ ?_
    refine And.intro h5 ?_
    refine am_br_f (show ¬ a 62 5 ≤ nI k by rw [en]; exact nI_ge (by omega) (by omega)) ?_
    show am_T ro 2 132 98 [.ref 60, .int kk, X2, .long (lN v), am_un, .int (nI k), X6, X7] [] (wd c a l f) _
    refine am_wp_ok (inl := []) 6 2 132 [104] _ _ _ _ _ ?_
    show am_T ro 2 132 104 [.ref 60, .int kk, X2, .long (lN v), am_un, .int (nI k), .int 0, .int (nI 0)] [] (wd c a l f) _
    refine mr_loop hn (show k < n by omega) en n 0 0 (by omega) ?_
    refine am_wp_ok (inl := []) 6 2 132 [181] _ _ _ _ _ ?_
    by_cases hq : rk (a 81) k 0 n 0 = kk
    · refine am_br_f (fun z => z hq) ?_
      rw [ft_t (decide_eq_true hq)]
      exact And.intro rfl rfl
    · refine am_br_t hq ?_
      show am_T ro 2 132 181 [.ref 60, .int kk, X2, .long (lN v), am_un, .int (nI k), .int (rk (a 81) k 0 n 0), .int (nI n)] [] (wd c a l f) _
      rw [ft_f (decide_eq_false hq)]
      refine am_wp_ok (inl := []) 4 2 132 [87] _ _ _ _ _ ?_
      show am_T ro 2 132 87 [.ref 60, .int kk, X2, .long (lN v), am_un, .int (nI k + 1), .int (rk (a 81) k 0 n 0), .int (nI n)] [] (wd c a l f) _
      rw [nI_1]
      exact ih (k + 1) _ _ rfl rfl (by omega)
