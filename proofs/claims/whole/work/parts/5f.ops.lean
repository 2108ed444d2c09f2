/-! near and edits: the calls -/
theorem sk_in {b : Nat → Bool} : ∀ (m i k : Nat), i ≤ k → k < sk b i m → b k = true := by
  intro m
  induction m with
  | zero => intro i k h1 h2; exact absurd h2 (by show ¬ k < i; omega)
  | succ m ih =>
    intro i k h1 h2
    cases e : b i with
    | false => rw [sk_f e] at h2; omega
    | true =>
      rw [sk_t e] at h2
      by_cases hq : k = i
      · rw [hq]; exact e
      · exact ih (i + 1) k (by omega) h2
theorem al_all {p : Nat → Bool} : ∀ (m k : Nat), al p k m = true → ∀ q, k ≤ q → q < k + m → p q = true := by
  intro m
  induction m with
  | zero => intro k _ q h1 h2; omega
  | succ m ih =>
    intro k h q h1 h2
    have h' : (p k && al p (k + 1) m) = true := h
    rw [Bool.and_eq_true] at h'
    by_cases hq : q = k
    · rw [hq]; exact h'.1
    · exact ih (k + 1) h'.2 q (by omega) (by omega)
theorem nm_t {u : Nat → Nat} {T : Nat} (h : nm u T = true) : 1 ≤ T ∧ T ≤ 8 ∧ ∀ q, q < T → 97 ≤ u q ∧ u q ≤ 122 := by
  unfold nm at h
  rw [Bool.and_eq_true, Bool.and_eq_true] at h
  obtain ⟨⟨h1, h2⟩, h3⟩ := h
  refine ⟨of_decide_eq_true h1, of_decide_eq_true h2, fun q hq => ?_⟩
  have := al_all T 0 h3 q (by omega) (by omega)
  unfold lz at this
  rw [Bool.and_eq_true] at this
  exact ⟨of_decide_eq_true this.1, of_decide_eq_true this.2⟩
theorem nm_0 {u : Nat → Nat} : nm u 0 = false := rfl
/-- a byte of the text -/
def uy (a : Nat → Nat → Int32) (i : Nat) : Nat := (a 61 i).toNatClampNeg
theorem wd_by {a : Nat → Nat → Int32} {n j : Nat} (hn : n ≤ 900) (h : ∀ i, i < n → ∃ u : Nat, u < 256 ∧ a 61 i = nI u ∧ a 2 i = nI (if u = 10 then 32 else u)) (hj : j ≤ n) : ∀ q, q < we (bm a) n j - ws (bm a) n j → a 2 (ws (bm a) n j + q) = nI (uy a (ws (bm a) n j + q)) ∧ a 61 (ws (bm a) n j + q) = nI (uy a (ws (bm a) n j + q)) ∧ uy a (ws (bm a) n j + q) < 256 ∧ ¬ uy a (ws (bm a) n j + q) = 32 ∧ ¬ uy a (ws (bm a) n j + q) = 10 := by
  intro q hq
  have g1 := ws_le (b := bm a) hj
  have g2 := we_le (b := bm a) hj
  obtain ⟨u, hu, e1, e2⟩ := h (ws (bm a) n j + q) (by omega)
  have e3 : uy a (ws (bm a) n j + q) = u := by
    unfold uy
    rw [e1, nI_clamp (by omega)]
  have hb : (!bm a (ws (bm a) n j + q)) = true := sk_in (b := fun k => !bm a k) (n - ws (bm a) n j) (ws (bm a) n j) (ws (bm a) n j + q) (by omega) (show ws (bm a) n j + q < we (bm a) n j by omega)
  replace hb : (!(decide (a 61 (ws (bm a) n j + q) = nI 32) || decide (a 61 (ws (bm a) n j + q) = nI 10))) = true := hb
  rw [e1] at hb
  have n32 : ¬ u = 32 := by
    intro z
    subst z
    exact absurd hb (by decide)
  have n10 : ¬ u = 10 := by
    intro z
    subst z
    exact absurd hb (by decide)
  rw [e3]
  rw [if_neg n10] at e2
  exact ⟨e2, e1, hu, n32, n10⟩
set_option maxRecDepth 100000 in
set_option maxHeartbeats 4000000 in
theorem cs_nr_f {ro : Nat → Option am_C} {c : Bool} {a : Nat → Nat → Int32} {l : Nat → Int64} {f : Nat → Nat → Int32} {n : Nat} {kk : Int32} {u : Nat → Nat} (hn : n ≤ 900) (h1 : f 1 1 = nI n) (hu : ∀ q, q < we (bl a) n 0 - ws (bl a) n 0 → a 2 (ws (bl a) n 0 + q) = nI (u q) ∧ u q < 256) (hnm : nm u (we (bl a) n 0 - ws (bl a) n 0) = false) : am_run ro 4 14 [.ref 0, .int kk] (wd c a l f) (some (.int (-1))) (wd c a l (u3 (u3 (u3 f 1 2 (nI (ws (bl a) n 0))) 1 3 (nI (we (bl a) n 0))) 1 4 0)) := by
  have g1 := ws_le (b := bl a) (n := n) (j := 0) (by omega)
  have g2 := we_le (b := bl a) (n := n) (j := 0) (by omega)
  cases c
  all_goals
    refine am_run_of rfl (am_wp_ok (inl := []) 5 3 14 [7] 0 _ _ _ _ ?_)
    refine ⟨_, _, am_run_up (cs_first hn h1) (by decide), ?_⟩
    show am_T ro 3 14 7 [.ref 0, .int kk] [] (wd _ a l (u3 (u3 (u3 f 1 2 (nI (ws (bl a) n 0))) 1 3 (nI (we (bl a) n 0))) 1 4 0)) _
    refine am_wp_ok (inl := []) 5 3 14 [14] _ _ _ _ _ ?_
    refine ⟨_, _, am_run_up (cs_name (f := (u3 (u3 (u3 f 1 2 (nI (ws (bl a) n 0))) 1 3 (nI (we (bl a) n 0))) 1 4 0)) rfl rfl g2.1 (by omega) hu) (by decide), ?_⟩
    show am_T ro 3 14 14 [.ref 0, .int kk] [.int (nI (nm u (we (bl a) n 0 - ws (bl a) n 0)).toNat)] (wd _ a l (u3 (u3 (u3 f 1 2 (nI (ws (bl a) n 0))) 1 3 (nI (we (bl a) n 0))) 1 4 0)) _
    rw [hnm]
    refine am_wp_ok (inl := []) 6 3 14 [19] _ _ _ _ _ ?_
    refine am_br_f (show ¬ ¬ nI 0 = 0 from fun z => z rfl) ?_
    exact And.intro rfl rfl
set_option maxRecDepth 100000 in
set_option maxHeartbeats 4000000 in
theorem cs_nr_t {ro : Nat → Option am_C} {c : Bool} {a : Nat → Nat → Int32} {l : Nat → Int64} {f : Nat → Nat → Int32} {n nn : Nat} {kk : Int32} {u : Nat → Nat} {dd : Nat → Int32} (hn : n ≤ 900) (h1 : f 1 1 = nI n) (hu : ∀ q, q < we (bl a) n 0 - ws (bl a) n 0 → a 2 (ws (bl a) n 0 + q) = nI (u q) ∧ u q < 256) (hnm : nm u (we (bl a) n 0 - ws (bl a) n 0) = true) (hnn : nn ≤ 20) (en : f (ob c + 16) 5 = nI nn) (hdd : ∀ i, i < nn → ∃ m : Nat, m ≤ 8 ∧ a (ob c + 18) i = nI m ∧ ∀ R : Nat → Int32, eo (fun x y => decide (a 2 (ws (bl a) n 0 + (x - 1)) = a (ob c + 19) (8 * i + (y - 1)))) m (we (bl a) n 0 - ws (bl a) n 0) 1 (fl 0 (m + 1) R) m = dd i) : ∃ D R : Nat → Int32, (∀ i, i < nn → D i = dd i) ∧ am_run ro 4 14 [.ref 0, .int kk] (wd c a l f) (some (.int (ft (fun i => decide (rk dd i 0 nn 0 = kk)) 0 nn))) (wd c (u2 (u2 a (ob c + 20) D) (ob c + 21) R) l (u3 (u3 (u3 f 1 2 (nI (ws (bl a) n 0))) 1 3 (nI (we (bl a) n 0))) 1 4 0)) := by
  have g1 := ws_le (b := bl a) (n := n) (j := 0) (by omega)
  have g2 := we_le (b := bl a) (n := n) (j := 0) (by omega)
  have hs : ∀ c' : Bool, ∀ K : Option Value → am_H → Prop, am_T ro 3 14 19 [.ref 0, .int kk] [] (wd c' a l (u3 (u3 (u3 f 1 2 (nI (ws (bl a) n 0))) 1 3 (nI (we (bl a) n 0))) 1 4 0)) K → am_T ro 3 14 0 [.ref 0, .int kk] [] (wd c' a l f) K := by
    intro c' K kq
    refine am_wp_ok (inl := []) 5 3 14 [7] _ _ _ _ _ ?_
    refine ⟨_, _, am_run_up (cs_first hn h1) (by decide), ?_⟩
    show am_T ro 3 14 7 [.ref 0, .int kk] [] (wd c' a l (u3 (u3 (u3 f 1 2 (nI (ws (bl a) n 0))) 1 3 (nI (we (bl a) n 0))) 1 4 0)) _
    refine am_wp_ok (inl := []) 5 3 14 [14] _ _ _ _ _ ?_
    refine ⟨_, _, am_run_up (cs_name (f := (u3 (u3 (u3 f 1 2 (nI (ws (bl a) n 0))) 1 3 (nI (we (bl a) n 0))) 1 4 0)) rfl rfl g2.1 (by omega) hu) (by decide), ?_⟩
    show am_T ro 3 14 14 [.ref 0, .int kk] [.int (nI (nm u (we (bl a) n 0 - ws (bl a) n 0)).toNat)] (wd c' a l (u3 (u3 (u3 f 1 2 (nI (ws (bl a) n 0))) 1 3 (nI (we (bl a) n 0))) 1 4 0)) _
    rw [hnm]
    refine am_wp_ok (inl := []) 3 3 14 [19] _ _ _ _ _ ?_
    exact am_br_t (show ¬ nI 1 = 0 by decide) kq
  cases c
  · obtain ⟨D, R, g3, g4⟩ := cs_nt_16 (ro := ro) (c := false) (a := a) (l := l) (f := (u3 (u3 (u3 f 1 2 (nI (ws (bl a) n 0))) 1 3 (nI (we (bl a) n 0))) 1 4 0)) (kk := kk) rfl rfl g2.1 (by omega) hnn en hdd
    refine ⟨D, R, g3, am_run_of rfl (hs false _ ?_)⟩
    refine am_wp_ok (inl := []) 10 3 14 [34] _ _ _ _ _ ?_
    refine ⟨_, _, g4, ?_⟩
    refine am_wp_ok (inl := []) 2 3 14 [] _ _ _ _ _ ?_
    exact And.intro rfl rfl
  · obtain ⟨D, R, g3, g4⟩ := cs_nt_38 (ro := ro) (c := true) (a := a) (l := l) (f := (u3 (u3 (u3 f 1 2 (nI (ws (bl a) n 0))) 1 3 (nI (we (bl a) n 0))) 1 4 0)) (kk := kk) rfl rfl g2.1 (by omega) hnn en hdd
    refine ⟨D, R, g3, am_run_of rfl (hs true _ ?_)⟩
    refine am_wp_ok (inl := []) 10 3 14 [34] _ _ _ _ _ ?_
    refine ⟨_, _, g4, ?_⟩
    refine am_wp_ok (inl := []) 2 3 14 [] _ _ _ _ _ ?_
    exact And.intro rfl rfl
/-! the reference's nearest -/
set_option maxRecDepth 100000 in
set_option maxHeartbeats 4000000 in
theorem mo_n22 {ro : Nat → Option am_C} {c : Bool} {a : Nat → Nat → Int32} {l : Nat → Int64} {f : Nat → Nat → Int32} {n : Nat} {kk : Int32} {u : Nat → Nat} {K : Option Value → am_H → Prop} (hn : n ≤ 900) (h1 : f 60 1 = nI n) (hu : ∀ q, q < we (bm a) n 0 - ws (bm a) n 0 → a 61 (ws (bm a) n 0 + q) = nI (u q) ∧ u q < 256) (kq : ∀ b : Int32, am_T ro 2 132 22 [.ref 60, .int kk, .int b, am_un, am_un, am_un, am_un, am_un] [.long (bif nm u (we (bm a) n 0 - ws (bm a) n 0) then lN (pf u 0 (we (bm a) n 0 - ws (bm a) n 0) 0) else 0)] (wd c a l (u3 (u3 (u3 f 60 3 0) 60 2 (nI (ws (bm a) n 0))) 60 3 (nI (we (bm a) n 0)))) K) : am_T ro 2 132 0 (am_l0 132 [.ref 60, .int kk]) [] (wd c a l f) K := by
  have g1 := ws_le (b := bm a) (n := n) (j := 0) (by omega)
  have g2 := we_le (b := bm a) (n := n) (j := 0) (by omega)
  refine am_wp_ok (inl := []) 4 2 132 [5] _ _ _ _ _ ?_
  show am_T ro 2 132 5 [.ref 60, .int kk, am_un, am_un, am_un, am_un, am_un, am_un] [] ((wd c a l f).set 60 (.inr (10, [.ref 61, .int (f 60 1), .int (f 60 2), .int (f 60 3), .ref 62, .ref 63, .ref 64, .ref 65, .ref 66, .ref 67, .ref 68, .ref 69, .ref 70, .ref 71, .ref 72, .ref 73, .ref 74, .ref 75, .int (f 60 18), .ref 76, .ref 77, .ref 78, .ref 79, .int (f 60 23), .ref 80, .ref 81, .int (f 60 26), .int (f 60 27), .int (f 60 28)].set 3 (.int 0)))) _
  rw [wf_60_3]
  refine am_wp_ok (inl := []) 3 2 132 [9] _ _ _ _ _ ?_
  refine ⟨_, _, mo_next (f := u3 f 60 3 0) (j := 0) hn (show f 60 1 = nI n from h1) rfl (by omega), ?_⟩
  show am_T ro 2 132 9 [.ref 60, .int kk, am_un, am_un, am_un, am_un, am_un, am_un] [.int (nI (decide (ws (bm a) n 0 < n)).toNat)] (wd c a l (u3 (u3 (u3 f 60 3 0) 60 2 (nI (ws (bm a) n 0))) 60 3 (nI (we (bm a) n 0)))) _
  by_cases hq : ws (bm a) n 0 < n
  · rw [decide_eq_true hq]
    refine am_wp_ok (inl := []) 4 2 132 [14] _ _ _ _ _ ?_
    refine am_br_f (show ¬ nI 1 = 0 by decide) ?_
    show am_T ro 2 132 14 [.ref 60, .int kk, .int (nI 1), am_un, am_un, am_un, am_un, am_un] [] (wd c a l (u3 (u3 (u3 f 60 3 0) 60 2 (nI (ws (bm a) n 0))) 60 3 (nI (we (bm a) n 0)))) _
    refine am_wp_ok (inl := []) 4 2 132 [22] _ _ _ _ _ ?_
    refine ⟨_, _, am_run_up (mo_nameAt (f := (u3 (u3 (u3 f 60 3 0) 60 2 (nI (ws (bm a) n 0))) 60 3 (nI (we (bm a) n 0)))) rfl rfl g2.1 (by omega) hu) (by decide), ?_⟩
    exact kq (nI 1)
  · rw [decide_eq_false hq]
    have e : we (bm a) n 0 - ws (bm a) n 0 = 0 := by omega
    have kq' := kq (nI 0)
    rw [e, nm_0] at kq'
    refine am_wp_ok (inl := []) 4 2 132 [21] _ _ _ _ _ ?_
    refine am_br_t (show nI 0 = 0 from rfl) ?_
    show am_T ro 2 132 21 [.ref 60, .int kk, .int (nI 0), am_un, am_un, am_un, am_un, am_un] [] (wd c a l (u3 (u3 (u3 f 60 3 0) 60 2 (nI (ws (bm a) n 0))) 60 3 (nI (we (bm a) n 0)))) _
    refine am_wp_ok (inl := []) 2 2 132 [22] _ _ _ _ _ ?_
    exact kq'
set_option maxRecDepth 100000 in
set_option maxHeartbeats 4000000 in
theorem mo_nr_f {ro : Nat → Option am_C} {c : Bool} {a : Nat → Nat → Int32} {l : Nat → Int64} {f : Nat → Nat → Int32} {n : Nat} {kk : Int32} {u : Nat → Nat} (hn : n ≤ 900) (h1 : f 60 1 = nI n) (hu : ∀ q, q < we (bm a) n 0 - ws (bm a) n 0 → a 61 (ws (bm a) n 0 + q) = nI (u q) ∧ u q < 256) (hnm : nm u (we (bm a) n 0 - ws (bm a) n 0) = false) : am_run ro 3 132 [.ref 60, .int kk] (wd c a l f) (some (.int (-1))) (wd c a l (u3 (u3 (u3 f 60 3 0) 60 2 (nI (ws (bm a) n 0))) 60 3 (nI (we (bm a) n 0)))) := by
  refine am_run_of rfl (mo_n22 hn h1 hu (fun b => ?_))
  rw [hnm]
  refine am_wp_ok (inl := []) 10 2 132 [43] _ _ _ _ _ ?_
  refine am_br_t ((lg_cmp_eq _ _).mpr rfl) ?_
  refine am_wp_ok (inl := []) 4 2 132 [] _ _ _ _ _ ?_
  exact And.intro rfl rfl
theorem lN_ne {v : Nat} (h : v < 27 ^ 8) (h0 : ¬ v = 0) : ¬ lN v = 0 := by
  intro z
  have z2 : Int64.ofNat 0 < Int64.ofNat v := (Int64.ofNat_lt_iff_lt (by decide) (by omega)).mpr (by omega)
  have z3 : Int64.ofNat v = Int64.ofNat 0 := z
  rw [z3] at z2
  exact absurd z2 (by decide)
theorem pf_8 {u : Nat → Nat} {T : Nat} (hT : T ≤ 8) (h : ∀ q, q < T → 97 ≤ u q ∧ u q ≤ 122) : pf u 0 T 0 < 27 ^ 8 := Nat.lt_of_lt_of_le (pf_lt T (fun j hj => (h j hj).2)) (Nat.pow_le_pow_right (by decide) hT)
set_option maxRecDepth 100000 in
set_option maxHeartbeats 4000000 in
theorem mo_nr_o {ro : Nat → Option am_C} {c : Bool} {a : Nat → Nat → Int32} {l : Nat → Int64} {f : Nat → Nat → Int32} {n nn : Nat} {kk : Int32} {u : Nat → Nat} (hn : n ≤ 900) (h1 : f 60 1 = nI n) (hu : ∀ q, q < we (bm a) n 0 - ws (bm a) n 0 → a 61 (ws (bm a) n 0 + q) = nI (u q) ∧ u q < 256) (hnm : nm u (we (bm a) n 0 - ws (bm a) n 0) = true) (en : a 62 5 = nI nn) (hk : kk < 0 ∨ nI nn ≤ kk) : am_run ro 3 132 [.ref 60, .int kk] (wd c a l f) (some (.int (-1))) (wd c a l (u3 (u3 (u3 f 60 3 0) 60 2 (nI (ws (bm a) n 0))) 60 3 (nI (we (bm a) n 0)))) := by
  obtain ⟨t1, t2, t3⟩ := nm_t hnm
  refine am_run_of rfl (mo_n22 hn h1 hu (fun b => ?_))
  rw [hnm]
  have fin : am_T ro 2 132 43 [.ref 60, .int kk, .int b, .long (lN (pf u 0 (we (bm a) n 0 - ws (bm a) n 0) 0)), am_un, am_un, am_un, am_un] [] (wd c a l (u3 (u3 (u3 f 60 3 0) 60 2 (nI (ws (bm a) n 0))) 60 3 (nI (we (bm a) n 0)))) (fun r hp' => r = some (.int (-1)) ∧ hp' = wd c a l (u3 (u3 (u3 f 60 3 0) 60 2 (nI (ws (bm a) n 0))) 60 3 (nI (we (bm a) n 0)))) := by
    refine am_wp_ok (inl := []) 4 2 132 [] _ _ _ _ _ ?_
    exact And.intro rfl rfl
  refine am_wp_ok (inl := []) 10 2 132 [29] _ _ _ _ _ ?_
  refine am_br_f (fun z => absurd ((lg_cmp_eq _ _).mp z) (lN_ne (pf_8 t2 t3) (pf_pos (by omega) (fun q hq => (t3 q hq).1)))) ?_
  show am_T ro 2 132 29 [.ref 60, .int kk, .int b, .long (lN (pf u 0 (we (bm a) n 0 - ws (bm a) n 0) 0)), am_un, am_un, am_un, am_un] [] (wd c a l (u3 (u3 (u3 f 60 3 0) 60 2 (nI (ws (bm a) n 0))) 60 3 (nI (we (bm a) n 0)))) _
  refine am_wp_ok (inl := []) 4 2 132 [33, 43] _ _ _ _ _ ?_
  by_cases hq : kk < 0
  · exact am_br_t hq fin
  · refine am_br_f hq ?_
    show am_T ro 2 132 33 [.ref 60, .int kk, .int b, .long (lN (pf u 0 (we (bm a) n 0 - ws (bm a) n 0) 0)), am_un, am_un, am_un, am_un] [] (wd c a l (u3 (u3 (u3 f 60 3 0) 60 2 (nI (ws (bm a) n 0))) 60 3 (nI (we (bm a) n 0)))) _
    refine am_wp_ok (inl := []) 8 2 132 [43] _ _ _ _ _ ?_
    refine And.intro (show vp_in (nI 5) 12 from vp_in_nI (by decide) (by decide)) ?_
    refine am_br_f (show ¬ kk < a 62 5 by rw [en]; exact Int32.not_lt.mpr (hk.resolve_left hq)) ?_
    exact fin
set_option maxRecDepth 100000 in
set_option maxHeartbeats 4000000 in
theorem mo_nr_t {ro : Nat → Option am_C} {c : Bool} {a : Nat → Nat → Int32} {l : Nat → Int64} {f : Nat → Nat → Int32} {n nn T : Nat} {kk : Int32} {u : Nat → Nat} {dd : Nat → Int32} (hn : n ≤ 900) (h1 : f 60 1 = nI n) (hT : we (bm a) n 0 - ws (bm a) n 0 = T) (hu : ∀ q, q < T → a 61 (ws (bm a) n 0 + q) = nI (u q) ∧ u q < 256) (hnm : nm u T = true) (hnn : nn ≤ 20) (en : a 62 5 = nI nn) (hk0 : ¬ kk < 0) (hk : kk < nI nn) (hdd : ∀ i, i < nn → ∃ w m : Nat, w < 27 ^ 8 ∧ dc 8 w = m ∧ m ≤ 8 ∧ l i = lN w ∧ ∀ R : Nat → Int32, eo (fun x y => decide (pf u 0 T 0 / 27 ^ (T - x) % 27 = w / 27 ^ (m - y) % 27)) m T 1 (fl 0 (m + 1) R) m = dd i) : ∃ D R : Nat → Int32, (∀ i, i < nn → D i = dd i) ∧ am_run ro 3 132 [.ref 60, .int kk] (wd c a l f) (some (.int (ft (fun i => decide (rk dd i 0 nn 0 = kk)) 0 nn))) (wd c (u2 (u2 a 81 D) 80 R) l (u3 (u3 (u3 f 60 3 0) 60 2 (nI (ws (bm a) n 0))) 60 3 (nI (we (bm a) n 0)))) := by
  obtain ⟨t1, t2, t3⟩ := nm_t hnm
  have h0 : am_T ro 2 132 0 (am_l0 132 [.ref 60, .int kk]) [] (wd c a l f) (fun r hp' => ∃ D R : Nat → Int32, (∀ i, i < nn → D i = dd i) ∧ r = some (.int (ft (fun i => decide (rk dd i 0 nn 0 = kk)) 0 nn)) ∧ hp' = wd c (u2 (u2 a 81 D) 80 R) l (u3 (u3 (u3 f 60 3 0) 60 2 (nI (ws (bm a) n 0))) 60 3 (nI (we (bm a) n 0)))) := by
    refine mo_n22 (u := u) hn h1 (by rw [hT]; exact hu) (fun b => ?_)
    rw [hT, hnm]
    generalize hG : (u3 (u3 (u3 f 60 3 0) 60 2 (nI (ws (bm a) n 0))) 60 3 (nI (we (bm a) n 0))) = G
    refine am_wp_ok (inl := []) 10 2 132 [29] _ _ _ _ _ ?_
    refine am_br_f (fun z => absurd ((lg_cmp_eq _ _).mp z) (lN_ne (pf_8 t2 t3) (pf_pos (by omega) (fun q hq => (t3 q hq).1)))) ?_
    show am_T ro 2 132 29 [.ref 60, .int kk, .int b, .long (lN (pf u 0 T 0)), am_un, am_un, am_un, am_un] [] (wd c a l G) _
    refine am_wp_ok (inl := []) 4 2 132 [33] _ _ _ _ _ ?_
    refine am_br_f hk0 ?_
    show am_T ro 2 132 33 [.ref 60, .int kk, .int b, .long (lN (pf u 0 T 0)), am_un, am_un, am_un, am_un] [] (wd c a l G) _
    refine am_wp_ok (inl := []) 8 2 132 [45] _ _ _ _ _ ?_
    refine And.intro (show vp_in (nI 5) 12 from vp_in_nI (by decide) (by decide)) ?_
    refine am_br_t (show kk < a 62 5 by rw [en]; exact hk) ?_
    show am_T ro 2 132 45 [.ref 60, .int kk, .int b, .long (lN (pf u 0 T 0)), am_un, am_un, am_un, am_un] [] (wd c a l G) _
    refine am_wp_ok (inl := []) 4 2 132 [48] _ _ _ _ _ ?_
    show am_T ro 2 132 48 [.ref 60, .int kk, .int b, .long (lN (pf u 0 T 0)), am_un, .int (nI 0), am_un, am_un] [] (wd c a l G) _
    have hw : wd c a l G = wd c (u2 (u2 a 81 (a 81)) 80 (a 80)) l G := by
      rw [u2_id, u2_id]
    rw [hw]
    refine mf (pf_8 t2 t3) (pf_dc T 8 t2 t3) t2 hnn en hdd nn 0 _ _ (by omega) (fun i hi => absurd hi (by omega)) (fun D R hD => ?_)
    refine am_wp_ok (inl := []) 4 2 132 [87] _ _ _ _ _ ?_
    show am_T ro 2 132 87 [.ref 60, .int kk, .int b, .long (lN (pf u 0 T 0)), am_un, .int (nI 0), am_un, am_un] [] (wd c (u2 (u2 a 81 D) 80 R) l G) _
    refine am_T.mono (ms (a := u2 (u2 a 81 D) 80 R) hnn en nn 0 am_un am_un rfl rfl (by omega)) (fun r hp' g => ?_)
    refine ⟨D, R, hD, ?_, g.2⟩
    rw [g.1]
    refine congrArg (fun z => some (Value.int z)) (ft_eq nn 0 (fun i _ hi => ?_))
    show decide (rk D i 0 nn 0 = kk) = _
    rw [rk_eq (D' := dd) nn 0 0 (hD i (by omega)) (fun p hp => hD p (by omega))]
  obtain ⟨r, hp', g1, D, R, g2, rfl, rfl⟩ := am_run_ex rfl h0
  exact ⟨D, R, g2, g1⟩
set_option maxRecDepth 100000 in
set_option maxHeartbeats 4000000 in
theorem nca_t_16 {ro : Nat → Option am_C} {c : Bool} {a : Nat → Nat → Int32} {l : Nat → Int64} {f : Nat → Nat → Int32} {i nn : Nat} (hb : nn ≤ 20) (hi : i < nn) (e : f 32 5 = nI nn) : am_run ro 2 101 [.ref 32, .int (nI i)] (wd c a l f) (some (.int (a 33 i))) (wd c a l f) := by
  refine am_run_of rfl (am_wp_ok (inl := []) 20 1 101 [] 0 _ _ _ _ ?_)
  refine ⟨_, _, sp_below_t (nI_pos (by omega)) (show ¬ f 32 5 ≤ nI i by rw [e]; exact nI_ge hi (by omega)), ?_⟩
  refine am_br_f (by decide) ?_
  refine And.intro (vp_in_nI (by omega) (by decide)) ?_
  refine And.intro (show some (Value.int (a 33 (nI i).toNatClampNeg)) = _ by rw [nI_clamp (by omega)]) rfl
set_option maxRecDepth 100000 in
set_option maxHeartbeats 4000000 in
theorem nca_f_16 {ro : Nat → Option am_C} {c : Bool} {a : Nat → Nat → Int32} {l : Nat → Int64} {f : Nat → Nat → Int32} {x : Int32} (h : x < 0) : am_run ro 2 101 [.ref 32, .int x] (wd c a l f) (some (.int (-1))) (wd c a l f) := by
  refine am_run_of rfl (am_wp_ok (inl := []) 20 1 101 [] 0 _ _ _ _ ?_)
  refine ⟨_, _, sp_below_f (Or.inl h), ?_⟩
  refine am_br_t (by decide) ?_
  exact And.intro rfl rfl
set_option maxRecDepth 100000 in
set_option maxHeartbeats 4000000 in
theorem nda_t_16 {ro : Nat → Option am_C} {c : Bool} {a : Nat → Nat → Int32} {l : Nat → Int64} {f : Nat → Nat → Int32} {i nn : Nat} (hb : nn ≤ 20) (hi : i < nn) (e : f 32 5 = nI nn) : am_run ro 2 102 [.ref 32, .int (nI i)] (wd c a l f) (some (.int (a 36 i))) (wd c a l f) := by
  refine am_run_of rfl (am_wp_ok (inl := []) 20 1 102 [] 0 _ _ _ _ ?_)
  refine ⟨_, _, sp_below_t (nI_pos (by omega)) (show ¬ f 32 5 ≤ nI i by rw [e]; exact nI_ge hi (by omega)), ?_⟩
  refine am_br_f (by decide) ?_
  refine And.intro (vp_in_nI (by omega) (by decide)) ?_
  refine And.intro (show some (Value.int (a 36 (nI i).toNatClampNeg)) = _ by rw [nI_clamp (by omega)]) rfl
set_option maxRecDepth 100000 in
set_option maxHeartbeats 4000000 in
theorem nda_f_16 {ro : Nat → Option am_C} {c : Bool} {a : Nat → Nat → Int32} {l : Nat → Int64} {f : Nat → Nat → Int32} {x : Int32} (h : x < 0) : am_run ro 2 102 [.ref 32, .int x] (wd c a l f) (some (.int (-1))) (wd c a l f) := by
  refine am_run_of rfl (am_wp_ok (inl := []) 20 1 102 [] 0 _ _ _ _ ?_)
  refine ⟨_, _, sp_below_f (Or.inl h), ?_⟩
  refine am_br_t (by decide) ?_
  exact And.intro rfl rfl
set_option maxRecDepth 100000 in
set_option maxHeartbeats 4000000 in
theorem nca_t_38 {ro : Nat → Option am_C} {c : Bool} {a : Nat → Nat → Int32} {l : Nat → Int64} {f : Nat → Nat → Int32} {i nn : Nat} (hb : nn ≤ 20) (hi : i < nn) (e : f 54 5 = nI nn) : am_run ro 2 101 [.ref 54, .int (nI i)] (wd c a l f) (some (.int (a 55 i))) (wd c a l f) := by
  refine am_run_of rfl (am_wp_ok (inl := []) 20 1 101 [] 0 _ _ _ _ ?_)
  refine ⟨_, _, sp_below_t (nI_pos (by omega)) (show ¬ f 54 5 ≤ nI i by rw [e]; exact nI_ge hi (by omega)), ?_⟩
  refine am_br_f (by decide) ?_
  refine And.intro (vp_in_nI (by omega) (by decide)) ?_
  refine And.intro (show some (Value.int (a 55 (nI i).toNatClampNeg)) = _ by rw [nI_clamp (by omega)]) rfl
set_option maxRecDepth 100000 in
set_option maxHeartbeats 4000000 in
theorem nca_f_38 {ro : Nat → Option am_C} {c : Bool} {a : Nat → Nat → Int32} {l : Nat → Int64} {f : Nat → Nat → Int32} {x : Int32} (h : x < 0) : am_run ro 2 101 [.ref 54, .int x] (wd c a l f) (some (.int (-1))) (wd c a l f) := by
  refine am_run_of rfl (am_wp_ok (inl := []) 20 1 101 [] 0 _ _ _ _ ?_)
  refine ⟨_, _, sp_below_f (Or.inl h), ?_⟩
  refine am_br_t (by decide) ?_
  exact And.intro rfl rfl
set_option maxRecDepth 100000 in
set_option maxHeartbeats 4000000 in
theorem nda_t_38 {ro : Nat → Option am_C} {c : Bool} {a : Nat → Nat → Int32} {l : Nat → Int64} {f : Nat → Nat → Int32} {i nn : Nat} (hb : nn ≤ 20) (hi : i < nn) (e : f 54 5 = nI nn) : am_run ro 2 102 [.ref 54, .int (nI i)] (wd c a l f) (some (.int (a 58 i))) (wd c a l f) := by
  refine am_run_of rfl (am_wp_ok (inl := []) 20 1 102 [] 0 _ _ _ _ ?_)
  refine ⟨_, _, sp_below_t (nI_pos (by omega)) (show ¬ f 54 5 ≤ nI i by rw [e]; exact nI_ge hi (by omega)), ?_⟩
  refine am_br_f (by decide) ?_
  refine And.intro (vp_in_nI (by omega) (by decide)) ?_
  refine And.intro (show some (Value.int (a 58 (nI i).toNatClampNeg)) = _ by rw [nI_clamp (by omega)]) rfl
set_option maxRecDepth 100000 in
set_option maxHeartbeats 4000000 in
theorem nda_f_38 {ro : Nat → Option am_C} {c : Bool} {a : Nat → Nat → Int32} {l : Nat → Int64} {f : Nat → Nat → Int32} {x : Int32} (h : x < 0) : am_run ro 2 102 [.ref 54, .int x] (wd c a l f) (some (.int (-1))) (wd c a l f) := by
  refine am_run_of rfl (am_wp_ok (inl := []) 20 1 102 [] 0 _ _ _ _ ?_)
  refine ⟨_, _, sp_below_f (Or.inl h), ?_⟩
  refine am_br_t (by decide) ?_
  exact And.intro rfl rfl
set_option maxRecDepth 100000 in
set_option maxHeartbeats 4000000 in
theorem cl_near {ro : Nat → Option am_C} {c : Bool} {a a' : Nat → Nat → Int32} {l : Nat → Int64} {f f' : Nat → Nat → Int32} {kk x y : Int32} (h : am_run ro 11 14 [.ref 0, .int kk] (wd c a l f) (some (.int x)) (wd c a' l f')) (h' : am_run ro 11 101 [.ref (ob c + 16), .int x] (wd c a' l f') (some (.int y)) (wd c a' l f')) : am_run ro 12 13 [.ref 0, .int kk] (wd c a l f) (some (.int y)) (wd c a' l f') := by
  cases c
  all_goals
    refine am_run_of rfl (am_wp_ok (inl := []) 8 11 13 [12] 0 _ _ _ _ ?_)
    refine ⟨_, _, h, ?_⟩
    refine am_wp_ok (inl := []) 4 11 13 [] _ _ _ _ _ ?_
    refine ⟨_, _, h', ?_⟩
    exact And.intro rfl rfl
set_option maxRecDepth 100000 in
set_option maxHeartbeats 4000000 in
theorem ml_near_f {ro : Nat → Option am_C} {c : Bool} {a a' : Nat → Nat → Int32} {l : Nat → Int64} {f f' : Nat → Nat → Int32} {kk x : Int32} (h : am_run ro 11 132 [.ref 60, .int kk] (wd c a l f) (some (.int x)) (wd c a' l f')) (hx : x < 0) : am_run ro 12 131 [.ref 60, .int kk] (wd c a l f) (some (.int (-1))) (wd c a' l f') := by
  refine am_run_of rfl (am_wp_ok (inl := []) 4 11 131 [5] 0 _ _ _ _ ?_)
  refine ⟨_, _, h, ?_⟩
  refine am_wp_ok (inl := []) 10 11 131 [] _ _ _ _ _ ?_
  refine am_br_f (show ¬ 0 ≤ x from Int32.not_le.mpr hx) ?_
  exact And.intro rfl rfl
set_option maxRecDepth 100000 in
set_option maxHeartbeats 4000000 in
theorem ml_near_t {ro : Nat → Option am_C} {c : Bool} {a a' : Nat → Nat → Int32} {l : Nat → Int64} {f f' : Nat → Nat → Int32} {kk : Int32} {i : Nat} (h : am_run ro 11 132 [.ref 60, .int kk] (wd c a l f) (some (.int (nI i))) (wd c a' l f')) (hi : i < 20) : am_run ro 12 131 [.ref 60, .int kk] (wd c a l f) (some (.int (a' 70 i))) (wd c a' l f') := by
  refine am_run_of rfl (am_wp_ok (inl := []) 4 11 131 [5] 0 _ _ _ _ ?_)
  refine ⟨_, _, h, ?_⟩
  refine am_wp_ok (inl := []) 12 11 131 [] _ _ _ _ _ ?_
  refine am_br_t (show 0 ≤ nI i from Int32.not_lt.mp (nI_pos (by omega))) ?_
  refine And.intro (vp_in_nI (by omega) (by decide)) ?_
  refine And.intro (show some (Value.int (a' 70 (nI i).toNatClampNeg)) = _ by rw [nI_clamp (by omega)]) rfl
set_option maxRecDepth 100000 in
set_option maxHeartbeats 4000000 in
theorem cl_edits {ro : Nat → Option am_C} {c : Bool} {a a' : Nat → Nat → Int32} {l : Nat → Int64} {f f' : Nat → Nat → Int32} {kk x y : Int32} (h : am_run ro 11 14 [.ref 0, .int kk] (wd c a l f) (some (.int x)) (wd c a' l f')) (h' : am_run ro 11 102 [.ref (ob c + 16), .int x] (wd c a' l f') (some (.int y)) (wd c a' l f')) : am_run ro 12 15 [.ref 0, .int kk] (wd c a l f) (some (.int y)) (wd c a' l f') := by
  cases c
  all_goals
    refine am_run_of rfl (am_wp_ok (inl := []) 8 11 15 [12] 0 _ _ _ _ ?_)
    refine ⟨_, _, h, ?_⟩
    refine am_wp_ok (inl := []) 4 11 15 [] _ _ _ _ _ ?_
    refine ⟨_, _, h', ?_⟩
    exact And.intro rfl rfl
set_option maxRecDepth 100000 in
set_option maxHeartbeats 4000000 in
theorem ml_edits_f {ro : Nat → Option am_C} {c : Bool} {a a' : Nat → Nat → Int32} {l : Nat → Int64} {f f' : Nat → Nat → Int32} {kk x : Int32} (h : am_run ro 11 132 [.ref 60, .int kk] (wd c a l f) (some (.int x)) (wd c a' l f')) (hx : x < 0) : am_run ro 12 137 [.ref 60, .int kk] (wd c a l f) (some (.int (-1))) (wd c a' l f') := by
  refine am_run_of rfl (am_wp_ok (inl := []) 4 11 137 [5] 0 _ _ _ _ ?_)
  refine ⟨_, _, h, ?_⟩
  refine am_wp_ok (inl := []) 10 11 137 [] _ _ _ _ _ ?_
  refine am_br_f (show ¬ 0 ≤ x from Int32.not_le.mpr hx) ?_
  exact And.intro rfl rfl
set_option maxRecDepth 100000 in
set_option maxHeartbeats 4000000 in
theorem ml_edits_t {ro : Nat → Option am_C} {c : Bool} {a a' : Nat → Nat → Int32} {l : Nat → Int64} {f f' : Nat → Nat → Int32} {kk : Int32} {i : Nat} (h : am_run ro 11 132 [.ref 60, .int kk] (wd c a l f) (some (.int (nI i))) (wd c a' l f')) (hi : i < 20) : am_run ro 12 137 [.ref 60, .int kk] (wd c a l f) (some (.int (a' 81 i))) (wd c a' l f') := by
  refine am_run_of rfl (am_wp_ok (inl := []) 4 11 137 [5] 0 _ _ _ _ ?_)
  refine ⟨_, _, h, ?_⟩
  refine am_wp_ok (inl := []) 12 11 137 [] _ _ _ _ _ ?_
  refine am_br_t (show 0 ≤ nI i from Int32.not_lt.mp (nI_pos (by omega))) ?_
  refine And.intro (vp_in_nI (by omega) (by decide)) ?_
  refine And.intro (show some (Value.int (a' 81 (nI i).toNatClampNeg)) = _ by rw [nI_clamp (by omega)]) rfl
theorem Rl_w {c : Bool} {a : Nat → Nat → Int32} {l : Nat → Int64} {f : Nat → Nat → Int32} {v1 v2 v3 v4 v5 v6 : Int32} (h : Rl c a l f) : Rl c a l (u3 (u3 (u3 (u3 (u3 (u3 f 1 2 v1) 1 3 v2) 1 4 v3) 60 3 v4) 60 2 v5) 60 3 v6) := by
  obtain ⟨h1, h2, h3, h4, h5, h6⟩ := h
  exact ⟨h1, h2, h3, h4, h5, by cases c <;> exact h6⟩
theorem Rl_d {c : Bool} {a : Nat → Nat → Int32} {l : Nat → Int64} {f : Nat → Nat → Int32} {D R : Nat → Int32} (h : Rl c a l f) : Rl c (u2 (u2 a (ob c + 20) D) (ob c + 21) R) l f := by
  obtain ⟨h1, h2, h3, h4, h5, h6⟩ := h
  cases c <;> exact ⟨h1, h2, h3, h4, h5, h6⟩
theorem Rl_e {c : Bool} {a : Nat → Nat → Int32} {l : Nat → Int64} {f : Nat → Nat → Int32} {D R : Nat → Int32} (h : Rl c a l f) : Rl c (u2 (u2 a 81 D) 80 R) l f := by
  obtain ⟨h1, h2, h3, h4, h5, h6⟩ := h
  cases c <;> exact ⟨h1, h2, h3, h4, h5, h6⟩
theorem both_near {ro : Nat → Option am_C} {c : Bool} {a : Nat → Nat → Int32} {l : Nat → Int64} {f : Nat → Nat → Int32} {kk : Int32} (hR : Rl c a l f) : ∃ (x : Int32) (a1 : Nat → Nat → Int32) (f1 : Nat → Nat → Int32) (a2 : Nat → Nat → Int32) (f2 : Nat → Nat → Int32) (nn : Nat), am_run ro 4 14 [.ref 0, .int kk] (wd c a l f) (some (.int x)) (wd c a1 l f1) ∧ am_run ro 3 132 [.ref 60, .int kk] (wd c a1 l f1) (some (.int x)) (wd c a2 l f2) ∧ Rl c a2 l f2 ∧ nn ≤ 20 ∧ f1 (ob c + 16) 5 = nI nn ∧ (x = -1 ∨ ∃ i, i < nn ∧ x = nI i ∧ a1 (ob c + 17) i = a2 70 i ∧ a1 (ob c + 20) i = a2 81 i) := by
  have hR0 := hR
  obtain ⟨⟨n, hn, e1, e60, hT⟩, h2, h3, h4, h5, nb, nc, ng, nmm, np, nn, ⟨b1, b2, b3, b4, b5, b6, b7, b8, b9, b10⟩, -⟩ := hR
  have hnn : nn ≤ 20 := b1.2.2.2.2.2
  have hbl := bl_bm hT
  obtain ⟨ews, ewe⟩ := ws_bm (a := a) (n := n) (j := 0) hbl (by omega)
  have hby := wd_by hn hT (j := 0) (by omega)
  have g2 := we_le (b := bm a) (n := n) (j := 0) (by omega)
  have eC : f (ob c + 16) 5 = nI nn := b2.2.2.2.2.2
  have eM : a 62 5 = nI nn := b3.2.2.2.2.2
  have huC : ∀ q, q < we (bl a) n 0 - ws (bl a) n 0 → a 2 (ws (bl a) n 0 + q) = nI (uy a (ws (bm a) n 0 + q)) ∧ uy a (ws (bm a) n 0 + q) < 256 := by
    rw [ews, ewe]
    exact fun q hq => ⟨(hby q hq).1, (hby q hq).2.2.1⟩
  have huM : ∀ q, q < we (bm a) n 0 - ws (bm a) n 0 → a 61 (ws (bm a) n 0 + q) = nI (uy a (ws (bm a) n 0 + q)) ∧ uy a (ws (bm a) n 0 + q) < 256 := fun q hq => ⟨(hby q hq).2.1, (hby q hq).2.2.1⟩
  have eF1 : ∀ (v1 v2 v3 : Int32), (u3 (u3 (u3 f 1 2 v1) 1 3 v2) 1 4 v3) (ob c + 16) 5 = nI nn := by
    intro v1 v2 v3
    cases c <;> exact eC
  cases hnm : nm (fun q => uy a (ws (bm a) n 0 + q)) (we (bm a) n 0 - ws (bm a) n 0) with
  | false =>
    have hC := cs_nr_f (ro := ro) (c := c) (l := l) (kk := kk) hn e1 huC (by rw [ews, ewe]; exact hnm)
    refine ⟨-1, _, _, _, _, nn, hC, mo_nr_f (u := fun q => uy a (ws (bm a) n 0 + q)) hn e60 huM hnm, Rl_w hR0, hnn, eF1 _ _ _, Or.inl rfl⟩
  | true =>
    obtain ⟨t1, t2, t3⟩ := nm_t hnm
    generalize hdd : (fun i : Nat => eo (fun x y => decide (a 2 (ws (bl a) n 0 + (x - 1)) = a (ob c + 19) (8 * i + (y - 1)))) (a (ob c + 18) i).toNatClampNeg (we (bl a) n 0 - ws (bl a) n 0) 1 (fl 0 ((a (ob c + 18) i).toNatClampNeg + 1) (fun _ => 0)) (a (ob c + 18) i).toNatClampNeg) = dd
    have hdC : ∀ i, i < nn → ∃ m : Nat, m ≤ 8 ∧ a (ob c + 18) i = nI m ∧ ∀ R : Nat → Int32, eo (fun x y => decide (a 2 (ws (bl a) n 0 + (x - 1)) = a (ob c + 19) (8 * i + (y - 1)))) m (we (bl a) n 0 - ws (bl a) n 0) 1 (fl 0 (m + 1) R) m = dd i := by
      intro i hi
      obtain ⟨-, k, u, k1, k2, hu, ek, el, ep⟩ := b10 i hi
      refine ⟨k, k2, ek, fun R => ?_⟩
      rw [← hdd]
      show _ = eo _ (a (ob c + 18) i).toNatClampNeg _ 1 (fl 0 ((a (ob c + 18) i).toNatClampNeg + 1) _) (a (ob c + 18) i).toNatClampNeg
      rw [ek, nI_clamp (show k < 2 ^ 31 by omega)]
      exact eo_fl (fun _ _ _ _ _ _ => rfl)
    have hdM : ∀ i, i < nn → ∃ w m : Nat, w < 27 ^ 8 ∧ dc 8 w = m ∧ m ≤ 8 ∧ l i = lN w ∧ ∀ R : Nat → Int32, eo (fun x y => decide (pf (fun q => uy a (ws (bm a) n 0 + q)) 0 (we (bm a) n 0 - ws (bm a) n 0) 0 / 27 ^ ((we (bm a) n 0 - ws (bm a) n 0) - x) % 27 = w / 27 ^ (m - y) % 27)) m (we (bm a) n 0 - ws (bm a) n 0) 1 (fl 0 (m + 1) R) m = dd i := by
      intro i hi
      obtain ⟨-, k, u, k1, k2, hu, ek, el, ep⟩ := b10 i hi
      rw [show 20 * 0 + i = i by omega] at ep
      refine ⟨pf u 0 k 0, k, pf_8 k2 hu, pf_dc k 8 k2 hu, k2, ep, fun R => ?_⟩
      rw [← hdd]
      show _ = eo _ (a (ob c + 18) i).toNatClampNeg _ 1 (fl 0 ((a (ob c + 18) i).toNatClampNeg + 1) _) (a (ob c + 18) i).toNatClampNeg
      rw [ek, nI_clamp (show k < 2 ^ 31 by omega), ews, ewe]
      refine eo_fl (fun x y x1 x2 y1 y2 => ?_)
      have p1 := pf_let (u := fun q => uy a (ws (bm a) n 0 + q)) (m := we (bm a) n 0 - ws (bm a) n 0) (j := we (bm a) n 0 - ws (bm a) n 0 - x) (by omega) (fun q hq => (t3 q hq).2)
      have p2 := pf_let (u := u) (m := k) (j := k - y) (by omega) (fun q hq => (hu q hq).2)
      rw [show we (bm a) n 0 - ws (bm a) n 0 - (we (bm a) n 0 - ws (bm a) n 0 - x) - 1 = x - 1 by omega] at p1
      rw [show k - (k - y) - 1 = y - 1 by omega] at p2
      show decide (pf (fun q => uy a (ws (bm a) n 0 + q)) 0 (we (bm a) n 0 - ws (bm a) n 0) 0 / 27 ^ (we (bm a) n 0 - ws (bm a) n 0 - x) % 27 = pf u 0 k 0 / 27 ^ (k - y) % 27) = decide (a 2 (ws (bm a) n 0 + (x - 1)) = a (ob c + 19) (8 * i + (y - 1)))
      rw [p1, p2, (hby (x - 1) (by omega)).1, el (y - 1) (by omega)]
      have q1 := t3 (x - 1) (by omega)
      have q2 := hu (y - 1) (by omega)
      refine decide_eq_decide.mpr ?_
      rw [nI_eq (by omega) (by omega)]
      omega
    obtain ⟨D, R, hD, hC⟩ := cs_nr_t (ro := ro) (c := c) (l := l) (kk := kk) hn e1 huC (by rw [ews, ewe]; exact hnm) hnn eC hdC
    have hbm : bm (u2 (u2 a (ob c + 20) D) (ob c + 21) R) = bm a := by cases c <;> rfl
    have h61 : (u2 (u2 a (ob c + 20) D) (ob c + 21) R) 61 = a 61 := by cases c <;> rfl
    have h62 : (u2 (u2 a (ob c + 20) D) (ob c + 21) R) 62 5 = nI nn := by cases c <;> exact eM
    have h20 : (u2 (u2 a (ob c + 20) D) (ob c + 21) R) (ob c + 20) = D := by cases c <;> rfl
    have h17 : (u2 (u2 a (ob c + 20) D) (ob c + 21) R) (ob c + 17) = a (ob c + 17) := by cases c <;> rfl
    have h70 : (u2 (u2 a (ob c + 20) D) (ob c + 21) R) 70 = a 70 := by cases c <;> rfl
    have hRd := Rl_d (D := D) (R := R) hR0
    generalize hA : u2 (u2 a (ob c + 20) D) (ob c + 21) R = A at *
    have huM' : ∀ q, q < we (bm A) n 0 - ws (bm A) n 0 → A 61 (ws (bm A) n 0 + q) = nI (uy a (ws (bm a) n 0 + q)) ∧ uy a (ws (bm a) n 0 + q) < 256 := by
      rw [hbm, h61]
      exact huM
    rcases bd kk nn (by omega) with ⟨j, hj, rfl⟩ | hk
    · obtain ⟨D', R', hD', hM⟩ := mo_nr_t (ro := ro) (c := c) (a := A) (l := l) (f := u3 (u3 (u3 f 1 2 (nI (ws (bl a) n 0))) 1 3 (nI (we (bl a) n 0))) 1 4 0) (kk := nI j) (T := we (bm a) n 0 - ws (bm a) n 0) (u := fun q => uy a (ws (bm a) n 0 + q)) hn e60 (by rw [hbm]) (by rw [hbm, h61]; exact huM) hnm hnn h62 (nI_pos (by omega)) (nI_lt hj (by omega)) hdM
      refine ⟨_, _, _, _, _, nn, hC, hM, Rl_e (Rl_w hRd), hnn, eF1 _ _ _, ?_⟩
      rcases ft_is (p := fun i => decide (rk dd i 0 nn 0 = nI j)) nn 0 with h | ⟨i, -, hi, h⟩
      · exact Or.inl h
      · refine Or.inr ⟨i, by omega, h, ?_, ?_⟩
        · rw [h17]
          show a (ob c + 17) i = A 70 i
          rw [h70]
          have := (b10 i (by omega)).1
          rw [show 20 * 0 + i = i by omega] at this
          exact this
        · rw [h20]
          show D i = D' i
          rw [hD i (by omega), hD' i (by omega)]
    · refine ⟨-1, _, _, _, _, nn, ?_, mo_nr_o (f := u3 (u3 (u3 f 1 2 (nI (ws (bl a) n 0))) 1 3 (nI (we (bl a) n 0))) 1 4 0) (u := fun q => uy a (ws (bm a) n 0 + q)) hn e60 huM' (by rw [hbm]; exact hnm) h62 hk, Rl_w hRd, hnn, eF1 _ _ _, Or.inl rfl⟩
      rw [← ft_rk (D := dd) hnn hk]
      exact hC
theorem op_near {ro : Nat → Option am_C} {x0 : Int32} : lp_op ro Rl 13 131 [.int x0] := by
  intro c a l f hR
  obtain ⟨x, a1, f1, a2, f2, nn, h1, h2, h3, h4, h5, h6⟩ := both_near (ro := ro) (kk := x0) hR
  rcases h6 with rfl | ⟨i, hi, rfl, h7, h8⟩
  · refine ⟨-1, c, a1, l, f1, c, a2, l, f2, cl_near (am_run_up h1 (by decide)) ?_, ml_near_f (am_run_up h2 (by decide)) (by decide), h3⟩
    cases c
    · exact am_run_up (nca_f_16 (by decide)) (by decide)
    · exact am_run_up (nca_f_38 (by decide)) (by decide)
  · refine ⟨a2 70 i, c, a1, l, f1, c, a2, l, f2, cl_near (am_run_up h1 (by decide)) ?_, ml_near_t (am_run_up h2 (by decide)) (by omega), h3⟩
    rw [← h7]
    cases c
    · exact am_run_up (nca_t_16 h4 hi h5) (by decide)
    · exact am_run_up (nca_t_38 h4 hi h5) (by decide)
theorem op_edits {ro : Nat → Option am_C} {x0 : Int32} : lp_op ro Rl 15 137 [.int x0] := by
  intro c a l f hR
  obtain ⟨x, a1, f1, a2, f2, nn, h1, h2, h3, h4, h5, h6⟩ := both_near (ro := ro) (kk := x0) hR
  rcases h6 with rfl | ⟨i, hi, rfl, h7, h8⟩
  · refine ⟨-1, c, a1, l, f1, c, a2, l, f2, cl_edits (am_run_up h1 (by decide)) ?_, ml_edits_f (am_run_up h2 (by decide)) (by decide), h3⟩
    cases c
    · exact am_run_up (nda_f_16 (by decide)) (by decide)
    · exact am_run_up (nda_f_38 (by decide)) (by decide)
  · refine ⟨a2 81 i, c, a1, l, f1, c, a2, l, f2, cl_edits (am_run_up h1 (by decide)) ?_, ml_edits_t (am_run_up h2 (by decide)) (by omega), h3⟩
    rw [← h8]
    cases c
    · exact am_run_up (nda_t_16 h4 hi h5) (by decide)
    · exact am_run_up (nda_t_38 h4 hi h5) (by decide)
