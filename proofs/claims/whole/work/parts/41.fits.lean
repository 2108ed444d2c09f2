/-! A BRANCH'S TRIAL, in the reference -/
theorem u3_id {f : Nat → Nat → Int32} {i k : Nat} : u3 f i k (f i k) = f := by
  funext x y
  by_cases h : x = i
  · by_cases h2 : y = k
    · subst h; subst h2; simp [u3]
    · have : Nat.beq y k = false := by
        cases e : Nat.beq y k with
        | false => rfl
        | true => exact absurd (Nat.eq_of_beq_eq_true e) h2
      simp [u3, this]
  · have : Nat.beq x i = false := by
      cases e : Nat.beq x i with
      | false => rfl
      | true => exact absurd (Nat.eq_of_beq_eq_true e) h
    simp [u3, this]
theorem u3_u3 {f : Nat → Nat → Int32} {i k : Nat} {v w : Int32} : u3 (u3 f i k v) i k w = u3 f i k w := by
  funext x y
  cases h : (Nat.beq x i && Nat.beq y k) <;> simp [u3, h]
theorem ix3 {k : Nat} : 3 * nI k = nI (3 * k) ∧ 3 * nI k + 1 = nI (3 * k + 1) ∧ 3 * nI k + 2 = nI (3 * k + 2) := by
  have e0 : 3 * nI k = nI (3 * k) := by rw [show (3 : Int32) = nI 3 from rfl, nI_mul]
  exact ⟨e0, by rw [e0, nI_1], by rw [e0, show (2 : Int32) = nI 2 from rfl, nI_add]⟩
set_option maxRecDepth 100000 in
set_option maxHeartbeats 4000000 in
theorem mo_holds {ro : Nat → Option am_C} {c : Bool} {a : Nat → Nat → Int32} {l : Nat → Int64} {f : Nat → Nat → Int32} {k q : Nat} (hk : k < 60) (hq : q < 10) (eq : a 66 (3 * k) = nI q) : am_run ro 1 126 [.ref 60, .int (nI k)] (wd c a l f) (some (.int (nI (cmp (a 73 q) (a 66 (3 * k + 1)) (a 66 (3 * k + 2))).toNat))) (wd c a l f) := by
  obtain ⟨e0, e1, e2⟩ := ix3 (k := k)
  have c0 : (3 * nI k).toNatClampNeg = 3 * k := by rw [e0]; exact nI_clamp (by omega)
  have c1 : (3 * nI k + 1).toNatClampNeg = 3 * k + 1 := by rw [e1]; exact nI_clamp (by omega)
  have c2 : (3 * nI k + 2).toNatClampNeg = 3 * k + 2 := by rw [e2]; exact nI_clamp (by omega)
  refine am_run_of rfl (am_wp_ok (inl := []) 40 0 126 [32] 0 _ _ _ _ ?_)
  refine And.intro (show vp_in (3 * nI k) 360 by rw [e0]; exact vp_in_nI (by omega) (by decide)) ?_
  refine And.intro (show vp_in (3 * nI k + 2) 360 by rw [e2]; exact vp_in_nI (by omega) (by decide)) ?_
  refine And.intro (show vp_in (3 * nI k + 1) 360 by rw [e1]; exact vp_in_nI (by omega) (by decide)) ?_
  show am_T ro 0 126 32 [.ref 60, .int (nI k), .int (a 66 (3 * nI k).toNatClampNeg), .int (a 66 (3 * nI k + 2).toNatClampNeg), .int (a 66 (3 * nI k + 1).toNatClampNeg)] [] (wd c a l f) _
  rw [c0, c1, c2, eq]
  generalize a 66 (3 * k + 1) = p
  generalize a 66 (3 * k + 2) = b
  have hin : vp_in (nI q) 10 := vp_in_nI hq (by decide)
  have cq : (nI q).toNatClampNeg = q := nI_clamp (by omega)
  refine am_wp_ok (inl := []) 40 0 126 [] _ _ _ _ _ ?_
  by_cases h1 : p = nI 60
  · refine am_br_f (show ¬ ¬ p = nI 60 from fun z => z h1) ?_
    refine And.intro hin ?_
    by_cases h2 : a 73 q < b
    · refine am_br_f (show ¬ b ≤ a 73 (nI q).toNatClampNeg by rw [cq]; exact Int32.not_le.mpr h2) ?_
      refine And.intro rfl (And.intro ?_ rfl)
      rw [show cmp (a 73 q) p b = true by unfold cmp; rw [if_pos h1, decide_eq_true h2]]
      rfl
    · refine am_br_t (show b ≤ a 73 (nI q).toNatClampNeg by rw [cq]; exact Int32.not_lt.mp h2) ?_
      refine And.intro rfl (And.intro ?_ rfl)
      rw [show cmp (a 73 q) p b = false by unfold cmp; rw [if_pos h1, decide_eq_false h2]]
      rfl
  · refine am_br_t h1 ?_
    by_cases h3 : p = nI 61
    · refine am_br_f (show ¬ ¬ p = nI 61 from fun z => z h3) ?_
      refine And.intro hin ?_
      by_cases h2 : a 73 q = b
      · refine am_br_f (show ¬ ¬ a 73 (nI q).toNatClampNeg = b by rw [cq]; exact fun z => z h2) ?_
        refine And.intro rfl (And.intro ?_ rfl)
        rw [show cmp (a 73 q) p b = true by unfold cmp; rw [if_neg h1, if_pos h3, decide_eq_true h2]]
        rfl
      · refine am_br_t (show ¬ a 73 (nI q).toNatClampNeg = b by rw [cq]; exact h2) ?_
        refine And.intro rfl (And.intro ?_ rfl)
        rw [show cmp (a 73 q) p b = false by unfold cmp; rw [if_neg h1, if_pos h3, decide_eq_false h2]]
        rfl
    · refine am_br_t h3 ?_
      refine And.intro hin ?_
      by_cases h2 : b < a 73 q
      · refine am_br_f (show ¬ a 73 (nI q).toNatClampNeg ≤ b by rw [cq]; exact Int32.not_le.mpr h2) ?_
        refine And.intro rfl (And.intro ?_ rfl)
        rw [show cmp (a 73 q) p b = true by unfold cmp; rw [if_neg h1, if_neg h3, decide_eq_true h2]]
        rfl
      · refine am_br_t (show a 73 (nI q).toNatClampNeg ≤ b by rw [cq]; exact Int32.not_lt.mp h2) ?_
        refine And.intro rfl (And.intro ?_ rfl)
        rw [show cmp (a 73 q) p b = false by unfold cmp; rw [if_neg h1, if_neg h3, decide_eq_false h2]]
        rfl
/-- what the trial leaves in 'asked' -/
def ask (M x : Int32) : Int32 := if M < 0 then -2 - M else x
theorem ask_q {q : Nat} (h : q < 10) {x : Int32} : ask (nI 0 - nI 2 - nI q) x = nI q ∧ (nI 0 - nI 2 - nI q) < 0 ∧ ¬ (nI 0 - nI 2 - nI q) = 1 ∧ ¬ (nI 0 - nI 2 - nI q) = 0 ∧ ¬ (nI 0 - nI 2 - nI q) = -1 ∧ (nI 0 - nI 2 - nI q) ≤ -2 := by
  have h0 : ∀ q, q < 10 → (nI 0 - nI 2 - nI q) < 0 ∧ -2 - (nI 0 - nI 2 - nI q) = nI q ∧ ¬ (nI 0 - nI 2 - nI q) = 1 ∧ ¬ (nI 0 - nI 2 - nI q) = 0 ∧ ¬ (nI 0 - nI 2 - nI q) = -1 ∧ (nI 0 - nI 2 - nI q) ≤ -2 := by decide +kernel
  obtain ⟨h1, h2, h3, h4, h5, h6⟩ := h0 q h
  exact ⟨by unfold ask; rw [if_pos h1, h2], h1, h3, h4, h5, h6⟩
set_option maxRecDepth 100000 in
set_option maxHeartbeats 4000000 in
theorem ft_out {ro : Nat → Option am_C} {c : Bool} {a : Nat → Nat → Int32} {l : Nat → Int64} {f : Nat → Nat → Int32} {b k E : Nat} {X : Value} (hX : Nat.beq X.category 1 = true) (hb : b < 30) (eE : a 65 (b + 1) = nI E) (hE : E ≤ 60) (hk : k ≤ 60) : am_T ro 1 125 9 [.ref 60, .int (nI b), .int 0, .int (nI k), X] [] (wd c a l f) (fun r hp' => r = some (.int 0) ∧ hp' = wd c a l f) := by
  have eb : nI b + 1 = nI (b + 1) := nI_1 b
  have eE' : a 65 (nI b + 1).toNatClampNeg = nI E := by rw [eb, nI_clamp (by omega)]; exact eE
  refine am_wp_ok (inl := []) 20 1 125 [] _ _ _ _ _ ?_
  refine And.intro (show vp_in (nI b + 1) 62 by rw [eb]; exact vp_in_nI (by omega) (by decide)) ?_
  by_cases h : E ≤ k
  · refine am_br_t (show a 65 (nI b + 1).toNatClampNeg ≤ nI k by rw [eE']; exact nI_le h (by omega)) ?_
    exact And.intro rfl (And.intro rfl rfl)
  · refine am_br_f (show ¬ a 65 (nI b + 1).toNatClampNeg ≤ nI k by rw [eE']; exact nI_ge (by omega) (by omega)) ?_
    refine am_br_t (by decide) ?_
    exact And.intro rfl (And.intro rfl rfl)
set_option maxRecDepth 100000 in
set_option maxHeartbeats 4000000 in
theorem ft_loop {ro : Nat → Option am_C} {c : Bool} {a : Nat → Nat → Int32} {l : Nat → Int64} {f : Nat → Nat → Int32} {b E : Nat} (hb : b < 30) (eE : a 65 (b + 1) = nI E) (hE : E ≤ 60) (hA : ∀ k, k < E → ∃ q : Nat, q < 10 ∧ a 66 (3 * k) = nI q) : ∀ (m k : Nat) (X : Value), Nat.beq X.category 1 = true → k + m = E → am_T ro 1 125 9 [.ref 60, .int (nI b), .int 1, .int (nI k), X] [] (wd c a l f) (fun r hp' => r = some (.int (nI (decide (mt (a 72) (a 73) (fun z => a 66 (3 * z)) (fun z => a 66 (3 * z + 1)) (fun z => a 66 (3 * z + 2)) k m = 1)).toNat)) ∧ hp' = wd c a l (u3 f 60 23 (ask (mt (a 72) (a 73) (fun z => a 66 (3 * z)) (fun z => a 66 (3 * z + 1)) (fun z => a 66 (3 * z + 2)) k m) (f 60 23)))) := by
  have eb : nI b + 1 = nI (b + 1) := nI_1 b
  have eE' : a 65 (nI b + 1).toNatClampNeg = nI E := by rw [eb, nI_clamp (by omega)]; exact eE
  have hin : vp_in (nI b + 1) 62 := by rw [eb]; exact vp_in_nI (by omega) (by decide)
  intro m
  induction m with
  | zero =>
    intro k X hX h
    refine am_wp_ok (inl := []) 20 1 125 [] _ _ _ _ _ ?_
    refine And.intro hin ?_
    refine am_br_t (show a 65 (nI b + 1).toNatClampNeg ≤ nI k by rw [eE']; exact nI_le (by omega) (by omega)) ?_
    refine And.intro rfl (And.intro rfl ?_)
    show wd c a l f = wd c a l (u3 f 60 23 (f 60 23))
    rw [u3_id]
  | succ m ih =>
    intro k X hX h
    obtain ⟨e0, e1, e2⟩ := ix3 (k := k)
    have c0 : (3 * nI k).toNatClampNeg = 3 * k := by rw [e0]; exact nI_clamp (by omega)
    obtain ⟨q, hq, eq⟩ := hA k (by omega)
    have cq : (a 66 (3 * k)).toNatClampNeg = q := by rw [eq]; exact nI_clamp (by omega)
    have hiq : vp_in (nI q) 10 := vp_in_nI hq (by decide)
    have cq2 : (nI q).toNatClampNeg = q := nI_clamp (by omega)
    refine am_wp_ok (inl := []) 20 1 125 [25] _ _ _ _ _ ?_
    refine And.intro hin ?_
    refine am_br_f (show ¬ a 65 (nI b + 1).toNatClampNeg ≤ nI k by rw [eE']; exact nI_ge (by omega) (by omega)) ?_
    refine am_br_f (by decide) ?_
    show am_T ro 1 125 25 [.ref 60, .int (nI b), .int 1, .int (nI k), X] [] (wd c a l f) _
    refine am_wp_ok (inl := []) 20 1 125 [35] _ _ _ _ _ ?_
    refine And.intro (show vp_in (3 * nI k) 360 by rw [e0]; exact vp_in_nI (by omega) (by decide)) ?_
    show am_T ro 1 125 35 [.ref 60, .int (nI b), .int 1, .int (nI k), .int (a 66 (3 * nI k).toNatClampNeg)] [] (wd c a l f) _
    rw [c0, eq]
    have aft : ∀ (w : Int32), ¬ a 72 q = 0 → am_T ro 1 125 9 [.ref 60, .int (nI b), .int w, .int (nI (k + 1)), .int (nI q)] [] (wd c a l f) (fun r hp' => r = some (.int (nI (decide (mt (a 72) (a 73) (fun z => a 66 (3 * z)) (fun z => a 66 (3 * z + 1)) (fun z => a 66 (3 * z + 2)) k (m + 1) = 1)).toNat)) ∧ hp' = wd c a l (u3 f 60 23 (ask (mt (a 72) (a 73) (fun z => a 66 (3 * z)) (fun z => a 66 (3 * z + 1)) (fun z => a 66 (3 * z + 2)) k (m + 1)) (f 60 23)))) → am_T ro 1 125 59 [.ref 60, .int (nI b), .int w, .int (nI k), .int (nI q)] [] (wd c a l f) (fun r hp' => r = some (.int (nI (decide (mt (a 72) (a 73) (fun z => a 66 (3 * z)) (fun z => a 66 (3 * z + 1)) (fun z => a 66 (3 * z + 2)) k (m + 1) = 1)).toNat)) ∧ hp' = wd c a l (u3 f 60 23 (ask (mt (a 72) (a 73) (fun z => a 66 (3 * z)) (fun z => a 66 (3 * z + 1)) (fun z => a 66 (3 * z + 2)) k (m + 1)) (f 60 23)))) := by
      intro w hz hn
      refine am_wp_ok (inl := []) 20 1 125 [82] _ _ _ _ _ ?_
      refine And.intro hiq ?_
      refine am_br_f (show ¬ a 72 (nI q).toNatClampNeg = 0 by rw [cq2]; exact hz) ?_
      show am_T ro 1 125 82 [.ref 60, .int (nI b), .int w, .int (nI k), .int (nI q)] [] ((wd c a l f).set 60 (.inr (10, [.ref 61, .int (f 60 1), .int (f 60 2), .int (f 60 3), .ref 62, .ref 63, .ref 64, .ref 65, .ref 66, .ref 67, .ref 68, .ref 69, .ref 70, .ref 71, .ref 72, .ref 73, .ref 74, .ref 75, .int (f 60 18), .ref 76, .ref 77, .ref 78, .ref 79, .int (f 60 23), .ref 80, .ref 81, .int (f 60 26), .int (f 60 27), .int (f 60 28)].set 23 (.int (f 60 23))))) _
      rw [wf_60_23, u3_id]
      refine am_wp_ok (inl := []) 20 1 125 [9] _ _ _ _ _ ?_
      show am_T ro 1 125 9 [.ref 60, .int (nI b), .int w, .int (nI k + 1), .int (nI q)] [] (wd c a l f) _
      rw [nI_1]
      exact hn
    refine am_wp_ok (inl := []) 20 1 125 [59] _ _ _ _ _ ?_
    refine And.intro hiq ?_
    by_cases hz : a 72 q = 0
    · refine am_br_t (show a 72 (nI q).toNatClampNeg = 0 by rw [cq2]; exact hz) ?_
      show am_T ro 1 125 59 [.ref 60, .int (nI b), .int 0, .int (nI k), .int (nI q)] [] (wd c a l f) _
      refine am_wp_ok (inl := []) 20 1 125 [82] _ _ _ _ _ ?_
      refine And.intro hiq ?_
      refine am_br_t (show a 72 (nI q).toNatClampNeg = 0 by rw [cq2]; exact hz) ?_
      show am_T ro 1 125 82 [.ref 60, .int (nI b), .int 0, .int (nI k), .int (nI q)] [] ((wd c a l f).set 60 (.inr (10, [.ref 61, .int (f 60 1), .int (f 60 2), .int (f 60 3), .ref 62, .ref 63, .ref 64, .ref 65, .ref 66, .ref 67, .ref 68, .ref 69, .ref 70, .ref 71, .ref 72, .ref 73, .ref 74, .ref 75, .int (f 60 18), .ref 76, .ref 77, .ref 78, .ref 79, .int (f 60 23), .ref 80, .ref 81, .int (f 60 26), .int (f 60 27), .int (f 60 28)].set 23 (.int (nI q))))) _
      rw [wf_60_23]
      refine am_wp_ok (inl := []) 20 1 125 [9] _ _ _ _ _ ?_
      show am_T ro 1 125 9 [.ref 60, .int (nI b), .int 0, .int (nI k + 1), .int (nI q)] [] (wd c a l (u3 f 60 23 (nI q))) _
      rw [nI_1, mt_a (K := a 72) (V := a 73) (A := fun z => a 66 (3 * z)) (P := fun z => a 66 (3 * z + 1)) (B := fun z => a 66 (3 * z + 2)) (k := k) (show a 72 (a 66 (3 * k)).toNatClampNeg = 0 by rw [cq]; exact hz), eq, (ask_q hq).1, decide_eq_false (ask_q hq (x := 0)).2.2.1]
      exact ft_out rfl hb eE hE (by omega)
    · refine am_br_f (show ¬ a 72 (nI q).toNatClampNeg = 0 by rw [cq2]; exact hz) ?_
      refine ⟨_, _, mo_holds (by omega) hq eq, ?_⟩
      cases hc : cmp (a 73 q) (a 66 (3 * k + 1)) (a 66 (3 * k + 2)) with
      | false =>
        refine am_br_t (show nI false.toNat = 0 from rfl) ?_
        refine aft 0 hz ?_
        rw [mt_n (K := a 72) (V := a 73) (A := fun z => a 66 (3 * z)) (P := fun z => a 66 (3 * z + 1)) (B := fun z => a 66 (3 * z + 2)) (k := k) (show ¬ a 72 (a 66 (3 * k)).toNatClampNeg = 0 by rw [cq]; exact hz) (show cmp (a 73 (a 66 (3 * k)).toNatClampNeg) _ _ = false by rw [cq]; exact hc)]
        rw [show ask 0 (f 60 23) = f 60 23 from rfl, u3_id]
        exact ft_out rfl hb eE hE (by omega)
      | true =>
        refine am_br_f (show ¬ nI true.toNat = 0 by decide) ?_
        refine aft 1 hz ?_
        rw [mt_y (K := a 72) (V := a 73) (A := fun z => a 66 (3 * z)) (P := fun z => a 66 (3 * z + 1)) (B := fun z => a 66 (3 * z + 2)) (k := k) (show ¬ a 72 (a 66 (3 * k)).toNatClampNeg = 0 by rw [cq]; exact hz) (show cmp (a 73 (a 66 (3 * k)).toNatClampNeg) _ _ = true by rw [cq]; exact hc)]
        exact ih (k + 1) _ rfl (by omega)
set_option maxRecDepth 100000 in
set_option maxHeartbeats 4000000 in
theorem mo_fits {ro : Nat → Option am_C} {c : Bool} {a : Nat → Nat → Int32} {l : Nat → Int64} {f : Nat → Nat → Int32} {b S E : Nat} (hb : b < 30) (eS : a 65 b = nI S) (eE : a 65 (b + 1) = nI E) (hSE : S ≤ E) (hE : E ≤ 60) (hA : ∀ k, k < E → ∃ q : Nat, q < 10 ∧ a 66 (3 * k) = nI q) : am_run ro 2 125 [.ref 60, .int (nI b)] (wd c a l f) (some (.int (nI (decide (mt (a 72) (a 73) (fun z => a 66 (3 * z)) (fun z => a 66 (3 * z + 1)) (fun z => a 66 (3 * z + 2)) S (E - S) = 1)).toNat))) (wd c a l (u3 f 60 23 (ask (mt (a 72) (a 73) (fun z => a 66 (3 * z)) (fun z => a 66 (3 * z + 1)) (fun z => a 66 (3 * z + 2)) S (E - S)) (f 60 23)))) := by
  refine am_run_of rfl (am_wp_ok (inl := []) 20 1 125 [9] 0 _ _ _ _ ?_)
  refine And.intro (show vp_in (nI b) 62 from vp_in_nI (by omega) (by decide)) ?_
  show am_T ro 1 125 9 [.ref 60, .int (nI b), .int 1, .int (a 65 (nI b).toNatClampNeg), am_un] [] (wd c a l f) _
  rw [nI_clamp (show b < 2 ^ 31 by omega), eS]
  exact ft_loop hb eE hE hA (E - S) S am_un rfl (by omega)
