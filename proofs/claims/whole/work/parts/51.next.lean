/-! WORDS of the reference; length, byteAt, isName -/
set_option maxRecDepth 100000 in
set_option maxHeartbeats 4000000 in
theorem sp_blank {ro : Nat → Option am_C} {x : Int32} {hp : am_H} : am_run ro 1 108 [.int x] hp (some (.int (nI (decide (x = nI 32) || decide (x = nI 10)).toNat))) hp := by
  refine am_run_of rfl (am_wp_ok (inl := []) 20 0 108 [] 0 _ _ _ _ ?_)
  by_cases h1 : x = nI 32
  · refine am_br_t h1 ?_
    rw [decide_eq_true h1]
    exact And.intro rfl (And.intro rfl rfl)
  · refine am_br_f h1 ?_
    rw [decide_eq_false h1]
    by_cases h2 : x = nI 10
    · refine am_br_f (show ¬ ¬ x = nI 10 from fun z => z h2) ?_
      rw [decide_eq_true h2]
      exact And.intro rfl (And.intro rfl rfl)
    · refine am_br_t h2 ?_
      rw [decide_eq_false h2]
      exact And.intro rfl (And.intro rfl rfl)
set_option maxRecDepth 100000 in
set_option maxHeartbeats 4000000 in
theorem mn1 {ro : Nat → Option am_C} {c : Bool} {a : Nat → Nat → Int32} {l : Nat → Int64} {n : Nat} {K : Option Value → am_H → Prop} (hn : n ≤ 900) : ∀ (m i : Nat) (f : Nat → Nat → Int32), f 60 1 = nI n → f 60 2 = nI i → i + m = n → am_T ro 1 107 47 [.ref 60] [] (wd c a l (u3 f 60 2 (nI (sk (bm a) i m)))) K → am_T ro 1 107 8 [.ref 60] [] (wd c a l f) K := by
  intro m
  induction m with
  | zero =>
    intro i f h1 h2 h k
    refine am_wp_ok (inl := []) 12 1 107 [47] _ _ _ _ _ ?_
    refine am_br_t (show f 60 1 ≤ f 60 2 by rw [h1, h2]; exact nI_le (by omega) (by omega)) ?_
    replace k : am_T ro 1 107 47 [.ref 60] [] (wd c a l (u3 f 60 2 (nI i))) K := k
    rw [show u3 f 60 2 (nI i) = f by rw [← h2]; exact u3_id] at k
    exact k
  | succ m ih =>
    intro i f h1 h2 h k
    refine am_wp_ok (inl := []) 12 1 107 [19] _ _ _ _ _ ?_
    refine am_br_f (show ¬ f 60 1 ≤ f 60 2 by rw [h1, h2]; exact nI_ge (by omega) (by omega)) ?_
    show am_T ro 1 107 19 [.ref 60] [] (wd c a l f) K
    refine am_wp_ok (inl := []) 12 1 107 [31] _ _ _ _ _ ?_
    refine And.intro (show vp_in (f 60 2) 900 by rw [h2]; exact vp_in_nI (by omega) (by decide)) ?_
    have hs : am_run ro 1 108 [.int (a 61 (f 60 2).toNatClampNeg)] (wd c a l f) (some (.int (nI (bm a i).toNat))) (wd c a l f) := by rw [h2, nI_clamp (by omega)]; exact sp_blank
    refine ⟨_, _, hs, ?_⟩
    show am_T ro 1 107 31 [.ref 60] [.int (nI (bm a i).toNat)] (wd c a l f) K
    refine am_wp_ok (inl := []) 12 1 107 [34, 47] _ _ _ _ _ ?_
    cases hb : bm a i with
    | true =>
      refine am_br_f (show ¬ nI true.toNat = 0 by decide) ?_
      show am_T ro 1 107 34 [.ref 60] [] (wd c a l f) K
      refine am_wp_ok (inl := []) 12 1 107 [44] _ _ _ _ _ ?_
      show am_T ro 1 107 44 [.ref 60] [] ((wd c a l f).set 60 (.inr (10, [.ref 61, .int (f 60 1), .int (f 60 2), .int (f 60 3), .ref 62, .ref 63, .ref 64, .ref 65, .ref 66, .ref 67, .ref 68, .ref 69, .ref 70, .ref 71, .ref 72, .ref 73, .ref 74, .ref 75, .int (f 60 18), .ref 76, .ref 77, .ref 78, .ref 79, .int (f 60 23), .ref 80, .ref 81, .int (f 60 26), .int (f 60 27), .int (f 60 28)].set 2 (.int (f 60 2 + 1))))) K
      rw [wf_60_2, h2, nI_1]
      refine am_wp_ok (inl := []) 3 1 107 [8] _ _ _ _ _ ?_
      show am_T ro 1 107 8 [.ref 60] [] (wd c a l (u3 f 60 2 (nI (i + 1)))) K
      refine ih (i + 1) _ h1 rfl (by omega) ?_
      rw [u3_u3, ← sk_t (b := bm a) hb]
      exact k
    | false =>
      refine am_br_t (show nI false.toNat = 0 from rfl) ?_
      rw [sk_f (b := bm a) hb, show u3 f 60 2 (nI i) = f by rw [← h2]; exact u3_id] at k
      exact k
set_option maxRecDepth 100000 in
set_option maxHeartbeats 4000000 in
theorem mn2 {ro : Nat → Option am_C} {c : Bool} {a : Nat → Nat → Int32} {l : Nat → Int64} {n : Nat} {K : Option Value → am_H → Prop} (hn : n ≤ 900) : ∀ (m i : Nat) (f : Nat → Nat → Int32), f 60 1 = nI n → f 60 3 = nI i → i + m = n → am_T ro 1 107 94 [.ref 60] [] (wd c a l (u3 f 60 3 (nI (sk (fun k => !bm a k) i m)))) K → am_T ro 1 107 55 [.ref 60] [] (wd c a l f) K := by
  intro m
  induction m with
  | zero =>
    intro i f h1 h2 h k
    refine am_wp_ok (inl := []) 12 1 107 [94] _ _ _ _ _ ?_
    refine am_br_t (show f 60 1 ≤ f 60 3 by rw [h1, h2]; exact nI_le (by omega) (by omega)) ?_
    replace k : am_T ro 1 107 94 [.ref 60] [] (wd c a l (u3 f 60 3 (nI i))) K := k
    rw [show u3 f 60 3 (nI i) = f by rw [← h2]; exact u3_id] at k
    exact k
  | succ m ih =>
    intro i f h1 h2 h k
    refine am_wp_ok (inl := []) 12 1 107 [66] _ _ _ _ _ ?_
    refine am_br_f (show ¬ f 60 1 ≤ f 60 3 by rw [h1, h2]; exact nI_ge (by omega) (by omega)) ?_
    show am_T ro 1 107 66 [.ref 60] [] (wd c a l f) K
    refine am_wp_ok (inl := []) 12 1 107 [78] _ _ _ _ _ ?_
    refine And.intro (show vp_in (f 60 3) 900 by rw [h2]; exact vp_in_nI (by omega) (by decide)) ?_
    have hs : am_run ro 1 108 [.int (a 61 (f 60 3).toNatClampNeg)] (wd c a l f) (some (.int (nI (bm a i).toNat))) (wd c a l f) := by rw [h2, nI_clamp (by omega)]; exact sp_blank
    refine ⟨_, _, hs, ?_⟩
    show am_T ro 1 107 78 [.ref 60] [.int (nI (bm a i).toNat)] (wd c a l f) K
    refine am_wp_ok (inl := []) 12 1 107 [81, 94] _ _ _ _ _ ?_
    cases hb : bm a i with
    | true =>
      refine am_br_t (show ¬ nI true.toNat = 0 by decide) ?_
      rw [sk_f (b := fun k => !bm a k) (show (!bm a i) = false by rw [hb]; rfl), show u3 f 60 3 (nI i) = f by rw [← h2]; exact u3_id] at k
      exact k
    | false =>
      refine am_br_f (show ¬ ¬ nI false.toNat = 0 from fun z => z rfl) ?_
      show am_T ro 1 107 81 [.ref 60] [] (wd c a l f) K
      refine am_wp_ok (inl := []) 12 1 107 [91] _ _ _ _ _ ?_
      show am_T ro 1 107 91 [.ref 60] [] ((wd c a l f).set 60 (.inr (10, [.ref 61, .int (f 60 1), .int (f 60 2), .int (f 60 3), .ref 62, .ref 63, .ref 64, .ref 65, .ref 66, .ref 67, .ref 68, .ref 69, .ref 70, .ref 71, .ref 72, .ref 73, .ref 74, .ref 75, .int (f 60 18), .ref 76, .ref 77, .ref 78, .ref 79, .int (f 60 23), .ref 80, .ref 81, .int (f 60 26), .int (f 60 27), .int (f 60 28)].set 3 (.int (f 60 3 + 1))))) K
      rw [wf_60_3, h2, nI_1]
      refine am_wp_ok (inl := []) 3 1 107 [55] _ _ _ _ _ ?_
      show am_T ro 1 107 55 [.ref 60] [] (wd c a l (u3 f 60 3 (nI (i + 1)))) K
      refine ih (i + 1) _ h1 rfl (by omega) ?_
      rw [u3_u3, ← sk_t (b := fun k => !bm a k) (show (!bm a i) = true by rw [hb]; rfl)]
      exact k
set_option maxRecDepth 100000 in
set_option maxHeartbeats 4000000 in
theorem mo_next {ro : Nat → Option am_C} {c : Bool} {a : Nat → Nat → Int32} {l : Nat → Int64} {f : Nat → Nat → Int32} {n j : Nat} (hn : n ≤ 900) (h1 : f 60 1 = nI n) (h3 : f 60 3 = nI j) (hj : j ≤ n) : am_run ro 2 107 [.ref 60] (wd c a l f) (some (.int (nI (decide (ws (bm a) n j < n)).toNat))) (wd c a l (u3 (u3 f 60 2 (nI (ws (bm a) n j))) 60 3 (nI (we (bm a) n j)))) := by
  have g1 := ws_le (b := bm a) hj
  refine am_run_of rfl (am_wp_ok (inl := []) 6 1 107 [8] 0 _ _ _ _ ?_)
  show am_T ro 1 107 8 [.ref 60] [] ((wd c a l f).set 60 (.inr (10, [.ref 61, .int (f 60 1), .int (f 60 2), .int (f 60 3), .ref 62, .ref 63, .ref 64, .ref 65, .ref 66, .ref 67, .ref 68, .ref 69, .ref 70, .ref 71, .ref 72, .ref 73, .ref 74, .ref 75, .int (f 60 18), .ref 76, .ref 77, .ref 78, .ref 79, .int (f 60 23), .ref 80, .ref 81, .int (f 60 26), .int (f 60 27), .int (f 60 28)].set 2 (.int (f 60 3))))) _
  rw [wf_60_2, h3]
  refine mn1 hn (n - j) j _ h1 rfl (by omega) ?_
  rw [u3_u3]
  show am_T ro 1 107 47 [.ref 60] [] (wd c a l (u3 f 60 2 (nI (ws (bm a) n j)))) _
  generalize hF : u3 f 60 2 (nI (ws (bm a) n j)) = F
  have F1 : F 60 1 = nI n := by rw [← hF]; exact h1
  have F2 : F 60 2 = nI (ws (bm a) n j) := by rw [← hF]; rfl
  refine am_wp_ok (inl := []) 6 1 107 [55] _ _ _ _ _ ?_
  show am_T ro 1 107 55 [.ref 60] [] ((wd c a l F).set 60 (.inr (10, [.ref 61, .int (F 60 1), .int (F 60 2), .int (F 60 3), .ref 62, .ref 63, .ref 64, .ref 65, .ref 66, .ref 67, .ref 68, .ref 69, .ref 70, .ref 71, .ref 72, .ref 73, .ref 74, .ref 75, .int (F 60 18), .ref 76, .ref 77, .ref 78, .ref 79, .int (F 60 23), .ref 80, .ref 81, .int (F 60 26), .int (F 60 27), .int (F 60 28)].set 3 (.int (F 60 2))))) _
  rw [wf_60_3, F2]
  refine mn2 hn (n - ws (bm a) n j) (ws (bm a) n j) _ F1 rfl (by omega) ?_
  rw [u3_u3]
  show am_T ro 1 107 94 [.ref 60] [] (wd c a l (u3 F 60 3 (nI (we (bm a) n j)))) _
  generalize hE : u3 F 60 3 (nI (we (bm a) n j)) = E
  have E1 : E 60 1 = nI n := by rw [← hE]; exact F1
  have E2 : E 60 2 = nI (ws (bm a) n j) := by rw [← hE]; exact F2
  refine am_wp_ok (inl := []) 12 1 107 [] _ _ _ _ _ ?_
  by_cases hq : ws (bm a) n j < n
  · refine am_br_f (show ¬ E 60 1 ≤ E 60 2 by rw [E1, E2]; exact nI_ge hq (by omega)) ?_
    rw [decide_eq_true hq]
    exact And.intro rfl (And.intro rfl rfl)
  · refine am_br_t (show E 60 1 ≤ E 60 2 by rw [E1, E2]; exact nI_le (by omega) (by omega)) ?_
    rw [decide_eq_false hq]
    exact And.intro rfl (And.intro rfl rfl)
/-- the two texts have their words at the same places -/
theorem bl_bm {a : Nat → Nat → Int32} {n : Nat} (h : ∀ i, i < n → ∃ u : Nat, u < 256 ∧ a 61 i = nI u ∧ a 2 i = nI (if u = 10 then 32 else u)) : ∀ i, i < n → bl a i = bm a i := by
  intro i hi
  obtain ⟨u, hu, e1, e2⟩ := h i hi
  unfold bl bm
  rw [e1, e2]
  by_cases h10 : u = 10
  · subst h10
    rfl
  · rw [if_neg h10, decide_eq_false (show ¬ nI u = nI 10 by rw [nI_eq (by omega) (by decide)]; exact h10), Bool.or_false]
theorem ws_bm {a : Nat → Nat → Int32} {n j : Nat} (h : ∀ i, i < n → bl a i = bm a i) (hj : j ≤ n) : ws (bl a) n j = ws (bm a) n j ∧ we (bl a) n j = we (bm a) n j := by
  have e : ws (bl a) n j = ws (bm a) n j := sk_eq _ _ (fun k _ h2 => h k (by omega))
  refine ⟨e, ?_⟩
  unfold we
  rw [e]
  have := ws_le (b := bm a) hj
  exact sk_eq _ _ (fun k _ h2 => by show (!bl a k) = (!bm a k); rw [h k (by omega)])
/-! the word at hand, in the class: from s to t -/
set_option maxRecDepth 100000 in
set_option maxHeartbeats 4000000 in
theorem sp_len {ro : Nat → Option am_C} {c : Bool} {a : Nat → Nat → Int32} {l : Nat → Int64} {f : Nat → Nat → Int32} {s t : Nat} (h2 : f 1 2 = nI s) (h3 : f 1 3 = nI t) (hst : s ≤ t) : am_run ro 1 30 [.ref 1] (wd c a l f) (some (.int (nI (t - s)))) (wd c a l f) := by
  refine am_run_of rfl (am_wp_ok (inl := []) 12 0 30 [] 0 _ _ _ _ ?_)
  exact And.intro (show some (Value.int (f 1 3 - f 1 2)) = _ by rw [h2, h3, nI_sub hst]) rfl
set_option maxRecDepth 100000 in
set_option maxHeartbeats 4000000 in
theorem sp_byte_t {ro : Nat → Option am_C} {c : Bool} {a : Nat → Nat → Int32} {l : Nat → Int64} {f : Nat → Nat → Int32} {s t i : Nat} (h2 : f 1 2 = nI s) (h3 : f 1 3 = nI t) (hst : s ≤ t) (ht : t ≤ 900) (hi : i < t - s) : am_run ro 1 31 [.ref 1, .int (nI i)] (wd c a l f) (some (.int (a 2 (s + i)))) (wd c a l f) := by
  refine am_run_of rfl (am_wp_ok (inl := []) 12 0 31 [19] 0 _ _ _ _ ?_)
  refine am_br_f (nI_pos (by omega)) ?_
  refine am_br_t (show nI i < f 1 3 - f 1 2 by rw [h2, h3, nI_sub hst]; exact nI_lt hi (by omega)) ?_
  show am_T ro 0 31 19 [.ref 1, .int (nI i)] [] (wd c a l f) _
  refine am_wp_ok (inl := []) 12 0 31 [] _ _ _ _ _ ?_
  refine And.intro (show vp_in (f 1 2 + nI i) 900 by rw [h2, nI_add]; exact vp_in_nI (by omega) (by decide)) ?_
  refine And.intro (show some (Value.int (a 2 (f 1 2 + nI i).toNatClampNeg)) = _ by rw [h2, nI_add, nI_clamp (by omega)]) rfl
set_option maxRecDepth 100000 in
set_option maxHeartbeats 4000000 in
theorem cs_first {ro : Nat → Option am_C} {c : Bool} {a : Nat → Nat → Int32} {l : Nat → Int64} {f : Nat → Nat → Int32} {n : Nat} (hn : n ≤ 900) (h1 : f 1 1 = nI n) : am_run ro 2 26 [.ref 1] (wd c a l f) none (wd c a l (u3 (u3 (u3 f 1 2 (nI (ws (bl a) n 0))) 1 3 (nI (we (bl a) n 0))) 1 4 0)) := by
  refine am_run_of rfl (am_wp_ok (inl := []) 4 1 26 [5] 0 _ _ _ _ ?_)
  show am_T ro 1 26 5 [.ref 1] [] ((wd c a l f).set 1 (.inr (1, [.ref 2, .int (f 1 1), .int (f 1 2), .int (f 1 3), .int (f 1 4)].set 3 (.int 0)))) _
  rw [wf_1_3]
  generalize hF : u3 f 1 3 0 = F
  refine am_wp_ok (inl := []) 4 1 26 [10] _ _ _ _ _ ?_
  show am_T ro 1 26 10 [.ref 1] [] ((wd c a l F).set 1 (.inr (1, [.ref 2, .int (F 1 1), .int (F 1 2), .int (F 1 3), .int (F 1 4)].set 4 (.int (-1))))) _
  rw [wf_1_4]
  refine am_wp_ok (inl := []) 6 1 26 [] _ _ _ _ _ ?_
  refine ⟨_, _, cs_next (f := u3 F 1 4 (-1)) (w := -1) (j := 0) hn (show F 1 1 = nI n by rw [← hF]; exact h1) (show F 1 3 = nI 0 by rw [← hF]; rfl) (by omega) rfl, ?_⟩
  refine And.intro rfl ?_
  show wd c a l _ = wd c a l _
  refine congrArg (wd c a l) ?_
  rw [← hF, show (-1 : Int32) + 1 = 0 by decide]
  funext x y
  simp only [u3]
  cases h1 : Nat.beq x 1 <;> cases h2 : Nat.beq y 2 <;> cases h3 : Nat.beq y 3 <;> cases h4 : Nat.beq y 4 <;> rfl
