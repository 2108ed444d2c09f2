/-! WORDS -/
/-- the first of the m places from i on that isn't so, or what lies behind them -/
def sk (b : Nat → Bool) : Nat → Nat → Nat
  | i, 0 => i
  | i, m + 1 => bif b i then sk b (i + 1) m else i
theorem sk_t {b : Nat → Bool} {i m : Nat} (h : b i = true) : sk b i (m + 1) = sk b (i + 1) m := by
  show (bif b i then _ else _) = _
  rw [h]
  rfl
theorem sk_f {b : Nat → Bool} {i m : Nat} (h : b i = false) : sk b i (m + 1) = i := by
  show (bif b i then _ else _) = _
  rw [h]
  rfl
theorem sk_le {b : Nat → Bool} : ∀ (m i : Nat), i ≤ sk b i m ∧ sk b i m ≤ i + m := by
  intro m
  induction m with
  | zero => intro i; exact ⟨Nat.le_refl _, Nat.le_refl _⟩
  | succ m ih =>
    intro i
    cases h : b i with
    | true => rw [sk_t h]; have := ih (i + 1); omega
    | false => rw [sk_f h]; omega
theorem sk_eq {b b' : Nat → Bool} : ∀ (m i : Nat), (∀ k, i ≤ k → k < i + m → b k = b' k) → sk b i m = sk b' i m := by
  intro m
  induction m with
  | zero => intro i h; rfl
  | succ m ih =>
    intro i h
    show (bif b i then sk b (i + 1) m else i) = (bif b' i then sk b' (i + 1) m else i)
    rw [h i (by omega) (by omega), ih (i + 1) (fun k h1 h2 => h k (by omega) (by omega))]
/-- blanks of the class's text, of the reference's -/
def bl (a : Nat → Nat → Int32) (i : Nat) : Bool := decide (a 2 i = nI 32)
def bm (a : Nat → Nat → Int32) (i : Nat) : Bool := decide (a 61 i = nI 32) || decide (a 61 i = nI 10)
set_option maxRecDepth 100000 in
set_option maxHeartbeats 4000000 in
theorem tn1 {ro : Nat → Option am_C} {c : Bool} {a : Nat → Nat → Int32} {l : Nat → Int64} {n : Nat} {K : Option Value → am_H → Prop} (hn : n ≤ 900) : ∀ (m i : Nat) (f : Nat → Nat → Int32), f 1 1 = nI n → f 1 2 = nI i → i + m = n → am_T ro 0 27 46 [.ref 1] [] (wd c a l (u3 f 1 2 (nI (sk (bl a) i m)))) K → am_T ro 0 27 8 [.ref 1] [] (wd c a l f) K := by
  intro m
  induction m with
  | zero =>
    intro i f h1 h2 h k
    refine am_wp_ok (inl := []) 12 0 27 [46] _ _ _ _ _ ?_
    refine am_br_t (show f 1 1 ≤ f 1 2 by rw [h1, h2]; exact nI_le (by omega) (by omega)) ?_
    replace k : am_T ro 0 27 46 [.ref 1] [] (wd c a l (u3 f 1 2 (nI i))) K := k
    rw [show u3 f 1 2 (nI i) = f by rw [← h2]; exact u3_id] at k
    exact k
  | succ m ih =>
    intro i f h1 h2 h k
    refine am_wp_ok (inl := []) 12 0 27 [19] _ _ _ _ _ ?_
    refine am_br_f (show ¬ f 1 1 ≤ f 1 2 by rw [h1, h2]; exact nI_ge (by omega) (by omega)) ?_
    show am_T ro 0 27 19 [.ref 1] [] (wd c a l f) K
    refine am_wp_ok (inl := []) 12 0 27 [33, 46] _ _ _ _ _ ?_
    refine And.intro (show vp_in (f 1 2) 900 by rw [h2]; exact vp_in_nI (by omega) (by decide)) ?_
    have e : a 2 (f 1 2).toNatClampNeg = a 2 i := by rw [h2, nI_clamp (by omega)]
    by_cases hb : a 2 i = nI 32
    · refine am_br_f (show ¬ ¬ a 2 (f 1 2).toNatClampNeg = nI 32 by rw [e]; exact fun z => z hb) ?_
      show am_T ro 0 27 33 [.ref 1] [] (wd c a l f) K
      refine am_wp_ok (inl := []) 12 0 27 [43] _ _ _ _ _ ?_
      show am_T ro 0 27 43 [.ref 1] [] ((wd c a l f).set 1 (.inr (1, [.ref 2, .int (f 1 1), .int (f 1 2), .int (f 1 3), .int (f 1 4)].set 2 (.int (f 1 2 + 1))))) K
      rw [wf_1_2, h2, nI_1]
      refine am_wp_ok (inl := []) 3 0 27 [8] _ _ _ _ _ ?_
      show am_T ro 0 27 8 [.ref 1] [] (wd c a l (u3 f 1 2 (nI (i + 1)))) K
      refine ih (i + 1) _ h1 rfl (by omega) ?_
      rw [u3_u3, ← sk_t (b := bl a) (decide_eq_true hb)]
      exact k
    · refine am_br_t (show ¬ a 2 (f 1 2).toNatClampNeg = nI 32 by rw [e]; exact hb) ?_
      rw [sk_f (b := bl a) (decide_eq_false hb), show u3 f 1 2 (nI i) = f by rw [← h2]; exact u3_id] at k
      exact k
set_option maxRecDepth 100000 in
set_option maxHeartbeats 4000000 in
theorem tn2 {ro : Nat → Option am_C} {c : Bool} {a : Nat → Nat → Int32} {l : Nat → Int64} {n : Nat} {K : Option Value → am_H → Prop} (hn : n ≤ 900) : ∀ (m i : Nat) (f : Nat → Nat → Int32), f 1 1 = nI n → f 1 3 = nI i → i + m = n → am_T ro 0 27 92 [.ref 1] [] (wd c a l (u3 f 1 3 (nI (sk (fun k => !bl a k) i m)))) K → am_T ro 0 27 54 [.ref 1] [] (wd c a l f) K := by
  intro m
  induction m with
  | zero =>
    intro i f h1 h2 h k
    refine am_wp_ok (inl := []) 12 0 27 [92] _ _ _ _ _ ?_
    refine am_br_t (show f 1 1 ≤ f 1 3 by rw [h1, h2]; exact nI_le (by omega) (by omega)) ?_
    replace k : am_T ro 0 27 92 [.ref 1] [] (wd c a l (u3 f 1 3 (nI i))) K := k
    rw [show u3 f 1 3 (nI i) = f by rw [← h2]; exact u3_id] at k
    exact k
  | succ m ih =>
    intro i f h1 h2 h k
    refine am_wp_ok (inl := []) 12 0 27 [65] _ _ _ _ _ ?_
    refine am_br_f (show ¬ f 1 1 ≤ f 1 3 by rw [h1, h2]; exact nI_ge (by omega) (by omega)) ?_
    show am_T ro 0 27 65 [.ref 1] [] (wd c a l f) K
    refine am_wp_ok (inl := []) 12 0 27 [79, 92] _ _ _ _ _ ?_
    refine And.intro (show vp_in (f 1 3) 900 by rw [h2]; exact vp_in_nI (by omega) (by decide)) ?_
    have e : a 2 (f 1 3).toNatClampNeg = a 2 i := by rw [h2, nI_clamp (by omega)]
    by_cases hb : a 2 i = nI 32
    · refine am_br_t (show a 2 (f 1 3).toNatClampNeg = nI 32 by rw [e]; exact hb) ?_
      rw [sk_f (b := fun k => !bl a k) (show (!bl a i) = false by rw [show bl a i = true from decide_eq_true hb]; rfl), show u3 f 1 3 (nI i) = f by rw [← h2]; exact u3_id] at k
      exact k
    · refine am_br_f (show ¬ a 2 (f 1 3).toNatClampNeg = nI 32 by rw [e]; exact hb) ?_
      show am_T ro 0 27 79 [.ref 1] [] (wd c a l f) K
      refine am_wp_ok (inl := []) 12 0 27 [89] _ _ _ _ _ ?_
      show am_T ro 0 27 89 [.ref 1] [] ((wd c a l f).set 1 (.inr (1, [.ref 2, .int (f 1 1), .int (f 1 2), .int (f 1 3), .int (f 1 4)].set 3 (.int (f 1 3 + 1))))) K
      rw [wf_1_3, h2, nI_1]
      refine am_wp_ok (inl := []) 3 0 27 [54] _ _ _ _ _ ?_
      show am_T ro 0 27 54 [.ref 1] [] (wd c a l (u3 f 1 3 (nI (i + 1)))) K
      refine ih (i + 1) _ h1 rfl (by omega) ?_
      rw [u3_u3, ← sk_t (b := fun k => !bl a k) (show (!bl a i) = true by rw [show bl a i = false from decide_eq_false hb]; rfl)]
      exact k
/-- where the next word begins and ends -/
def ws (b : Nat → Bool) (n j : Nat) : Nat := sk b j (n - j)
def we (b : Nat → Bool) (n j : Nat) : Nat := sk (fun k => !b k) (ws b n j) (n - ws b n j)
theorem ws_le {b : Nat → Bool} {n j : Nat} (h : j ≤ n) : j ≤ ws b n j ∧ ws b n j ≤ n := by
  have := sk_le (b := b) (n - j) j
  unfold ws
  omega
theorem we_le {b : Nat → Bool} {n j : Nat} (h : j ≤ n) : ws b n j ≤ we b n j ∧ we b n j ≤ n := by
  have h1 := ws_le (b := b) h
  have := sk_le (b := fun k => !b k) (n - ws b n j) (ws b n j)
  unfold we
  omega
set_option maxRecDepth 100000 in
set_option maxHeartbeats 4000000 in
theorem cs_next {ro : Nat → Option am_C} {c : Bool} {a : Nat → Nat → Int32} {l : Nat → Int64} {f : Nat → Nat → Int32} {n j : Nat} {w : Int32} (hn : n ≤ 900) (h1 : f 1 1 = nI n) (h3 : f 1 3 = nI j) (hj : j ≤ n) (h4 : f 1 4 = w) : am_run ro 1 27 [.ref 1] (wd c a l f) none (wd c a l (u3 (u3 (u3 f 1 2 (nI (ws (bl a) n j))) 1 3 (nI (we (bl a) n j))) 1 4 (w + 1))) := by
  have g1 := ws_le (b := bl a) hj
  refine am_run_of rfl (am_wp_ok (inl := []) 6 0 27 [8] 0 _ _ _ _ ?_)
  show am_T ro 0 27 8 [.ref 1] [] ((wd c a l f).set 1 (.inr (1, [.ref 2, .int (f 1 1), .int (f 1 2), .int (f 1 3), .int (f 1 4)].set 2 (.int (f 1 3))))) _
  rw [wf_1_2, h3]
  refine tn1 hn (n - j) j _ h1 rfl (by omega) ?_
  rw [u3_u3]
  show am_T ro 0 27 46 [.ref 1] [] (wd c a l (u3 f 1 2 (nI (ws (bl a) n j)))) _
  generalize hF : u3 f 1 2 (nI (ws (bl a) n j)) = F
  have F1 : F 1 1 = nI n := by rw [← hF]; exact h1
  have F2 : F 1 2 = nI (ws (bl a) n j) := by rw [← hF]; rfl
  have F4 : F 1 4 = w := by rw [← hF]; exact h4
  refine am_wp_ok (inl := []) 6 0 27 [54] _ _ _ _ _ ?_
  show am_T ro 0 27 54 [.ref 1] [] ((wd c a l F).set 1 (.inr (1, [.ref 2, .int (F 1 1), .int (F 1 2), .int (F 1 3), .int (F 1 4)].set 3 (.int (F 1 2))))) _
  rw [wf_1_3, F2]
  refine tn2 hn (n - ws (bl a) n j) (ws (bl a) n j) _ F1 rfl (by omega) ?_
  rw [u3_u3]
  show am_T ro 0 27 92 [.ref 1] [] (wd c a l (u3 F 1 3 (nI (we (bl a) n j)))) _
  generalize hE : u3 F 1 3 (nI (we (bl a) n j)) = E
  have E4 : E 1 4 = w := by rw [← hE]; exact F4
  refine am_wp_ok (inl := []) 12 0 27 [] _ _ _ _ _ ?_
  refine And.intro rfl ?_
  show (wd c a l E).set 1 (.inr (1, [.ref 2, .int (E 1 1), .int (E 1 2), .int (E 1 3), .int (E 1 4)].set 4 (.int (E 1 4 + 1)))) = _
  rw [wf_1_4, E4]
