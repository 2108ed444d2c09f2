/-! NUMBERS: the word at hand as one -/
def dz (u : Nat → Nat) (q : Nat) : Bool := decide (48 ≤ u q) && decide (u q ≤ 57)
def vf (u : Nat → Nat) : Nat → Nat → Nat → Nat
  | _, 0, P => P
  | k, m + 1, P => vf u (k + 1) m (10 * P + (u k - 48))
def ng (u : Nat → Nat) (T : Nat) : Bool := decide (1 ≤ T) && decide (T ≤ 6) && al (dz u) 0 T
/-- the number that the word is, below a bound; else -1 -/
def nv (u : Nat → Nat) (T b : Nat) : Int32 := bif ng u T && decide (vf u 0 T 0 < b) then nI (vf u 0 T 0) else -1
/-- the text's word at hand, of the class -/
def tx (f : Nat → Nat → Int32) (s t : Nat) (w : Int32) : Nat → Nat → Int32 := u3 (u3 (u3 f 1 2 (nI s)) 1 3 (nI t)) 1 4 w
theorem v_step {P d k : Nat} (hP : P < 10 ^ k) (hd : d ≤ 9) : 10 * P + d < 10 ^ (k + 1) := by
  rw [Nat.pow_succ]
  generalize 10 ^ k = X at *
  omega
theorem v_6 {P k : Nat} (hP : P < 10 ^ k) (hk : k ≤ 6) : P < 1000000 := Nat.lt_of_lt_of_le hP (Nat.le_trans (Nat.pow_le_pow_right (by decide) hk) (by decide))
theorem dz_t {u : Nat → Nat} {q : Nat} (h1 : 48 ≤ u q) (h2 : u q ≤ 57) : dz u q = true := by
  unfold dz
  rw [decide_eq_true h1, decide_eq_true h2]
  rfl
theorem dz_l {u : Nat → Nat} {q : Nat} (h : u q < 48) : dz u q = false := by
  unfold dz
  rw [decide_eq_false (show ¬ 48 ≤ u q by omega)]
  rfl
theorem dz_g {u : Nat → Nat} {q : Nat} (h : ¬ u q ≤ 57) : dz u q = false := by
  unfold dz
  rw [decide_eq_false h, Bool.and_false]
theorem vf_lt {u : Nat → Nat} : ∀ (m k P : Nat), al (dz u) k m = true → P < 10 ^ k → vf u k m P < 10 ^ (k + m) := by
  intro m
  induction m with
  | zero => intro k P _ h; exact h
  | succ m ih =>
    intro k P h hP
    have h' : (dz u k && al (dz u) (k + 1) m) = true := h
    rw [Bool.and_eq_true] at h'
    have hd := h'.1
    unfold dz at hd
    rw [Bool.and_eq_true] at hd
    have d2 := of_decide_eq_true hd.2
    have := ih (k + 1) (10 * P + (u k - 48)) h'.2 (v_step hP (by omega))
    rw [show k + (m + 1) = k + 1 + m by omega]
    exact this
theorem ng_lt {u : Nat → Nat} {T : Nat} (h : ng u T = true) : vf u 0 T 0 < 1000000 := by
  unfold ng at h
  rw [Bool.and_eq_true, Bool.and_eq_true] at h
  have := vf_lt T 0 0 h.2 (by decide)
  rw [Nat.zero_add] at this
  exact v_6 this (of_decide_eq_true h.1.2)
theorem nv_6 {u : Nat → Nat} {T : Nat} : nv u T 1000000 = bif ng u T then nI (vf u 0 T 0) else -1 := by
  unfold nv
  cases h : ng u T with
  | false => rfl
  | true => rw [decide_eq_true (ng_lt h)]; rfl
theorem dg_neg : ∀ x, x < 48 → nI x - nI 48 < 0 := by decide
set_option maxRecDepth 100000 in
set_option maxHeartbeats 4000000 in
theorem nn_loop {ro : Nat → Option am_C} {c : Bool} {a : Nat → Nat → Int32} {l : Nat → Int64} {f : Nat → Nat → Int32} {s t b : Nat} {u : Nat → Nat} (hb : b ≤ 1000000) (h2 : f 1 2 = nI s) (h3 : f 1 3 = nI t) (hst : s ≤ t) (ht : t ≤ 900) (h6 : t - s ≤ 6) (hu : ∀ q, q < t - s → a 2 (s + q) = nI (u q) ∧ u q < 256) : ∀ (m k P : Nat) (X4 : Value), Nat.beq X4.category 1 = true → k + m = t - s → P < 10 ^ k → am_T ro 1 32 27 [.ref 1, .int (nI b), .int (nI P), .int (nI k), X4] [] (wd c a l f) (fun r hp' => r = some (.int (bif al (dz u) k m && decide (vf u k m P < b) then nI (vf u k m P) else -1)) ∧ hp' = wd c a l f) := by
  intro m
  induction m with
  | zero =>
    intro k P X4 g4 h hP
    have hp6 := v_6 hP (by omega)
    refine am_wp_ok (inl := []) 4 1 32 [32] _ _ _ _ _ ?_
    refine ⟨_, _, sp_len h2 h3 hst, ?_⟩
    show am_T ro 1 32 32 [.ref 1, .int (nI b), .int (nI P), .int (nI k), X4] [.int (nI (t - s)), .int (nI k)] (wd c a l f) _
    refine am_wp_ok (inl := []) 3 1 32 [73] _ _ _ _ _ ?_
    refine am_br_t (nI_le (by omega) (by omega)) ?_
    show am_T ro 1 32 73 [.ref 1, .int (nI b), .int (nI P), .int (nI k), X4] [] (wd c a l f) _
    refine am_wp_ok (inl := []) 8 1 32 [] _ _ _ _ _ ?_
    show (nI b ≤ nI P → _) ∧ (¬ nI b ≤ nI P → _)
    by_cases hq : P < b
    · refine am_br_f (nI_ge hq (by omega)) ?_
      refine And.intro ?_ rfl
      rw [show (al (dz u) k 0 && decide (vf u k 0 P < b)) = true from decide_eq_true hq]
      rfl
    · refine am_br_t (nI_le (by omega) (by omega)) ?_
      refine And.intro ?_ rfl
      rw [show (al (dz u) k 0 && decide (vf u k 0 P < b)) = false from decide_eq_false hq]
      rfl
  | succ m ih =>
    intro k P X4 g4 h hP
    obtain ⟨hu1, hu2⟩ := hu k (by omega)
    refine am_wp_ok (inl := []) 4 1 32 [32] _ _ _ _ _ ?_
    refine ⟨_, _, sp_len h2 h3 hst, ?_⟩
    show am_T ro 1 32 32 [.ref 1, .int (nI b), .int (nI P), .int (nI k), X4] [.int (nI (t - s)), .int (nI k)] (wd c a l f) _
    refine am_wp_ok (inl := []) 4 1 32 [40] _ _ _ _ _ ?_
    refine am_br_f (nI_ge (by omega) (by omega)) ?_
    refine ⟨_, _, sp_byte_t h2 h3 hst ht (show k < t - s by omega), ?_⟩
    show am_T ro 1 32 40 [.ref 1, .int (nI b), .int (nI P), .int (nI k), X4] [.int (a 2 (s + k))] (wd c a l f) _
    rw [hu1]
    refine am_wp_ok (inl := []) 4 1 32 [45] _ _ _ _ _ ?_
    show am_T ro 1 32 45 [.ref 1, .int (nI b), .int (nI P), .int (nI k), .int (nI (u k) - nI 48)] [] (wd c a l f) _
    by_cases hl : u k < 48
    · refine am_wp_ok (inl := []) 6 1 32 [50] _ _ _ _ _ ?_
      refine am_br_t (dg_neg _ hl) ?_
      rw [al_f (dz_l hl)]
      exact And.intro rfl rfl
    · rw [nI_sub (show 48 ≤ u k by omega)]
      refine am_wp_ok (inl := []) 3 1 32 [50] _ _ _ _ _ ?_
      refine am_br_f (nI_pos (by omega)) ?_
      show am_T ro 1 32 50 [.ref 1, .int (nI b), .int (nI P), .int (nI k), .int (nI (u k - 48))] [] (wd c a l f) _
      by_cases hg : u k ≤ 57
      · refine am_wp_ok (inl := []) 4 1 32 [59] _ _ _ _ _ ?_
        refine am_br_t (show nI (u k - 48) ≤ nI 9 from nI_le (by omega) (by decide)) ?_
        show am_T ro 1 32 59 [.ref 1, .int (nI b), .int (nI P), .int (nI k), .int (nI (u k - 48))] [] (wd c a l f) _
        refine am_wp_ok (inl := []) 9 1 32 [27] _ _ _ _ _ ?_
        show am_T ro 1 32 27 [.ref 1, .int (nI b), .int (nI P * nI 10 + nI (u k - 48)), .int (nI k + 1), .int (nI (u k - 48))] [] (wd c a l f) _
        rw [nI_mul, nI_add, nI_1, Nat.mul_comm P 10, al_t (dz_t (by omega) hg)]
        exact ih (k + 1) (10 * P + (u k - 48)) _ rfl (by omega) (v_step hP (by omega))
      · refine am_wp_ok (inl := []) 6 1 32 [59] _ _ _ _ _ ?_
        refine am_br_f (show ¬ nI (u k - 48) ≤ nI 9 from nI_ge (by omega) (by omega)) ?_
        rw [al_f (dz_g hg)]
        exact And.intro rfl rfl
set_option maxRecDepth 100000 in
set_option maxHeartbeats 4000000 in
theorem cs_num {ro : Nat → Option am_C} {c : Bool} {a : Nat → Nat → Int32} {l : Nat → Int64} {f : Nat → Nat → Int32} {n j b : Nat} {w : Int32} {u : Nat → Nat} (hb : b ≤ 1000000) (hn : n ≤ 900) (h1 : f 1 1 = nI n) (h3 : f 1 3 = nI j) (hj : j ≤ n) (h4 : f 1 4 = w) (hu : ∀ q, q < we (bl a) n j - ws (bl a) n j → a 2 (ws (bl a) n j + q) = nI (u q) ∧ u q < 256) : am_run ro 2 32 [.ref 1, .int (nI b)] (wd c a l f) (some (.int (nv u (we (bl a) n j - ws (bl a) n j) b))) (wd c a l (tx f (ws (bl a) n j) (we (bl a) n j) (w + 1))) := by
  have g2 := we_le (b := bl a) hj
  refine am_run_of rfl (am_wp_ok (inl := []) 3 1 32 [4] 0 _ _ _ _ ?_)
  refine ⟨_, _, cs_next hn h1 h3 hj h4, ?_⟩
  show am_T ro 1 32 4 [.ref 1, .int (nI b), am_un, am_un, am_un] [] (wd c a l (tx f (ws (bl a) n j) (we (bl a) n j) (w + 1))) _
  have e2 : tx f (ws (bl a) n j) (we (bl a) n j) (w + 1) 1 2 = nI (ws (bl a) n j) := rfl
  have e3 : tx f (ws (bl a) n j) (we (bl a) n j) (w + 1) 1 3 = nI (we (bl a) n j) := rfl
  generalize tx f (ws (bl a) n j) (we (bl a) n j) (w + 1) = F at *
  generalize ws (bl a) n j = s at *
  generalize we (bl a) n j = t at *
  refine am_wp_ok (inl := []) 3 1 32 [8] _ _ _ _ _ ?_
  refine ⟨_, _, sp_len e2 e3 g2.1, ?_⟩
  show am_T ro 1 32 8 [.ref 1, .int (nI b), am_un, am_un, am_un] [.int (nI (t - s))] (wd c a l F) _
  by_cases hq1 : t - s < 1
  · refine am_wp_ok (inl := []) 6 1 32 [12] _ _ _ _ _ ?_
    refine am_br_t (show nI (t - s) < nI 1 from nI_lt hq1 (by decide)) ?_
    rw [show nv u (t - s) b = -1 by unfold nv ng; rw [decide_eq_false (show ¬ 1 ≤ t - s by omega)]; rfl]
    exact And.intro rfl rfl
  · refine am_wp_ok (inl := []) 3 1 32 [12] _ _ _ _ _ ?_
    refine am_br_f (show ¬ nI (t - s) < nI 1 from nI_nlt (by omega) (by omega)) ?_
    show am_T ro 1 32 12 [.ref 1, .int (nI b), am_un, am_un, am_un] [] (wd c a l F) _
    refine am_wp_ok (inl := []) 3 1 32 [16] _ _ _ _ _ ?_
    refine ⟨_, _, sp_len e2 e3 g2.1, ?_⟩
    show am_T ro 1 32 16 [.ref 1, .int (nI b), am_un, am_un, am_un] [.int (nI (t - s))] (wd c a l F) _
    by_cases h6 : t - s ≤ 6
    · refine am_wp_ok (inl := []) 4 1 32 [23] _ _ _ _ _ ?_
      refine am_br_t (show nI (t - s) ≤ nI 6 from nI_le h6 (by decide)) ?_
      show am_T ro 1 32 23 [.ref 1, .int (nI b), am_un, am_un, am_un] [] (wd c a l F) _
      refine am_wp_ok (inl := []) 6 1 32 [27] _ _ _ _ _ ?_
      rw [show nv u (t - s) b = bif al (dz u) 0 (t - s) && decide (vf u 0 (t - s) 0 < b) then nI (vf u 0 (t - s) 0) else -1 by unfold nv ng; rw [decide_eq_true (show 1 ≤ t - s by omega), decide_eq_true h6]; rfl]
      exact nn_loop hb e2 e3 g2.1 (by omega) h6 hu (t - s) 0 0 am_un rfl (by omega) (by decide)
    · refine am_wp_ok (inl := []) 6 1 32 [23] _ _ _ _ _ ?_
      refine am_br_f (show ¬ nI (t - s) ≤ nI 6 from nI_ge (by omega) (by omega)) ?_
      rw [show nv u (t - s) b = -1 by unfold nv ng; rw [decide_eq_false h6, Bool.and_false]; rfl]
      exact And.intro rfl rfl
/-! numberAt -/
set_option maxRecDepth 100000 in
set_option maxHeartbeats 4000000 in
theorem nu_out {ro : Nat → Option am_C} {c : Bool} {a : Nat → Nat → Int32} {l : Nat → Int64} {f : Nat → Nat → Int32} {t i : Nat} (h3 : f 60 3 = nI t) (ht : t ≤ 900) (hi : i ≤ 901) : am_T ro 0 112 25 [.ref 60, .int (-1), .int (nI i)] [] (wd c a l f) (fun r hp' => r = some (.int (-1)) ∧ hp' = wd c a l f) := by
  have go : am_T ro 0 112 84 [.ref 60, .int (-1), .int (nI i)] [] (wd c a l f) (fun r hp' => r = some (.int (-1)) ∧ hp' = wd c a l f) := by
    refine am_wp_ok (inl := []) 3 0 112 [] _ _ _ _ _ ?_
    exact And.intro rfl rfl
  refine am_wp_ok (inl := []) 8 0 112 [84] _ _ _ _ _ ?_
  by_cases h : t ≤ i
  · refine am_br_t (show f 60 3 ≤ nI i by rw [h3]; exact nI_le h (by omega)) ?_
    exact go
  · refine am_br_f (show ¬ f 60 3 ≤ nI i by rw [h3]; exact nI_ge (by omega) (by omega)) ?_
    refine am_br_t (by decide) ?_
    exact go
set_option maxRecDepth 100000 in
set_option maxHeartbeats 4000000 in
theorem nu_loop {ro : Nat → Option am_C} {c : Bool} {a : Nat → Nat → Int32} {l : Nat → Int64} {f : Nat → Nat → Int32} {s t : Nat} {u : Nat → Nat} (h3 : f 60 3 = nI t) (hst : s ≤ t) (ht : t ≤ 900) (h6 : t - s ≤ 6) (hu : ∀ q, q < t - s → a 61 (s + q) = nI (u q) ∧ u q < 256) : ∀ (m k P : Nat), k + m = t - s → P < 10 ^ k → am_T ro 0 112 25 [.ref 60, .int (nI P), .int (nI (s + k))] [] (wd c a l f) (fun r hp' => r = some (.int (bif al (dz u) k m then nI (vf u k m P) else -1)) ∧ hp' = wd c a l f) := by
  intro m
  induction m with
  | zero =>
    intro k P h hP
    refine am_wp_ok (inl := []) 6 0 112 [84] _ _ _ _ _ ?_
    refine am_br_t (show f 60 3 ≤ nI (s + k) by rw [h3]; exact nI_le (by omega) (by omega)) ?_
    show am_T ro 0 112 84 [.ref 60, .int (nI P), .int (nI (s + k))] [] (wd c a l f) _
    refine am_wp_ok (inl := []) 3 0 112 [] _ _ _ _ _ ?_
    exact And.intro rfl rfl
  | succ m ih =>
    intro k P h hP
    have hp6 := v_6 hP (by omega)
    obtain ⟨e, hb⟩ := hu k (by omega)
    have e' : a 61 (nI (s + k)).toNatClampNeg = nI (u k) := by rw [nI_clamp (by omega)]; exact e
    have hin : vp_in (nI (s + k)) 900 := vp_in_nI (by omega) (by decide)
    have bad : dz u k = false → am_T ro 0 112 76 [.ref 60, .int (nI P), .int (nI (s + k))] [] (wd c a l f) (fun r hp' => r = some (.int (bif al (dz u) k (m + 1) then nI (vf u k (m + 1) P) else -1)) ∧ hp' = wd c a l f) := by
      intro hz
      rw [al_f (p := dz u) hz]
      refine am_wp_ok (inl := []) 5 0 112 [25] _ _ _ _ _ ?_
      show am_T ro 0 112 25 [.ref 60, .int (-1), .int (nI (s + k) + 1)] [] (wd c a l f) _
      rw [nI_1]
      exact nu_out h3 ht (by omega)
    refine am_wp_ok (inl := []) 8 0 112 [37] _ _ _ _ _ ?_
    refine am_br_f (show ¬ f 60 3 ≤ nI (s + k) by rw [h3]; exact nI_ge (by omega) (by omega)) ?_
    refine am_br_f (nI_pos (by omega)) ?_
    show am_T ro 0 112 37 [.ref 60, .int (nI P), .int (nI (s + k))] [] (wd c a l f) _
    refine am_wp_ok (inl := []) 7 0 112 [48, 76] _ _ _ _ _ ?_
    refine And.intro hin ?_
    by_cases hl : u k < 48
    · refine am_br_t (show a 61 (nI (s + k)).toNatClampNeg < nI 48 by rw [e']; exact nI_lt hl (by decide)) ?_
      exact bad (dz_l hl)
    · refine am_br_f (show ¬ a 61 (nI (s + k)).toNatClampNeg < nI 48 by rw [e']; exact nI_nlt (by omega) (by omega)) ?_
      show am_T ro 0 112 48 [.ref 60, .int (nI P), .int (nI (s + k))] [] (wd c a l f) _
      refine am_wp_ok (inl := []) 7 0 112 [59, 76] _ _ _ _ _ ?_
      refine And.intro hin ?_
      by_cases hg : u k ≤ 57
      · refine am_br_f (show ¬ nI 57 < a 61 (nI (s + k)).toNatClampNeg by rw [e']; exact nI_nlt hg (by decide)) ?_
        show am_T ro 0 112 59 [.ref 60, .int (nI P), .int (nI (s + k))] [] (wd c a l f) _
        refine am_wp_ok (inl := []) 12 0 112 [77] _ _ _ _ _ ?_
        refine And.intro hin ?_
        show am_T ro 0 112 77 [.ref 60, .int (nI P), .int (nI (s + k))] [.int (nI 10 * nI P + a 61 (nI (s + k)).toNatClampNeg - nI 48)] (wd c a l f) _
        rw [e', nI_mul, nI_add, nI_sub (show 48 ≤ 10 * P + u k by omega), show 10 * P + u k - 48 = 10 * P + (u k - 48) by omega]
        refine am_wp_ok (inl := []) 4 0 112 [25] _ _ _ _ _ ?_
        show am_T ro 0 112 25 [.ref 60, .int (nI (10 * P + (u k - 48))), .int (nI (s + k) + 1)] [] (wd c a l f) _
        rw [nI_1, al_t (p := dz u) (dz_t (by omega) hg)]
        exact ih (k + 1) _ (by omega) (v_step hP (by omega))
      · refine am_br_t (show nI 57 < a 61 (nI (s + k)).toNatClampNeg by rw [e']; exact nI_lt (by omega) (by omega)) ?_
        exact bad (dz_g hg)
set_option maxRecDepth 100000 in
set_option maxHeartbeats 4000000 in
theorem mo_num {ro : Nat → Option am_C} {c : Bool} {a : Nat → Nat → Int32} {l : Nat → Int64} {f : Nat → Nat → Int32} {s t : Nat} {u : Nat → Nat} (h2 : f 60 2 = nI s) (h3 : f 60 3 = nI t) (hst : s < t) (ht : t ≤ 900) (hu : ∀ q, q < t - s → a 61 (s + q) = nI (u q) ∧ u q < 256) : am_run ro 1 112 [.ref 60] (wd c a l f) (some (.int (nv u (t - s) 1000000))) (wd c a l f) := by
  have ed : f 60 3 - f 60 2 = nI (t - s) := by rw [h2, h3, nI_sub (by omega)]
  rw [nv_6]
  refine am_run_of rfl (am_wp_ok (inl := []) 8 0 112 [14, 18] 0 _ _ _ _ ?_)
  by_cases h6 : t - s ≤ 6
  · refine am_br_f (show ¬ nI 6 < f 60 3 - f 60 2 by rw [ed]; exact nI_nlt h6 (by decide)) ?_
    show am_T ro 0 112 14 [.ref 60, am_un, am_un] [] (wd c a l f) _
    refine am_wp_ok (inl := []) 8 0 112 [25] _ _ _ _ _ ?_
    show am_T ro 0 112 25 [.ref 60, .int (nI 0), .int (f 60 2)] [] (wd c a l f) _
    rw [h2, show ng u (t - s) = al (dz u) 0 (t - s) by unfold ng; rw [decide_eq_true (show 1 ≤ t - s by omega), decide_eq_true h6]; rfl]
    exact nu_loop h3 (by omega) ht h6 hu (t - s) 0 0 (by omega) (by decide)
  · refine am_br_t (show nI 6 < f 60 3 - f 60 2 by rw [ed]; exact nI_lt (by omega) (by omega)) ?_
    show am_T ro 0 112 18 [.ref 60, am_un, am_un] [] (wd c a l f) _
    refine am_wp_ok (inl := []) 8 0 112 [25] _ _ _ _ _ ?_
    show am_T ro 0 112 25 [.ref 60, .int (-1), .int (f 60 2)] [] (wd c a l f) _
    rw [h2, show ng u (t - s) = false by unfold ng; rw [decide_eq_false h6, Bool.and_false]; rfl]
    exact nu_out h3 ht (by omega)
