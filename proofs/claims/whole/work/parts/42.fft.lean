/-! THE FIRST BRANCH THAT FITS, in the class -/
def fft (ok : Nat → Bool) (M : Nat → Int32) : Nat → Nat → Int32
  | _, 0 => -1
  | b, m + 1 => bif ok b then (if M b = 0 then fft ok M (b + 1) m else if M b = 1 then nI b else M b) else fft ok M (b + 1) m
theorem fft_no {ok : Nat → Bool} {M : Nat → Int32} {b m : Nat} (h : ok b = false) : fft ok M b (m + 1) = fft ok M (b + 1) m := by
  show (bif ok b then _ else _) = _
  rw [h]
  rfl
theorem fft_0 {ok : Nat → Bool} {M : Nat → Int32} {b m : Nat} (h : ok b = true) (h2 : M b = 0) : fft ok M b (m + 1) = fft ok M (b + 1) m := by
  show (bif ok b then _ else _) = _
  rw [h, cond_true, if_pos h2]
theorem fft_1 {ok : Nat → Bool} {M : Nat → Int32} {b m : Nat} (h : ok b = true) (h2 : M b = 1) : fft ok M b (m + 1) = nI b := by
  show (bif ok b then _ else _) = _
  rw [h, cond_true, if_neg (by rw [h2]; decide), if_pos h2]
theorem fft_q {ok : Nat → Bool} {M : Nat → Int32} {b m : Nat} (h : ok b = true) (h2 : ¬ M b = 0) (h3 : ¬ M b = 1) : fft ok M b (m + 1) = M b := by
  show (bif ok b then _ else _) = _
  rw [h, cond_true, if_neg h2, if_neg h3]
theorem fft_eq {ok ok' : Nat → Bool} {M M' : Nat → Int32} : ∀ (m b : Nat), (∀ i, b ≤ i → i < b + m → ok i = ok' i ∧ M i = M' i) → fft ok M b m = fft ok' M' b m := by
  intro m
  induction m with
  | zero => intro b h; rfl
  | succ m ih =>
    intro b h
    obtain ⟨h1, h2⟩ := h b (by omega) (by omega)
    show (bif ok b then _ else _) = (bif ok' b then _ else _)
    rw [h1, h2, ih (b + 1) (fun i x y => h i (by omega) (by omega))]
/-- 0, 1, or a fact that is asked for -/
def tri (x : Int32) : Prop := x = 0 ∨ x = 1 ∨ ∃ q : Nat, q < 10 ∧ x = nI 0 - nI 2 - nI q
theorem fft_cases {ok : Nat → Bool} {M : Nat → Int32} : ∀ (m b : Nat), (∀ i, b ≤ i → i < b + m → tri (M i)) → fft ok M b m = -1 ∨ (∃ i : Nat, b ≤ i ∧ i < b + m ∧ fft ok M b m = nI i) ∨ ∃ q : Nat, q < 10 ∧ fft ok M b m = nI 0 - nI 2 - nI q := by
  intro m
  induction m with
  | zero => intro b h; exact Or.inl rfl
  | succ m ih =>
    intro b h
    have rcc := ih (b + 1) (fun i x y => h i (by omega) (by omega))
    have go : fft ok M b (m + 1) = fft ok M (b + 1) m → fft ok M b (m + 1) = -1 ∨ (∃ i : Nat, b ≤ i ∧ i < b + (m + 1) ∧ fft ok M b (m + 1) = nI i) ∨ ∃ q : Nat, q < 10 ∧ fft ok M b (m + 1) = nI 0 - nI 2 - nI q := by
      intro e
      rw [e]
      rcases rcc with r | ⟨i, r1, r2, r3⟩ | r
      · exact Or.inl r
      · exact Or.inr (Or.inl ⟨i, by omega, by omega, r3⟩)
      · exact Or.inr (Or.inr r)
    cases hk : ok b with
    | false => exact go (fft_no hk)
    | true =>
      rcases h b (by omega) (by omega) with h0 | h1 | ⟨q, hq, h2⟩
      · exact go (fft_0 hk h0)
      · exact Or.inr (Or.inl ⟨b, by omega, by omega, fft_1 hk h1⟩)
      · refine Or.inr (Or.inr ⟨q, hq, ?_⟩)
        rw [fft_q hk (by rw [h2]; exact (ask_q hq (x := 0)).2.2.2.1) (by rw [h2]; exact (ask_q hq (x := 0)).2.2.1), h2]
theorem mt_tri {K V A P B : Nat → Int32} : ∀ (m k : Nat), (∀ i, k ≤ i → i < k + m → ∃ q : Nat, q < 10 ∧ A i = nI q) → tri (mt K V A P B k m) := by
  intro m
  induction m with
  | zero => intro k h; exact Or.inr (Or.inl rfl)
  | succ m ih =>
    intro k h
    by_cases h1 : K (A k).toNatClampNeg = 0
    · obtain ⟨q, hq, e⟩ := h k (by omega) (by omega)
      rw [mt_a h1, e]
      exact Or.inr (Or.inr ⟨q, hq, rfl⟩)
    · cases h2 : cmp (V (A k).toNatClampNeg) (P k) (B k) with
      | false => rw [mt_n h1 h2]; exact Or.inl rfl
      | true => rw [mt_y h1 h2]; exact ih (k + 1) (fun i x y => h i (by omega) (by omega))
set_option maxRecDepth 100000 in
set_option maxHeartbeats 4000000 in
theorem co_16 {ro : Nat → Option am_C} {c : Bool} {a : Nat → Nat → Int32} {l : Nat → Int64} {f : Nat → Nat → Int32} {i nb : Nat} (hb : nb ≤ 30) (hi : i < nb) (e : f 17 6 = nI nb) : am_run ro 2 76 [.ref 17, .int (nI i)] (wd c a l f) (some (.int (a 18 i))) (wd c a l f) := by
  refine am_run_of rfl (am_wp_ok (inl := []) 20 1 76 [] 0 _ _ _ _ ?_)
  refine ⟨_, _, sp_below_t (nI_pos (by omega)) (show ¬ f 17 6 ≤ nI i by rw [e]; exact nI_ge hi (by omega)), ?_⟩
  refine am_br_f (by decide) ?_
  refine And.intro (vp_in_nI (by omega) (by decide)) ?_
  refine And.intro (show some (Value.int (a 18 (nI i).toNatClampNeg)) = _ by rw [nI_clamp (by omega)]) rfl
set_option maxRecDepth 100000 in
set_option maxHeartbeats 4000000 in
theorem cn_16 {ro : Nat → Option am_C} {c : Bool} {a : Nat → Nat → Int32} {l : Nat → Int64} {f : Nat → Nat → Int32} {x : Int32} (h : x < 0) : am_run ro 2 76 [.ref 17, .int x] (wd c a l f) (some (.int (-1))) (wd c a l f) := by
  refine am_run_of rfl (am_wp_ok (inl := []) 20 1 76 [] 0 _ _ _ _ ?_)
  refine ⟨_, _, sp_below_f (Or.inl h), ?_⟩
  refine am_br_t (by decide) ?_
  exact And.intro rfl rfl
set_option maxRecDepth 100000 in
set_option maxHeartbeats 4000000 in
theorem gr_16 {ro : Nat → Option am_C} {c : Bool} {a : Nat → Nat → Int32} {l : Nat → Int64} {f : Nat → Nat → Int32} {i nb : Nat} (hb : nb ≤ 30) (hi : i < nb) (e : f 17 6 = nI nb) : am_run ro 2 75 [.ref 17, .int (nI i)] (wd c a l f) (some (.int (a 19 i))) (wd c a l f) := by
  refine am_run_of rfl (am_wp_ok (inl := []) 20 1 75 [] 0 _ _ _ _ ?_)
  refine ⟨_, _, sp_below_t (nI_pos (by omega)) (show ¬ f 17 6 ≤ nI i by rw [e]; exact nI_ge hi (by omega)), ?_⟩
  refine am_br_f (by decide) ?_
  refine And.intro (vp_in_nI (by omega) (by decide)) ?_
  refine And.intro (show some (Value.int (a 19 (nI i).toNatClampNeg)) = _ by rw [nI_clamp (by omega)]) rfl
set_option maxRecDepth 100000 in
set_option maxHeartbeats 4000000 in
theorem ct_cnt_16 {ro : Nat → Option am_C} {c : Bool} {a : Nat → Nat → Int32} {l : Nat → Int64} {f : Nat → Nat → Int32} : am_run ro 1 74 [.ref 17] (wd c a l f) (some (.int (f 17 6))) (wd c a l f) := by
  refine am_run_of rfl (am_wp_ok (inl := []) 20 0 74 [] 0 _ _ _ _ ?_)
  exact And.intro rfl rfl
set_option maxRecDepth 100000 in
set_option maxHeartbeats 4000000 in
theorem is_16 {ro : Nat → Option am_C} {c : Bool} {a : Nat → Nat → Int32} {l : Nat → Int64} {f : Nat → Nat → Int32} {i nb ng : Nat} {g : Int32} (hb : nb ≤ 30) (hi : i < nb) (e : f 17 6 = nI nb) (hg : ng ≤ 16) (eg : f 24 7 = nI ng) : am_run ro 3 67 [.ref 16, .int (nI i), .int g] (wd c a l f) (some (.int (nI (decide (a 19 i = g) && !an (fun q => decide (a 25 q = a 18 i)) 0 ng).toNat))) (wd c a l f) := by
  refine am_run_of rfl (am_wp_ok (inl := []) 20 2 67 [12] 0 _ _ _ _ ?_)
  refine ⟨_, _, gr_16 hb hi e, ?_⟩
  by_cases h1 : a 19 i = g
  · refine am_br_f (show ¬ ¬ a 19 i = g from fun z => z h1) ?_
    show am_T ro 2 67 12 [.ref 16, .int (nI i), .int g] [] (wd c a l f) _
    refine am_wp_ok (inl := []) 20 2 67 [] _ _ _ _ _ ?_
    refine ⟨_, _, co_16 hb hi e, ?_⟩
    refine ⟨_, _, am_run_up (ig_16 hg eg) (by decide), ?_⟩
    rw [decide_eq_true h1]
    cases hq : an (fun q => decide (a 25 q = a 18 i)) 0 ng with
    | true =>
      refine am_br_t (show ¬ nI true.toNat = 0 by decide) ?_
      exact And.intro rfl (And.intro rfl rfl)
    | false =>
      refine am_br_f (show ¬ ¬ nI false.toNat = 0 from fun z => z rfl) ?_
      exact And.intro rfl (And.intro rfl rfl)
  · refine am_br_t h1 ?_
    rw [decide_eq_false h1]
    exact And.intro rfl (And.intro rfl rfl)
set_option maxRecDepth 100000 in
set_option maxHeartbeats 4000000 in
theorem fi_loop_16 {ro : Nat → Option am_C} {c : Bool} {a : Nat → Nat → Int32} {l : Nat → Int64} {f : Nat → Nat → Int32} {nb nc ng : Nat} {e : Nat → Nat} {g x1 : Int32} {ok : Nat → Bool} (hb : nb ≤ 30) (hnc : nc ≤ 60) (hng : ng ≤ 16) (ecnt : f 17 6 = nI nb) (ec : f 17 7 = nI nc) (eg : f 24 7 = nI ng) (e0 : e 0 = 0) (he : ∀ i, i < nb → e i ≤ e (i + 1) ∧ e (i + 1) ≤ nc ∧ a 20 i = nI (e (i + 1))) (hA : ∀ k, k < nc → ∃ q : Nat, q < 10 ∧ a 21 k = nI q) (hok : (g = -1 ∧ ∀ i, ok i = true) ∨ (¬ g = -1 ∧ ∀ i, ok i = (decide (a 19 i = g) && !an (fun q => decide (a 25 q = a 18 i)) 0 ng))) : ∀ (m b : Nat) (Y : Value), Nat.beq Y.category 1 = true → b + m = nb → am_T ro 3 66 3 [.ref 16, .int x1, .int g, .ref 3, .int (nI b), Y] [] (wd c a l f) (fun r hp' => r = some (.int (fft ok (fun i => mt (a 4) (a 5) (a 21) (a 22) (a 23) (e i) (e (i + 1) - e i)) b m)) ∧ hp' = wd c a l f) := by
  intro m
  induction m with
  | zero =>
    intro b Y hY h
    refine am_wp_ok (inl := []) 20 3 66 [] _ _ _ _ _ ?_
    refine ⟨_, _, am_run_up ct_cnt_16 (by decide), ?_⟩
    refine am_br_t (show f 17 6 ≤ nI b by rw [ecnt]; exact nI_le (by omega) (by omega)) ?_
    exact And.intro rfl rfl
  | succ m ih =>
    intro b Y hY h
    have nxt : ∀ Z : Value, Nat.beq Z.category 1 = true → fft ok (fun i => mt (a 4) (a 5) (a 21) (a 22) (a 23) (e i) (e (i + 1) - e i)) b (m + 1) = fft ok (fun i => mt (a 4) (a 5) (a 21) (a 22) (a 23) (e i) (e (i + 1) - e i)) (b + 1) m → am_T ro 3 66 61 [.ref 16, .int x1, .int g, .ref 3, .int (nI b), Z] [] (wd c a l f) (fun r hp' => r = some (.int (fft ok (fun i => mt (a 4) (a 5) (a 21) (a 22) (a 23) (e i) (e (i + 1) - e i)) b (m + 1))) ∧ hp' = wd c a l f) := by
      intro Z hZ hq
      refine am_wp_ok (inl := []) 5 3 66 [3] _ _ _ _ _ ?_
      show am_T ro 3 66 3 [.ref 16, .int x1, .int g, .ref 3, .int (nI b + 1), Z] [] (wd c a l f) _
      rw [nI_1, hq]
      exact ih (b + 1) Z hZ (by omega)
    have tryb : ok b = true → am_T ro 3 66 30 [.ref 16, .int x1, .int g, .ref 3, .int (nI b), Y] [] (wd c a l f) (fun r hp' => r = some (.int (fft ok (fun i => mt (a 4) (a 5) (a 21) (a 22) (a 23) (e i) (e (i + 1) - e i)) b (m + 1))) ∧ hp' = wd c a l f) := by
      intro hk
      refine am_wp_ok (inl := []) 20 3 66 [42] _ _ _ _ _ ?_
      refine ⟨_, _, me_16 hb hnc (show b < nb by omega) ecnt ec e0 he hA, ?_⟩
      show am_T ro 3 66 42 [.ref 16, .int x1, .int g, .ref 3, .int (nI b), .int (mt (a 4) (a 5) (a 21) (a 22) (a 23) (e b) (e (b + 1) - e b))] [] (wd c a l f) _
      refine am_wp_ok (inl := []) 20 3 66 [61] _ _ _ _ _ ?_
      by_cases h0 : mt (a 4) (a 5) (a 21) (a 22) (a 23) (e b) (e (b + 1) - e b) = 0
      · refine am_br_t h0 ?_
        exact nxt _ rfl (fft_0 hk h0)
      · refine am_br_f h0 ?_
        by_cases h1 : mt (a 4) (a 5) (a 21) (a 22) (a 23) (e b) (e (b + 1) - e b) = 1
        · refine am_br_f (show ¬ ¬ mt (a 4) (a 5) (a 21) (a 22) (a 23) (e b) (e (b + 1) - e b) = 1 from fun z => z h1) ?_
          refine And.intro ?_ rfl
          rw [fft_1 (M := fun i => mt (a 4) (a 5) (a 21) (a 22) (a 23) (e i) (e (i + 1) - e i)) hk h1]
        · refine am_br_t h1 ?_
          refine And.intro ?_ rfl
          rw [fft_q (M := fun i => mt (a 4) (a 5) (a 21) (a 22) (a 23) (e i) (e (i + 1) - e i)) hk h0 h1]
    refine am_wp_ok (inl := []) 20 3 66 [15] _ _ _ _ _ ?_
    refine ⟨_, _, am_run_up ct_cnt_16 (by decide), ?_⟩
    refine am_br_f (show ¬ f 17 6 ≤ nI b by rw [ecnt]; exact nI_ge (by omega) (by omega)) ?_
    show am_T ro 3 66 15 [.ref 16, .int x1, .int g, .ref 3, .int (nI b), Y] [] (wd c a l f) _
    refine am_wp_ok (inl := []) 20 3 66 [30, 61] _ _ _ _ _ ?_
    rcases hok with ⟨hg1, hok⟩ | ⟨hg1, hok⟩
    · refine am_br_t hg1 ?_
      exact tryb (hok b)
    · refine am_br_f hg1 ?_
      refine ⟨_, _, is_16 hb (show b < nb by omega) ecnt hng eg, ?_⟩
      cases hq : (decide (a 19 b = g) && !an (fun q => decide (a 25 q = a 18 b)) 0 ng) with
      | false =>
        refine am_br_t (show nI false.toNat = 0 from rfl) ?_
        exact nxt Y hY (fft_no (by rw [hok b]; exact hq))
      | true =>
        refine am_br_f (show ¬ nI true.toNat = 0 by decide) ?_
        exact tryb (by rw [hok b]; exact hq)
set_option maxRecDepth 100000 in
set_option maxHeartbeats 4000000 in
theorem fi_16 {ro : Nat → Option am_C} {c : Bool} {a : Nat → Nat → Int32} {l : Nat → Int64} {f : Nat → Nat → Int32} {nb nc ng b : Nat} {e : Nat → Nat} {g : Int32} {ok : Nat → Bool} (hb : nb ≤ 30) (hnc : nc ≤ 60) (hng : ng ≤ 16) (ecnt : f 17 6 = nI nb) (ec : f 17 7 = nI nc) (eg : f 24 7 = nI ng) (e0 : e 0 = 0) (he : ∀ i, i < nb → e i ≤ e (i + 1) ∧ e (i + 1) ≤ nc ∧ a 20 i = nI (e (i + 1))) (hA : ∀ k, k < nc → ∃ q : Nat, q < 10 ∧ a 21 k = nI q) (hok : (g = -1 ∧ ∀ i, ok i = true) ∨ (¬ g = -1 ∧ ∀ i, ok i = (decide (a 19 i = g) && !an (fun q => decide (a 25 q = a 18 i)) 0 ng))) (hbb : b ≤ nb) : am_run ro 4 66 [.ref 16, .int (nI b), .int g, .ref 3] (wd c a l f) (some (.int (fft ok (fun i => mt (a 4) (a 5) (a 21) (a 22) (a 23) (e i) (e (i + 1) - e i)) b (nb - b)))) (wd c a l f) := by
  refine am_run_of rfl (am_wp_ok (inl := []) 20 3 66 [3] 0 _ _ _ _ ?_)
  exact fi_loop_16 hb hnc hng ecnt ec eg e0 he hA hok (nb - b) b am_un rfl (by omega)
set_option maxRecDepth 100000 in
set_option maxHeartbeats 4000000 in
theorem co_38 {ro : Nat → Option am_C} {c : Bool} {a : Nat → Nat → Int32} {l : Nat → Int64} {f : Nat → Nat → Int32} {i nb : Nat} (hb : nb ≤ 30) (hi : i < nb) (e : f 39 6 = nI nb) : am_run ro 2 76 [.ref 39, .int (nI i)] (wd c a l f) (some (.int (a 40 i))) (wd c a l f) := by
  refine am_run_of rfl (am_wp_ok (inl := []) 20 1 76 [] 0 _ _ _ _ ?_)
  refine ⟨_, _, sp_below_t (nI_pos (by omega)) (show ¬ f 39 6 ≤ nI i by rw [e]; exact nI_ge hi (by omega)), ?_⟩
  refine am_br_f (by decide) ?_
  refine And.intro (vp_in_nI (by omega) (by decide)) ?_
  refine And.intro (show some (Value.int (a 40 (nI i).toNatClampNeg)) = _ by rw [nI_clamp (by omega)]) rfl
set_option maxRecDepth 100000 in
set_option maxHeartbeats 4000000 in
theorem cn_38 {ro : Nat → Option am_C} {c : Bool} {a : Nat → Nat → Int32} {l : Nat → Int64} {f : Nat → Nat → Int32} {x : Int32} (h : x < 0) : am_run ro 2 76 [.ref 39, .int x] (wd c a l f) (some (.int (-1))) (wd c a l f) := by
  refine am_run_of rfl (am_wp_ok (inl := []) 20 1 76 [] 0 _ _ _ _ ?_)
  refine ⟨_, _, sp_below_f (Or.inl h), ?_⟩
  refine am_br_t (by decide) ?_
  exact And.intro rfl rfl
set_option maxRecDepth 100000 in
set_option maxHeartbeats 4000000 in
theorem gr_38 {ro : Nat → Option am_C} {c : Bool} {a : Nat → Nat → Int32} {l : Nat → Int64} {f : Nat → Nat → Int32} {i nb : Nat} (hb : nb ≤ 30) (hi : i < nb) (e : f 39 6 = nI nb) : am_run ro 2 75 [.ref 39, .int (nI i)] (wd c a l f) (some (.int (a 41 i))) (wd c a l f) := by
  refine am_run_of rfl (am_wp_ok (inl := []) 20 1 75 [] 0 _ _ _ _ ?_)
  refine ⟨_, _, sp_below_t (nI_pos (by omega)) (show ¬ f 39 6 ≤ nI i by rw [e]; exact nI_ge hi (by omega)), ?_⟩
  refine am_br_f (by decide) ?_
  refine And.intro (vp_in_nI (by omega) (by decide)) ?_
  refine And.intro (show some (Value.int (a 41 (nI i).toNatClampNeg)) = _ by rw [nI_clamp (by omega)]) rfl
set_option maxRecDepth 100000 in
set_option maxHeartbeats 4000000 in
theorem ct_cnt_38 {ro : Nat → Option am_C} {c : Bool} {a : Nat → Nat → Int32} {l : Nat → Int64} {f : Nat → Nat → Int32} : am_run ro 1 74 [.ref 39] (wd c a l f) (some (.int (f 39 6))) (wd c a l f) := by
  refine am_run_of rfl (am_wp_ok (inl := []) 20 0 74 [] 0 _ _ _ _ ?_)
  exact And.intro rfl rfl
set_option maxRecDepth 100000 in
set_option maxHeartbeats 4000000 in
theorem is_38 {ro : Nat → Option am_C} {c : Bool} {a : Nat → Nat → Int32} {l : Nat → Int64} {f : Nat → Nat → Int32} {i nb ng : Nat} {g : Int32} (hb : nb ≤ 30) (hi : i < nb) (e : f 39 6 = nI nb) (hg : ng ≤ 16) (eg : f 46 7 = nI ng) : am_run ro 3 67 [.ref 38, .int (nI i), .int g] (wd c a l f) (some (.int (nI (decide (a 41 i = g) && !an (fun q => decide (a 47 q = a 40 i)) 0 ng).toNat))) (wd c a l f) := by
  refine am_run_of rfl (am_wp_ok (inl := []) 20 2 67 [12] 0 _ _ _ _ ?_)
  refine ⟨_, _, gr_38 hb hi e, ?_⟩
  by_cases h1 : a 41 i = g
  · refine am_br_f (show ¬ ¬ a 41 i = g from fun z => z h1) ?_
    show am_T ro 2 67 12 [.ref 38, .int (nI i), .int g] [] (wd c a l f) _
    refine am_wp_ok (inl := []) 20 2 67 [] _ _ _ _ _ ?_
    refine ⟨_, _, co_38 hb hi e, ?_⟩
    refine ⟨_, _, am_run_up (ig_38 hg eg) (by decide), ?_⟩
    rw [decide_eq_true h1]
    cases hq : an (fun q => decide (a 47 q = a 40 i)) 0 ng with
    | true =>
      refine am_br_t (show ¬ nI true.toNat = 0 by decide) ?_
      exact And.intro rfl (And.intro rfl rfl)
    | false =>
      refine am_br_f (show ¬ ¬ nI false.toNat = 0 from fun z => z rfl) ?_
      exact And.intro rfl (And.intro rfl rfl)
  · refine am_br_t h1 ?_
    rw [decide_eq_false h1]
    exact And.intro rfl (And.intro rfl rfl)
set_option maxRecDepth 100000 in
set_option maxHeartbeats 4000000 in
theorem fi_loop_38 {ro : Nat → Option am_C} {c : Bool} {a : Nat → Nat → Int32} {l : Nat → Int64} {f : Nat → Nat → Int32} {nb nc ng : Nat} {e : Nat → Nat} {g x1 : Int32} {ok : Nat → Bool} (hb : nb ≤ 30) (hnc : nc ≤ 60) (hng : ng ≤ 16) (ecnt : f 39 6 = nI nb) (ec : f 39 7 = nI nc) (eg : f 46 7 = nI ng) (e0 : e 0 = 0) (he : ∀ i, i < nb → e i ≤ e (i + 1) ∧ e (i + 1) ≤ nc ∧ a 42 i = nI (e (i + 1))) (hA : ∀ k, k < nc → ∃ q : Nat, q < 10 ∧ a 43 k = nI q) (hok : (g = -1 ∧ ∀ i, ok i = true) ∨ (¬ g = -1 ∧ ∀ i, ok i = (decide (a 41 i = g) && !an (fun q => decide (a 47 q = a 40 i)) 0 ng))) : ∀ (m b : Nat) (Y : Value), Nat.beq Y.category 1 = true → b + m = nb → am_T ro 3 66 3 [.ref 38, .int x1, .int g, .ref 3, .int (nI b), Y] [] (wd c a l f) (fun r hp' => r = some (.int (fft ok (fun i => mt (a 4) (a 5) (a 43) (a 44) (a 45) (e i) (e (i + 1) - e i)) b m)) ∧ hp' = wd c a l f) := by
  intro m
  induction m with
  | zero =>
    intro b Y hY h
    refine am_wp_ok (inl := []) 20 3 66 [] _ _ _ _ _ ?_
    refine ⟨_, _, am_run_up ct_cnt_38 (by decide), ?_⟩
    refine am_br_t (show f 39 6 ≤ nI b by rw [ecnt]; exact nI_le (by omega) (by omega)) ?_
    exact And.intro rfl rfl
  | succ m ih =>
    intro b Y hY h
    have nxt : ∀ Z : Value, Nat.beq Z.category 1 = true → fft ok (fun i => mt (a 4) (a 5) (a 43) (a 44) (a 45) (e i) (e (i + 1) - e i)) b (m + 1) = fft ok (fun i => mt (a 4) (a 5) (a 43) (a 44) (a 45) (e i) (e (i + 1) - e i)) (b + 1) m → am_T ro 3 66 61 [.ref 38, .int x1, .int g, .ref 3, .int (nI b), Z] [] (wd c a l f) (fun r hp' => r = some (.int (fft ok (fun i => mt (a 4) (a 5) (a 43) (a 44) (a 45) (e i) (e (i + 1) - e i)) b (m + 1))) ∧ hp' = wd c a l f) := by
      intro Z hZ hq
      refine am_wp_ok (inl := []) 5 3 66 [3] _ _ _ _ _ ?_
      show am_T ro 3 66 3 [.ref 38, .int x1, .int g, .ref 3, .int (nI b + 1), Z] [] (wd c a l f) _
      rw [nI_1, hq]
      exact ih (b + 1) Z hZ (by omega)
    have tryb : ok b = true → am_T ro 3 66 30 [.ref 38, .int x1, .int g, .ref 3, .int (nI b), Y] [] (wd c a l f) (fun r hp' => r = some (.int (fft ok (fun i => mt (a 4) (a 5) (a 43) (a 44) (a 45) (e i) (e (i + 1) - e i)) b (m + 1))) ∧ hp' = wd c a l f) := by
      intro hk
      refine am_wp_ok (inl := []) 20 3 66 [42] _ _ _ _ _ ?_
      refine ⟨_, _, me_38 hb hnc (show b < nb by omega) ecnt ec e0 he hA, ?_⟩
      show am_T ro 3 66 42 [.ref 38, .int x1, .int g, .ref 3, .int (nI b), .int (mt (a 4) (a 5) (a 43) (a 44) (a 45) (e b) (e (b + 1) - e b))] [] (wd c a l f) _
      refine am_wp_ok (inl := []) 20 3 66 [61] _ _ _ _ _ ?_
      by_cases h0 : mt (a 4) (a 5) (a 43) (a 44) (a 45) (e b) (e (b + 1) - e b) = 0
      · refine am_br_t h0 ?_
        exact nxt _ rfl (fft_0 hk h0)
      · refine am_br_f h0 ?_
        by_cases h1 : mt (a 4) (a 5) (a 43) (a 44) (a 45) (e b) (e (b + 1) - e b) = 1
        · refine am_br_f (show ¬ ¬ mt (a 4) (a 5) (a 43) (a 44) (a 45) (e b) (e (b + 1) - e b) = 1 from fun z => z h1) ?_
          refine And.intro ?_ rfl
          rw [fft_1 (M := fun i => mt (a 4) (a 5) (a 43) (a 44) (a 45) (e i) (e (i + 1) - e i)) hk h1]
        · refine am_br_t h1 ?_
          refine And.intro ?_ rfl
          rw [fft_q (M := fun i => mt (a 4) (a 5) (a 43) (a 44) (a 45) (e i) (e (i + 1) - e i)) hk h0 h1]
    refine am_wp_ok (inl := []) 20 3 66 [15] _ _ _ _ _ ?_
    refine ⟨_, _, am_run_up ct_cnt_38 (by decide), ?_⟩
    refine am_br_f (show ¬ f 39 6 ≤ nI b by rw [ecnt]; exact nI_ge (by omega) (by omega)) ?_
    show am_T ro 3 66 15 [.ref 38, .int x1, .int g, .ref 3, .int (nI b), Y] [] (wd c a l f) _
    refine am_wp_ok (inl := []) 20 3 66 [30, 61] _ _ _ _ _ ?_
    rcases hok with ⟨hg1, hok⟩ | ⟨hg1, hok⟩
    · refine am_br_t hg1 ?_
      exact tryb (hok b)
    · refine am_br_f hg1 ?_
      refine ⟨_, _, is_38 hb (show b < nb by omega) ecnt hng eg, ?_⟩
      cases hq : (decide (a 41 b = g) && !an (fun q => decide (a 47 q = a 40 b)) 0 ng) with
      | false =>
        refine am_br_t (show nI false.toNat = 0 from rfl) ?_
        exact nxt Y hY (fft_no (by rw [hok b]; exact hq))
      | true =>
        refine am_br_f (show ¬ nI true.toNat = 0 by decide) ?_
        exact tryb (by rw [hok b]; exact hq)
set_option maxRecDepth 100000 in
set_option maxHeartbeats 4000000 in
theorem fi_38 {ro : Nat → Option am_C} {c : Bool} {a : Nat → Nat → Int32} {l : Nat → Int64} {f : Nat → Nat → Int32} {nb nc ng b : Nat} {e : Nat → Nat} {g : Int32} {ok : Nat → Bool} (hb : nb ≤ 30) (hnc : nc ≤ 60) (hng : ng ≤ 16) (ecnt : f 39 6 = nI nb) (ec : f 39 7 = nI nc) (eg : f 46 7 = nI ng) (e0 : e 0 = 0) (he : ∀ i, i < nb → e i ≤ e (i + 1) ∧ e (i + 1) ≤ nc ∧ a 42 i = nI (e (i + 1))) (hA : ∀ k, k < nc → ∃ q : Nat, q < 10 ∧ a 43 k = nI q) (hok : (g = -1 ∧ ∀ i, ok i = true) ∨ (¬ g = -1 ∧ ∀ i, ok i = (decide (a 41 i = g) && !an (fun q => decide (a 47 q = a 40 i)) 0 ng))) (hbb : b ≤ nb) : am_run ro 4 66 [.ref 38, .int (nI b), .int g, .ref 3] (wd c a l f) (some (.int (fft ok (fun i => mt (a 4) (a 5) (a 43) (a 44) (a 45) (e i) (e (i + 1) - e i)) b (nb - b)))) (wd c a l f) := by
  refine am_run_of rfl (am_wp_ok (inl := []) 20 3 66 [3] 0 _ _ _ _ ?_)
  exact fi_loop_38 hb hnc hng ecnt ec eg e0 he hA hok (nb - b) b am_un rfl (by omega)
