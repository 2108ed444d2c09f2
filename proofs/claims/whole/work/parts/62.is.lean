/-! the words that the reference asks for: packed to the base 256 -/
def dh : Nat → Nat → Nat
  | 0, _ => 0
  | n + 1, v => if v = 0 then 0 else 1 + dh n (v / 256)
def ph (u : Nat → Nat) : Nat → Nat → Nat → Nat
  | _, 0, P => P
  | k, m + 1, P => ph u (k + 1) m (256 * P + u k)
theorem lN_dv {v : Nat} (h : v < 2 ^ 62) : lN v / 256 = lN (v / 256) := by
  rw [show (256 : Int64) = Int64.ofNat 256 from rfl]
  exact (Int64.ofNat_div (a := v) (b := 256) (by omega) (by decide)).symm
/-- two packed words are one where their bytes are -/
theorem ph_eq {u v : Nat → Nat} : ∀ (m k P Q : Nat), (∀ q, k ≤ q → q < k + m → u q < 256 ∧ v q < 256) → (ph u k m P = ph v k m Q ↔ P = Q ∧ al (fun q => decide (v q = u q)) k m = true) := by
  intro m
  induction m with
  | zero =>
    intro k P Q h
    exact ⟨fun z => ⟨z, rfl⟩, fun z => z.1⟩
  | succ m ih =>
    intro k P Q h
    have h0 := h k (by omega) (by omega)
    have h1 := ih (k + 1) (256 * P + u k) (256 * Q + v k) (fun q q1 q2 => h q (by omega) (by omega))
    show ph u (k + 1) m (256 * P + u k) = ph v (k + 1) m (256 * Q + v k) ↔ _
    rw [h1]
    by_cases hq : v k = u k
    · rw [al_t (p := fun q => decide (v q = u q)) (decide_eq_true hq)]
      constructor
      · rintro ⟨z1, z2⟩
        exact ⟨by omega, z2⟩
      · rintro ⟨z1, z2⟩
        exact ⟨by omega, z2⟩
    · rw [al_f (p := fun q => decide (v q = u q)) (decide_eq_false hq)]
      constructor
      · rintro ⟨z1, -⟩
        omega
      · rintro ⟨-, z2⟩
        cases z2
theorem ph_lt {u : Nat → Nat} : ∀ (m k P e : Nat), (∀ q, k ≤ q → q < k + m → u q < 256) → P < 256 ^ e → ph u k m P < 256 ^ (e + m) := by
  intro m
  induction m with
  | zero => intro k P e _ h; exact h
  | succ m ih =>
    intro k P e h hP
    have h0 := h k (by omega) (by omega)
    have := ih (k + 1) (256 * P + u k) (e + 1) (fun q q1 q2 => h q (by omega) (by omega)) (by rw [Nat.pow_succ]; generalize 256 ^ e = X at *; omega)
    rw [show e + (m + 1) = e + 1 + m by omega]
    exact this
set_option maxRecDepth 100000 in
set_option maxHeartbeats 4000000 in
theorem is_l {ro : Nat → Option am_C} {c : Bool} {a : Nat → Nat → Int32} {l : Nat → Int64} {f : Nat → Nat → Int32} {W : Int64} {K : Option Value → am_H → Prop} : ∀ (n v w : Nat), v < 256 ^ n → v < 2 ^ 62 → am_T ro 0 110 26 [.ref 60, .long W, am_un, .int (nI (w + dh n v)), .long 0, am_un, am_un] [] (wd c a l f) K → am_T ro 0 110 5 [.ref 60, .long W, am_un, .int (nI w), .long (lN v), am_un, am_un] [] (wd c a l f) K := by
  intro n
  induction n with
  | zero =>
    intro v w h1 h2 kq
    have hv : v = 0 := by omega
    subst hv
    refine am_wp_ok (inl := []) 5 0 110 [26] _ _ _ _ _ ?_
    refine am_br_t ((lg_cmp_le _ _).mpr (by decide)) ?_
    exact kq
  | succ n ih =>
    intro v w h1 h2 kq
    by_cases hv : v = 0
    · subst hv
      refine am_wp_ok (inl := []) 5 0 110 [26] _ _ _ _ _ ?_
      refine am_br_t ((lg_cmp_le _ _).mpr (by decide)) ?_
      exact kq
    · refine am_wp_ok (inl := []) 5 0 110 [12] _ _ _ _ _ ?_
      refine am_br_f (fun z => ?_) ?_
      · have z1 := (lg_cmp_le _ _).mp z
        have z2 : Int64.ofNat 0 < Int64.ofNat v := (Int64.ofNat_lt_iff_lt (by decide) (by omega)).mpr (by omega)
        exact absurd z1 (Int64.not_le.mpr z2)
      · show am_T ro 0 110 12 [.ref 60, .long W, am_un, .int (nI w), .long (lN v), am_un, am_un] [] (wd c a l f) K
        refine am_wp_ok (inl := []) 8 0 110 [5] _ _ _ _ _ ?_
        refine And.intro (by decide) ?_
        show am_T ro 0 110 5 [.ref 60, .long W, am_un, .int (nI w + 1), .long (lN v / 256), am_un, am_un] [] (wd c a l f) K
        rw [show dh (n + 1) v = 1 + dh n (v / 256) from if_neg hv, show w + (1 + dh n (v / 256)) = w + 1 + dh n (v / 256) by omega] at kq
        rw [nI_1, lN_dv h2]
        exact ih (v / 256) (w + 1) (by rw [Nat.pow_succ] at h1; exact Nat.div_lt_of_lt_mul (by omega)) (by omega) kq
set_option maxRecDepth 100000 in
set_option maxHeartbeats 4000000 in
theorem is_b {ro : Nat → Option am_C} {c : Bool} {a : Nat → Nat → Int32} {l : Nat → Int64} {f : Nat → Nat → Int32} {s t : Nat} {W : Int64} {u : Nat → Nat} {K : Option Value → am_H → Prop} (h2 : f 60 2 = nI s) (h3 : f 60 3 = nI t) (hst : s ≤ t) (ht : t ≤ 900) (hu : ∀ q, q < t - s → a 61 (s + q) = nI (u q) ∧ u q < 256) : ∀ (m k P : Nat), k + m = t - s → (∀ i : Nat, am_T ro 0 110 80 [.ref 60, .long W, am_un, .int (nI (t - s)), .long (lN (ph u k m P)), am_un, .int (nI i)] [] (wd c a l f) K) → am_T ro 0 110 35 [.ref 60, .long W, am_un, .int (nI (t - s)), .long (lN P), am_un, .int (nI (s + k))] [] (wd c a l f) K := by
  have ed : f 60 3 - f 60 2 = nI (t - s) := by rw [h2, h3, nI_sub (by omega)]
  intro m
  induction m with
  | zero =>
    intro k P h kq
    refine am_wp_ok (inl := []) 5 0 110 [80] _ _ _ _ _ ?_
    refine am_br_t (show f 60 3 ≤ nI (s + k) by rw [h3]; exact nI_le (by omega) (by omega)) ?_
    exact kq (s + k)
  | succ m ih =>
    intro k P h kq
    obtain ⟨e, hb⟩ := hu k (by omega)
    have e' : a 61 (nI (s + k)).toNatClampNeg = nI (u k) := by rw [nI_clamp (by omega)]; exact e
    refine am_wp_ok (inl := []) 5 0 110 [44] _ _ _ _ _ ?_
    refine am_br_f (show ¬ f 60 3 ≤ nI (s + k) by rw [h3]; exact nI_ge (by omega) (by omega)) ?_
    show am_T ro 0 110 44 [.ref 60, .long W, am_un, .int (nI (t - s)), .long (lN P), am_un, .int (nI (s + k))] [] (wd c a l f) K
    refine am_wp_ok (inl := []) 8 0 110 [57] _ _ _ _ _ ?_
    refine am_br_f (show ¬ ¬ f 60 3 - f 60 2 = nI (t - s) from fun z => z ed) ?_
    show am_T ro 0 110 57 [.ref 60, .long W, am_un, .int (nI (t - s)), .long (lN P), am_un, .int (nI (s + k))] [] (wd c a l f) K
    refine am_wp_ok (inl := []) 11 0 110 [74] _ _ _ _ _ ?_
    refine And.intro (vp_in_nI (by omega) (by decide)) ?_
    show am_T ro 0 110 74 [.ref 60, .long W, am_un, .int (nI (t - s)), .long (lN P * 256 + (a 61 (nI (s + k)).toNatClampNeg).toInt64), am_un, .int (nI (s + k))] [] (wd c a l f) K
    rw [e', nI_l (by omega), show (256 : Int64) = lN 256 from rfl, lN_mul, lN_add, Nat.mul_comm P 256]
    refine am_wp_ok (inl := []) 3 0 110 [35] _ _ _ _ _ ?_
    show am_T ro 0 110 35 [.ref 60, .long W, am_un, .int (nI (t - s)), .long (lN (256 * P + u k)), am_un, .int (nI (s + k) + 1)] [] (wd c a l f) K
    rw [nI_1]
    exact ih (k + 1) _ (by omega) kq
theorem lN_inj {v w : Nat} (hv : v < 2 ^ 62) (hw : w < 2 ^ 62) : lN v = lN w ↔ v = w := by
  constructor
  · intro z
    have z1 : (Int64.ofNat v).toInt = (Int64.ofNat w).toInt := congrArg Int64.toInt z
    rw [Int64.toInt_ofNat_of_lt (by omega), Int64.toInt_ofNat_of_lt (by omega)] at z1
    omega
  · rintro rfl
    rfl
set_option maxRecDepth 100000 in
set_option maxHeartbeats 4000000 in
theorem mo_is {ro : Nat → Option am_C} {c : Bool} {a : Nat → Nat → Int32} {l : Nat → Int64} {f : Nat → Nat → Int32} {s t n V : Nat} {u v : Nat → Nat} (h2 : f 60 2 = nI s) (h3 : f 60 3 = nI t) (hst : s ≤ t) (ht : t ≤ 900) (hu : ∀ q, q < t - s → a 61 (s + q) = nI (u q) ∧ u q < 256) (hn : n ≤ 7) (hV : V = ph v 0 n 0) (hV2 : V < 256 ^ 7) (hd : dh 7 V = n) (hv : ∀ q, q < n → v q < 256) : am_run ro 1 110 [.ref 60, .long (lN V)] (wd c a l f) (some (.int (nI (sw u (t - s) v n).toNat))) (wd c a l f) := by
  have ed : f 60 3 - f 60 2 = nI (t - s) := by rw [h2, h3, nI_sub (by omega)]
  have hV62 : V < 2 ^ 62 := Nat.lt_trans hV2 (by decide)
  refine am_run_of rfl (am_wp_ok (inl := []) 5 0 110 [5] 0 _ _ _ _ ?_)
  show am_T ro 0 110 5 [.ref 60, .long (lN V), am_un, .int (nI 0), .long (lN V), am_un, am_un] [] (wd c a l f) _
  refine is_l 7 V 0 hV2 hV62 ?_
  rw [hd, Nat.zero_add]
  refine am_wp_ok (inl := []) 6 0 110 [35] _ _ _ _ _ ?_
  show am_T ro 0 110 35 [.ref 60, .long (lN V), am_un, .int (nI n), .long (lN 0), am_un, .int (f 60 2)] [] (wd c a l f) _
  rw [h2]
  unfold sw
  by_cases hq : n = t - s
  · rw [decide_eq_true hq, Bool.true_and]
    have goal : ∀ i : Nat, am_T ro 0 110 80 [.ref 60, .long (lN V), am_un, .int (nI (t - s)), .long (lN (ph u 0 (t - s) 0)), am_un, .int (nI i)] [] (wd c a l f) (fun r hp' => r = some (.int (nI (al (fun q => decide (v q = u q)) 0 n).toNat)) ∧ hp' = wd c a l f) := by
      intro i
      have hp : ph u 0 (t - s) 0 < 2 ^ 62 := by
        have := ph_lt (u := u) (t - s) 0 0 0 (fun q _ q2 => (hu q (by omega)).2) (by decide)
        rw [Nat.zero_add] at this
        exact Nat.lt_of_lt_of_le this (Nat.le_trans (Nat.pow_le_pow_right (n := 256) (by decide) (show t - s ≤ 7 by omega)) (by decide))
      have he := ph_eq (u := u) (v := v) n 0 0 0 (fun q _ q2 => ⟨(hu q (by omega)).2, hv q (by omega)⟩)
      refine am_wp_ok (inl := []) 8 0 110 [93] _ _ _ _ _ ?_
      refine am_br_f (show ¬ ¬ f 60 3 - f 60 2 = nI (t - s) from fun z => z ed) ?_
      show am_T ro 0 110 93 [.ref 60, .long (lN V), am_un, .int (nI (t - s)), .long (lN (ph u 0 (t - s) 0)), am_un, .int (nI i)] [] (wd c a l f) _
      refine am_wp_ok (inl := []) 8 0 110 [] _ _ _ _ _ ?_
      by_cases hw : ph u 0 n 0 = ph v 0 n 0
      · refine am_br_f (fun z => z ((lg_cmp_eq _ _).mpr (by rw [← hq, hw, hV]))) ?_
        rw [(he.mp hw).2]
        exact And.intro rfl (And.intro rfl rfl)
      · refine am_br_t (fun z => hw (by
          have := (lN_inj hp hV62).mp ((lg_cmp_eq _ _).mp z)
          rw [← hq, hV] at this
          exact this)) ?_
        rw [show al (fun q => decide (v q = u q)) 0 n = false by
          cases e : al (fun q => decide (v q = u q)) 0 n with
          | false => rfl
          | true => exact absurd (he.mpr ⟨rfl, e⟩) hw]
        exact And.intro rfl (And.intro rfl rfl)
    rw [hq]
    rw [hq] at goal
    exact is_b h2 h3 hst ht hu (t - s) 0 0 (by omega) goal
  · rw [decide_eq_false hq, Bool.false_and]
    have go : ∀ i : Nat, am_T ro 0 110 80 [.ref 60, .long (lN V), am_un, .int (nI n), .long (lN 0), am_un, .int (nI i)] [] (wd c a l f) (fun r hp' => r = some (.int (nI (false).toNat)) ∧ hp' = wd c a l f) := by
      intro i
      refine am_wp_ok (inl := []) 10 0 110 [] _ _ _ _ _ ?_
      refine am_br_t (show ¬ f 60 3 - f 60 2 = nI n by rw [ed, nI_eq (by omega) (by omega)]; omega) ?_
      exact And.intro rfl (And.intro rfl rfl)
    refine am_wp_ok (inl := []) 5 0 110 [44, 80] _ _ _ _ _ ?_
    by_cases hz : t ≤ s
    · refine am_br_t (show f 60 3 ≤ nI s by rw [h3]; exact nI_le hz (by omega)) ?_
      exact go s
    · refine am_br_f (show ¬ f 60 3 ≤ nI s by rw [h3]; exact nI_ge (by omega) (by omega)) ?_
      show am_T ro 0 110 44 [.ref 60, .long (lN V), am_un, .int (nI n), .long (lN 0), am_un, .int (nI s)] [] (wd c a l f) _
      refine am_wp_ok (inl := []) 8 0 110 [80] _ _ _ _ _ ?_
      refine am_br_t (show ¬ f 60 3 - f 60 2 = nI n by rw [ed, nI_eq (by omega) (by omega)]; omega) ?_
      exact go s
theorem mo_is_0 {ro : Nat → Option am_C} {c : Bool} {a : Nat → Nat → Int32} {l : Nat → Int64} {f : Nat → Nat → Int32} {s t : Nat} {u : Nat → Nat} (h2 : f 60 2 = nI s) (h3 : f 60 3 = nI t) (hst : s ≤ t) (ht : t ≤ 900) (hu : ∀ q, q < t - s → a 61 (s + q) = nI (u q) ∧ u q < 256) : am_run ro 1 110 [.ref 60, .long (lN 1668244581)] (wd c a l f) (some (.int (nI (sw u (t - s) vt_0 4).toNat))) (wd c a l f) :=
  mo_is h2 h3 hst ht hu (by decide) (by decide) (by decide) (by decide) (by decide)
theorem mo_is_1 {ro : Nat → Option am_C} {c : Bool} {a : Nat → Nat → Int32} {l : Nat → Int64} {f : Nat → Nat → Int32} {s t : Nat} {u : Nat → Nat} (h2 : f 60 2 = nI s) (h3 : f 60 3 = nI t) (hst : s ≤ t) (ht : t ≤ 900) (hu : ∀ q, q < t - s → a 61 (s + q) = nI (u q) ∧ u q < 256) : am_run ro 1 110 [.ref 60, .long (lN 2003330414)] (wd c a l f) (some (.int (nI (sw u (t - s) vt_1 4).toNat))) (wd c a l f) :=
  mo_is h2 h3 hst ht hu (by decide) (by decide) (by decide) (by decide) (by decide)
theorem mo_is_5 {ro : Nat → Option am_C} {c : Bool} {a : Nat → Nat → Int32} {l : Nat → Int64} {f : Nat → Nat → Int32} {s t : Nat} {u : Nat → Nat} (h2 : f 60 2 = nI s) (h3 : f 60 3 = nI t) (hst : s ≤ t) (ht : t ≤ 900) (hu : ∀ q, q < t - s → a 61 (s + q) = nI (u q) ∧ u q < 256) : am_run ro 1 110 [.ref 60, .long (lN 29103447424000364)] (wd c a l f) (some (.int (nI (sw u (t - s) vt_5 7).toNat))) (wd c a l f) :=
  mo_is h2 h3 hst ht hu (by decide) (by decide) (by decide) (by decide) (by decide)
theorem mo_is_6 {ro : Nat → Option am_C} {c : Bool} {a : Nat → Nat → Int32} {l : Nat → Int64} {f : Nat → Nat → Int32} {s t : Nat} {u : Nat → Nat} (h2 : f 60 2 = nI s) (h3 : f 60 3 = nI t) (hst : s ≤ t) (ht : t ≤ 900) (hu : ∀ q, q < t - s → a 61 (s + q) = nI (u q) ∧ u q < 256) : am_run ro 1 110 [.ref 60, .long (lN 120299659095922)] (wd c a l f) (some (.int (nI (sw u (t - s) vt_6 6).toNat))) (wd c a l f) :=
  mo_is h2 h3 hst ht hu (by decide) (by decide) (by decide) (by decide) (by decide)
theorem mo_is_7 {ro : Nat → Option am_C} {c : Bool} {a : Nat → Nat → Int32} {l : Nat → Int64} {f : Nat → Nat → Int32} {s t : Nat} {u : Nat → Nat} (h2 : f 60 2 = nI s) (h3 : f 60 3 = nI t) (hst : s ≤ t) (ht : t ≤ 900) (hu : ∀ q, q < t - s → a 61 (s + q) = nI (u q) ∧ u q < 256) : am_run ro 1 110 [.ref 60, .long (lN 7168368)] (wd c a l f) (some (.int (nI (sw u (t - s) vt_7 3).toNat))) (wd c a l f) :=
  mo_is h2 h3 hst ht hu (by decide) (by decide) (by decide) (by decide) (by decide)
theorem mo_is_8 {ro : Nat → Option am_C} {c : Bool} {a : Nat → Nat → Int32} {l : Nat → Int64} {f : Nat → Nat → Int32} {s t : Nat} {u : Nat → Nat} (h2 : f 60 2 = nI s) (h3 : f 60 3 = nI t) (hst : s ≤ t) (ht : t ≤ 900) (hu : ∀ q, q < t - s → a 61 (s + q) = nI (u q) ∧ u q < 256) : am_run ro 1 110 [.ref 60, .long (lN 1851878757)] (wd c a l f) (some (.int (nI (sw u (t - s) vt_8 4).toNat))) (wd c a l f) :=
  mo_is h2 h3 hst ht hu (by decide) (by decide) (by decide) (by decide) (by decide)
