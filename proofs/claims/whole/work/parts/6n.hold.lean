/-! HOLD: the second halves become the first, and the papers are gone -/
def cpd (A : Nat → Int32) (h k : Nat) (R : Nat → Int32) : Prop := (∀ i, i < k → R i = A (h + i)) ∧ ∀ i, h ≤ i → R i = A i
theorem cpd_0 {A : Nat → Int32} {h : Nat} : cpd A h 0 A := ⟨fun i hi => absurd hi (by omega), fun _ _ => rfl⟩
theorem cpd_s {A R : Nat → Int32} {h k : Nat} (hk : k < h) (g : cpd A h k R) : cpd A h (k + 1) (upd R k (R (h + k))) := by
  refine ⟨fun i hi => ?_, fun i hi => ?_⟩
  · by_cases hq : i = k
    · rw [hq, upd_same]
      exact g.2 (h + k) (by omega)
    · rw [upd_ne hq]
      exact g.1 i (by omega)
  · rw [upd_ne (by omega)]
    exact g.2 i hi
def cpl (A : Nat → Int64) (k : Nat) (R : Nat → Int64) : Prop := (∀ i, i < k → R i = A (20 + i)) ∧ ∀ i, 20 ≤ i → R i = A i
theorem cpl_s {A R : Nat → Int64} {k : Nat} (hk : k < 20) (g : cpl A k R) : cpl A (k + 1) (vp_updL R k (R (20 + k))) := by
  refine ⟨fun i hi => ?_, fun i hi => ?_⟩
  · by_cases hq : i = k
    · rw [hq, updL_same]
      exact g.2 (20 + k) (by omega)
    · rw [updL_ne hq]
      exact g.1 i (by omega)
  · rw [updL_ne (by omega)]
    exact g.2 i hi
set_option maxRecDepth 100000 in
set_option maxHeartbeats 4000000 in
theorem ho_62 {ro : Nat → Option am_C} {c : Bool} {a : Nat → Nat → Int32} {l : Nat → Int64} {f : Nat → Nat → Int32} {K : Option Value → am_H → Prop} : ∀ (m k : Nat) (R : Nat → Int32), k + m = 6 → cpd (a 62) 6 k R → (∀ R', cpd (a 62) 6 6 R' → am_T ro 0 119 29 [.ref 60, .int (nI 6)] [] (wd c (u2 a 62 R') l f) K) → am_T ro 0 119 2 [.ref 60, .int (nI k)] [] (wd c (u2 a 62 R) l f) K := by
  intro m
  induction m with
  | zero =>
    intro k R hm g kq
    have e : k = 6 := by omega
    subst e
    refine am_wp_ok (inl := []) 4 0 119 [29] _ _ _ _ _ ?_
    refine am_br_t (show nI 6 ≤ nI 6 from nI_le (Nat.le_refl _) (by decide)) ?_
    exact kq R g
  | succ m ih =>
    intro k R hm g kq
    refine am_wp_ok (inl := []) 4 0 119 [8] _ _ _ _ _ ?_
    refine am_br_f (show ¬ nI 6 ≤ nI k from nI_ge (by omega) (by decide)) ?_
    show am_T ro 0 119 8 [.ref 60, .int (nI k)] [] (wd c (u2 a 62 R) l f) K
    refine am_wp_ok (inl := []) 11 0 119 [23] _ _ _ _ _ ?_
    refine And.intro (show vp_in (nI 6 + nI k) 12 by rw [nI_add]; exact vp_in_nI (by omega) (by decide)) ?_
    refine And.intro (vp_in_nI (by omega) (by decide)) ?_
    show am_T ro 0 119 23 [.ref 60, .int (nI k)] [] ((wd c (u2 a 62 R) l f).set 62 (.inl (.int, 12, .inl (upd R (nI k).toNatClampNeg (R (nI 6 + nI k).toNatClampNeg))))) K
    rw [ws_62, u2_u2, nI_add, nI_clamp (show k < 2 ^ 31 by omega), nI_clamp (show 6 + k < 2 ^ 31 by omega)]
    refine am_wp_ok (inl := []) 3 0 119 [2] _ _ _ _ _ ?_
    show am_T ro 0 119 2 [.ref 60, .int (nI k + 1)] [] (wd c (u2 a 62 (upd R k (R (6 + k)))) l f) K
    rw [nI_1]
    exact ih (k + 1) _ (by omega) (cpd_s (by omega) g) kq
set_option maxRecDepth 100000 in
set_option maxHeartbeats 4000000 in
theorem ho_66 {ro : Nat → Option am_C} {c : Bool} {a : Nat → Nat → Int32} {l : Nat → Int64} {f : Nat → Nat → Int32} {K : Option Value → am_H → Prop} : ∀ (m k : Nat) (R : Nat → Int32), k + m = 180 → cpd (a 66) 180 k R → (∀ R', cpd (a 66) 180 180 R' → am_T ro 0 119 136 [.ref 60, .int (nI 180)] [] (wd c (u2 a 66 R') l f) K) → am_T ro 0 119 107 [.ref 60, .int (nI k)] [] (wd c (u2 a 66 R) l f) K := by
  intro m
  induction m with
  | zero =>
    intro k R hm g kq
    have e : k = 180 := by omega
    subst e
    refine am_wp_ok (inl := []) 4 0 119 [136] _ _ _ _ _ ?_
    refine am_br_t (show nI 180 ≤ nI 180 from nI_le (Nat.le_refl _) (by decide)) ?_
    exact kq R g
  | succ m ih =>
    intro k R hm g kq
    refine am_wp_ok (inl := []) 4 0 119 [114] _ _ _ _ _ ?_
    refine am_br_f (show ¬ nI 180 ≤ nI k from nI_ge (by omega) (by decide)) ?_
    show am_T ro 0 119 114 [.ref 60, .int (nI k)] [] (wd c (u2 a 66 R) l f) K
    refine am_wp_ok (inl := []) 11 0 119 [130] _ _ _ _ _ ?_
    refine And.intro (show vp_in (nI 180 + nI k) 360 by rw [nI_add]; exact vp_in_nI (by omega) (by decide)) ?_
    refine And.intro (vp_in_nI (by omega) (by decide)) ?_
    show am_T ro 0 119 130 [.ref 60, .int (nI k)] [] ((wd c (u2 a 66 R) l f).set 66 (.inl (.int, 360, .inl (upd R (nI k).toNatClampNeg (R (nI 180 + nI k).toNatClampNeg))))) K
    rw [ws_66, u2_u2, nI_add, nI_clamp (show k < 2 ^ 31 by omega), nI_clamp (show 180 + k < 2 ^ 31 by omega)]
    refine am_wp_ok (inl := []) 3 0 119 [107] _ _ _ _ _ ?_
    show am_T ro 0 119 107 [.ref 60, .int (nI k + 1)] [] (wd c (u2 a 66 (upd R k (R (180 + k)))) l f) K
    rw [nI_1]
    exact ih (k + 1) _ (by omega) (cpd_s (by omega) g) kq
set_option maxRecDepth 100000 in
set_option maxHeartbeats 4000000 in
theorem ho_67 {ro : Nat → Option am_C} {c : Bool} {a : Nat → Nat → Int32} {l : Nat → Int64} {f : Nat → Nat → Int32} {K : Option Value → am_H → Prop} : ∀ (m k : Nat) (R : Nat → Int32), k + m = 16 → cpd (a 67) 16 k R → (∀ R', cpd (a 67) 16 16 R' → am_T ro 0 119 165 [.ref 60, .int (nI 16)] [] (wd c (u2 a 67 R') l f) K) → am_T ro 0 119 138 [.ref 60, .int (nI k)] [] (wd c (u2 a 67 R) l f) K := by
  intro m
  induction m with
  | zero =>
    intro k R hm g kq
    have e : k = 16 := by omega
    subst e
    refine am_wp_ok (inl := []) 4 0 119 [165] _ _ _ _ _ ?_
    refine am_br_t (show nI 16 ≤ nI 16 from nI_le (Nat.le_refl _) (by decide)) ?_
    exact kq R g
  | succ m ih =>
    intro k R hm g kq
    refine am_wp_ok (inl := []) 4 0 119 [144] _ _ _ _ _ ?_
    refine am_br_f (show ¬ nI 16 ≤ nI k from nI_ge (by omega) (by decide)) ?_
    show am_T ro 0 119 144 [.ref 60, .int (nI k)] [] (wd c (u2 a 67 R) l f) K
    refine am_wp_ok (inl := []) 11 0 119 [159] _ _ _ _ _ ?_
    refine And.intro (show vp_in (nI 16 + nI k) 32 by rw [nI_add]; exact vp_in_nI (by omega) (by decide)) ?_
    refine And.intro (vp_in_nI (by omega) (by decide)) ?_
    show am_T ro 0 119 159 [.ref 60, .int (nI k)] [] ((wd c (u2 a 67 R) l f).set 67 (.inl (.int, 32, .inl (upd R (nI k).toNatClampNeg (R (nI 16 + nI k).toNatClampNeg))))) K
    rw [ws_67, u2_u2, nI_add, nI_clamp (show k < 2 ^ 31 by omega), nI_clamp (show 16 + k < 2 ^ 31 by omega)]
    refine am_wp_ok (inl := []) 3 0 119 [138] _ _ _ _ _ ?_
    show am_T ro 0 119 138 [.ref 60, .int (nI k + 1)] [] (wd c (u2 a 67 (upd R k (R (16 + k)))) l f) K
    rw [nI_1]
    exact ih (k + 1) _ (by omega) (cpd_s (by omega) g) kq
set_option maxRecDepth 100000 in
set_option maxHeartbeats 4000000 in
theorem ho_68 {ro : Nat → Option am_C} {c : Bool} {a : Nat → Nat → Int32} {l : Nat → Int64} {f : Nat → Nat → Int32} {K : Option Value → am_H → Prop} : ∀ (m k : Nat) (R : Nat → Int32), k + m = 32 → cpd (a 68) 32 k R → (∀ R', cpd (a 68) 32 32 R' → am_T ro 0 119 194 [.ref 60, .int (nI 32)] [] (wd c (u2 a 68 R') l f) K) → am_T ro 0 119 167 [.ref 60, .int (nI k)] [] (wd c (u2 a 68 R) l f) K := by
  intro m
  induction m with
  | zero =>
    intro k R hm g kq
    have e : k = 32 := by omega
    subst e
    refine am_wp_ok (inl := []) 4 0 119 [194] _ _ _ _ _ ?_
    refine am_br_t (show nI 32 ≤ nI 32 from nI_le (Nat.le_refl _) (by decide)) ?_
    exact kq R g
  | succ m ih =>
    intro k R hm g kq
    refine am_wp_ok (inl := []) 4 0 119 [173] _ _ _ _ _ ?_
    refine am_br_f (show ¬ nI 32 ≤ nI k from nI_ge (by omega) (by decide)) ?_
    show am_T ro 0 119 173 [.ref 60, .int (nI k)] [] (wd c (u2 a 68 R) l f) K
    refine am_wp_ok (inl := []) 11 0 119 [188] _ _ _ _ _ ?_
    refine And.intro (show vp_in (nI 32 + nI k) 64 by rw [nI_add]; exact vp_in_nI (by omega) (by decide)) ?_
    refine And.intro (vp_in_nI (by omega) (by decide)) ?_
    show am_T ro 0 119 188 [.ref 60, .int (nI k)] [] ((wd c (u2 a 68 R) l f).set 68 (.inl (.int, 64, .inl (upd R (nI k).toNatClampNeg (R (nI 32 + nI k).toNatClampNeg))))) K
    rw [ws_68, u2_u2, nI_add, nI_clamp (show k < 2 ^ 31 by omega), nI_clamp (show 32 + k < 2 ^ 31 by omega)]
    refine am_wp_ok (inl := []) 3 0 119 [167] _ _ _ _ _ ?_
    show am_T ro 0 119 167 [.ref 60, .int (nI k + 1)] [] (wd c (u2 a 68 (upd R k (R (32 + k)))) l f) K
    rw [nI_1]
    exact ih (k + 1) _ (by omega) (cpd_s (by omega) g) kq
set_option maxRecDepth 100000 in
set_option maxHeartbeats 4000000 in
theorem ho_69 {ro : Nat → Option am_C} {c : Bool} {a : Nat → Nat → Int32} {l : Nat → Int64} {f : Nat → Nat → Int32} {K : Option Value → am_H → Prop} : ∀ (m k : Nat) (R : Nat → Int32), k + m = 80 → cpd (a 69) 80 k R → (∀ R', cpd (a 69) 80 80 R' → am_T ro 0 119 223 [.ref 60, .int (nI 80)] [] (wd c (u2 a 69 R') l f) K) → am_T ro 0 119 196 [.ref 60, .int (nI k)] [] (wd c (u2 a 69 R) l f) K := by
  intro m
  induction m with
  | zero =>
    intro k R hm g kq
    have e : k = 80 := by omega
    subst e
    refine am_wp_ok (inl := []) 4 0 119 [223] _ _ _ _ _ ?_
    refine am_br_t (show nI 80 ≤ nI 80 from nI_le (Nat.le_refl _) (by decide)) ?_
    exact kq R g
  | succ m ih =>
    intro k R hm g kq
    refine am_wp_ok (inl := []) 4 0 119 [202] _ _ _ _ _ ?_
    refine am_br_f (show ¬ nI 80 ≤ nI k from nI_ge (by omega) (by decide)) ?_
    show am_T ro 0 119 202 [.ref 60, .int (nI k)] [] (wd c (u2 a 69 R) l f) K
    refine am_wp_ok (inl := []) 11 0 119 [217] _ _ _ _ _ ?_
    refine And.intro (show vp_in (nI 80 + nI k) 160 by rw [nI_add]; exact vp_in_nI (by omega) (by decide)) ?_
    refine And.intro (vp_in_nI (by omega) (by decide)) ?_
    show am_T ro 0 119 217 [.ref 60, .int (nI k)] [] ((wd c (u2 a 69 R) l f).set 69 (.inl (.int, 160, .inl (upd R (nI k).toNatClampNeg (R (nI 80 + nI k).toNatClampNeg))))) K
    rw [ws_69, u2_u2, nI_add, nI_clamp (show k < 2 ^ 31 by omega), nI_clamp (show 80 + k < 2 ^ 31 by omega)]
    refine am_wp_ok (inl := []) 3 0 119 [196] _ _ _ _ _ ?_
    show am_T ro 0 119 196 [.ref 60, .int (nI k + 1)] [] (wd c (u2 a 69 (upd R k (R (80 + k)))) l f) K
    rw [nI_1]
    exact ih (k + 1) _ (by omega) (cpd_s (by omega) g) kq
set_option maxRecDepth 100000 in
set_option maxHeartbeats 4000000 in
theorem ho_3 {ro : Nat → Option am_C} {c : Bool} {a : Nat → Nat → Int32} {l : Nat → Int64} {f : Nat → Nat → Int32} {K : Option Value → am_H → Prop} : ∀ (m k : Nat) (R S T : Nat → Int32), k + m = 30 → cpd (a 63) 30 k R → cpd (a 64) 30 k S → cpd (a 65) 31 k T → (∀ R' S' T', cpd (a 63) 30 30 R' → cpd (a 64) 30 30 S' → cpd (a 65) 31 30 T' → am_T ro 0 119 88 [.ref 60, .int (nI 30)] [] (wd c (u2 (u2 (u2 a 63 R') 64 S') 65 T') l f) K) → am_T ro 0 119 31 [.ref 60, .int (nI k)] [] (wd c (u2 (u2 (u2 a 63 R) 64 S) 65 T) l f) K := by
  intro m
  induction m with
  | zero =>
    intro k R S T hm g1 g2 g3 kq
    have e : k = 30 := by omega
    subst e
    refine am_wp_ok (inl := []) 4 0 119 [88] _ _ _ _ _ ?_
    refine am_br_t (show nI 30 ≤ nI 30 from nI_le (Nat.le_refl _) (by decide)) ?_
    exact kq R S T g1 g2 g3
  | succ m ih =>
    intro k R S T hm g1 g2 g3 kq
    have ck : (nI k).toNatClampNeg = k := nI_clamp (by omega)
    have c30 : (nI 30 + nI k).toNatClampNeg = 30 + k := by rw [nI_add, nI_clamp (by omega)]
    have c31 : (nI 31 + nI k).toNatClampNeg = 31 + k := by rw [nI_add, nI_clamp (by omega)]
    refine am_wp_ok (inl := []) 4 0 119 [37] _ _ _ _ _ ?_
    refine am_br_f (show ¬ nI 30 ≤ nI k from nI_ge (by omega) (by decide)) ?_
    show am_T ro 0 119 37 [.ref 60, .int (nI k)] [] (wd c (u2 (u2 (u2 a 63 R) 64 S) 65 T) l f) K
    refine am_wp_ok (inl := []) 11 0 119 [52] _ _ _ _ _ ?_
    refine And.intro (show vp_in (nI 30 + nI k) 60 by rw [nI_add]; exact vp_in_nI (by omega) (by decide)) ?_
    refine And.intro (vp_in_nI (by omega) (by decide)) ?_
    show am_T ro 0 119 52 [.ref 60, .int (nI k)] [] ((wd c (u2 (u2 (u2 a 63 R) 64 S) 65 T) l f).set 63 (.inl (.int, 60, .inl (upd R (nI k).toNatClampNeg (R (nI 30 + nI k).toNatClampNeg))))) K
    rw [ws_63, ck, c30, u2_cm 65 63 rfl, u2_cm 64 63 rfl, u2_u2]
    refine am_wp_ok (inl := []) 11 0 119 [67] _ _ _ _ _ ?_
    refine And.intro (show vp_in (nI 30 + nI k) 60 by rw [nI_add]; exact vp_in_nI (by omega) (by decide)) ?_
    refine And.intro (vp_in_nI (by omega) (by decide)) ?_
    show am_T ro 0 119 67 [.ref 60, .int (nI k)] [] ((wd c (u2 (u2 (u2 a 63 (upd R k (R (30 + k)))) 64 S) 65 T) l f).set 64 (.inl (.int, 60, .inl (upd S (nI k).toNatClampNeg (S (nI 30 + nI k).toNatClampNeg))))) K
    rw [ws_64, ck, c30, u2_cm 65 64 rfl, u2_u2]
    refine am_wp_ok (inl := []) 11 0 119 [82] _ _ _ _ _ ?_
    refine And.intro (show vp_in (nI 31 + nI k) 62 by rw [nI_add]; exact vp_in_nI (by omega) (by decide)) ?_
    refine And.intro (vp_in_nI (by omega) (by decide)) ?_
    show am_T ro 0 119 82 [.ref 60, .int (nI k)] [] ((wd c (u2 (u2 (u2 a 63 (upd R k (R (30 + k)))) 64 (upd S k (S (30 + k)))) 65 T) l f).set 65 (.inl (.int, 62, .inl (upd T (nI k).toNatClampNeg (T (nI 31 + nI k).toNatClampNeg))))) K
    rw [ws_65, ck, c31, u2_u2]
    refine am_wp_ok (inl := []) 3 0 119 [31] _ _ _ _ _ ?_
    show am_T ro 0 119 31 [.ref 60, .int (nI k + 1)] [] (wd c (u2 (u2 (u2 a 63 (upd R k (R (30 + k)))) 64 (upd S k (S (30 + k)))) 65 (upd T k (T (31 + k)))) l f) K
    rw [nI_1]
    exact ih (k + 1) _ _ _ (by omega) (cpd_s (by omega) g1) (cpd_s (by omega) g2) (cpd_s (by omega) g3) kq
set_option maxRecDepth 100000 in
set_option maxHeartbeats 4000000 in
theorem ho_70 {ro : Nat → Option am_C} {c : Bool} {a : Nat → Nat → Int32} {l0 : Nat → Int64} {f : Nat → Nat → Int32} {K : Option Value → am_H → Prop} : ∀ (m k : Nat) (R : Nat → Int32) (l : Nat → Int64), k + m = 20 → cpd (a 70) 20 k R → cpl l0 k l → (∀ R' l', cpd (a 70) 20 20 R' → cpl l0 20 l' → am_T ro 0 119 267 [.ref 60, .int (nI 20)] [] (wd c (u2 a 70 R') l' f) K) → am_T ro 0 119 225 [.ref 60, .int (nI k)] [] (wd c (u2 a 70 R) l f) K := by
  intro m
  induction m with
  | zero =>
    intro k R l hm g1 g2 kq
    have e : k = 20 := by omega
    subst e
    refine am_wp_ok (inl := []) 4 0 119 [267] _ _ _ _ _ ?_
    refine am_br_t (show nI 20 ≤ nI 20 from nI_le (Nat.le_refl _) (by decide)) ?_
    exact kq R l g1 g2
  | succ m ih =>
    intro k R l hm g1 g2 kq
    have ck : (nI k).toNatClampNeg = k := nI_clamp (by omega)
    have c20 : (nI 20 + nI k).toNatClampNeg = 20 + k := by rw [nI_add, nI_clamp (by omega)]
    refine am_wp_ok (inl := []) 4 0 119 [231] _ _ _ _ _ ?_
    refine am_br_f (show ¬ nI 20 ≤ nI k from nI_ge (by omega) (by decide)) ?_
    show am_T ro 0 119 231 [.ref 60, .int (nI k)] [] (wd c (u2 a 70 R) l f) K
    refine am_wp_ok (inl := []) 11 0 119 [246] _ _ _ _ _ ?_
    refine And.intro (show vp_in (nI 20 + nI k) 40 by rw [nI_add]; exact vp_in_nI (by omega) (by decide)) ?_
    refine And.intro (vp_in_nI (by omega) (by decide)) ?_
    show am_T ro 0 119 246 [.ref 60, .int (nI k)] [] ((wd c (u2 a 70 R) l f).set 70 (.inl (.int, 40, .inl (upd R (nI k).toNatClampNeg (R (nI 20 + nI k).toNatClampNeg))))) K
    rw [ws_70, ck, c20, u2_u2]
    refine am_wp_ok (inl := []) 11 0 119 [261] _ _ _ _ _ ?_
    refine And.intro (show vp_in (nI 20 + nI k) 40 by rw [nI_add]; exact vp_in_nI (by omega) (by decide)) ?_
    refine And.intro (vp_in_nI (by omega) (by decide)) ?_
    show am_T ro 0 119 261 [.ref 60, .int (nI k)] [] ((wd c (u2 a 70 (upd R k (R (20 + k)))) l f).set 71 (.inl (.long, 40, .inr (.inl (vp_updL l (nI k).toNatClampNeg (l (nI 20 + nI k).toNatClampNeg)))))) K
    rw [ws_71, ck, c20]
    refine am_wp_ok (inl := []) 3 0 119 [225] _ _ _ _ _ ?_
    show am_T ro 0 119 225 [.ref 60, .int (nI k + 1)] [] (wd c (u2 a 70 (upd R k (R (20 + k)))) (vp_updL l k (l (20 + k))) f) K
    rw [nI_1]
    exact ih (k + 1) _ _ (by omega) (cpd_s (by omega) g1) (cpl_s (by omega) g2) kq
theorem z_s {R : Nat → Int32} {k : Nat} (g : ∀ i, i < k → R i = 0) : ∀ i, i < k + 1 → upd R k 0 i = 0 := by
  intro i hi
  by_cases hq : i = k
  · rw [hq, upd_same]
  · rw [upd_ne hq]
    exact g i (by omega)
set_option maxRecDepth 100000 in
set_option maxHeartbeats 4000000 in
theorem ho_74 {ro : Nat → Option am_C} {c : Bool} {a : Nat → Nat → Int32} {l : Nat → Int64} {f : Nat → Nat → Int32} {K : Option Value → am_H → Prop} : ∀ (m k : Nat) (R S : Nat → Int32), k + m = 60 → (∀ i, i < k → R i = 0) → (∀ i, i < k → S i = 0) → (∀ R' S', (∀ i, i < 60 → R' i = 0) → (∀ i, i < 60 → S' i = 0) → am_T ro 0 119 295 [.ref 60, .int (nI 60)] [] (wd c (u2 (u2 a 74 R') 75 S') l f) K) → am_T ro 0 119 269 [.ref 60, .int (nI k)] [] (wd c (u2 (u2 a 74 R) 75 S) l f) K := by
  intro m
  induction m with
  | zero =>
    intro k R S hm g1 g2 kq
    have e : k = 60 := by omega
    subst e
    refine am_wp_ok (inl := []) 4 0 119 [295] _ _ _ _ _ ?_
    refine am_br_t (show nI 60 ≤ nI 60 from nI_le (Nat.le_refl _) (by decide)) ?_
    exact kq R S g1 g2
  | succ m ih =>
    intro k R S hm g1 g2 kq
    have ck : (nI k).toNatClampNeg = k := nI_clamp (by omega)
    refine am_wp_ok (inl := []) 4 0 119 [275] _ _ _ _ _ ?_
    refine am_br_f (show ¬ nI 60 ≤ nI k from nI_ge (by omega) (by decide)) ?_
    show am_T ro 0 119 275 [.ref 60, .int (nI k)] [] (wd c (u2 (u2 a 74 R) 75 S) l f) K
    refine am_wp_ok (inl := []) 6 0 119 [282] _ _ _ _ _ ?_
    refine And.intro (vp_in_nI (by omega) (by decide)) ?_
    show am_T ro 0 119 282 [.ref 60, .int (nI k)] [] ((wd c (u2 (u2 a 74 R) 75 S) l f).set 74 (.inl (.boolean, 60, .inl (upd R (nI k).toNatClampNeg 0)))) K
    rw [ws_74, ck, u2_cm 75 74 rfl, u2_u2]
    refine am_wp_ok (inl := []) 6 0 119 [289] _ _ _ _ _ ?_
    refine And.intro (vp_in_nI (by omega) (by decide)) ?_
    show am_T ro 0 119 289 [.ref 60, .int (nI k)] [] ((wd c (u2 (u2 a 74 (upd R k 0)) 75 S) l f).set 75 (.inl (.boolean, 60, .inl (upd S (nI k).toNatClampNeg 0)))) K
    rw [ws_75, ck, u2_u2]
    refine am_wp_ok (inl := []) 3 0 119 [269] _ _ _ _ _ ?_
    show am_T ro 0 119 269 [.ref 60, .int (nI k + 1)] [] (wd c (u2 (u2 a 74 (upd R k 0)) 75 (upd S k 0)) l f) K
    rw [nI_1]
    exact ih (k + 1) _ _ (by omega) (z_s g1) (z_s g2) kq
/-- what hold makes of the rows -/
def Hd (a : Nat → Nat → Int32) (l : Nat → Int64) (a3 : Nat → Nat → Int32) (l3 : Nat → Int64) (nb : Nat) : Prop := (∀ x, (x < 62 ∨ (72 ≤ x ∧ x < 74) ∨ 76 ≤ x) → a3 x = a x) ∧ (∀ i, i < 6 → a3 62 i = a 62 (6 + i)) ∧ (∀ i, i < 30 → a3 63 i = a 63 (30 + i)) ∧ (∀ i, i < 30 → a3 64 i = a 64 (30 + i)) ∧ (∀ i, i < 30 → ¬ i = nb → a3 65 i = a 65 (31 + i)) ∧ a3 65 nb = a 62 7 ∧ (∀ i, i < 180 → a3 66 i = a 66 (180 + i)) ∧ (∀ i, i < 16 → a3 67 i = a 67 (16 + i)) ∧ (∀ i, i < 32 → a3 68 i = a 68 (32 + i)) ∧ (∀ i, i < 80 → a3 69 i = a 69 (80 + i)) ∧ (∀ i, i < 20 → a3 70 i = a 70 (20 + i)) ∧ (∀ i, i < 20 → l3 i = l (20 + i)) ∧ (∀ i, i < 60 → a3 74 i = 0) ∧ ∀ i, i < 60 → a3 75 i = 0
set_option maxRecDepth 100000 in
set_option maxHeartbeats 4000000 in
theorem mo_hold {ro : Nat → Option am_C} {c : Bool} {a : Nat → Nat → Int32} {l : Nat → Int64} {f : Nat → Nat → Int32} {nb : Nat} (e6 : a 62 6 = nI nb) (hb : nb ≤ 30) : ∃ (a3 : Nat → Nat → Int32) (l3 : Nat → Int64), am_run ro 1 119 [.ref 60] (wd c a l f) none (wd c a3 l3 f) ∧ Hd a l a3 l3 nb := by
  have h0 : am_T ro 0 119 0 (am_l0 119 [.ref 60]) [] (wd c a l f) (fun r hp' => ∃ (a3 : Nat → Nat → Int32) (l3 : Nat → Int64), r = none ∧ hp' = wd c a3 l3 f ∧ Hd a l a3 l3 nb) := by
    refine am_wp_ok (inl := []) 3 0 119 [2] _ _ _ _ _ ?_
    show am_T ro 0 119 2 [.ref 60, .int (nI 0)] [] (wd c a l f) _
    rw [show wd c a l f = wd c (u2 a 62 (a 62)) l f by rw [u2_id]]
    refine ho_62 6 0 (a 62) (by omega) cpd_0 (fun R62 g62 => ?_)
    refine am_wp_ok (inl := []) 3 0 119 [31] _ _ _ _ _ ?_
    show am_T ro 0 119 31 [.ref 60, .int (nI 0)] [] (wd c (u2 a 62 R62) l f) _
    rw [show wd c (u2 a 62 R62) l f = wd c (u2 (u2 (u2 (u2 a 62 R62) 63 (a 63)) 64 (a 64)) 65 (a 65)) l f by rw [show a 63 = (u2 a 62 R62) 63 from rfl, u2_id, show a 64 = (u2 a 62 R62) 64 from rfl, u2_id, show a 65 = (u2 a 62 R62) 65 from rfl, u2_id]]
    refine ho_3 (a := (u2 a 62 R62)) 30 0 (a 63) (a 64) (a 65) (by omega) cpd_0 cpd_0 cpd_0 (fun R63 R64 R65 g63 g64 g65 => ?_)
    have i0 : R62 0 = nI nb := (g62.1 0 (by decide)).trans e6
    have i1 : R62 1 = a 62 7 := g62.1 1 (by decide)
    refine am_wp_ok (inl := []) 12 0 119 [105] _ _ _ _ _ ?_
    refine And.intro (vp_in_nI (n := 0) (by decide) (by decide)) (And.intro (vp_in_nI (n := 1) (by decide) (by decide)) ?_)
    refine And.intro (show vp_in (R62 0) 62 by rw [i0]; exact vp_in_nI (by omega) (by decide)) ?_
    show am_T ro 0 119 105 [.ref 60, .int (nI 30)] [] ((wd c (u2 (u2 (u2 (u2 a 62 R62) 63 R63) 64 R64) 65 R65) l f).set 65 (.inl (.int, 62, .inl (upd R65 (R62 0).toNatClampNeg (R62 1))))) _
    rw [ws_65, u2_u2, i0, i1, nI_clamp (show nb < 2 ^ 31 by omega)]
    refine am_wp_ok (inl := []) 3 0 119 [107] _ _ _ _ _ ?_
    show am_T ro 0 119 107 [.ref 60, .int (nI 0)] [] (wd c (u2 (u2 (u2 (u2 a 62 R62) 63 R63) 64 R64) 65 (upd R65 nb (a 62 7))) l f) _
    rw [show wd c (u2 (u2 (u2 (u2 a 62 R62) 63 R63) 64 R64) 65 (upd R65 nb (a 62 7))) l f = wd c (u2 (u2 (u2 (u2 (u2 a 62 R62) 63 R63) 64 R64) 65 (upd R65 nb (a 62 7))) 66 (a 66)) l f by rw [show a 66 = (u2 (u2 (u2 (u2 a 62 R62) 63 R63) 64 R64) 65 (upd R65 nb (a 62 7))) 66 from rfl, u2_id]]
    refine ho_66 (a := (u2 (u2 (u2 (u2 a 62 R62) 63 R63) 64 R64) 65 (upd R65 nb (a 62 7)))) 180 0 (a 66) (by omega) cpd_0 (fun R66 g66 => ?_)
    refine am_wp_ok (inl := []) 3 0 119 [138] _ _ _ _ _ ?_
    show am_T ro 0 119 138 [.ref 60, .int (nI 0)] [] (wd c (u2 (u2 (u2 (u2 (u2 a 62 R62) 63 R63) 64 R64) 65 (upd R65 nb (a 62 7))) 66 R66) l f) _
    rw [show wd c (u2 (u2 (u2 (u2 (u2 a 62 R62) 63 R63) 64 R64) 65 (upd R65 nb (a 62 7))) 66 R66) l f = wd c (u2 (u2 (u2 (u2 (u2 (u2 a 62 R62) 63 R63) 64 R64) 65 (upd R65 nb (a 62 7))) 66 R66) 67 (a 67)) l f by rw [show a 67 = (u2 (u2 (u2 (u2 (u2 a 62 R62) 63 R63) 64 R64) 65 (upd R65 nb (a 62 7))) 66 R66) 67 from rfl, u2_id]]
    refine ho_67 (a := (u2 (u2 (u2 (u2 (u2 a 62 R62) 63 R63) 64 R64) 65 (upd R65 nb (a 62 7))) 66 R66)) 16 0 (a 67) (by omega) cpd_0 (fun R67 g67 => ?_)
    refine am_wp_ok (inl := []) 3 0 119 [167] _ _ _ _ _ ?_
    show am_T ro 0 119 167 [.ref 60, .int (nI 0)] [] (wd c (u2 (u2 (u2 (u2 (u2 (u2 a 62 R62) 63 R63) 64 R64) 65 (upd R65 nb (a 62 7))) 66 R66) 67 R67) l f) _
    rw [show wd c (u2 (u2 (u2 (u2 (u2 (u2 a 62 R62) 63 R63) 64 R64) 65 (upd R65 nb (a 62 7))) 66 R66) 67 R67) l f = wd c (u2 (u2 (u2 (u2 (u2 (u2 (u2 a 62 R62) 63 R63) 64 R64) 65 (upd R65 nb (a 62 7))) 66 R66) 67 R67) 68 (a 68)) l f by rw [show a 68 = (u2 (u2 (u2 (u2 (u2 (u2 a 62 R62) 63 R63) 64 R64) 65 (upd R65 nb (a 62 7))) 66 R66) 67 R67) 68 from rfl, u2_id]]
    refine ho_68 (a := (u2 (u2 (u2 (u2 (u2 (u2 a 62 R62) 63 R63) 64 R64) 65 (upd R65 nb (a 62 7))) 66 R66) 67 R67)) 32 0 (a 68) (by omega) cpd_0 (fun R68 g68 => ?_)
    refine am_wp_ok (inl := []) 3 0 119 [196] _ _ _ _ _ ?_
    show am_T ro 0 119 196 [.ref 60, .int (nI 0)] [] (wd c (u2 (u2 (u2 (u2 (u2 (u2 (u2 a 62 R62) 63 R63) 64 R64) 65 (upd R65 nb (a 62 7))) 66 R66) 67 R67) 68 R68) l f) _
    rw [show wd c (u2 (u2 (u2 (u2 (u2 (u2 (u2 a 62 R62) 63 R63) 64 R64) 65 (upd R65 nb (a 62 7))) 66 R66) 67 R67) 68 R68) l f = wd c (u2 (u2 (u2 (u2 (u2 (u2 (u2 (u2 a 62 R62) 63 R63) 64 R64) 65 (upd R65 nb (a 62 7))) 66 R66) 67 R67) 68 R68) 69 (a 69)) l f by rw [show a 69 = (u2 (u2 (u2 (u2 (u2 (u2 (u2 a 62 R62) 63 R63) 64 R64) 65 (upd R65 nb (a 62 7))) 66 R66) 67 R67) 68 R68) 69 from rfl, u2_id]]
    refine ho_69 (a := (u2 (u2 (u2 (u2 (u2 (u2 (u2 a 62 R62) 63 R63) 64 R64) 65 (upd R65 nb (a 62 7))) 66 R66) 67 R67) 68 R68)) 80 0 (a 69) (by omega) cpd_0 (fun R69 g69 => ?_)
    refine am_wp_ok (inl := []) 3 0 119 [225] _ _ _ _ _ ?_
    show am_T ro 0 119 225 [.ref 60, .int (nI 0)] [] (wd c (u2 (u2 (u2 (u2 (u2 (u2 (u2 (u2 a 62 R62) 63 R63) 64 R64) 65 (upd R65 nb (a 62 7))) 66 R66) 67 R67) 68 R68) 69 R69) l f) _
    rw [show wd c (u2 (u2 (u2 (u2 (u2 (u2 (u2 (u2 a 62 R62) 63 R63) 64 R64) 65 (upd R65 nb (a 62 7))) 66 R66) 67 R67) 68 R68) 69 R69) l f = wd c (u2 (u2 (u2 (u2 (u2 (u2 (u2 (u2 (u2 a 62 R62) 63 R63) 64 R64) 65 (upd R65 nb (a 62 7))) 66 R66) 67 R67) 68 R68) 69 R69) 70 (a 70)) l f by rw [show a 70 = (u2 (u2 (u2 (u2 (u2 (u2 (u2 (u2 a 62 R62) 63 R63) 64 R64) 65 (upd R65 nb (a 62 7))) 66 R66) 67 R67) 68 R68) 69 R69) 70 from rfl, u2_id]]
    refine ho_70 (a := (u2 (u2 (u2 (u2 (u2 (u2 (u2 (u2 a 62 R62) 63 R63) 64 R64) 65 (upd R65 nb (a 62 7))) 66 R66) 67 R67) 68 R68) 69 R69)) 20 0 (a 70) l (by omega) cpd_0 ⟨fun i hi => absurd hi (by omega), fun _ _ => rfl⟩ (fun R70 l3 g70 g71 => ?_)
    refine am_wp_ok (inl := []) 3 0 119 [269] _ _ _ _ _ ?_
    show am_T ro 0 119 269 [.ref 60, .int (nI 0)] [] (wd c (u2 (u2 (u2 (u2 (u2 (u2 (u2 (u2 (u2 a 62 R62) 63 R63) 64 R64) 65 (upd R65 nb (a 62 7))) 66 R66) 67 R67) 68 R68) 69 R69) 70 R70) l3 f) _
    rw [show wd c (u2 (u2 (u2 (u2 (u2 (u2 (u2 (u2 (u2 a 62 R62) 63 R63) 64 R64) 65 (upd R65 nb (a 62 7))) 66 R66) 67 R67) 68 R68) 69 R69) 70 R70) l3 f = wd c (u2 (u2 (u2 (u2 (u2 (u2 (u2 (u2 (u2 (u2 (u2 a 62 R62) 63 R63) 64 R64) 65 (upd R65 nb (a 62 7))) 66 R66) 67 R67) 68 R68) 69 R69) 70 R70) 74 (a 74)) 75 (a 75)) l3 f by rw [show a 74 = (u2 (u2 (u2 (u2 (u2 (u2 (u2 (u2 (u2 a 62 R62) 63 R63) 64 R64) 65 (upd R65 nb (a 62 7))) 66 R66) 67 R67) 68 R68) 69 R69) 70 R70) 74 from rfl, u2_id, show a 75 = (u2 (u2 (u2 (u2 (u2 (u2 (u2 (u2 (u2 a 62 R62) 63 R63) 64 R64) 65 (upd R65 nb (a 62 7))) 66 R66) 67 R67) 68 R68) 69 R69) 70 R70) 75 from rfl, u2_id]]
    refine ho_74 (a := (u2 (u2 (u2 (u2 (u2 (u2 (u2 (u2 (u2 a 62 R62) 63 R63) 64 R64) 65 (upd R65 nb (a 62 7))) 66 R66) 67 R67) 68 R68) 69 R69) 70 R70)) 60 0 (a 74) (a 75) (by omega) (fun i hi => absurd hi (by omega)) (fun i hi => absurd hi (by omega)) (fun R74 R75 g74 g75 => ?_)
    refine am_wp_ok (inl := []) 2 0 119 [] _ _ _ _ _ ?_
    refine ⟨(u2 (u2 (u2 (u2 (u2 (u2 (u2 (u2 (u2 (u2 (u2 a 62 R62) 63 R63) 64 R64) 65 (upd R65 nb (a 62 7))) 66 R66) 67 R67) 68 R68) 69 R69) 70 R70) 74 R74) 75 R75), l3, rfl, rfl, ?_, g62.1, g63.1, g64.1, fun i hi hn => (upd_ne hn).trans (g65.1 i hi), upd_same, g66.1, g67.1, g68.1, g69.1, g70.1, g71.1, g74, g75⟩
    intro x hx
    rw [u2_ne (by omega), u2_ne (by omega), u2_ne (by omega), u2_ne (by omega), u2_ne (by omega), u2_ne (by omega), u2_ne (by omega), u2_ne (by omega), u2_ne (by omega), u2_ne (by omega), u2_ne (by omega)]
  obtain ⟨r, hp', g1, a3, l3, rfl, rfl, g2⟩ := am_run_ex rfl h0
  exact ⟨a3, l3, g1, g2⟩
