/-! DURING A TEXT: the class's draft at o against the second halves of the reference's rows, in two worlds -/
def rQ (o : Nat) (a f : Nat → Nat → Int32) (a' : Nat → Nat → Int32) (l : Nat → Int64) (nb nc ng nm np nn : Nat) : Prop :=
  (nb ≤ 30 ∧ nc ≤ 60 ∧ ng ≤ 16 ∧ nm ≤ 16 ∧ np ≤ 20 ∧ nn ≤ 20) ∧
  (f (o + 1) 6 = nI nb ∧ f (o + 1) 7 = nI nc ∧ f (o + 8) 7 = nI ng ∧ f (o + 8) 8 = nI nm ∧ f (o + 8) 9 = nI np ∧ f (o + 16) 5 = nI nn) ∧
  (a' 62 6 = nI nb ∧ a' 62 7 = nI nc ∧ a' 62 8 = nI ng ∧ a' 62 9 = nI nm ∧ a' 62 10 = nI np ∧ a' 62 11 = nI nn) ∧
  (∀ i, i < nb → a (o + 2) i = a' 63 (30 + i) ∧ a (o + 3) i = a' 64 (30 + i) ∧ ∃ g : Nat, g < 10 ∧ a (o + 3) i = nI g) ∧
  (∃ e : Nat → Nat, e 0 = 0 ∧ e nb = nc ∧ ∀ i, i < nb → e i ≤ e (i + 1) ∧ e (i + 1) ≤ nc ∧ a (o + 4) i = nI (e (i + 1)) ∧ a' 65 (31 + i) = nI (e i)) ∧
  (∀ k, k < nc → (∃ q : Nat, q < 10 ∧ a (o + 5) k = nI q ∧ a' 66 (180 + 3 * k) = nI q) ∧ a (o + 6) k = a' 66 (180 + 3 * k + 1) ∧ a (o + 7) k = a' 66 (180 + 3 * k + 2)) ∧
  (∀ i, i < ng → a (o + 9) i = a' 67 (16 + i)) ∧
  (∀ i, i < nm → a (o + 10) i = a' 68 (32 + 2 * i) ∧ a (o + 11) i = a' 68 (33 + 2 * i) ∧ ¬ a (o + 11) i = -1) ∧
  (∀ i, i < np → a (o + 12) i = a' 69 (80 + 4 * i + 0) ∧ a (o + 13) i = a' 69 (80 + 4 * i + 1) ∧ a (o + 14) i = a' 69 (80 + 4 * i + 2) ∧ a (o + 15) i = a' 69 (80 + 4 * i + 3)) ∧
  (∀ i, i < nn → a (o + 17) i = a' 70 (20 + i) ∧ ∃ (k : Nat) (u : Nat → Nat), 1 ≤ k ∧ k ≤ 8 ∧ (∀ j, j < k → 97 ≤ u j ∧ u j ≤ 122) ∧ a (o + 18) i = nI k ∧ (∀ j, j < k → a (o + 19) (8 * i + j) = nI (u j)) ∧ l (20 + i) = lN (pf u 0 k 0))
/-- what a text that is told leaves alone: in the class, b being the draft's set -/
def FrC (b : Bool) (a f a1 f1 : Nat → Nat → Int32) : Prop := (∀ x, (x < 16 ∨ 60 ≤ x ∨ (ob (!b) ≤ x ∧ x ≤ ob (!b) + 21)) → a1 x = a x) ∧ (∀ x, ((1 < x ∧ x < 16) ∨ 60 ≤ x ∨ (ob (!b) ≤ x ∧ x ≤ ob (!b) + 21)) → f1 x = f x) ∧ f1 1 1 = f 1 1
/-- the first half of a row of the reference -/
def hf (x : Nat) : Nat := if x = 62 then 6 else if x = 63 then 30 else if x = 64 then 30 else if x = 65 then 31 else if x = 66 then 180 else if x = 67 then 16 else if x = 68 then 32 else if x = 69 then 80 else 20
def FrM (a : Nat → Nat → Int32) (l : Nat → Int64) (f a1 : Nat → Nat → Int32) (l1 : Nat → Int64) (f1 : Nat → Nat → Int32) : Prop := (∀ x, (x < 62 ∨ 72 ≤ x) → a1 x = a x) ∧ (∀ x i, 62 ≤ x → x < 72 → i < hf x → a1 x i = a x i) ∧ (∀ i, i < 20 → l1 i = l i) ∧ (∀ x, x < 60 → f1 x = f x) ∧ f1 60 18 = f 60 18
theorem FrC_refl {b : Bool} {a f : Nat → Nat → Int32} : FrC b a f a f := ⟨fun _ _ => rfl, fun _ _ => rfl, rfl⟩
theorem FrC_trans {b : Bool} {a f a1 f1 a2 f2 : Nat → Nat → Int32} (h : FrC b a f a1 f1) (g : FrC b a1 f1 a2 f2) : FrC b a f a2 f2 := ⟨fun x hx => (g.1 x hx).trans (h.1 x hx), fun x hx => (g.2.1 x hx).trans (h.2.1 x hx), g.2.2.trans h.2.2⟩
theorem FrM_refl {a f : Nat → Nat → Int32} {l : Nat → Int64} : FrM a l f a l f := ⟨fun _ _ => rfl, fun _ _ _ _ _ => rfl, fun _ _ => rfl, fun _ _ => rfl, rfl⟩
theorem FrM_trans {a f a1 f1 a2 f2 : Nat → Nat → Int32} {l l1 l2 : Nat → Int64} (h : FrM a l f a1 l1 f1) (g : FrM a1 l1 f1 a2 l2 f2) : FrM a l f a2 l2 f2 := ⟨fun x hx => (g.1 x hx).trans (h.1 x hx), fun x i h1 h2 h3 => (g.2.1 x i h1 h2 h3).trans (h.2.1 x i h1 h2 h3), fun i hi => (g.2.2.1 i hi).trans (h.2.2.1 i hi), fun x hx => (g.2.2.2.1 x hx).trans (h.2.2.2.1 x hx), g.2.2.2.2.trans h.2.2.2.2⟩
theorem FrC_a {b : Bool} {a f : Nat → Nat → Int32} {k : Nat} {R : Nat → Int32} (h1 : ob b + 2 ≤ k) (h2 : k ≤ ob b + 21) : FrC b a f (u2 a k R) f := by
  refine ⟨fun x hx => u2_ne ?_, fun _ _ => rfl, rfl⟩
  cases b
  · rw [show ob false = 16 from rfl] at h1 h2
    rw [show ob (!false) = 38 from rfl] at hx
    omega
  · rw [show ob true = 38 from rfl] at h1 h2
    rw [show ob (!true) = 16 from rfl] at hx
    omega
theorem u3_x {f : Nat → Nat → Int32} {i k x : Nat} {v : Int32} (h : ¬ x = i) : u3 f i k v x = f x := by
  funext y
  have : Nat.beq x i = false := by
    cases e : Nat.beq x i with
    | false => rfl
    | true => exact absurd (Nat.eq_of_beq_eq_true e) h
  simp [u3, this]
theorem u3_y {f : Nat → Nat → Int32} {i k y : Nat} {v : Int32} (h : ¬ y = k) : u3 f i k v i y = f i y := by
  have : Nat.beq y k = false := by
    cases e : Nat.beq y k with
    | false => rfl
    | true => exact absurd (Nat.eq_of_beq_eq_true e) h
  simp [u3, this]
theorem FrC_f {b : Bool} {a f : Nat → Nat → Int32} {i k : Nat} {v : Int32} (h1 : ob b + 1 ≤ i) (h2 : i ≤ ob b + 21) : FrC b a f a (u3 f i k v) := by
  have h16 : 16 ≤ ob b := by cases b <;> decide
  refine ⟨fun _ _ => rfl, fun x hx => u3_x ?_, ?_⟩
  · cases b
    · rw [show ob false = 16 from rfl] at h1 h2
      rw [show ob (!false) = 38 from rfl] at hx
      omega
    · rw [show ob true = 38 from rfl] at h1 h2
      rw [show ob (!true) = 16 from rfl] at hx
      omega
  · rw [u3_x (show ¬ 1 = i by omega)]
theorem FrC_t {b : Bool} {a f : Nat → Nat → Int32} {s t : Nat} {w : Int32} : FrC b a f a (tx f s t w) := by
  have h16 : 16 ≤ ob (!b) := by cases b <;> decide
  refine ⟨fun _ _ => rfl, fun x hx => ?_, rfl⟩
  unfold tx
  rw [u3_x (by omega), u3_x (by omega), u3_x (by omega)]
theorem FrM_a {a f : Nat → Nat → Int32} {l : Nat → Int64} {k p : Nat} {v : Int32} (h1 : 62 ≤ k) (h2 : k < 72) (hp : hf k ≤ p) : FrM a l f (u2 a k (upd (a k) p v)) l f := by
  refine ⟨fun x hx => u2_ne (by omega), fun x i g1 g2 g3 => ?_, fun _ _ => rfl, fun _ _ => rfl, rfl⟩
  by_cases hq : x = k
  · subst hq
    rw [u2_same, upd_ne (by omega)]
  · rw [u2_ne hq]
theorem FrM_f {a f : Nat → Nat → Int32} {l : Nat → Int64} {k : Nat} {v : Int32} (h : ¬ k = 18) : FrM a l f a l (u3 f 60 k v) :=
  ⟨fun _ _ => rfl, fun _ _ _ _ _ => rfl, fun _ _ => rfl, fun x hx => u3_x (by omega), u3_y (fun z => h z.symm)⟩
theorem updL_ne {g : Nat → Int64} {k j : Nat} {x : Int64} (h : j ≠ k) : vp_updL g k x j = g j := by simp [vp_updL, h]
theorem updL_same {g : Nat → Int64} {k : Nat} {x : Int64} : vp_updL g k x k = x := by simp [vp_updL]
theorem FrM_l {a f : Nat → Nat → Int32} {l : Nat → Int64} {p : Nat} {v : Int64} (h : 20 ≤ p) : FrM a l f a (vp_updL l p v) f :=
  ⟨fun _ _ => rfl, fun _ _ _ _ _ => rfl, fun i hi => updL_ne (by omega), fun _ _ => rfl, rfl⟩
theorem FrM_nx {a f : Nat → Nat → Int32} {l : Nat → Int64} {s t : Nat} : FrM a l f a l (nx f s t) := FrM_trans (FrM_f (by decide)) (FrM_f (by decide))
set_option maxRecDepth 100000 in
set_option maxHeartbeats 4000000 in
theorem rQ_gen (b : Bool) {a f a' : Nat → Nat → Int32} {l : Nat → Int64} {nb nc ng nm np nn s t : Nat} {w : Int32} {x : Int32} (h : rQ (ob b) a f a' l nb nc ng nm np nn) (hk : ng < 16) : rQ (ob b) (u2 a (ob b + 9) (upd (a (ob b + 9)) ng x)) (tx (u3 f (ob b + 8) 7 (nI (ng + 1))) s t w) (u2 (u2 a' 67 (upd (a' 67) (16 + ng) x)) 62 (upd (a' 62) 8 (nI (ng + 1)))) l nb nc (ng + 1) nm np nn := by
  obtain ⟨h1, h2, h3, h4, h5, h6, h7, h8, h9, h10⟩ := h
  cases b
  all_goals
    refine ⟨?_, ?_, ?_, ?_, ?_, ?_, ?_, ?_, ?_, ?_⟩
    · exact ⟨h1.1, h1.2.1, by omega, h1.2.2.2⟩
    · exact ⟨h2.1, h2.2.1, rfl, h2.2.2.2⟩
    · exact ⟨h3.1, h3.2.1, rfl, h3.2.2.2⟩
    · exact h4
    · exact h5
    · exact h6
    · intro i hi
      by_cases hq : i = ng
      · subst hq
        exact (upd_same).trans (upd_same).symm
      · exact (upd_ne hq).trans ((h7 i (by omega)).trans (upd_ne (show 16 + i ≠ 16 + ng by omega)).symm)
    · exact h8
    · exact h9
    · exact h10
set_option maxRecDepth 100000 in
set_option maxHeartbeats 4000000 in
theorem rQ_mir (b : Bool) {a f a' : Nat → Nat → Int32} {l : Nat → Int64} {nb nc ng nm np nn s t : Nat} {w : Int32} {x y : Int32} (h : rQ (ob b) a f a' l nb nc ng nm np nn) (hk : nm < 16) (hy : ¬ y = -1) : rQ (ob b) (u2 (u2 a (ob b + 10) (upd (a (ob b + 10)) nm x)) (ob b + 11) (upd (a (ob b + 11)) nm y)) (tx (u3 f (ob b + 8) 8 (nI (nm + 1))) s t w) (u2 (u2 a' 68 (upd (upd (a' 68) (32 + 2 * nm) x) (33 + 2 * nm) y)) 62 (upd (a' 62) 9 (nI (nm + 1)))) l nb nc ng (nm + 1) np nn := by
  obtain ⟨h1, h2, h3, h4, h5, h6, h7, h8, h9, h10⟩ := h
  cases b
  all_goals
    refine ⟨?_, ?_, ?_, ?_, ?_, ?_, ?_, ?_, ?_, ?_⟩
    · exact ⟨h1.1, h1.2.1, h1.2.2.1, by omega, h1.2.2.2.2⟩
    · exact ⟨h2.1, h2.2.1, h2.2.2.1, rfl, h2.2.2.2.2⟩
    · exact ⟨h3.1, h3.2.1, h3.2.2.1, rfl, h3.2.2.2.2⟩
    · exact h4
    · exact h5
    · exact h6
    · exact h7
    · intro i hi
      by_cases hq : i = nm
      · subst hq
        refine ⟨(upd_same).trans ((upd_ne (show 32 + 2 * i ≠ 33 + 2 * i by omega)).trans upd_same).symm, (upd_same).trans (upd_same).symm, fun z => hy ((upd_same).symm.trans z)⟩
      · obtain ⟨p1, p2, p3⟩ := h8 i (by omega)
        refine ⟨(upd_ne hq).trans (p1.trans ((upd_ne (show 32 + 2 * i ≠ 33 + 2 * nm by omega)).trans (upd_ne (show 32 + 2 * i ≠ 32 + 2 * nm by omega))).symm), (upd_ne hq).trans (p2.trans ((upd_ne (show 33 + 2 * i ≠ 33 + 2 * nm by omega)).trans (upd_ne (show 33 + 2 * i ≠ 32 + 2 * nm by omega))).symm), fun z => p3 ((upd_ne hq).symm.trans z)⟩
    · exact h9
    · exact h10
set_option maxRecDepth 100000 in
set_option maxHeartbeats 4000000 in
theorem rQ_map (b : Bool) {a f a' : Nat → Nat → Int32} {l : Nat → Int64} {nb nc ng nm np nn s t : Nat} {w : Int32} {x y z v : Int32} (h : rQ (ob b) a f a' l nb nc ng nm np nn) (hk : np < 20) : rQ (ob b) (u2 (u2 (u2 (u2 a (ob b + 12) (upd (a (ob b + 12)) np x)) (ob b + 13) (upd (a (ob b + 13)) np y)) (ob b + 14) (upd (a (ob b + 14)) np z)) (ob b + 15) (upd (a (ob b + 15)) np v)) (tx (u3 f (ob b + 8) 9 (nI (np + 1))) s t w) (u2 (u2 (u2 (u2 (u2 a' 69 (upd (a' 69) (80 + 4 * np + 0) x)) 69 (upd (upd (a' 69) (80 + 4 * np + 0) x) (80 + 4 * np + 1) y)) 69 (upd (upd (upd (a' 69) (80 + 4 * np + 0) x) (80 + 4 * np + 1) y) (80 + 4 * np + 2) z)) 69 (upd (upd (upd (upd (a' 69) (80 + 4 * np + 0) x) (80 + 4 * np + 1) y) (80 + 4 * np + 2) z) (80 + 4 * np + 3) v)) 62 (upd (a' 62) 10 (nI (np + 1)))) l nb nc ng nm (np + 1) nn := by
  obtain ⟨h1, h2, h3, h4, h5, h6, h7, h8, h9, h10⟩ := h
  cases b
  all_goals
    refine ⟨?_, ?_, ?_, ?_, ?_, ?_, ?_, ?_, ?_, ?_⟩
    · exact ⟨h1.1, h1.2.1, h1.2.2.1, h1.2.2.2.1, by omega, h1.2.2.2.2.2⟩
    · exact ⟨h2.1, h2.2.1, h2.2.2.1, h2.2.2.2.1, rfl, h2.2.2.2.2.2⟩
    · exact ⟨h3.1, h3.2.1, h3.2.2.1, h3.2.2.2.1, rfl, h3.2.2.2.2.2⟩
    · exact h4
    · exact h5
    · exact h6
    · exact h7
    · exact h8
    · intro i hi
      by_cases hq : i = np
      · subst hq
        refine ⟨(upd_same).trans ?_, (upd_same).trans ?_, (upd_same).trans ?_, (upd_same).trans ?_⟩
        · exact ((upd_ne (by omega)).trans ((upd_ne (by omega)).trans ((upd_ne (by omega)).trans upd_same))).symm
        · exact ((upd_ne (by omega)).trans ((upd_ne (by omega)).trans upd_same)).symm
        · exact ((upd_ne (by omega)).trans upd_same).symm
        · exact upd_same.symm
      · obtain ⟨p1, p2, p3, p4⟩ := h9 i (by omega)
        refine ⟨(upd_ne hq).trans (p1.trans ?_), (upd_ne hq).trans (p2.trans ?_), (upd_ne hq).trans (p3.trans ?_), (upd_ne hq).trans (p4.trans ?_)⟩
        all_goals exact ((upd_ne (by omega)).trans ((upd_ne (by omega)).trans ((upd_ne (by omega)).trans (upd_ne (by omega))))).symm
    · exact h10
set_option maxRecDepth 100000 in
set_option maxHeartbeats 4000000 in
theorem rQ_nam (b : Bool) {a f a' : Nat → Nat → Int32} {l : Nat → Int64} {nb nc ng nm np nn s t : Nat} {w : Int32} {x : Int32} {k B : Nat} {u : Nat → Nat} (h : rQ (ob b) a f a' l nb nc ng nm np nn) (hk : nn < 20) (k1 : 1 ≤ k) (k8 : k ≤ 8) (hu : ∀ q, q < k → 97 ≤ u q ∧ u q ≤ 122) (hb : ∀ q, q < k → a 2 (B + q) = nI (u q)) : rQ (ob b) (u2 (u2 (u2 a (ob b + 17) (upd (a (ob b + 17)) nn x)) (ob b + 18) (upd (a (ob b + 18)) nn (nI k))) (ob b + 19) (lw (fun q => a 2 (B + q)) (8 * nn) 0 k (a (ob b + 19)))) (tx (u3 f (ob b + 16) 5 (nI (nn + 1))) s t w) (u2 (u2 a' 70 (upd (a' 70) (20 + nn) x)) 62 (upd (a' 62) 11 (nI (nn + 1)))) (vp_updL l (20 + nn) (lN (pf u 0 k 0))) nb nc ng nm np (nn + 1) := by
  obtain ⟨h1, h2, h3, h4, h5, h6, h7, h8, h9, h10⟩ := h
  cases b
  all_goals
    refine ⟨?_, ?_, ?_, ?_, ?_, ?_, ?_, ?_, ?_, ?_⟩
    · exact ⟨h1.1, h1.2.1, h1.2.2.1, h1.2.2.2.1, h1.2.2.2.2.1, by omega⟩
    · exact ⟨h2.1, h2.2.1, h2.2.2.1, h2.2.2.2.1, h2.2.2.2.2.1, rfl⟩
    · exact ⟨h3.1, h3.2.1, h3.2.2.1, h3.2.2.2.1, h3.2.2.2.2.1, rfl⟩
    · exact h4
    · exact h5
    · exact h6
    · exact h7
    · exact h8
    · exact h9
    · intro i hi
      by_cases hq : i = nn
      · subst hq
        refine ⟨(upd_same).trans (upd_same).symm, k, u, k1, k8, hu, upd_same, fun j hj => ?_, updL_same⟩
        refine (lw_get k 0 _ (8 * i + j)).trans ?_
        rw [if_pos (by omega), show 8 * i + j - 8 * i = j by omega]
        exact hb j hj
      · obtain ⟨p1, k', u', q1, q2, q3, q4, q5, q6⟩ := h10 i (by omega)
        refine ⟨(upd_ne hq).trans (p1.trans (upd_ne (show 20 + i ≠ 20 + nn by omega)).symm), k', u', q1, q2, q3, (upd_ne hq).trans q4, fun j hj => ?_, (updL_ne (show 20 + i ≠ 20 + nn by omega)).trans q6⟩
        refine (lw_get k 0 _ (8 * i + j)).trans ?_
        rw [if_neg (by omega)]
        exact q5 j hj
set_option maxRecDepth 100000 in
set_option maxHeartbeats 4000000 in
theorem rQ_br (b : Bool) {a f a' : Nat → Nat → Int32} {l : Nat → Int64} {nb nc ng nm np nn s t : Nat} {w : Int32} {x : Int32} {y : Nat} (h : rQ (ob b) a f a' l nb nc ng nm np nn) (hk : nb < 30) (hy : y < 10) : rQ (ob b) (u2 (u2 (u2 a (ob b + 2) (upd (a (ob b + 2)) nb x)) (ob b + 3) (upd (a (ob b + 3)) nb (nI y))) (ob b + 4) (upd (a (ob b + 4)) nb (nI nc))) (tx (u3 f (ob b + 1) 6 (nI (nb + 1))) s t w) (u2 (u2 (u2 (u2 a' 63 (upd (a' 63) (30 + nb) x)) 64 (upd (a' 64) (30 + nb) (nI y))) 65 (upd (a' 65) (31 + nb) (nI nc))) 62 (upd (a' 62) 6 (nI (nb + 1)))) l (nb + 1) nc ng nm np nn := by
  obtain ⟨h1, h2, h3, h4, h5, h6, h7, h8, h9, h10⟩ := h
  cases b
  all_goals
    refine ⟨?_, ?_, ?_, ?_, ?_, ?_, ?_, ?_, ?_, ?_⟩
    · exact ⟨by omega, h1.2⟩
    · exact ⟨rfl, h2.2⟩
    · exact ⟨rfl, h3.2⟩
    · intro i hi
      by_cases hq : i = nb
      · subst hq
        exact ⟨(upd_same).trans (upd_same).symm, (upd_same).trans (upd_same).symm, y, hy, upd_same⟩
      · obtain ⟨p1, p2, g, p3, p4⟩ := h4 i (by omega)
        exact ⟨(upd_ne hq).trans (p1.trans (upd_ne (show 30 + i ≠ 30 + nb by omega)).symm), (upd_ne hq).trans (p2.trans (upd_ne (show 30 + i ≠ 30 + nb by omega)).symm), g, p3, (upd_ne hq).trans p4⟩
    · obtain ⟨e, e0, en, he⟩ := h5
      have E1 : ∀ i, i ≤ nb → (fun i => if i ≤ nb then e i else nc) i = e i := fun i hi => if_pos hi
      have E2 : (fun i => if i ≤ nb then e i else nc) (nb + 1) = nc := if_neg (by omega)
      generalize (fun i => if i ≤ nb then e i else nc) = E at E1 E2
      refine ⟨E, (E1 0 (by omega)).trans e0, E2, fun i hi => ?_⟩
      by_cases hq : i = nb
      · subst hq
        rw [E1 i (Nat.le_refl _), E2, en]
        exact ⟨Nat.le_refl _, Nat.le_refl _, upd_same, upd_same⟩
      · obtain ⟨p1, p2, p3, p4⟩ := he i (by omega)
        rw [E1 i (by omega), E1 (i + 1) (by omega)]
        exact ⟨p1, p2, (upd_ne hq).trans p3, (upd_ne (show 31 + i ≠ 31 + nb by omega)).trans p4⟩
    · exact h6
    · exact h7
    · exact h8
    · exact h9
    · exact h10
set_option maxRecDepth 100000 in
set_option maxHeartbeats 4000000 in
theorem rQ_cn (b : Bool) {a f a' : Nat → Nat → Int32} {l : Nat → Int64} {nb nc ng nm np nn s t : Nat} {w : Int32} {x : Nat} {y z : Int32} (h : rQ (ob b) a f a' l nb nc ng nm np nn) (hk : nc < 60) (hb : 1 ≤ nb) (hx : x < 10) : rQ (ob b) (u2 (u2 (u2 (u2 a (ob b + 5) (upd (a (ob b + 5)) nc (nI x))) (ob b + 6) (upd (a (ob b + 6)) nc y)) (ob b + 7) (upd (a (ob b + 7)) nc z)) (ob b + 4) (upd (a (ob b + 4)) (nb - 1) (nI (nc + 1)))) (tx (u3 f (ob b + 1) 7 (nI (nc + 1))) s t w) (u2 (u2 (u2 (u2 a' 66 (upd (a' 66) (180 + 3 * nc) (nI x))) 66 (upd (upd (a' 66) (180 + 3 * nc) (nI x)) (180 + 3 * nc + 1) y)) 66 (upd (upd (upd (a' 66) (180 + 3 * nc) (nI x)) (180 + 3 * nc + 1) y) (180 + 3 * nc + 2) z)) 62 (upd (a' 62) 7 (nI (nc + 1)))) l nb (nc + 1) ng nm np nn := by
  obtain ⟨h1, h2, h3, h4, h5, h6, h7, h8, h9, h10⟩ := h
  cases b
  all_goals
    refine ⟨?_, ?_, ?_, ?_, ?_, ?_, ?_, ?_, ?_, ?_⟩
    · exact ⟨h1.1, by omega, h1.2.2⟩
    · exact ⟨h2.1, rfl, h2.2.2⟩
    · exact ⟨h3.1, rfl, h3.2.2⟩
    · exact h4
    · obtain ⟨e, e0, en, he⟩ := h5
      have E1 : ∀ i, ¬ i = nb → (fun i => if i = nb then nc + 1 else e i) i = e i := fun i hi => if_neg hi
      have E2 : (fun i => if i = nb then nc + 1 else e i) nb = nc + 1 := if_pos rfl
      generalize (fun i => if i = nb then nc + 1 else e i) = E at E1 E2
      refine ⟨E, (E1 0 (by omega)).trans e0, E2, fun i hi => ?_⟩
      obtain ⟨p1, p2, p3, p4⟩ := he i hi
      rw [E1 i (by omega)]
      by_cases hq : i + 1 = nb
      · rw [show E (i + 1) = nc + 1 by rw [hq]; exact E2]
        refine ⟨by omega, Nat.le_refl _, ?_, p4⟩
        rw [show i = nb - 1 by omega]
        exact upd_same
      · rw [E1 (i + 1) hq]
        exact ⟨p1, by omega, (upd_ne (show i ≠ nb - 1 by omega)).trans p3, p4⟩
    · intro i hi
      by_cases hq : i = nc
      · subst hq
        exact ⟨⟨x, hx, upd_same, (upd_ne (by omega)).trans ((upd_ne (by omega)).trans upd_same)⟩, (upd_same).trans ((upd_ne (by omega)).trans upd_same).symm, (upd_same).trans upd_same.symm⟩
      · obtain ⟨⟨q, q1, q2, q3⟩, q4, q5⟩ := h6 i (by omega)
        exact ⟨⟨q, q1, (upd_ne hq).trans q2, ((upd_ne (by omega)).trans ((upd_ne (by omega)).trans (upd_ne (by omega)))).trans q3⟩, (upd_ne hq).trans (q4.trans ((upd_ne (by omega)).trans ((upd_ne (by omega)).trans (upd_ne (by omega)))).symm), (upd_ne hq).trans (q5.trans ((upd_ne (by omega)).trans ((upd_ne (by omega)).trans (upd_ne (by omega)))).symm)⟩
    · exact h7
    · exact h8
    · exact h9
    · exact h10
