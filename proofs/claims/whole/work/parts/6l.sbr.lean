/-! SENTENCES: a branch, with its conditions -/
theorem tl_no (b : Bool) {N : Nat} {xs : Nat → Int32} {c : Bool} {a : Nat → Nat → Int32} {l : Nat → Int64} {f : Nat → Nat → Int32} {n j i : Nat} {U : Nat → Nat} {x2 x3 : Int32} {K : Option Value → am_H → Prop} (hC : CT a f n U) (hj : j ≤ n) (h2 : f 1 2 = nI (sj U n j)) (h3 : f 1 3 = nI (ej U n j)) (hi : i ≤ 60) (hb : sw (uj U n j) (lj U n j) vt_1 4 = false) (kq : K (some (.int (nI 1))) (wd c a l f)) : am_T (wd_ro N xs) 6 59 56 [.ref (ob b), .ref 1, .int x2, .int x3, .int (nI i)] [] (wd c a l f) K := by
  cases b
  · exact tl_no_16 hC hj h2 h3 hi hb kq
  · exact tl_no_38 hC hj h2 h3 hi hb kq
theorem tl_bad (b : Bool) {N : Nat} {xs : Nat → Int32} {c : Bool} {a : Nat → Nat → Int32} {l : Nat → Int64} {f : Nat → Nat → Int32} {n j i : Nat} {U : Nat → Nat} {x2 x3 : Int32} {K : Option Value → am_H → Prop} (hC : CT a f n U) (hj : j ≤ n) (h2 : f 1 2 = nI (sj U n j)) (h3 : f 1 3 = nI (ej U n j)) (hi : i ≤ 60) {hp : am_H} (hb : sw (uj U n j) (lj U n j) vt_1 4 = true) (h : am_run (wd_ro N xs) 6 60 [.ref (ob b), .ref 1] (wd c a l f) (some (.int (nI 0))) hp) (kq : K (some (.int (nI 0))) hp) : am_T (wd_ro N xs) 6 59 56 [.ref (ob b), .ref 1, .int x2, .int x3, .int (nI i)] [] (wd c a l f) K := by
  cases b
  · exact tl_bad_16 hC hj h2 h3 hi hb h kq
  · exact tl_bad_38 hC hj h2 h3 hi hb h kq
theorem tl_go (b : Bool) {N : Nat} {xs : Nat → Int32} {c : Bool} {a : Nat → Nat → Int32} {l : Nat → Int64} {f : Nat → Nat → Int32} {n j i : Nat} {U : Nat → Nat} {x2 x3 : Int32} {K : Option Value → am_H → Prop} (hC : CT a f n U) (hj : j ≤ n) (h2 : f 1 2 = nI (sj U n j)) (h3 : f 1 3 = nI (ej U n j)) (hi : i ≤ 60) {hp : am_H} (hb : sw (uj U n j) (lj U n j) vt_1 4 = true) (h : am_run (wd_ro N xs) 6 60 [.ref (ob b), .ref 1] (wd c a l f) (some (.int (nI 1))) hp) (kq : am_T (wd_ro N xs) 6 59 56 [.ref (ob b), .ref 1, .int x2, .int x3, .int (nI (i + 1))] [] hp K) : am_T (wd_ro N xs) 6 59 56 [.ref (ob b), .ref 1, .int x2, .int x3, .int (nI i)] [] (wd c a l f) K := by
  cases b
  · exact tl_go_16 hC hj h2 h3 hi hb h kq
  · exact tl_go_38 hC hj h2 h3 hi hb h kq
theorem sw_len {u v : Nat → Nat} {T n : Nat} (h : sw u T v n = true) : n = T := by
  unfold sw at h
  rw [Bool.and_eq_true] at h
  exact of_decide_eq_true h.1
def Lo (N : Nat) (xs : Nat → Int32) (b : Bool) (a f : Nat → Nat → Int32) (n : Nat) (U : Nat → Nat) (x2 x3 : Int32) (i j w told nb nc ng nm np nn : Nat) : Prop :=
  (∃ (a1 f1 : Nat → Nat → Int32) (W : Nat), FrC b a f a1 f1 ∧ f1 1 4 = nI W ∧ W + 4 * nc ≤ w + 244 ∧ (∀ (c : Bool) (l : Nat → Int64) (K : Option Value → am_H → Prop), K (some (.int (nI 0))) (wd c a1 l f1) → am_T (wd_ro N xs) 6 59 56 [.ref (ob b), .ref 1, .int x2, .int x3, .int (nI i)] [] (wd c a l f) K) ∧ ∀ (a' : Nat → Nat → Int32) (l : Nat → Int64) (f' : Nat → Nat → Int32), Jm b a f a' l f' n U j told 3 nb nc ng nm np nn → RFail (wd_ro N xs) a' l f' w W) ∨
  (∃ (a1 f1 : Nat → Nat → Int32) (j1 w1 nc1 : Nat), FrC b a f a1 f1 ∧ (∀ (c : Bool) (l : Nat → Int64) (K : Option Value → am_H → Prop), K (some (.int (nI 1))) (wd c a1 l f1) → am_T (wd_ro N xs) 6 59 56 [.ref (ob b), .ref 1, .int x2, .int x3, .int (nI i)] [] (wd c a l f) K) ∧ CP a1 f1 n U j1 w1 ∧ j ≤ j1 ∧ w1 + 4 * nc ≤ w + 240 ∧ sw (uj U n j1) (lj U n j1) vt_1 4 = false ∧ ∀ (a' : Nat → Nat → Int32) (l : Nat → Int64) (f' : Nat → Nat → Int32), Jm b a f a' l f' n U j told 3 nb nc ng nm np nn → ∃ (a2 : Nat → Nat → Int32) (l2 : Nat → Int64) (f2 : Nat → Nat → Int32), RStep (wd_ro N xs) a' l f' w a2 l2 f2 w1 ∧ FrM a' l f' a2 l2 f2 ∧ Jm b a1 f1 a2 l2 f2 n U j1 told 3 nb nc1 ng nm np nn)
set_option maxRecDepth 100000 in
set_option maxHeartbeats 4000000 in
theorem cl_loop {N : Nat} {xs : Nat → Int32} (b : Bool) {n told nb ng nm np nn : Nat} {U : Nat → Nat} {x2 x3 : Int32} (hb1 : 1 ≤ nb) : ∀ (m i j w nc : Nat) (a f a0 : Nat → Nat → Int32) (l0 : Nat → Int64) (f0 : Nat → Nat → Int32), nc + m = 60 → i ≤ nc → CP a f n U j w → Jm b a f a0 l0 f0 n U j told 3 nb nc ng nm np nn → Lo N xs b a f n U x2 x3 i j w told nb nc ng nm np nn := by
  intro m
  induction m with
  | zero =>
    intro i j w nc a f a0 l0 f0 hm hi hP h0
    obtain ⟨hC, hj, p2, p3, p4⟩ := hP
    obtain ⟨-, -, -, -, rq⟩ := h0
    have r1 := rq.1
    have r2 := rq.2.1
    cases hw : sw (uj U n j) (lj U n j) vt_1 4 with
    | false => exact Or.inr ⟨a, f, j, w, nc, FrC_refl, fun c l K kq => tl_no b hC hj p2 p3 (by omega) hw kq, ⟨hC, hj, p2, p3, p4⟩, Nat.le_refl _, by omega, hw, fun a' l f' hJ => ⟨a', l, f', fun c K kq => kq, FrM_refl, hJ⟩⟩
    | true =>
      have hs := lj_in hj (show ¬ lj U n j = 0 by have := sw_len hw; omega)
      have g1 : ej U n j ≤ n := (j_le (U := U) hj).2.2
      refine Or.inl ⟨a, f, w, FrC_refl, p4, by omega, fun c l K kq => tl_bad b hC hj p2 p3 (by omega) hw (tc_full b hC g1 p3 p4 r2.2.1 (by omega) (by omega)) kq, fun a' l f' hJ => ?_⟩
      obtain ⟨hM, m3, m27, m26, mq⟩ := hJ
      exact w_3f hj ⟨hM, m3, m27, m26⟩ (by omega) mq.2.2.1.2.1 hs hw
  | succ m ih =>
    intro i j w nc a f a0 l0 f0 hm hi hP h0
    have hP0 := hP
    have h00 := h0
    obtain ⟨hC, hj, p2, p3, p4⟩ := hP
    obtain ⟨-, -, -, -, rq⟩ := h0
    have r1 := rq.1
    have r2 := rq.2.1
    have hk : nc < 60 := by omega
    cases hw : sw (uj U n j) (lj U n j) vt_1 4 with
    | false => exact Or.inr ⟨a, f, j, w, nc, FrC_refl, fun c l K kq => tl_no b hC hj p2 p3 (by omega) hw kq, hP0, Nat.le_refl _, by omega, hw, fun a' l f' hJ => ⟨a', l, f', fun c K kq => kq, FrM_refl, hJ⟩⟩
    | true =>
      have hs := lj_in hj (show ¬ lj U n j = 0 by have := sw_len hw; omega)
      have gj := j_le (U := U) hj
      have g1 : (ej U n j) ≤ n := gj.2.2
      have q1 := j_le (U := U) g1
      have g2 : (ej U n (ej U n j)) ≤ n := q1.2.2
      have q2 := j_le (U := U) g2
      have g3 : (ej U n (ej U n (ej U n j))) ≤ n := q2.2.2
      have q3 := j_le (U := U) g3
      have g4 : (ej U n (ej U n (ej U n (ej U n j)))) ≤ n := q3.2.2
      rcases nv_cs (u := uj U n (ej U n j)) (T := lj U n (ej U n j)) (b := 10) (by decide) with ⟨v1, z1⟩ | ⟨x, hx, v1, z1⟩
      · refine Or.inl ⟨a, (tx f (sj U n (ej U n j)) (ej U n (ej U n j)) (nI (w + 1))), w + 1, FrC_t, rfl, by omega, fun c l K kq => tl_bad b hC hj p2 p3 (by omega) hw (tc_bad1 b hC g1 p3 p4 r2.2.1 hk v1) kq, fun a' l f' hJ => ?_⟩
        obtain ⟨hM, m3, m27, m26, mq⟩ := hJ
        have mc := mq.2.2.1
        obtain ⟨f1, s1, t1, u1⟩ := w_3 (ro := wd_ro N xs) (l := l) (w := w) hj ⟨hM, m3, m27, m26⟩ hk mc.2.1 hs hw
        exact RFail_step s1 t1 (w_4f g1 u1 r1.1 hk mc.1 mc.2.1 rfl z1)
      cases ho : oq (uj U n (ej U n (ej U n j))) (lj U n (ej U n (ej U n j))) with
      | false =>
        refine Or.inl ⟨a, (tx f (sj U n (ej U n (ej U n j))) (ej U n (ej U n (ej U n j))) (nI (w + 1 + 1))), w + 1 + 1, FrC_t, rfl, by omega, fun c l K kq => tl_bad b hC hj p2 p3 (by omega) hw (tc_op b hC g1 p3 p4 r2.2.1 hk hx v1 ho) kq, fun a' l f' hJ => ?_⟩
        obtain ⟨hM, m3, m27, m26, mq⟩ := hJ
        have mc := mq.2.2.1
        obtain ⟨f1, s1, t1, u1⟩ := w_3 (ro := wd_ro N xs) (l := l) (w := w) hj ⟨hM, m3, m27, m26⟩ hk mc.2.1 hs hw
        obtain ⟨f2, s2, t2, u2'⟩ := w_4 (ro := wd_ro N xs) (l := l) (w := w + 1) g1 u1 r1.1 hk mc.1 mc.2.1 hx z1
        exact RFail_step (RStep_trans s1 s2) (FrM_trans t1 t2) (w_5f g2 u2' r1.1 hk mc.1 mc.2.1 ho)
      | true =>
        rcases nv_cs (u := uj U n (ej U n (ej U n (ej U n j)))) (T := lj U n (ej U n (ej U n (ej U n j)))) (b := 1000000) (by decide) with ⟨v3, z3⟩ | ⟨z, hz, v3, z3⟩
        · refine Or.inl ⟨a, (tx f (sj U n (ej U n (ej U n (ej U n j)))) (ej U n (ej U n (ej U n (ej U n j)))) (nI (w + 1 + 1 + 1))), w + 1 + 1 + 1, FrC_t, rfl, by omega, fun c l K kq => tl_bad b hC hj p2 p3 (by omega) hw (tc_bad3 b hC g1 p3 p4 r2.2.1 hk hx v1 ho v3) kq, fun a' l f' hJ => ?_⟩
          obtain ⟨hM, m3, m27, m26, mq⟩ := hJ
          have mc := mq.2.2.1
          obtain ⟨f1, s1, t1, u1⟩ := w_3 (ro := wd_ro N xs) (l := l) (w := w) hj ⟨hM, m3, m27, m26⟩ hk mc.2.1 hs hw
          obtain ⟨f2, s2, t2, u2'⟩ := w_4 (ro := wd_ro N xs) (l := l) (w := w + 1) g1 u1 r1.1 hk mc.1 mc.2.1 hx z1
          obtain ⟨f3, s3, t3, u3'⟩ := w_5 (ro := wd_ro N xs) (l := l) (w := w + 1 + 1) g2 u2' r1.1 hk mc.1 mc.2.1 ho
          exact RFail_step (RStep_trans s1 (RStep_trans s2 s3)) (FrM_trans t1 (FrM_trans t2 t3)) (w_6f g3 u3' r1.1 hk mc.1 mc.2.1 v3)
        have fr : FrC b a f (u2 (u2 (u2 (u2 a (ob b + 5) (upd (a (ob b + 5)) nc (nI x))) (ob b + 6) (upd (a (ob b + 6)) nc (nI (uj U n (ej U n (ej U n j)) 0)))) (ob b + 7) (upd (a (ob b + 7)) nc (nI z))) (ob b + 4) (upd (a (ob b + 4)) (nb - 1) (nI (nc + 1)))) (tx (u3 f (ob b + 1) 7 (nI (nc + 1))) (sj U n (ej U n (ej U n (ej U n (ej U n j))))) (ej U n (ej U n (ej U n (ej U n (ej U n j))))) (nI (w + 1 + 1 + 1 + 1))) := FrC_trans (FrC_a (by omega) (by omega)) (FrC_trans (FrC_a (by omega) (by omega)) (FrC_trans (FrC_a (by omega) (by omega)) (FrC_trans (FrC_a (by omega) (by omega)) (FrC_trans (FrC_f (by omega) (by omega)) FrC_t))))
        have go : ∀ (a' : Nat → Nat → Int32) (l : Nat → Int64) (f' : Nat → Nat → Int32), Jm b a f a' l f' n U j told 3 nb nc ng nm np nn → ∃ (a2 : Nat → Nat → Int32) (l2 : Nat → Int64) (f2 : Nat → Nat → Int32), RStep (wd_ro N xs) a' l f' w a2 l2 f2 (w + 1 + 1 + 1 + 1) ∧ FrM a' l f' a2 l2 f2 ∧ Jm b (u2 (u2 (u2 (u2 a (ob b + 5) (upd (a (ob b + 5)) nc (nI x))) (ob b + 6) (upd (a (ob b + 6)) nc (nI (uj U n (ej U n (ej U n j)) 0)))) (ob b + 7) (upd (a (ob b + 7)) nc (nI z))) (ob b + 4) (upd (a (ob b + 4)) (nb - 1) (nI (nc + 1)))) (tx (u3 f (ob b + 1) 7 (nI (nc + 1))) (sj U n (ej U n (ej U n (ej U n (ej U n j))))) (ej U n (ej U n (ej U n (ej U n (ej U n j))))) (nI (w + 1 + 1 + 1 + 1))) a2 l2 f2 n U (ej U n (ej U n (ej U n (ej U n j)))) told 3 nb (nc + 1) ng nm np nn := by
          intro a' l f' hJ
          obtain ⟨hM, m3, m27, m26, mq⟩ := hJ
          have mc := mq.2.2.1
          obtain ⟨f1, s1, t1, u1⟩ := w_3 (ro := wd_ro N xs) (l := l) (w := w) hj ⟨hM, m3, m27, m26⟩ hk mc.2.1 hs hw
          obtain ⟨f2, s2, t2, u2'⟩ := w_4 (ro := wd_ro N xs) (l := l) (w := w + 1) g1 u1 r1.1 hk mc.1 mc.2.1 hx z1
          obtain ⟨f3, s3, t3, u3'⟩ := w_5 (ro := wd_ro N xs) (l := l) (w := w + 1 + 1) g2 u2' r1.1 hk mc.1 mc.2.1 ho
          obtain ⟨f4, s4, t4, u4⟩ := w_6 (ro := wd_ro N xs) (l := l) (w := w + 1 + 1 + 1) g3 u3' r1.1 hk mc.1 mc.2.1 hz z3
          exact ⟨_, _, _, RStep_trans s1 (RStep_trans s2 (RStep_trans s3 s4)), FrM_trans t1 (FrM_trans t2 (FrM_trans t3 t4)), u4.1, u4.2.1, u4.2.2.1, u4.2.2.2, rQ_cn b mq hk hb1 hx⟩
        obtain ⟨b1, b2, b3, -, -, hJ1⟩ := go a0 l0 f0 h00
        have hP1 : CP (u2 (u2 (u2 (u2 a (ob b + 5) (upd (a (ob b + 5)) nc (nI x))) (ob b + 6) (upd (a (ob b + 6)) nc (nI (uj U n (ej U n (ej U n j)) 0)))) (ob b + 7) (upd (a (ob b + 7)) nc (nI z))) (ob b + 4) (upd (a (ob b + 4)) (nb - 1) (nI (nc + 1)))) (tx (u3 f (ob b + 1) 7 (nI (nc + 1))) (sj U n (ej U n (ej U n (ej U n (ej U n j))))) (ej U n (ej U n (ej U n (ej U n (ej U n j))))) (nI (w + 1 + 1 + 1 + 1))) n U (ej U n (ej U n (ej U n (ej U n j)))) (w + 1 + 1 + 1 + 1) := ⟨CT_w fr hC, g4, rfl, rfl, rfl⟩
        have cr : ∀ (c : Bool) (l : Nat → Int64), am_run (wd_ro N xs) 6 60 [.ref (ob b), .ref 1] (wd c a l f) (some (.int (nI 1))) (wd c (u2 (u2 (u2 (u2 a (ob b + 5) (upd (a (ob b + 5)) nc (nI x))) (ob b + 6) (upd (a (ob b + 6)) nc (nI (uj U n (ej U n (ej U n j)) 0)))) (ob b + 7) (upd (a (ob b + 7)) nc (nI z))) (ob b + 4) (upd (a (ob b + 4)) (nb - 1) (nI (nc + 1)))) l (tx (u3 f (ob b + 1) 7 (nI (nc + 1))) (sj U n (ej U n (ej U n (ej U n (ej U n j))))) (ej U n (ej U n (ej U n (ej U n (ej U n j))))) (nI (w + 1 + 1 + 1 + 1)))) := fun c l => tc_ok b hC g1 p3 p4 r2.2.1 hk hx v1 ho hz v3 hb1 r1.1 r2.1
        rcases ih (i + 1) (ej U n (ej U n (ej U n (ej U n j)))) (w + 1 + 1 + 1 + 1) (nc + 1) _ _ _ _ _ (by omega) (by omega) hP1 hJ1 with ⟨a1, f1, W, c1, c2, cw, c3, c4⟩ | ⟨a1, f1, j1, w1, nc1, c1, c2, c3, c4, cw, c5, c6⟩
        · refine Or.inl ⟨a1, f1, W, FrC_trans fr c1, c2, by omega, fun c l K kq => tl_go b hC hj p2 p3 (by omega) hw (cr c l) (c3 c l K kq), fun a' l f' hJ => ?_⟩
          obtain ⟨d1, d2, d3, e1, e2, e3⟩ := go a' l f' hJ
          exact RFail_step e1 e2 (c4 _ _ _ e3)
        · refine Or.inr ⟨a1, f1, j1, w1, nc1, FrC_trans fr c1, fun c l K kq => tl_go b hC hj p2 p3 (by omega) hw (cr c l) (c2 c l K kq), c3, by omega, by omega, c5, fun a' l f' hJ => ?_⟩
          obtain ⟨d1, d2, d3, e1, e2, e3⟩ := go a' l f' hJ
          obtain ⟨d4, d5, d6, e4, e5, e6⟩ := c6 _ _ _ e3
          exact ⟨d4, d5, d6, RStep_trans e1 e4, FrM_trans e2 e5, e6⟩
theorem th_go (b : Bool) {N : Nat} {xs : Nat → Int32} {c : Bool} {a : Nat → Nat → Int32} {l : Nat → Int64} {f : Nat → Nat → Int32} {n j w : Nat} {U : Nat → Nat} (hC : CT a f n U) (hj : j ≤ n) (h3 : f 1 3 = nI j) (h4 : f 1 4 = nI w) {nb x : Nat} (e : f (ob b + 1) 6 = nI nb) (hk : nb < 30) (hx : x < 1000000) (v1 : nv (uj U n j) (lj U n j) 1000000 = nI x) {y nc : Nat} (hy : y < 10) (v2 : nv (uj U n (ej U n j)) (lj U n (ej U n j)) 10 = nI y) (e7 : f (ob b + 1) 7 = nI nc) {r : Option Value} {hp : am_H} (kq : am_T (wd_ro N xs) 6 59 56 [.ref (ob b), .ref 1, .int (nI x), .int (nI y), .int (nI 0)] [] (wd c (u2 (u2 (u2 a (ob b + 2) (upd (a (ob b + 2)) nb (nI x))) (ob b + 3) (upd (a (ob b + 3)) nb (nI y))) (ob b + 4) (upd (a (ob b + 4)) nb (nI nc))) l (tx (u3 f (ob b + 1) 6 (nI (nb + 1))) (sj U n (ej U n (ej U n j))) (ej U n (ej U n (ej U n j))) (nI (w + 1 + 1 + 1)))) (fun r1 hp1 => r1 = r ∧ hp1 = hp)) : am_run (wd_ro N xs) 7 59 [.ref (ob b), .ref 1] (wd c a l f) r hp := by
  cases b
  · exact th_go_16 hC hj h3 h4 e hk hx v1 hy v2 e7 kq
  · exact th_go_38 hC hj h3 h4 e hk hx v1 hy v2 e7 kq
set_option maxRecDepth 100000 in
set_option maxHeartbeats 4000000 in
theorem s_br {N : Nat} {xs : Nat → Int32} (b : Bool) {a f a0 f0 : Nat → Nat → Int32} {l0 : Nat → Int64} {n j w told wt nb nc ng nm np nn : Nat} {U : Nat → Nat} (hP : CP a f n U j w) (hs : sj U n j < n) (hK : Kb U n j wt) (w0 : sw (uj U n j) (lj U n j) vt_0 4 = true) (h0 : Jm b a f a0 l0 f0 n U j told wt nb nc ng nm np nn) : Sen N xs b a f n U j w told wt nb nc ng nm np nn := by
  have h00 := h0
  obtain ⟨hC, hj, p2, p3, p4⟩ := hP
  have gj := j_le (U := U) hj
  have gl := j_lt hj hs
  have g1 : (ej U n j) ≤ n := (j_le (U := U) hj).2.2
  have g2 : (ej U n (ej U n j)) ≤ n := (j_le (U := U) g1).2.2
  have g3 : (ej U n (ej U n (ej U n j))) ≤ n := (j_le (U := U) g2).2.2
  have q2 := j_le (U := U) g1
  have q3 := j_le (U := U) g2
  obtain ⟨-, -, -, -, rq⟩ := h0
  have r1 := rq.1
  have r2 := rq.2.1
  have e := r2.1
  by_cases hk : nb < 30
  case neg =>
    refine Or.inl ⟨a, f, w, FrC_refl, p4, by omega, fun c l => se_0 b hC hj p2 p3 w0 (r := false) (am_run_up (th_full b hC g1 p3 p4 e (by omega) (by omega)) (by decide)), fun a' l f' hJ => ?_⟩
    obtain ⟨hM, m3, m27, m26, mq⟩ := hJ
    have mc := mq.2.2.1
    exact kf_0 hM hj m3 hs m27 hK w0 mc.1 (by omega) (by omega)
  case pos =>
    rcases nv_cs (u := uj U n (ej U n j)) (T := lj U n (ej U n j)) (b := 1000000) (by decide) with ⟨v1, z1⟩ | ⟨x, hx, v1, z1⟩
    · refine Or.inl ⟨a, (tx f (sj U n (ej U n j)) (ej U n (ej U n j)) (nI (w + 1))), w + 1, FrC_t, rfl, by omega, fun c l => se_0 b hC hj p2 p3 w0 (r := false) (th_bad1 b hC g1 p3 p4 e hk v1), fun a' l f' hJ => ?_⟩
      obtain ⟨hM, m3, m27, m26, mq⟩ := hJ
      have mc := mq.2.2.1
      obtain ⟨f1, s1, t1, u1⟩ := ks_0 (ro := wd_ro N xs) (l := l) (w := w) hM hj m3 hs m27 hK w0 mc.1 m26 hk
      exact RFail_step s1 t1 (w_1f g1 u1 hk r1.2.1 mc.1 mc.2.1 v1)
    rcases nv_cs (u := uj U n (ej U n (ej U n j))) (T := lj U n (ej U n (ej U n j))) (b := 10) (by decide) with ⟨v2, z2⟩ | ⟨y, hy, v2, z2⟩
    · refine Or.inl ⟨a, (tx f (sj U n (ej U n (ej U n j))) (ej U n (ej U n (ej U n j))) (nI (w + 1 + 1))), w + 1 + 1, FrC_t, rfl, by omega, fun c l => se_0 b hC hj p2 p3 w0 (r := false) (th_bad2 b hC g1 p3 p4 e hk hx v1 v2), fun a' l f' hJ => ?_⟩
      obtain ⟨hM, m3, m27, m26, mq⟩ := hJ
      have mc := mq.2.2.1
      obtain ⟨f1, s1, t1, u1⟩ := ks_0 (ro := wd_ro N xs) (l := l) (w := w) hM hj m3 hs m27 hK w0 mc.1 m26 hk
      obtain ⟨f2, s2, t2, u2'⟩ := w_1 (ro := wd_ro N xs) (l := l) (w := w + 1) g1 u1 hk r1.2.1 mc.1 mc.2.1 hx z1
      exact RFail_step (RStep_trans s1 s2) (FrM_trans t1 t2) (w_2f g2 u2' hk r1.2.1 mc.1 mc.2.1 rfl z2)
    have fr : FrC b a f (u2 (u2 (u2 a (ob b + 2) (upd (a (ob b + 2)) nb (nI x))) (ob b + 3) (upd (a (ob b + 3)) nb (nI y))) (ob b + 4) (upd (a (ob b + 4)) nb (nI nc))) (tx (u3 f (ob b + 1) 6 (nI (nb + 1))) (sj U n (ej U n (ej U n (ej U n j)))) (ej U n (ej U n (ej U n (ej U n j)))) (nI (w + 1 + 1 + 1))) := FrC_trans (FrC_a (by omega) (by omega)) (FrC_trans (FrC_a (by omega) (by omega)) (FrC_trans (FrC_a (by omega) (by omega)) (FrC_trans (FrC_f (by omega) (by omega)) FrC_t)))
    have go : ∀ (a' : Nat → Nat → Int32) (l : Nat → Int64) (f' : Nat → Nat → Int32), Jm b a f a' l f' n U j told wt nb nc ng nm np nn → ∃ (a2 : Nat → Nat → Int32) (l2 : Nat → Int64) (f2 : Nat → Nat → Int32), RStep (wd_ro N xs) a' l f' w a2 l2 f2 (w + 1 + 1 + 1) ∧ FrM a' l f' a2 l2 f2 ∧ Jm b (u2 (u2 (u2 a (ob b + 2) (upd (a (ob b + 2)) nb (nI x))) (ob b + 3) (upd (a (ob b + 3)) nb (nI y))) (ob b + 4) (upd (a (ob b + 4)) nb (nI nc))) (tx (u3 f (ob b + 1) 6 (nI (nb + 1))) (sj U n (ej U n (ej U n (ej U n j)))) (ej U n (ej U n (ej U n (ej U n j)))) (nI (w + 1 + 1 + 1))) a2 l2 f2 n U (ej U n (ej U n (ej U n j))) (told + 1) 3 (nb + 1) nc ng nm np nn := by
      intro a' l f' hJ
      obtain ⟨hM, m3, m27, m26, mq⟩ := hJ
      have mc := mq.2.2.1
      obtain ⟨f1, s1, t1, u1⟩ := ks_0 (ro := wd_ro N xs) (l := l) (w := w) hM hj m3 hs m27 hK w0 mc.1 m26 hk
      obtain ⟨f2, s2, t2, u2'⟩ := w_1 (ro := wd_ro N xs) (l := l) (w := w + 1) g1 u1 hk r1.2.1 mc.1 mc.2.1 hx z1
      obtain ⟨f3, s3, t3, u3'⟩ := w_2 (ro := wd_ro N xs) (l := l) (w := w + 1 + 1) g2 u2' hk r1.2.1 mc.1 mc.2.1 hy z2
      exact ⟨_, _, _, RStep_trans s1 (RStep_trans s2 s3), FrM_trans t1 (FrM_trans t2 t3), u3'.1, u3'.2.1, u3'.2.2.1, u3'.2.2.2, rQ_br b mq hk hy⟩
    obtain ⟨b1, b2, b3, -, -, hJ1⟩ := go _ _ _ h00
    have hP1 : CP (u2 (u2 (u2 a (ob b + 2) (upd (a (ob b + 2)) nb (nI x))) (ob b + 3) (upd (a (ob b + 3)) nb (nI y))) (ob b + 4) (upd (a (ob b + 4)) nb (nI nc))) (tx (u3 f (ob b + 1) 6 (nI (nb + 1))) (sj U n (ej U n (ej U n (ej U n j)))) (ej U n (ej U n (ej U n (ej U n j)))) (nI (w + 1 + 1 + 1))) n U (ej U n (ej U n (ej U n j))) (w + 1 + 1 + 1) := ⟨CT_w fr hC, g3, rfl, rfl, rfl⟩
    rcases cl_loop (N := N) (xs := xs) (x2 := nI x) (x3 := nI y) b (by omega) (60 - nc) 0 (ej U n (ej U n (ej U n j))) (w + 1 + 1 + 1) nc _ _ _ _ _ (by omega) (by omega) hP1 hJ1 with ⟨a1, f1, W, c1, c2, cw, c3, c4⟩ | ⟨a1, f1, j1, w1, nc1, c1, c2, c3, c4, cw, c5, c6⟩
    · refine Or.inl ⟨a1, f1, W, FrC_trans fr c1, c2, by omega, fun c l => se_0 b hC hj p2 p3 w0 (r := false) (th_go b hC g1 p3 p4 e hk hx v1 hy v2 r2.2.1 (c3 c l _ ⟨rfl, rfl⟩)), fun a' l f' hJ => ?_⟩
      obtain ⟨d1, d2, d3, e1, e2, e3⟩ := go a' l f' hJ
      exact RFail_step e1 e2 (c4 _ _ _ e3)
    · refine Or.inr ⟨a1, f1, j1, w1, 3, nb + 1, nc1, ng, nm, np, nn, FrC_trans fr c1, fun c l => se_0 b hC hj p2 p3 w0 (r := true) (th_go b hC g1 p3 p4 e hk hx v1 hy v2 r2.2.1 (c2 c l _ ⟨rfl, rfl⟩)), c3, by omega, by omega, Or.inr ⟨rfl, c5⟩, fun a' l f' hJ => ?_⟩
      obtain ⟨d1, d2, d3, e1, e2, e3⟩ := go a' l f' hJ
      obtain ⟨d4, d5, d6, e4, e5, e6⟩ := c6 _ _ _ e3
      exact ⟨d4, d5, d6, RStep_trans e1 e4, FrM_trans e2 e5, e6⟩
theorem s_all {N : Nat} {xs : Nat → Int32} (b : Bool) {a f a0 f0 : Nat → Nat → Int32} {l0 : Nat → Int64} {n j w told wt nb nc ng nm np nn : Nat} {U : Nat → Nat} (hP : CP a f n U j w) (hs : sj U n j < n) (hK : Kb U n j wt) (h0 : Jm b a f a0 l0 f0 n U j told wt nb nc ng nm np nn) : Sen N xs b a f n U j w told wt nb nc ng nm np nn := by
  cases w0 : sw (uj U n j) (lj U n j) vt_0 4 with
  | true => exact s_br b hP hs hK w0 h0
  | false =>
    cases w5 : sw (uj U n j) (lj U n j) vt_5 7 with
    | true => exact s_gen b hP hs hK w0 w5 h0
    | false =>
      cases w6 : sw (uj U n j) (lj U n j) vt_6 6 with
      | true => exact s_mir b hP hs hK w0 w5 w6 h0
      | false =>
        cases w7 : sw (uj U n j) (lj U n j) vt_7 3 with
        | true => exact s_map b hP hs hK w0 w5 w6 w7 h0
        | false =>
          cases w8 : sw (uj U n j) (lj U n j) vt_8 4 with
          | true => exact s_nam b hP hs hK w0 w5 w6 w7 w8 h0
          | false =>
            obtain ⟨hC, hj, p2, p3, p4⟩ := hP
            refine Or.inl ⟨a, f, w, FrC_refl, p4, by omega, fun c l => se_n b hC hj p2 p3 w0 w5 w6 w7 w8, fun a' l f' hJ => ?_⟩
            obtain ⟨hM, m3, m27, m26, mq⟩ := hJ
            exact kf_n hM hj m3 hs m27 hK w0 w5 w6 w7 w8
