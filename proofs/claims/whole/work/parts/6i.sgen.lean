/-! SENTENCES: general, mirror, map, name -/
theorem CT_w {b : Bool} {a f a1 f1 : Nat → Nat → Int32} {n : Nat} {U : Nat → Nat} (h : FrC b a f a1 f1) (hC : CT a f n U) : CT a1 f1 n U := by
  obtain ⟨c1, c2, c3⟩ := hC
  refine ⟨c1, h.2.2.trans c2, fun i hi => ?_⟩
  rw [h.1 2 (Or.inl (by decide))]
  exact c3 i hi
theorem an_two {P : Nat → Bool} : ∀ (m k : Nat), an P (2 * k) (2 * m) = an (fun q => P (2 * q) || P (2 * q + 1)) k m := by
  intro m
  induction m with
  | zero => intro k; rfl
  | succ m ih =>
    intro k
    show an P (2 * k) (2 * m + 1 + 1) = _
    have e := ih (k + 1)
    rw [show 2 * (k + 1) = 2 * k + 1 + 1 by omega] at e
    cases h1 : P (2 * k) with
    | true => rw [an_t h1, an_t (p := fun q => P (2 * q) || P (2 * q + 1)) (show (P (2 * k) || P (2 * k + 1)) = true by rw [h1]; rfl)]
    | false =>
      rw [an_f h1]
      cases h2 : P (2 * k + 1) with
      | true => rw [an_t h2, an_t (p := fun q => P (2 * q) || P (2 * q + 1)) (show (P (2 * k) || P (2 * k + 1)) = true by rw [h2, Bool.or_true])]
      | false =>
        rw [an_f h2, an_f (p := fun q => P (2 * q) || P (2 * q + 1)) (show (P (2 * k) || P (2 * k + 1)) = false by rw [h1, h2]; rfl)]
        exact e
theorem im_eq {o : Nat} {a f a' : Nat → Nat → Int32} {l : Nat → Int64} {nb nc ng nm np nn : Nat} {x : Int32} (h : rQ o a f a' l nb nc ng nm np nn) : an (fun q => decide (a' 68 (32 + q) = x)) 0 (2 * nm) = an (fun q => decide (a (o + 10) q = x) || decide (a (o + 11) q = x)) 0 nm := by
  obtain ⟨-, -, -, -, -, -, -, h8, -, -⟩ := h
  refine (an_two (P := fun q => decide (a' 68 (32 + q) = x)) nm 0).trans (an_eq nm 0 (fun i _ hi => ?_))
  obtain ⟨p1, p2, -⟩ := h8 i (by omega)
  show (decide (a' 68 (32 + 2 * i) = x) || decide (a' 68 (32 + (2 * i + 1)) = x)) = _
  rw [p1, p2, show 32 + (2 * i + 1) = 33 + 2 * i by omega]
set_option maxRecDepth 100000 in
set_option maxHeartbeats 4000000 in
theorem s_gen {N : Nat} {xs : Nat → Int32} (b : Bool) {a f a0 f0 : Nat → Nat → Int32} {l0 : Nat → Int64} {n j w told wt nb nc ng nm np nn : Nat} {U : Nat → Nat} (hP : CP a f n U j w) (hs : sj U n j < n) (hK : Kb U n j wt) (w0 : sw (uj U n j) (lj U n j) vt_0 4 = false) (w5 : sw (uj U n j) (lj U n j) vt_5 7 = true) (h0 : Jm b a f a0 l0 f0 n U j told wt nb nc ng nm np nn) : Sen N xs b a f n U j w told wt nb nc ng nm np nn := by
  obtain ⟨hC, hj, p2, p3, p4⟩ := hP
  have gj := j_le (U := U) hj
  have gl := j_lt hj hs
  have g1 : (ej U n j) ≤ n := (j_le (U := U) hj).2.2
  have g2 : (ej U n (ej U n j)) ≤ n := (j_le (U := U) g1).2.2
  have q2 := j_le (U := U) g1
  obtain ⟨-, -, -, -, rq⟩ := h0
  have r1 := rq.1
  have r2 := rq.2.1
  have e := r2.2.2.1
  by_cases hk : ng < 16
  case neg =>
    refine Or.inl ⟨a, f, w, FrC_refl, p4, by omega, fun c l => se_5 b hC hj p2 p3 w0 w5 (r := false) (am_run_up (tg_full b hC g1 p3 p4 e (by omega) (by omega)) (by decide)), fun a' l f' hJ => ?_⟩
    obtain ⟨hM, m3, m27, m26, mq⟩ := hJ
    have mc := mq.2.2.1
    exact kf_5 hM hj m3 hs m27 hK w0 w5 mc.2.2.1 (by omega) (by omega)
  case pos =>
    rcases nv_cs (u := uj U n (ej U n j)) (T := lj U n (ej U n j)) (b := 1000000) (by decide) with ⟨v1, z1⟩ | ⟨x, hx, v1, z1⟩
    · refine Or.inl ⟨a, (tx f (sj U n (ej U n j)) (ej U n (ej U n j)) (nI (w + 1))), w + 1, FrC_t, rfl, by omega, fun c l => se_5 b hC hj p2 p3 w0 w5 (r := false) (am_run_up (tg_bad b hC g1 p3 p4 e hk v1) (by decide)), fun a' l f' hJ => ?_⟩
      obtain ⟨hM, m3, m27, m26, mq⟩ := hJ
      have mc := mq.2.2.1
      obtain ⟨f1, s1, t1, u1⟩ := ks_5 (ro := wd_ro N xs) (l := l) (w := w) hM hj m3 hs m27 hK w0 w5 mc.2.2.1 m26 hk
      exact RFail_step s1 t1 (w_7f g1 u1 hk mc.2.2.1 v1)
    · have fr : FrC b a f (u2 a (ob b + 9) (upd (a (ob b + 9)) ng (nI x))) (tx (u3 f (ob b + 8) 7 (nI (ng + 1))) (sj U n (ej U n (ej U n j))) (ej U n (ej U n (ej U n j))) (nI (w + 1 + 1))) := FrC_trans (FrC_a (by omega) (by omega)) (FrC_trans (FrC_f (by omega) (by omega)) FrC_t)
      refine Or.inr ⟨_, _, (ej U n (ej U n j)), w + 1 + 1, 0, nb, nc, ng + 1, nm, np, nn, fr, fun c l => se_5 b hC hj p2 p3 w0 w5 (r := true) (am_run_up (tg_ok b hC g1 p3 p4 e hk hx v1) (by decide)), ⟨CT_w fr hC, g2, rfl, rfl, rfl⟩, by omega, by omega, Or.inl rfl, fun a' l f' hJ => ?_⟩
      obtain ⟨hM, m3, m27, m26, mq⟩ := hJ
      have mc := mq.2.2.1
      obtain ⟨f1, s1, t1, u1⟩ := ks_5 (ro := wd_ro N xs) (l := l) (w := w) hM hj m3 hs m27 hK w0 w5 mc.2.2.1 m26 hk
      obtain ⟨f2, s2, t2, u2'⟩ := w_7 (ro := wd_ro N xs) (l := l) (w := w + 1) g1 u1 hk mc.2.2.1 hx z1
      exact ⟨_, _, _, RStep_trans s1 s2, FrM_trans t1 t2, u2'.1, u2'.2.1, u2'.2.2.1, u2'.2.2.2, rQ_gen b mq hk⟩
set_option maxRecDepth 100000 in
set_option maxHeartbeats 4000000 in
theorem s_mir {N : Nat} {xs : Nat → Int32} (b : Bool) {a f a0 f0 : Nat → Nat → Int32} {l0 : Nat → Int64} {n j w told wt nb nc ng nm np nn : Nat} {U : Nat → Nat} (hP : CP a f n U j w) (hs : sj U n j < n) (hK : Kb U n j wt) (w0 : sw (uj U n j) (lj U n j) vt_0 4 = false) (w5 : sw (uj U n j) (lj U n j) vt_5 7 = false) (w6 : sw (uj U n j) (lj U n j) vt_6 6 = true) (h0 : Jm b a f a0 l0 f0 n U j told wt nb nc ng nm np nn) : Sen N xs b a f n U j w told wt nb nc ng nm np nn := by
  obtain ⟨hC, hj, p2, p3, p4⟩ := hP
  have gj := j_le (U := U) hj
  have gl := j_lt hj hs
  have g1 : (ej U n j) ≤ n := (j_le (U := U) hj).2.2
  have g2 : (ej U n (ej U n j)) ≤ n := (j_le (U := U) g1).2.2
  have g3 : (ej U n (ej U n (ej U n j))) ≤ n := (j_le (U := U) g2).2.2
  have q2 := j_le (U := U) g1
  have q3 := j_le (U := U) g2
  obtain ⟨-, -, -, -, rq⟩ := h0
  have r1 := rq.1
  have r2 := rq.2.1
  have e := r2.2.2.2.1
  have hg : ∀ i, i < nm → ¬ a (ob b + 11) i = -1 := fun i hi => (rq.2.2.2.2.2.2.2.1 i hi).2.2
  by_cases hk : nm < 16
  case neg =>
    refine Or.inl ⟨a, f, w, FrC_refl, p4, by omega, fun c l => se_6 b hC hj p2 p3 w0 w5 w6 (r := false) (am_run_up (ti_full b hC g1 p3 p4 e (by omega) (by omega)) (by decide)), fun a' l f' hJ => ?_⟩
    obtain ⟨hM, m3, m27, m26, mq⟩ := hJ
    have mc := mq.2.2.1
    exact kf_6 hM hj m3 hs m27 hK w0 w5 w6 mc.2.2.2.1 (by omega) (by omega)
  case pos =>
    rcases nv_cs (u := uj U n (ej U n j)) (T := lj U n (ej U n j)) (b := 1000000) (by decide) with ⟨v1, z1⟩ | ⟨x, hx, v1, z1⟩
    · refine Or.inl ⟨a, (tx f (sj U n (ej U n j)) (ej U n (ej U n j)) (nI (w + 1))), w + 1, FrC_t, rfl, by omega, fun c l => se_6 b hC hj p2 p3 w0 w5 w6 (r := false) (am_run_up (ti_bad1 b hC g1 p3 p4 e hk v1) (by decide)), fun a' l f' hJ => ?_⟩
      obtain ⟨hM, m3, m27, m26, mq⟩ := hJ
      have mc := mq.2.2.1
      obtain ⟨f1, s1, t1, u1⟩ := ks_6 (ro := wd_ro N xs) (l := l) (w := w) hM hj m3 hs m27 hK w0 w5 w6 mc.2.2.2.1 m26 hk
      exact RFail_step s1 t1 (w_8f g1 u1 hk mc.2.2.2.1 v1)
    cases m1 : an (fun q => decide (a (ob b + 10) q = nI x) || decide (a (ob b + 11) q = nI x)) 0 nm with
    | true =>
      refine Or.inl ⟨a, (tx f (sj U n (ej U n j)) (ej U n (ej U n j)) (nI (w + 1))), w + 1, FrC_t, rfl, by omega, fun c l => se_6 b hC hj p2 p3 w0 w5 w6 (r := false) (am_run_up (ti_mir1 b hC g1 p3 p4 e hg hk hx v1 m1) (by decide)), fun a' l f' hJ => ?_⟩
      obtain ⟨hM, m3, m27, m26, mq⟩ := hJ
      have mc := mq.2.2.1
      obtain ⟨f1, s1, t1, u1⟩ := ks_6 (ro := wd_ro N xs) (l := l) (w := w) hM hj m3 hs m27 hK w0 w5 w6 mc.2.2.2.1 m26 hk
      exact RFail_step s1 t1 (w_8m g1 u1 hk mc.2.2.2.1 hx z1 ((im_eq mq).trans m1))
    | false =>
      rcases nv_cs (u := uj U n (ej U n (ej U n j))) (T := lj U n (ej U n (ej U n j))) (b := 1000000) (by decide) with ⟨v2, z2⟩ | ⟨y, hy, v2, z2⟩
      · refine Or.inl ⟨a, (tx f (sj U n (ej U n (ej U n j))) (ej U n (ej U n (ej U n j))) (nI (w + 1 + 1))), w + 1 + 1, FrC_t, rfl, by omega, fun c l => se_6 b hC hj p2 p3 w0 w5 w6 (r := false) (am_run_up (ti_bad2 b hC g1 p3 p4 e hg hk hx v1 m1 v2) (by decide)), fun a' l f' hJ => ?_⟩
        obtain ⟨hM, m3, m27, m26, mq⟩ := hJ
        have mc := mq.2.2.1
        obtain ⟨f1, s1, t1, u1⟩ := ks_6 (ro := wd_ro N xs) (l := l) (w := w) hM hj m3 hs m27 hK w0 w5 w6 mc.2.2.2.1 m26 hk
        obtain ⟨f2, s2, t2, u2', h28⟩ := w_8 (ro := wd_ro N xs) (l := l) (w := w + 1) g1 u1 hk mc.2.2.2.1 hx z1 ((im_eq mq).trans m1)
        exact RFail_step (RStep_trans s1 s2) (FrM_trans t1 t2) (w_9f g2 u2' hk mc.2.2.2.1 v2)
      by_cases hxy : y = x
      · refine Or.inl ⟨a, (tx f (sj U n (ej U n (ej U n j))) (ej U n (ej U n (ej U n j))) (nI (w + 1 + 1))), w + 1 + 1, FrC_t, rfl, by omega, fun c l => se_6 b hC hj p2 p3 w0 w5 w6 (r := false) (am_run_up (ti_eq b hC g1 p3 p4 e hg hk hx v1 m1 hy v2 hxy) (by decide)), fun a' l f' hJ => ?_⟩
        obtain ⟨hM, m3, m27, m26, mq⟩ := hJ
        have mc := mq.2.2.1
        obtain ⟨f1, s1, t1, u1⟩ := ks_6 (ro := wd_ro N xs) (l := l) (w := w) hM hj m3 hs m27 hK w0 w5 w6 mc.2.2.2.1 m26 hk
        obtain ⟨f2, s2, t2, u2', h28⟩ := w_8 (ro := wd_ro N xs) (l := l) (w := w + 1) g1 u1 hk mc.2.2.2.1 hx z1 ((im_eq mq).trans m1)
        exact RFail_step (RStep_trans s1 s2) (FrM_trans t1 t2) (w_9e g2 u2' hk mc.2.2.2.1 hx h28 hy z2 hxy)
      cases m2 : an (fun q => decide (a (ob b + 10) q = nI y) || decide (a (ob b + 11) q = nI y)) 0 nm with
      | true =>
        refine Or.inl ⟨a, (tx f (sj U n (ej U n (ej U n j))) (ej U n (ej U n (ej U n j))) (nI (w + 1 + 1))), w + 1 + 1, FrC_t, rfl, by omega, fun c l => se_6 b hC hj p2 p3 w0 w5 w6 (r := false) (am_run_up (ti_mir2 b hC g1 p3 p4 e hg hk hx v1 m1 hy v2 hxy m2) (by decide)), fun a' l f' hJ => ?_⟩
        obtain ⟨hM, m3, m27, m26, mq⟩ := hJ
        have mc := mq.2.2.1
        obtain ⟨f1, s1, t1, u1⟩ := ks_6 (ro := wd_ro N xs) (l := l) (w := w) hM hj m3 hs m27 hK w0 w5 w6 mc.2.2.2.1 m26 hk
        obtain ⟨f2, s2, t2, u2', h28⟩ := w_8 (ro := wd_ro N xs) (l := l) (w := w + 1) g1 u1 hk mc.2.2.2.1 hx z1 ((im_eq mq).trans m1)
        exact RFail_step (RStep_trans s1 s2) (FrM_trans t1 t2) (w_9m g2 u2' hk mc.2.2.2.1 hx h28 hy z2 hxy ((im_eq mq).trans m2))
      | false =>
        have fr : FrC b a f (u2 (u2 a (ob b + 10) (upd (a (ob b + 10)) nm (nI x))) (ob b + 11) (upd (a (ob b + 11)) nm (nI y))) (tx (u3 f (ob b + 8) 8 (nI (nm + 1))) (sj U n (ej U n (ej U n (ej U n j)))) (ej U n (ej U n (ej U n (ej U n j)))) (nI (w + 1 + 1 + 1))) := FrC_trans (FrC_a (by omega) (by omega)) (FrC_trans (FrC_a (by omega) (by omega)) (FrC_trans (FrC_f (by omega) (by omega)) FrC_t))
        refine Or.inr ⟨_, _, (ej U n (ej U n (ej U n j))), w + 1 + 1 + 1, 0, nb, nc, ng, nm + 1, np, nn, fr, fun c l => se_6 b hC hj p2 p3 w0 w5 w6 (r := true) (am_run_up (ti_ok b hC g1 p3 p4 e hg hk hx v1 m1 hy v2 hxy m2) (by decide)), ⟨CT_w fr hC, g3, rfl, rfl, rfl⟩, by omega, by omega, Or.inl rfl, fun a' l f' hJ => ?_⟩
        obtain ⟨hM, m3, m27, m26, mq⟩ := hJ
        have mc := mq.2.2.1
        obtain ⟨f1, s1, t1, u1⟩ := ks_6 (ro := wd_ro N xs) (l := l) (w := w) hM hj m3 hs m27 hK w0 w5 w6 mc.2.2.2.1 m26 hk
        obtain ⟨f2, s2, t2, u2', h28⟩ := w_8 (ro := wd_ro N xs) (l := l) (w := w + 1) g1 u1 hk mc.2.2.2.1 hx z1 ((im_eq mq).trans m1)
        obtain ⟨f3, s3, t3, u3'⟩ := w_9 (ro := wd_ro N xs) (l := l) (w := w + 1 + 1) g2 u2' hk mc.2.2.2.1 hx h28 hy z2 hxy ((im_eq mq).trans m2)
        rw [h28] at s3 t3 u3'
        exact ⟨_, _, _, RStep_trans s1 (RStep_trans s2 s3), FrM_trans t1 (FrM_trans t2 t3), u3'.1, u3'.2.1, u3'.2.2.1, u3'.2.2.2, rQ_mir b mq hk (nI_n1 (by omega))⟩
