/-! SENTENCES: map -/
set_option maxRecDepth 100000 in
set_option maxHeartbeats 4000000 in
theorem s_map {N : Nat} {xs : Nat → Int32} (b : Bool) {a f a0 f0 : Nat → Nat → Int32} {l0 : Nat → Int64} {n j w told wt nb nc ng nm np nn : Nat} {U : Nat → Nat} (hP : CP a f n U j w) (hs : sj U n j < n) (hK : Kb U n j wt) (w0 : sw (uj U n j) (lj U n j) vt_0 4 = false) (w5 : sw (uj U n j) (lj U n j) vt_5 7 = false) (w6 : sw (uj U n j) (lj U n j) vt_6 6 = false) (w7 : sw (uj U n j) (lj U n j) vt_7 3 = true) (h0 : Jm b a f a0 l0 f0 n U j told wt nb nc ng nm np nn) : Sen N xs b a f n U j w told wt nb nc ng nm np nn := by
  obtain ⟨hC, hj, p2, p3, p4⟩ := hP
  have gj := j_le (U := U) hj
  have gl := j_lt hj hs
  have g1 : (ej U n j) ≤ n := (j_le (U := U) hj).2.2
  have g2 : (ej U n (ej U n j)) ≤ n := (j_le (U := U) g1).2.2
  have g3 : (ej U n (ej U n (ej U n j))) ≤ n := (j_le (U := U) g2).2.2
  have g4 : (ej U n (ej U n (ej U n (ej U n j)))) ≤ n := (j_le (U := U) g3).2.2
  have g5 : (ej U n (ej U n (ej U n (ej U n (ej U n j))))) ≤ n := (j_le (U := U) g4).2.2
  have q2 := j_le (U := U) g1
  have q3 := j_le (U := U) g2
  have q4 := j_le (U := U) g3
  have q5 := j_le (U := U) g4
  obtain ⟨-, -, -, -, rq⟩ := h0
  have r1 := rq.1
  have r2 := rq.2.1
  have e := r2.2.2.2.2.1
  by_cases hk : np < 20
  case neg =>
    refine Or.inl ⟨a, f, w, FrC_refl, p4, by omega, fun c l => se_7 b hC hj p2 p3 w0 w5 w6 w7 (r := false) (am_run_up (tp_full b hC g1 p3 p4 e (by omega) (by omega)) (by decide)), fun a' l f' hJ => ?_⟩
    obtain ⟨hM, m3, m27, m26, mq⟩ := hJ
    have mc := mq.2.2.1
    exact kf_7 hM hj m3 hs m27 hK w0 w5 w6 w7 mc.2.2.2.2.1 (by omega) (by omega)
  case pos =>
    rcases nv_cs (u := uj U n (ej U n j)) (T := lj U n (ej U n j)) (b := 1000000) (by decide) with ⟨v1, z1⟩ | ⟨x, hx, v1, z1⟩
    · refine Or.inl ⟨a, (tx f (sj U n (ej U n j)) (ej U n (ej U n j)) (nI (w + 1))), w + 1, FrC_t, rfl, by omega, fun c l => se_7 b hC hj p2 p3 w0 w5 w6 w7 (r := false) (am_run_up (tp_bad1 b hC g1 p3 p4 e hk v1) (by decide)), fun a' l f' hJ => ?_⟩
      obtain ⟨hM, m3, m27, m26, mq⟩ := hJ
      have mc := mq.2.2.1
      obtain ⟨f1, s1, t1, u1⟩ := ks_7 (ro := wd_ro N xs) (l := l) (w := w) hM hj m3 hs m27 hK w0 w5 w6 w7 mc.2.2.2.2.1 m26 hk
      exact RFail_step s1 t1 (w_10f g1 u1 hk mc.2.2.2.2.1 v1)
    rcases nv_cs (u := uj U n (ej U n (ej U n j))) (T := lj U n (ej U n (ej U n j))) (b := 10) (by decide) with ⟨v2, z2⟩ | ⟨y, hy, v2, z2⟩
    · refine Or.inl ⟨a, (tx f (sj U n (ej U n (ej U n j))) (ej U n (ej U n (ej U n j))) (nI (w + 1 + 1))), w + 1 + 1, FrC_t, rfl, by omega, fun c l => se_7 b hC hj p2 p3 w0 w5 w6 w7 (r := false) (am_run_up (tp_bad2 b hC g1 p3 p4 e hk hx v1 v2) (by decide)), fun a' l f' hJ => ?_⟩
      obtain ⟨hM, m3, m27, m26, mq⟩ := hJ
      have mc := mq.2.2.1
      obtain ⟨f1, s1, t1, u1⟩ := ks_7 (ro := wd_ro N xs) (l := l) (w := w) hM hj m3 hs m27 hK w0 w5 w6 w7 mc.2.2.2.2.1 m26 hk
      obtain ⟨f2, s2, t2, u2⟩ := w_10 (ro := wd_ro N xs) (l := l) (w := w + 1) g1 u1 hk mc.2.2.2.2.1 hx z1
      exact RFail_step (RStep_trans s1 s2) (FrM_trans t1 t2) (w_11f g2 u2 hk mc.2.2.2.2.1 rfl z2)
    rcases nv_cs (u := uj U n (ej U n (ej U n (ej U n j)))) (T := lj U n (ej U n (ej U n (ej U n j)))) (b := 1000000) (by decide) with ⟨v3, z3⟩ | ⟨z, hz, v3, z3⟩
    · refine Or.inl ⟨a, (tx f (sj U n (ej U n (ej U n (ej U n j)))) (ej U n (ej U n (ej U n (ej U n j)))) (nI (w + 1 + 1 + 1))), w + 1 + 1 + 1, FrC_t, rfl, by omega, fun c l => se_7 b hC hj p2 p3 w0 w5 w6 w7 (r := false) (am_run_up (tp_bad3 b hC g1 p3 p4 e hk hx v1 (show y < 1000000 by omega) v2 v3) (by decide)), fun a' l f' hJ => ?_⟩
      obtain ⟨hM, m3, m27, m26, mq⟩ := hJ
      have mc := mq.2.2.1
      obtain ⟨f1, s1, t1, u1⟩ := ks_7 (ro := wd_ro N xs) (l := l) (w := w) hM hj m3 hs m27 hK w0 w5 w6 w7 mc.2.2.2.2.1 m26 hk
      obtain ⟨f2, s2, t2, u2⟩ := w_10 (ro := wd_ro N xs) (l := l) (w := w + 1) g1 u1 hk mc.2.2.2.2.1 hx z1
      obtain ⟨f3, s3, t3, u3⟩ := w_11 (ro := wd_ro N xs) (l := l) (w := w + 1 + 1) g2 u2 hk mc.2.2.2.2.1 hy z2
      exact RFail_step (RStep_trans s1 (RStep_trans s2 s3)) (FrM_trans t1 (FrM_trans t2 t3)) (w_12f g3 u3 hk mc.2.2.2.2.1 v3)
    rcases nv_cs (u := uj U n (ej U n (ej U n (ej U n (ej U n j))))) (T := lj U n (ej U n (ej U n (ej U n (ej U n j))))) (b := 1000000) (by decide) with ⟨v4, z4⟩ | ⟨v, hv, v4, z4⟩
    · refine Or.inl ⟨a, (tx f (sj U n (ej U n (ej U n (ej U n (ej U n j))))) (ej U n (ej U n (ej U n (ej U n (ej U n j))))) (nI (w + 1 + 1 + 1 + 1))), w + 1 + 1 + 1 + 1, FrC_t, rfl, by omega, fun c l => se_7 b hC hj p2 p3 w0 w5 w6 w7 (r := false) (am_run_up (tp_bad4 b hC g1 p3 p4 e hk hx v1 (show y < 1000000 by omega) v2 hz v3 v4) (by decide)), fun a' l f' hJ => ?_⟩
      obtain ⟨hM, m3, m27, m26, mq⟩ := hJ
      have mc := mq.2.2.1
      obtain ⟨f1, s1, t1, u1⟩ := ks_7 (ro := wd_ro N xs) (l := l) (w := w) hM hj m3 hs m27 hK w0 w5 w6 w7 mc.2.2.2.2.1 m26 hk
      obtain ⟨f2, s2, t2, u2⟩ := w_10 (ro := wd_ro N xs) (l := l) (w := w + 1) g1 u1 hk mc.2.2.2.2.1 hx z1
      obtain ⟨f3, s3, t3, u3⟩ := w_11 (ro := wd_ro N xs) (l := l) (w := w + 1 + 1) g2 u2 hk mc.2.2.2.2.1 hy z2
      obtain ⟨f4, s4, t4, u4⟩ := w_12 (ro := wd_ro N xs) (l := l) (w := w + 1 + 1 + 1) g3 u3 hk mc.2.2.2.2.1 hz z3
      exact RFail_step (RStep_trans s1 (RStep_trans s2 (RStep_trans s3 s4))) (FrM_trans t1 (FrM_trans t2 (FrM_trans t3 t4))) (w_13f g4 u4 hk mc.2.2.2.2.1 v4)
    have fr : FrC b a f (u2 (u2 (u2 (u2 a (ob b + 12) (upd (a (ob b + 12)) np (nI x))) (ob b + 13) (upd (a (ob b + 13)) np (nI y))) (ob b + 14) (upd (a (ob b + 14)) np (nI z))) (ob b + 15) (upd (a (ob b + 15)) np (nI v))) (tx (u3 f (ob b + 8) 9 (nI (np + 1))) (sj U n (ej U n (ej U n (ej U n (ej U n (ej U n j)))))) (ej U n (ej U n (ej U n (ej U n (ej U n (ej U n j)))))) (nI (w + 1 + 1 + 1 + 1 + 1))) := FrC_trans (FrC_a (by omega) (by omega)) (FrC_trans (FrC_a (by omega) (by omega)) (FrC_trans (FrC_a (by omega) (by omega)) (FrC_trans (FrC_a (by omega) (by omega)) (FrC_trans (FrC_f (by omega) (by omega)) FrC_t))))
    refine Or.inr ⟨_, _, (ej U n (ej U n (ej U n (ej U n (ej U n j))))), w + 1 + 1 + 1 + 1 + 1, 0, nb, nc, ng, nm, np + 1, nn, fr, fun c l => se_7 b hC hj p2 p3 w0 w5 w6 w7 (r := true) (am_run_up (tp_ok b hC g1 p3 p4 e hk hx v1 (show y < 1000000 by omega) v2 hz v3 hv v4) (by decide)), ⟨CT_w fr hC, g5, rfl, rfl, rfl⟩, by omega, by omega, Or.inl rfl, fun a' l f' hJ => ?_⟩
    obtain ⟨hM, m3, m27, m26, mq⟩ := hJ
    have mc := mq.2.2.1
    obtain ⟨f1, s1, t1, u1⟩ := ks_7 (ro := wd_ro N xs) (l := l) (w := w) hM hj m3 hs m27 hK w0 w5 w6 w7 mc.2.2.2.2.1 m26 hk
    obtain ⟨f2, s2, t2, u2⟩ := w_10 (ro := wd_ro N xs) (l := l) (w := w + 1) g1 u1 hk mc.2.2.2.2.1 hx z1
    obtain ⟨f3, s3, t3, u3⟩ := w_11 (ro := wd_ro N xs) (l := l) (w := w + 1 + 1) g2 u2 hk mc.2.2.2.2.1 hy z2
    obtain ⟨f4, s4, t4, u4⟩ := w_12 (ro := wd_ro N xs) (l := l) (w := w + 1 + 1 + 1) g3 u3 hk mc.2.2.2.2.1 hz z3
    obtain ⟨f5, s5, t5, u5⟩ := w_13 (ro := wd_ro N xs) (l := l) (w := w + 1 + 1 + 1 + 1) g4 u4 hk mc.2.2.2.2.1 hv z4
    exact ⟨_, _, _, (RStep_trans s1 (RStep_trans s2 (RStep_trans s3 (RStep_trans s4 s5)))), (FrM_trans t1 (FrM_trans t2 (FrM_trans t3 (FrM_trans t4 t5)))), u5.1, u5.2.1, u5.2.2.1, u5.2.2.2, rQ_map b mq hk⟩
