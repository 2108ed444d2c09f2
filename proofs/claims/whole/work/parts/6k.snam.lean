/-! SENTENCES: name -/
theorem al_of {p : Nat → Bool} : ∀ (m k : Nat), (∀ q, k ≤ q → q < k + m → p q = true) → al p k m = true := by
  intro m
  induction m with
  | zero => intro k _; rfl
  | succ m ih =>
    intro k h
    rw [al_t (h k (by omega) (by omega))]
    exact ih (k + 1) (fun q h1 h2 => h q (by omega) (by omega))
theorem pf_inj {u u' : Nat → Nat} {k T : Nat} (hk : k ≤ 8) (hT : T ≤ 8) (hu : ∀ q, q < k → 97 ≤ u q ∧ u q ≤ 122) (hu' : ∀ q, q < T → 97 ≤ u' q ∧ u' q ≤ 122) : pf u 0 k 0 = pf u' 0 T 0 ↔ k = T ∧ ∀ q, q < k → u q = u' q := by
  constructor
  · intro z
    have e : k = T := by
      rw [← pf_dc k 8 hk hu, ← pf_dc T 8 hT hu', z]
    subst e
    refine ⟨rfl, fun q hq => ?_⟩
    have p1 := pf_let (u := u) (m := k) (j := k - q - 1) (by omega) (fun q hq => (hu q hq).2)
    have p2 := pf_let (u := u') (m := k) (j := k - q - 1) (by omega) (fun q hq => (hu' q hq).2)
    rw [show k - (k - q - 1) - 1 = q by omega] at p1 p2
    rw [z, p2] at p1
    have := hu q hq
    have := hu' q hq
    omega
  · rintro ⟨rfl, h⟩
    have : ∀ m, m ≤ k → pf u 0 m 0 = pf u' 0 m 0 := by
      intro m
      induction m with
      | zero => intro _; rfl
      | succ m ih =>
        intro hm
        rw [pf_snoc, pf_snoc, ih (by omega), Nat.zero_add, h m (by omega)]
    exact this k (Nat.le_refl _)
/-- the class's test of a name against the reference's -/
theorem dup_eq {o : Nat} {a f a' : Nat → Nat → Int32} {l : Nat → Int64} {nb nc ng nm' np nn s T : Nat} {u' : Nat → Nat} (h : rQ o a f a' l nb nc ng nm' np nn) (hm : nm u' T = true) (hb : ∀ q, q < T → a 2 (s + q) = nI (u' q)) : an (fun q => decide (l (20 + q) = lN (pf u' 0 T 0))) 0 nn = an (fun i => decide ((a (o + 18) i).toNatClampNeg = T) && al (fun p => decide (a (o + 19) (8 * i + p) = a 2 (s + p))) 0 (a (o + 18) i).toNatClampNeg) 0 nn := by
  obtain ⟨-, -, -, -, -, -, -, -, -, h10⟩ := h
  obtain ⟨t1, t2, t3⟩ := nm_t hm
  refine an_eq nn 0 (fun i _ hi => ?_)
  obtain ⟨-, k, u, k1, k8, hu, q4, q5, q6⟩ := h10 i (by omega)
  show decide (l (20 + i) = lN (pf u' 0 T 0)) = _
  rw [q6, q4, nI_clamp (show k < 2 ^ 31 by omega)]
  have e1 : lN (pf u 0 k 0) = lN (pf u' 0 T 0) ↔ k = T ∧ ∀ q, q < k → u q = u' q := (lN_inj (p8 (pf_8 k8 hu)) (p8 (pf_8 t2 t3))).trans (pf_inj k8 t2 hu t3)
  by_cases hq : k = T ∧ ∀ q, q < k → u q = u' q
  · rw [decide_eq_true (e1.mpr hq), decide_eq_true hq.1, al_of k 0 (fun q _ hq2 => decide_eq_true (by rw [q5 q (by omega), hb q (by omega), hq.2 q (by omega)]))]
    rfl
  · rw [decide_eq_false (fun z => hq (e1.mp z))]
    by_cases hT : k = T
    · rw [decide_eq_true hT, Bool.true_and]
      cases e : al (fun p => decide (a (o + 19) (8 * i + p) = a 2 (s + p))) 0 k with
      | false => rfl
      | true =>
        refine absurd ⟨hT, fun q hq2 => ?_⟩ hq
        have z := of_decide_eq_true (al_all k 0 e q (by omega) (by omega))
        rw [q5 q hq2, hb q (by omega)] at z
        have := hu q hq2
        have := t3 q (by omega)
        exact (nI_eq (by omega) (by omega)).mp z
    · rw [decide_eq_false hT, Bool.false_and]
set_option maxRecDepth 100000 in
set_option maxHeartbeats 4000000 in
theorem s_nam {N : Nat} {xs : Nat → Int32} (b : Bool) {a f a0 f0 : Nat → Nat → Int32} {l0 : Nat → Int64} {n j w told wt nb nc ng nr np nn : Nat} {U : Nat → Nat} (hP : CP a f n U j w) (hs : sj U n j < n) (hK : Kb U n j wt) (w0 : sw (uj U n j) (lj U n j) vt_0 4 = false) (w5 : sw (uj U n j) (lj U n j) vt_5 7 = false) (w6 : sw (uj U n j) (lj U n j) vt_6 6 = false) (w7 : sw (uj U n j) (lj U n j) vt_7 3 = false) (w8 : sw (uj U n j) (lj U n j) vt_8 4 = true) (h0 : Jm b a f a0 l0 f0 n U j told wt nb nc ng nr np nn) : Sen N xs b a f n U j w told wt nb nc ng nr np nn := by
  obtain ⟨hC, hj, p2, p3, p4⟩ := hP
  have gj := j_le (U := U) hj
  have gl := j_lt hj hs
  have g1 : (ej U n j) ≤ n := (j_le (U := U) hj).2.2
  have g2 : (ej U n (ej U n j)) ≤ n := (j_le (U := U) g1).2.2
  have g3 : (ej U n (ej U n (ej U n j))) ≤ n := (j_le (U := U) g2).2.2
  have q2 := j_le (U := U) g1
  have q3 := j_le (U := U) g2
  obtain ⟨-, -, -, -, rq⟩ := h0
  have r1 := rq.1
  have r2 := rq.2.1
  have e := r2.2.2.2.2.2
  by_cases hk : nn < 20
  case neg =>
    refine Or.inl ⟨a, f, w, FrC_refl, p4, by omega, fun c l => se_8 b hC hj p2 p3 w0 w5 w6 w7 w8 (r := false) (am_run_up (tn_full b hC g1 p3 p4 e (by omega) (by omega)) (by decide)), fun a' l f' hJ => ?_⟩
    obtain ⟨hM, m3, m27, m26, mq⟩ := hJ
    have mc := mq.2.2.1
    exact kf_8 hM hj m3 hs m27 hK w0 w5 w6 w7 w8 mc.2.2.2.2.2 (by omega) (by omega)
  case pos =>
    rcases nv_cs (u := uj U n (ej U n j)) (T := lj U n (ej U n j)) (b := 1000000) (by decide) with ⟨v1, z1⟩ | ⟨x, hx, v1, z1⟩
    · refine Or.inl ⟨a, (tx f (sj U n (ej U n j)) (ej U n (ej U n j)) (nI (w + 1))), w + 1, FrC_t, rfl, by omega, fun c l => se_8 b hC hj p2 p3 w0 w5 w6 w7 w8 (r := false) (am_run_up (tn_bad b hC g1 p3 p4 e hk v1) (by decide)), fun a' l f' hJ => ?_⟩
      obtain ⟨hM, m3, m27, m26, mq⟩ := hJ
      have mc := mq.2.2.1
      obtain ⟨f1, s1, t1, u1⟩ := ks_8 (ro := wd_ro N xs) (l := l) (w := w) hM hj m3 hs m27 hK w0 w5 w6 w7 w8 mc.2.2.2.2.2 m26 hk
      exact RFail_step s1 t1 (w_14f g1 u1 hk mc.2.2.2.2.2 v1)
    cases hm : nm (uj U n (ej U n (ej U n j))) (lj U n (ej U n (ej U n j))) with
    | false =>
      refine Or.inl ⟨a, (tx f (sj U n (ej U n (ej U n j))) (ej U n (ej U n (ej U n j))) (nI (w + 1 + 1))), w + 1 + 1, FrC_t, rfl, by omega, fun c l => se_8 b hC hj p2 p3 w0 w5 w6 w7 w8 (r := false) (am_run_up (tn_nam b hC g1 p3 p4 e hk hx v1 hm) (by decide)), fun a' l f' hJ => ?_⟩
      obtain ⟨hM, m3, m27, m26, mq⟩ := hJ
      have mc := mq.2.2.1
      obtain ⟨f1, s1, t1, u1⟩ := ks_8 (ro := wd_ro N xs) (l := l) (w := w) hM hj m3 hs m27 hK w0 w5 w6 w7 w8 mc.2.2.2.2.2 m26 hk
      obtain ⟨f2, s2, t2, u2'⟩ := w_14 (ro := wd_ro N xs) (l := l) (w := w + 1) g1 u1 hk mc.2.2.2.2.2 hx z1
      exact RFail_step (RStep_trans s1 s2) (FrM_trans t1 t2) (w_15z g2 u2' hk mc.2.2.2.2.2 hm)
    | true =>
      have hub := uC hC g2
      have hb : ∀ q, q < lj U n (ej U n (ej U n j)) → a 2 (sj U n (ej U n (ej U n j)) + q) = nI (uj U n (ej U n (ej U n j)) q) := fun q hq => (hub q hq).1
      have hPP : ∀ i, i < nn → ∃ q : Nat, q ≤ 8 ∧ a (ob b + 18) i = nI q ∧ (decide (q = ej U n (ej U n (ej U n j)) - sj U n (ej U n (ej U n j))) && al (fun p => decide (a (ob b + 19) (8 * i + p) = a 2 (sj U n (ej U n (ej U n j)) + p))) 0 q) = (fun i => decide ((a (ob b + 18) i).toNatClampNeg = lj U n (ej U n (ej U n j))) && al (fun p => decide (a (ob b + 19) (8 * i + p) = a 2 (sj U n (ej U n (ej U n j)) + p))) 0 (a (ob b + 18) i).toNatClampNeg) i := by
        intro i hi
        obtain ⟨-, k, u, k1, k8, hu, q4, q5, q6⟩ := rq.2.2.2.2.2.2.2.2.2 i hi
        refine ⟨k, k8, q4, ?_⟩
        show _ = (decide ((a (ob b + 18) i).toNatClampNeg = lj U n (ej U n (ej U n j))) && al (fun p => decide (a (ob b + 19) (8 * i + p) = a 2 (sj U n (ej U n (ej U n j)) + p))) 0 (a (ob b + 18) i).toNatClampNeg)
        rw [q4, nI_clamp (show k < 2 ^ 31 by omega)]
        rfl
      cases hd : an (fun i => decide ((a (ob b + 18) i).toNatClampNeg = lj U n (ej U n (ej U n j))) && al (fun p => decide (a (ob b + 19) (8 * i + p) = a 2 (sj U n (ej U n (ej U n j)) + p))) 0 (a (ob b + 18) i).toNatClampNeg) 0 nn with
      | true =>
        refine Or.inl ⟨a, (tx f (sj U n (ej U n (ej U n j))) (ej U n (ej U n (ej U n j))) (nI (w + 1 + 1))), w + 1 + 1, FrC_t, rfl, by omega, fun c l => se_8 b hC hj p2 p3 w0 w5 w6 w7 w8 (r := false) (am_run_up (tn_dup b hC g1 p3 p4 e hk hx v1 hm hPP hd) (by decide)), fun a' l f' hJ => ?_⟩
        obtain ⟨hM, m3, m27, m26, mq⟩ := hJ
        have mc := mq.2.2.1
        obtain ⟨f1, s1, t1, u1⟩ := ks_8 (ro := wd_ro N xs) (l := l) (w := w) hM hj m3 hs m27 hK w0 w5 w6 w7 w8 mc.2.2.2.2.2 m26 hk
        obtain ⟨f2, s2, t2, u2'⟩ := w_14 (ro := wd_ro N xs) (l := l) (w := w + 1) g1 u1 hk mc.2.2.2.2.2 hx z1
        exact RFail_step (RStep_trans s1 s2) (FrM_trans t1 t2) (w_15n g2 u2' hk mc.2.2.2.2.2 hm ((dup_eq mq hm hb).trans hd))
      | false =>
        obtain ⟨k1, k8, hl⟩ := nm_t hm
        have fr : FrC b a f (u2 (u2 (u2 a (ob b + 17) (upd (a (ob b + 17)) nn (nI x))) (ob b + 18) (upd (a (ob b + 18)) nn (nI (ej U n (ej U n (ej U n j)) - sj U n (ej U n (ej U n j)))))) (ob b + 19) (lw (fun q => a 2 (sj U n (ej U n (ej U n j)) + q)) (8 * nn) 0 (ej U n (ej U n (ej U n j)) - sj U n (ej U n (ej U n j))) (a (ob b + 19)))) (tx (u3 f (ob b + 16) 5 (nI (nn + 1))) (sj U n (ej U n (ej U n (ej U n j)))) (ej U n (ej U n (ej U n (ej U n j)))) (nI (w + 1 + 1 + 1))) := FrC_trans (FrC_a (by omega) (by omega)) (FrC_trans (FrC_a (by omega) (by omega)) (FrC_trans (FrC_a (by omega) (by omega)) (FrC_trans (FrC_f (by omega) (by omega)) FrC_t)))
        refine Or.inr ⟨_, _, (ej U n (ej U n (ej U n j))), w + 1 + 1 + 1, 0, nb, nc, ng, nr, np, nn + 1, fr, fun c l => se_8 b hC hj p2 p3 w0 w5 w6 w7 w8 (r := true) (am_run_up (tn_ok b hC g1 p3 p4 e hk hx v1 hm hPP hd) (by decide)), ⟨CT_w fr hC, g3, rfl, rfl, rfl⟩, by omega, by omega, Or.inl rfl, fun a' l f' hJ => ?_⟩
        obtain ⟨hM, m3, m27, m26, mq⟩ := hJ
        have mc := mq.2.2.1
        obtain ⟨f1, s1, t1, u1⟩ := ks_8 (ro := wd_ro N xs) (l := l) (w := w) hM hj m3 hs m27 hK w0 w5 w6 w7 w8 mc.2.2.2.2.2 m26 hk
        obtain ⟨f2, s2, t2, u2'⟩ := w_14 (ro := wd_ro N xs) (l := l) (w := w + 1) g1 u1 hk mc.2.2.2.2.2 hx z1
        obtain ⟨f3, s3, t3, u3'⟩ := w_15 (ro := wd_ro N xs) (l := l) (w := w + 1 + 1) g2 u2' hk mc.2.2.2.2.2 hm ((dup_eq mq hm hb).trans hd)
        exact ⟨_, _, _, RStep_trans s1 (RStep_trans s2 s3), FrM_trans t1 (FrM_trans t2 t3), u3'.1, u3'.2.1, u3'.2.2.1, u3'.2.2.2, rQ_nam b mq hk k1 k8 hl hb⟩
