/-! SENTENCES: the class takes one, the reference word by word -/
theorem nv_cs {u : Nat → Nat} {T b : Nat} (hb : b ≤ 1000000) : (nv u T b = -1 ∧ (nv u T 1000000 < 0 ∨ nI b ≤ nv u T 1000000)) ∨ ∃ x, x < b ∧ nv u T b = nI x ∧ nv u T 1000000 = nI x := by
  cases h : ng u T with
  | false =>
    have e : ∀ b', nv u T b' = -1 := by
      intro b'
      unfold nv
      rw [h]
      rfl
    exact Or.inl ⟨e b, Or.inl (by rw [e]; decide)⟩
  | true =>
    have h6 := ng_lt h
    have e6 : nv u T 1000000 = nI (vf u 0 T 0) := by
      rw [nv_6, h]
      rfl
    by_cases hv : vf u 0 T 0 < b
    · refine Or.inr ⟨vf u 0 T 0, hv, ?_, e6⟩
      unfold nv
      rw [h, decide_eq_true hv]
      rfl
    · refine Or.inl ⟨?_, Or.inr ?_⟩
      · unfold nv
        rw [h, decide_eq_false hv]
        rfl
      · rw [e6]
        exact nI_le (by omega) (by omega)
theorem nv_0 {u : Nat → Nat} {b : Nat} : nv u 0 b = -1 := rfl
def Jm (b : Bool) (a f a' : Nat → Nat → Int32) (l : Nat → Int64) (f' : Nat → Nat → Int32) (n : Nat) (U : Nat → Nat) (j told wt nb nc ng nm np nn : Nat) : Prop := MT a' f' n U ∧ f' 60 3 = nI j ∧ f' 60 27 = nI wt ∧ f' 60 26 = nI told ∧ rQ (ob b) a f a' l nb nc ng nm np nn
def CP (a f : Nat → Nat → Int32) (n : Nat) (U : Nat → Nat) (j w : Nat) : Prop := CT a f n U ∧ j ≤ n ∧ f 1 2 = nI (sj U n j) ∧ f 1 3 = nI (ej U n j) ∧ f 1 4 = nI w
def RFail (ro : Nat → Option am_C) (a : Nat → Nat → Int32) (l : Nat → Int64) (f : Nat → Nat → Int32) (w W : Nat) : Prop := ∃ (a1 : Nat → Nat → Int32) (l1 : Nat → Int64) (f1 : Nat → Nat → Int32), FrM a l f a1 l1 f1 ∧ ∀ (c : Bool) (K : Option Value → am_H → Prop), K (some (.int (-1 - nI W))) (wd c a1 l1 (u3 f1 60 1 0)) → am_T ro 3 106 43 [.ref 60, .int (nI w), .int 1] [] (wd c a l f) K
def RStep (ro : Nat → Option am_C) (a : Nat → Nat → Int32) (l : Nat → Int64) (f : Nat → Nat → Int32) (w : Nat) (a1 : Nat → Nat → Int32) (l1 : Nat → Int64) (f1 : Nat → Nat → Int32) (w1 : Nat) : Prop := ∀ (c : Bool) (K : Option Value → am_H → Prop), am_T ro 3 106 43 [.ref 60, .int (nI w1), .int 1] [] (wd c a1 l1 f1) K → am_T ro 3 106 43 [.ref 60, .int (nI w), .int 1] [] (wd c a l f) K
/-- behind a sentence, before the next: nothing is wanted, or a condition and this isn't one -/
def Kb (U : Nat → Nat) (n j wt : Nat) : Prop := wt = 0 ∨ (wt = 3 ∧ sw (uj U n j) (lj U n j) vt_1 4 = false)
/-- what becomes of the sentence at hand, in both -/
def Sen (N : Nat) (xs : Nat → Int32) (b : Bool) (a f : Nat → Nat → Int32) (n : Nat) (U : Nat → Nat) (j w told wt nb nc ng nm np nn : Nat) : Prop :=
  (∃ (a1 f1 : Nat → Nat → Int32) (W : Nat), FrC b a f a1 f1 ∧ f1 1 4 = nI W ∧ W ≤ w + 300 ∧ (∀ (c : Bool) (l : Nat → Int64), am_run (wd_ro N xs) 8 58 [.ref (ob b), .ref 1] (wd c a l f) (some (.int (nI 0))) (wd c a1 l f1)) ∧ ∀ (a' : Nat → Nat → Int32) (l : Nat → Int64) (f' : Nat → Nat → Int32), Jm b a f a' l f' n U j told wt nb nc ng nm np nn → RFail (wd_ro N xs) a' l f' w W) ∨
  (∃ (a1 f1 : Nat → Nat → Int32) (j1 w1 wt1 nb1 nc1 ng1 nm1 np1 nn1 : Nat), FrC b a f a1 f1 ∧ (∀ (c : Bool) (l : Nat → Int64), am_run (wd_ro N xs) 8 58 [.ref (ob b), .ref 1] (wd c a l f) (some (.int (nI 1))) (wd c a1 l f1)) ∧ CP a1 f1 n U j1 w1 ∧ j < j1 ∧ w1 ≤ w + 300 ∧ Kb U n j1 wt1 ∧ ∀ (a' : Nat → Nat → Int32) (l : Nat → Int64) (f' : Nat → Nat → Int32), Jm b a f a' l f' n U j told wt nb nc ng nm np nn → ∃ (a2 : Nat → Nat → Int32) (l2 : Nat → Int64) (f2 : Nat → Nat → Int32), RStep (wd_ro N xs) a' l f' w a2 l2 f2 w1 ∧ FrM a' l f' a2 l2 f2 ∧ Jm b a1 f1 a2 l2 f2 n U j1 (told + 1) wt1 nb1 nc1 ng1 nm1 np1 nn1)
theorem RFail_step {ro : Nat → Option am_C} {a f a1 f1 : Nat → Nat → Int32} {l l1 : Nat → Int64} {w w1 W : Nat} (h : RStep ro a l f w a1 l1 f1 w1) (g : FrM a l f a1 l1 f1) (k : RFail ro a1 l1 f1 w1 W) : RFail ro a l f w W := by
  obtain ⟨a2, l2, f2, k1, k2⟩ := k
  exact ⟨a2, l2, f2, FrM_trans g k1, fun c K kq => h c K (k2 c K kq)⟩
theorem RStep_trans {ro : Nat → Option am_C} {a f a1 f1 a2 f2 : Nat → Nat → Int32} {l l1 l2 : Nat → Int64} {w w1 w2 : Nat} (h : RStep ro a l f w a1 l1 f1 w1) (g : RStep ro a1 l1 f1 w1 a2 l2 f2 w2) : RStep ro a l f w a2 l2 f2 w2 := fun c K kq => h c K (g c K kq)
/-- where the reference stands: behind place j, k is wanted -/
def Ms (a f : Nat → Nat → Int32) (n : Nat) (U : Nat → Nat) (j k told : Nat) : Prop := MT a f n U ∧ f 60 3 = nI j ∧ f 60 27 = nI k ∧ f 60 26 = nI told
/-! one word of the reference -/
theorem m_take {ro : Nat → Option am_C} {a f a1 f1 : Nat → Nat → Int32} {l l1 : Nat → Int64} {n j w : Nat} {U : Nat → Nat} (hM : MT a f n U) (hj : j ≤ n) (h3 : f 60 3 = nI j) (hs : sj U n j < n) (h : ∀ c, am_run ro 3 109 [.ref 60] (wd c a l (nx f (sj U n j) (ej U n j))) (some (.int (nI 1))) (wd c a1 l1 f1)) : RStep ro a l f w a1 l1 f1 (w + 1) := fun c _ kq => r_take hM hj h3 hs (h c) kq
theorem m_fail {ro : Nat → Option am_C} {a f a1 f1 : Nat → Nat → Int32} {l l1 : Nat → Int64} {n j w : Nat} {U : Nat → Nat} (hM : MT a f n U) (hj : j ≤ n) (h3 : f 60 3 = nI j) (hs : sj U n j < n) (h : ∀ c, am_run ro 3 109 [.ref 60] (wd c a l (nx f (sj U n j) (ej U n j))) (some (.int (nI 0))) (wd c a1 l1 f1)) (g : FrM a l f a1 l1 f1) : RFail ro a l f w w := ⟨a1, l1, f1, g, fun c _ kq => r_fail hM hj h3 hs (h c) kq⟩
theorem m_over {ro : Nat → Option am_C} {a f : Nat → Nat → Int32} {l : Nat → Int64} {n j w k : Nat} {U : Nat → Nat} (hM : MT a f n U) (hj : j ≤ n) (h3 : f 60 3 = nI j) (hs : ¬ sj U n j < n) (h27 : f 60 27 = nI k) (k0 : ¬ k = 0) (k3 : ¬ k = 3) (k15 : k ≤ 15) : RFail ro a l f w w := by
  refine ⟨a, l, nx f (sj U n j) (ej U n j), FrM_nx, fun c _ kq => r_over hM hj h3 (by omega) ?_ ?_ kq⟩
  · rw [h27]
    exact fun z => k0 ((nI_eq (show k < 2 ^ 31 by omega) (show 0 < 2 ^ 31 by decide)).mp z)
  · rw [h27]
    exact fun z => k3 ((nI_eq (show k < 2 ^ 31 by omega) (show 3 < 2 ^ 31 by decide)).mp z)
theorem kw {ro : Nat → Option am_C} {a f : Nat → Nat → Int32} {l : Nat → Int64} {c : Bool} {n j wt : Nat} {U : Nat → Nat} {r : Bool} {hp : am_H} (hM : MT a f n U) (hj : j ≤ n) (h27 : f 60 27 = nI wt) (hK : Kb U n j wt) (h : am_run ro 2 111 [.ref 60] (wd c a l (nx f (sj U n j) (ej U n j))) (some (.int (nI r.toNat))) hp) : am_run ro 3 109 [.ref 60] (wd c a l (nx f (sj U n j) (ej U n j))) (some (.int (nI r.toNat))) hp := by
  have g := j_le (U := U) hj
  have hn := hM.1
  rcases hK with rfl | ⟨rfl, hw⟩
  · exact tk_0 (f := nx f (sj U n j) (ej U n j)) h27 h
  · exact tk_3n (f := nx f (sj U n j) (ej U n j)) rfl rfl g.2.1 (by omega) (uM hM hj) h27 hw h
theorem nw_b {ro : Nat → Option am_C} {a f : Nat → Nat → Int32} {l : Nat → Int64} {c : Bool} {n j k : Nat} {U : Nat → Nat} {r : Bool} {hp : am_H} (hM : MT a f n U) (hj : j ≤ n) (hs : sj U n j < n) (h27 : f 60 27 = nI k) (k0 : ¬ k = 0) (k3 : ¬ k = 3) (k7 : k < 7) {v : Int32} (hv : nv (uj U n j) (lj U n j) 1000000 = v) (h : am_run ro 2 113 [.ref 60, .int v] (wd c a l (nx f (sj U n j) (ej U n j))) (some (.int (nI r.toNat))) hp) : am_run ro 3 109 [.ref 60] (wd c a l (nx f (sj U n j) (ej U n j))) (some (.int (nI r.toNat))) hp := by
  have g := j_le (U := U) hj
  have hn := hM.1
  subst hv
  exact tk_n (f := nx f (sj U n j) (ej U n j)) k0 k3 (by omega) h27 (mo_num (f := nx f (sj U n j) (ej U n j)) rfl rfl (j_lt hj hs) (by omega) (uM hM hj)) (by rw [if_pos k7]; exact h)
theorem nw_o {ro : Nat → Option am_C} {a f : Nat → Nat → Int32} {l : Nat → Int64} {c : Bool} {n j k : Nat} {U : Nat → Nat} {r : Bool} {hp : am_H} (hM : MT a f n U) (hj : j ≤ n) (hs : sj U n j < n) (h27 : f 60 27 = nI k) (k7 : 7 ≤ k) (k15 : k ≤ 15) {v : Int32} (hv : nv (uj U n j) (lj U n j) 1000000 = v) (h : am_run ro 2 114 [.ref 60, .int v] (wd c a l (nx f (sj U n j) (ej U n j))) (some (.int (nI r.toNat))) hp) : am_run ro 3 109 [.ref 60] (wd c a l (nx f (sj U n j) (ej U n j))) (some (.int (nI r.toNat))) hp := by
  have g := j_le (U := U) hj
  have hn := hM.1
  subst hv
  exact tk_n (f := nx f (sj U n j) (ej U n j)) (by omega) (by omega) k15 h27 (mo_num (f := nx f (sj U n j) (ej U n j)) rfl rfl (j_lt hj hs) (by omega) (uM hM hj)) (by rw [if_neg (by omega)]; exact h)
theorem ks_0 {ro : Nat → Option am_C} {a f : Nat → Nat → Int32} {l : Nat → Int64} {n j w wt k told : Nat} {U : Nat → Nat} (hM : MT a f n U) (hj : j ≤ n) (h3 : f 60 3 = nI j) (hs : sj U n j < n) (h27 : f 60 27 = nI wt) (hK : Kb U n j wt) (w0 : sw (uj U n j) (lj U n j) vt_0 4 = true) (e : a 62 6 = nI k) (h26 : f 60 26 = nI told) (hk : k < 30) : ∃ f1 : Nat → Nat → Int32, RStep ro a l f w a l f1 (w + 1) ∧ FrM a l f a l f1 ∧ Ms a f1 n U (ej U n j) 1 told := by
  have g := j_le (U := U) hj
  have hn := hM.1
  refine ⟨u3 (nx f (sj U n j) (ej U n j)) 60 27 1, m_take hM hj h3 hs (fun c => kw (r := true) hM hj h27 hK ?_), FrM_trans FrM_nx (FrM_f (by decide)), hM, rfl, rfl, h26⟩
  have := bg_0 (ro := ro) (c := c) (a := a) (l := l) (f := nx f (sj U n j) (ej U n j)) rfl rfl g.2.1 (by omega) (uM hM hj) w0 (show k < 2 ^ 31 by omega) e
  rw [decide_eq_true hk] at this
  exact this
theorem kf_0 {ro : Nat → Option am_C} {a f : Nat → Nat → Int32} {l : Nat → Int64} {n j w wt k : Nat} {U : Nat → Nat} (hM : MT a f n U) (hj : j ≤ n) (h3 : f 60 3 = nI j) (hs : sj U n j < n) (h27 : f 60 27 = nI wt) (hK : Kb U n j wt) (w0 : sw (uj U n j) (lj U n j) vt_0 4 = true) (e : a 62 6 = nI k) (hk : 30 ≤ k) (hk2 : k < 2 ^ 31) : RFail ro a l f w w := by
  have g := j_le (U := U) hj
  have hn := hM.1
  refine m_fail (a1 := a) (l1 := l) (f1 := u3 (nx f (sj U n j) (ej U n j)) 60 27 1) hM hj h3 hs (fun c => kw (r := false) hM hj h27 hK ?_) (FrM_trans FrM_nx (FrM_f (by decide)))
  have := bg_0 (ro := ro) (c := c) (a := a) (l := l) (f := nx f (sj U n j) (ej U n j)) rfl rfl g.2.1 (by omega) (uM hM hj) w0 hk2 e
  rw [decide_eq_false (show ¬ k < 30 by omega)] at this
  exact this
theorem ks_5 {ro : Nat → Option am_C} {a f : Nat → Nat → Int32} {l : Nat → Int64} {n j w wt k told : Nat} {U : Nat → Nat} (hM : MT a f n U) (hj : j ≤ n) (h3 : f 60 3 = nI j) (hs : sj U n j < n) (h27 : f 60 27 = nI wt) (hK : Kb U n j wt) (w0 : sw (uj U n j) (lj U n j) vt_0 4 = false) (w5 : sw (uj U n j) (lj U n j) vt_5 7 = true) (e : a 62 8 = nI k) (h26 : f 60 26 = nI told) (hk : k < 16) : ∃ f1 : Nat → Nat → Int32, RStep ro a l f w a l f1 (w + 1) ∧ FrM a l f a l f1 ∧ Ms a f1 n U (ej U n j) 7 told := by
  have g := j_le (U := U) hj
  have hn := hM.1
  refine ⟨u3 (nx f (sj U n j) (ej U n j)) 60 27 7, m_take hM hj h3 hs (fun c => kw (r := true) hM hj h27 hK ?_), FrM_trans FrM_nx (FrM_f (by decide)), hM, rfl, rfl, h26⟩
  have := bg_5 (ro := ro) (c := c) (a := a) (l := l) (f := nx f (sj U n j) (ej U n j)) rfl rfl g.2.1 (by omega) (uM hM hj) w0 w5 (show k < 2 ^ 31 by omega) e
  rw [decide_eq_true hk] at this
  exact this
theorem kf_5 {ro : Nat → Option am_C} {a f : Nat → Nat → Int32} {l : Nat → Int64} {n j w wt k : Nat} {U : Nat → Nat} (hM : MT a f n U) (hj : j ≤ n) (h3 : f 60 3 = nI j) (hs : sj U n j < n) (h27 : f 60 27 = nI wt) (hK : Kb U n j wt) (w0 : sw (uj U n j) (lj U n j) vt_0 4 = false) (w5 : sw (uj U n j) (lj U n j) vt_5 7 = true) (e : a 62 8 = nI k) (hk : 16 ≤ k) (hk2 : k < 2 ^ 31) : RFail ro a l f w w := by
  have g := j_le (U := U) hj
  have hn := hM.1
  refine m_fail (a1 := a) (l1 := l) (f1 := u3 (nx f (sj U n j) (ej U n j)) 60 27 7) hM hj h3 hs (fun c => kw (r := false) hM hj h27 hK ?_) (FrM_trans FrM_nx (FrM_f (by decide)))
  have := bg_5 (ro := ro) (c := c) (a := a) (l := l) (f := nx f (sj U n j) (ej U n j)) rfl rfl g.2.1 (by omega) (uM hM hj) w0 w5 hk2 e
  rw [decide_eq_false (show ¬ k < 16 by omega)] at this
  exact this
theorem ks_6 {ro : Nat → Option am_C} {a f : Nat → Nat → Int32} {l : Nat → Int64} {n j w wt k told : Nat} {U : Nat → Nat} (hM : MT a f n U) (hj : j ≤ n) (h3 : f 60 3 = nI j) (hs : sj U n j < n) (h27 : f 60 27 = nI wt) (hK : Kb U n j wt) (w0 : sw (uj U n j) (lj U n j) vt_0 4 = false) (w5 : sw (uj U n j) (lj U n j) vt_5 7 = false) (w6 : sw (uj U n j) (lj U n j) vt_6 6 = true) (e : a 62 9 = nI k) (h26 : f 60 26 = nI told) (hk : k < 16) : ∃ f1 : Nat → Nat → Int32, RStep ro a l f w a l f1 (w + 1) ∧ FrM a l f a l f1 ∧ Ms a f1 n U (ej U n j) 8 told := by
  have g := j_le (U := U) hj
  have hn := hM.1
  refine ⟨u3 (nx f (sj U n j) (ej U n j)) 60 27 8, m_take hM hj h3 hs (fun c => kw (r := true) hM hj h27 hK ?_), FrM_trans FrM_nx (FrM_f (by decide)), hM, rfl, rfl, h26⟩
  have := bg_6 (ro := ro) (c := c) (a := a) (l := l) (f := nx f (sj U n j) (ej U n j)) rfl rfl g.2.1 (by omega) (uM hM hj) w0 w5 w6 (show k < 2 ^ 31 by omega) e
  rw [decide_eq_true hk] at this
  exact this
theorem kf_6 {ro : Nat → Option am_C} {a f : Nat → Nat → Int32} {l : Nat → Int64} {n j w wt k : Nat} {U : Nat → Nat} (hM : MT a f n U) (hj : j ≤ n) (h3 : f 60 3 = nI j) (hs : sj U n j < n) (h27 : f 60 27 = nI wt) (hK : Kb U n j wt) (w0 : sw (uj U n j) (lj U n j) vt_0 4 = false) (w5 : sw (uj U n j) (lj U n j) vt_5 7 = false) (w6 : sw (uj U n j) (lj U n j) vt_6 6 = true) (e : a 62 9 = nI k) (hk : 16 ≤ k) (hk2 : k < 2 ^ 31) : RFail ro a l f w w := by
  have g := j_le (U := U) hj
  have hn := hM.1
  refine m_fail (a1 := a) (l1 := l) (f1 := u3 (nx f (sj U n j) (ej U n j)) 60 27 8) hM hj h3 hs (fun c => kw (r := false) hM hj h27 hK ?_) (FrM_trans FrM_nx (FrM_f (by decide)))
  have := bg_6 (ro := ro) (c := c) (a := a) (l := l) (f := nx f (sj U n j) (ej U n j)) rfl rfl g.2.1 (by omega) (uM hM hj) w0 w5 w6 hk2 e
  rw [decide_eq_false (show ¬ k < 16 by omega)] at this
  exact this
theorem ks_7 {ro : Nat → Option am_C} {a f : Nat → Nat → Int32} {l : Nat → Int64} {n j w wt k told : Nat} {U : Nat → Nat} (hM : MT a f n U) (hj : j ≤ n) (h3 : f 60 3 = nI j) (hs : sj U n j < n) (h27 : f 60 27 = nI wt) (hK : Kb U n j wt) (w0 : sw (uj U n j) (lj U n j) vt_0 4 = false) (w5 : sw (uj U n j) (lj U n j) vt_5 7 = false) (w6 : sw (uj U n j) (lj U n j) vt_6 6 = false) (w7 : sw (uj U n j) (lj U n j) vt_7 3 = true) (e : a 62 10 = nI k) (h26 : f 60 26 = nI told) (hk : k < 20) : ∃ f1 : Nat → Nat → Int32, RStep ro a l f w a l f1 (w + 1) ∧ FrM a l f a l f1 ∧ Ms a f1 n U (ej U n j) 10 told := by
  have g := j_le (U := U) hj
  have hn := hM.1
  refine ⟨u3 (nx f (sj U n j) (ej U n j)) 60 27 10, m_take hM hj h3 hs (fun c => kw (r := true) hM hj h27 hK ?_), FrM_trans FrM_nx (FrM_f (by decide)), hM, rfl, rfl, h26⟩
  have := bg_7 (ro := ro) (c := c) (a := a) (l := l) (f := nx f (sj U n j) (ej U n j)) rfl rfl g.2.1 (by omega) (uM hM hj) w0 w5 w6 w7 (show k < 2 ^ 31 by omega) e
  rw [decide_eq_true hk] at this
  exact this
theorem kf_7 {ro : Nat → Option am_C} {a f : Nat → Nat → Int32} {l : Nat → Int64} {n j w wt k : Nat} {U : Nat → Nat} (hM : MT a f n U) (hj : j ≤ n) (h3 : f 60 3 = nI j) (hs : sj U n j < n) (h27 : f 60 27 = nI wt) (hK : Kb U n j wt) (w0 : sw (uj U n j) (lj U n j) vt_0 4 = false) (w5 : sw (uj U n j) (lj U n j) vt_5 7 = false) (w6 : sw (uj U n j) (lj U n j) vt_6 6 = false) (w7 : sw (uj U n j) (lj U n j) vt_7 3 = true) (e : a 62 10 = nI k) (hk : 20 ≤ k) (hk2 : k < 2 ^ 31) : RFail ro a l f w w := by
  have g := j_le (U := U) hj
  have hn := hM.1
  refine m_fail (a1 := a) (l1 := l) (f1 := u3 (nx f (sj U n j) (ej U n j)) 60 27 10) hM hj h3 hs (fun c => kw (r := false) hM hj h27 hK ?_) (FrM_trans FrM_nx (FrM_f (by decide)))
  have := bg_7 (ro := ro) (c := c) (a := a) (l := l) (f := nx f (sj U n j) (ej U n j)) rfl rfl g.2.1 (by omega) (uM hM hj) w0 w5 w6 w7 hk2 e
  rw [decide_eq_false (show ¬ k < 20 by omega)] at this
  exact this
theorem ks_8 {ro : Nat → Option am_C} {a f : Nat → Nat → Int32} {l : Nat → Int64} {n j w wt k told : Nat} {U : Nat → Nat} (hM : MT a f n U) (hj : j ≤ n) (h3 : f 60 3 = nI j) (hs : sj U n j < n) (h27 : f 60 27 = nI wt) (hK : Kb U n j wt) (w0 : sw (uj U n j) (lj U n j) vt_0 4 = false) (w5 : sw (uj U n j) (lj U n j) vt_5 7 = false) (w6 : sw (uj U n j) (lj U n j) vt_6 6 = false) (w7 : sw (uj U n j) (lj U n j) vt_7 3 = false) (w8 : sw (uj U n j) (lj U n j) vt_8 4 = true) (e : a 62 11 = nI k) (h26 : f 60 26 = nI told) (hk : k < 20) : ∃ f1 : Nat → Nat → Int32, RStep ro a l f w a l f1 (w + 1) ∧ FrM a l f a l f1 ∧ Ms a f1 n U (ej U n j) 14 told := by
  have g := j_le (U := U) hj
  have hn := hM.1
  refine ⟨u3 (nx f (sj U n j) (ej U n j)) 60 27 14, m_take hM hj h3 hs (fun c => kw (r := true) hM hj h27 hK ?_), FrM_trans FrM_nx (FrM_f (by decide)), hM, rfl, rfl, h26⟩
  have := bg_8 (ro := ro) (c := c) (a := a) (l := l) (f := nx f (sj U n j) (ej U n j)) rfl rfl g.2.1 (by omega) (uM hM hj) w0 w5 w6 w7 w8 (show k < 2 ^ 31 by omega) e
  rw [decide_eq_true hk] at this
  exact this
theorem kf_8 {ro : Nat → Option am_C} {a f : Nat → Nat → Int32} {l : Nat → Int64} {n j w wt k : Nat} {U : Nat → Nat} (hM : MT a f n U) (hj : j ≤ n) (h3 : f 60 3 = nI j) (hs : sj U n j < n) (h27 : f 60 27 = nI wt) (hK : Kb U n j wt) (w0 : sw (uj U n j) (lj U n j) vt_0 4 = false) (w5 : sw (uj U n j) (lj U n j) vt_5 7 = false) (w6 : sw (uj U n j) (lj U n j) vt_6 6 = false) (w7 : sw (uj U n j) (lj U n j) vt_7 3 = false) (w8 : sw (uj U n j) (lj U n j) vt_8 4 = true) (e : a 62 11 = nI k) (hk : 20 ≤ k) (hk2 : k < 2 ^ 31) : RFail ro a l f w w := by
  have g := j_le (U := U) hj
  have hn := hM.1
  refine m_fail (a1 := a) (l1 := l) (f1 := u3 (nx f (sj U n j) (ej U n j)) 60 27 14) hM hj h3 hs (fun c => kw (r := false) hM hj h27 hK ?_) (FrM_trans FrM_nx (FrM_f (by decide)))
  have := bg_8 (ro := ro) (c := c) (a := a) (l := l) (f := nx f (sj U n j) (ej U n j)) rfl rfl g.2.1 (by omega) (uM hM hj) w0 w5 w6 w7 w8 hk2 e
  rw [decide_eq_false (show ¬ k < 20 by omega)] at this
  exact this
theorem kf_n {ro : Nat → Option am_C} {a f : Nat → Nat → Int32} {l : Nat → Int64} {n j w wt : Nat} {U : Nat → Nat} (hM : MT a f n U) (hj : j ≤ n) (h3 : f 60 3 = nI j) (hs : sj U n j < n) (h27 : f 60 27 = nI wt) (hK : Kb U n j wt) (w0 : sw (uj U n j) (lj U n j) vt_0 4 = false) (w5 : sw (uj U n j) (lj U n j) vt_5 7 = false) (w6 : sw (uj U n j) (lj U n j) vt_6 6 = false) (w7 : sw (uj U n j) (lj U n j) vt_7 3 = false) (w8 : sw (uj U n j) (lj U n j) vt_8 4 = false) : RFail ro a l f w w := by
  have g := j_le (U := U) hj
  have hn := hM.1
  refine m_fail (a1 := a) (l1 := l) (f1 := nx f (sj U n j) (ej U n j)) hM hj h3 hs (fun c => kw (r := false) hM hj h27 hK ?_) FrM_nx
  exact bg_n (ro := ro) (c := c) (a := a) (l := l) (f := nx f (sj U n j) (ej U n j)) rfl rfl g.2.1 (by omega) (uM hM hj) w0 w5 w6 w7 w8
