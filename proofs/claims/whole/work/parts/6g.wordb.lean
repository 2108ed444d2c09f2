/-! THE REFERENCE, a word at a time -/
theorem nv_in {U : Nat → Nat} {n j b x : Nat} (hj : j ≤ n) (hx : x < 2 ^ 31) (hv : nv (uj U n j) (lj U n j) b = nI x) : sj U n j < n := by
  by_cases hs : sj U n j < n
  · exact hs
  · have g := j_le (U := U) hj
    have e : lj U n j = 0 := by
      unfold lj
      omega
    rw [e, nv_0] at hv
    exact absurd hv.symm (nI_n1 hx)
theorem lj_in {U : Nat → Nat} {n j : Nat} (hj : j ≤ n) (h : ¬ lj U n j = 0) : sj U n j < n := by
  by_cases hs : sj U n j < n
  · exact hs
  · have g := j_le (U := U) hj
    unfold lj at h
    omega
theorem g_t {x : Nat} (hx : x < 2 ^ 31) : nI x < 0 ↔ true = false := ⟨fun z => absurd z (nI_pos hx), fun z => by cases z⟩
theorem g_f : (-1 : Int32) < 0 ↔ false = false := ⟨fun _ => rfl, fun _ => by decide⟩
theorem w_1 {ro : Nat → Option am_C} {a f : Nat → Nat → Int32} {l : Nat → Int64} {n j w told : Nat} {U : Nat → Nat} (hj : j ≤ n) (h : Ms a f n U j 1 told) {nb nc : Nat} (hb : nb < 30) (hc : nc ≤ 60) (e6 : a 62 6 = nI nb) (e7 : a 62 7 = nI nc) {x : Nat} (hx : x < 1000000) (hv : nv (uj U n j) (lj U n j) 1000000 = nI x) : ∃ f1 : Nat → Nat → Int32, RStep ro a l f w (u2 a 63 (upd (a 63) (30 + nb) (nI x))) l f1 (w + 1) ∧ FrM a l f (u2 a 63 (upd (a 63) (30 + nb) (nI x))) l f1 ∧ Ms (u2 a 63 (upd (a 63) (30 + nb) (nI x))) f1 n U (ej U n j) 2 told := by
  obtain ⟨hM, h3, h27, h26⟩ := h
  have hs := nv_in hj (show x < 2 ^ 31 by omega) hv
  refine ⟨(u3 (nx f (sj U n j) (ej U n j)) 60 27 (2)), m_take hM hj h3 hs (fun c => nw_b (k := 1) (r := true) hM hj hs h27 (by decide) (by decide) (by decide) hv (tb_1 (f := (nx f (sj U n j) (ej U n j))) (g := true) hb hc e6 e7 h27 (g_t (x := x) (by omega)))), ?_, hM, rfl, rfl, ?_⟩
  · repeat (first | exact FrM_refl | exact FrM_nx | refine FrM_trans ?_ (FrM_l (by omega)) | refine FrM_trans ?_ (FrM_f (by decide)) | refine FrM_trans ?_ (FrM_a (by decide) (by decide) (by simp [hf] <;> omega)))
  · exact h26
theorem w_1f {ro : Nat → Option am_C} {a f : Nat → Nat → Int32} {l : Nat → Int64} {n j w told : Nat} {U : Nat → Nat} (hj : j ≤ n) (h : Ms a f n U j 1 told) {nb nc : Nat} (hb : nb < 30) (hc : nc ≤ 60) (e6 : a 62 6 = nI nb) (e7 : a 62 7 = nI nc) (hv : nv (uj U n j) (lj U n j) 1000000 = -1) : RFail ro a l f w w := by
  obtain ⟨hM, h3, h27, h26⟩ := h
  by_cases hs : sj U n j < n
  · refine m_fail hM hj h3 hs (fun c => nw_b (k := 1) (r := false) hM hj hs h27 (by decide) (by decide) (by decide) hv (tb_1 (f := (nx f (sj U n j) (ej U n j))) (g := false) hb hc e6 e7 h27 g_f)) ?_
    repeat (first | exact FrM_refl | exact FrM_nx | refine FrM_trans ?_ (FrM_l (by omega)) | refine FrM_trans ?_ (FrM_f (by decide)) | refine FrM_trans ?_ (FrM_a (by decide) (by decide) (by simp [hf] <;> omega)))
  · exact m_over hM hj h3 hs h27 (by decide) (by decide) (by decide)
theorem w_2 {ro : Nat → Option am_C} {a f : Nat → Nat → Int32} {l : Nat → Int64} {n j w told : Nat} {U : Nat → Nat} (hj : j ≤ n) (h : Ms a f n U j 2 told) {nb nc : Nat} (hb : nb < 30) (hc : nc ≤ 60) (e6 : a 62 6 = nI nb) (e7 : a 62 7 = nI nc) {x : Nat} (hx : x < 10) (hv : nv (uj U n j) (lj U n j) 1000000 = nI x) : ∃ f1 : Nat → Nat → Int32, RStep ro a l f w (u2 (u2 (u2 a 64 (upd (a 64) (30 + nb) (nI x))) 65 (upd (a 65) (31 + nb) (nI nc))) 62 (upd (a 62) 6 (nI (nb + 1)))) l f1 (w + 1) ∧ FrM a l f (u2 (u2 (u2 a 64 (upd (a 64) (30 + nb) (nI x))) 65 (upd (a 65) (31 + nb) (nI nc))) 62 (upd (a 62) 6 (nI (nb + 1)))) l f1 ∧ Ms (u2 (u2 (u2 a 64 (upd (a 64) (30 + nb) (nI x))) 65 (upd (a 65) (31 + nb) (nI nc))) 62 (upd (a 62) 6 (nI (nb + 1)))) f1 n U (ej U n j) 3 (told + 1) := by
  obtain ⟨hM, h3, h27, h26⟩ := h
  have hs := nv_in hj (show x < 2 ^ 31 by omega) hv
  refine ⟨(u3 (u3 (nx f (sj U n j) (ej U n j)) 60 26 (f 60 26 + 1)) 60 27 (3)), m_take hM hj h3 hs (fun c => nw_b (k := 2) (r := true) hM hj hs h27 (by decide) (by decide) (by decide) hv (tb_2t (f := (nx f (sj U n j) (ej U n j))) hb hc e6 e7 h27 hx)), ?_, hM, rfl, rfl, ?_⟩
  · repeat (first | exact FrM_refl | exact FrM_nx | refine FrM_trans ?_ (FrM_l (by omega)) | refine FrM_trans ?_ (FrM_f (by decide)) | refine FrM_trans ?_ (FrM_a (by decide) (by decide) (by simp [hf] <;> omega)))
  · show f 60 26 + 1 = nI (told + 1)
    rw [h26, nI_1]
theorem w_2f {ro : Nat → Option am_C} {a f : Nat → Nat → Int32} {l : Nat → Int64} {n j w told : Nat} {U : Nat → Nat} (hj : j ≤ n) (h : Ms a f n U j 2 told) {nb nc : Nat} (hb : nb < 30) (hc : nc ≤ 60) (e6 : a 62 6 = nI nb) (e7 : a 62 7 = nI nc) {v : Int32} (hv : nv (uj U n j) (lj U n j) 1000000 = v) (hq : v < 0 ∨ nI 10 ≤ v) : RFail ro a l f w w := by
  obtain ⟨hM, h3, h27, h26⟩ := h
  by_cases hs : sj U n j < n
  · refine m_fail hM hj h3 hs (fun c => nw_b (k := 2) (r := false) hM hj hs h27 (by decide) (by decide) (by decide) hv (tb_2f (f := (nx f (sj U n j) (ej U n j))) hb hc e6 e7 h27 hq)) ?_
    repeat (first | exact FrM_refl | exact FrM_nx | refine FrM_trans ?_ (FrM_l (by omega)) | refine FrM_trans ?_ (FrM_f (by decide)) | refine FrM_trans ?_ (FrM_a (by decide) (by decide) (by simp [hf] <;> omega)))
  · exact m_over hM hj h3 hs h27 (by decide) (by decide) (by decide)
theorem w_3 {ro : Nat → Option am_C} {a f : Nat → Nat → Int32} {l : Nat → Int64} {n j w told : Nat} {U : Nat → Nat} (hj : j ≤ n) (h : Ms a f n U j 3 told) {nc : Nat} (hc : nc < 60) (e7 : a 62 7 = nI nc) (hs : sj U n j < n) (hb : sw (uj U n j) (lj U n j) vt_1 4 = true) : ∃ f1 : Nat → Nat → Int32, RStep ro a l f w a l f1 (w + 1) ∧ FrM a l f a l f1 ∧ Ms a f1 n U (ej U n j) 4 told := by
  obtain ⟨hM, h3, h27, h26⟩ := h
  have g := j_le (U := U) hj
  have hn := hM.1
  refine ⟨u3 (nx f (sj U n j) (ej U n j)) 60 27 4, m_take hM hj h3 hs (fun c => ?_), FrM_trans FrM_nx (FrM_f (by decide)), hM, rfl, rfl, h26⟩
  have := tk_3w (ro := ro) (c := c) (a := a) (l := l) (f := (nx f (sj U n j) (ej U n j))) rfl rfl g.2.1 (by omega) (uM hM hj) h27 hb (by omega) e7
  rw [decide_eq_true hc] at this
  exact this
theorem w_3f {ro : Nat → Option am_C} {a f : Nat → Nat → Int32} {l : Nat → Int64} {n j w told : Nat} {U : Nat → Nat} (hj : j ≤ n) (h : Ms a f n U j 3 told) {nc : Nat} (hc : nc = 60) (e7 : a 62 7 = nI nc) (hs : sj U n j < n) (hb : sw (uj U n j) (lj U n j) vt_1 4 = true) : RFail ro a l f w w := by
  obtain ⟨hM, h3, h27, h26⟩ := h
  have g := j_le (U := U) hj
  have hn := hM.1
  refine m_fail (a1 := a) (l1 := l) (f1 := u3 (nx f (sj U n j) (ej U n j)) 60 27 4) hM hj h3 hs (fun c => ?_) (FrM_trans FrM_nx (FrM_f (by decide)))
  have := tk_3w (ro := ro) (c := c) (a := a) (l := l) (f := (nx f (sj U n j) (ej U n j))) rfl rfl g.2.1 (by omega) (uM hM hj) h27 hb (by omega) e7
  rw [decide_eq_false (show ¬ nc < 60 by omega)] at this
  exact this
theorem w_4 {ro : Nat → Option am_C} {a f : Nat → Nat → Int32} {l : Nat → Int64} {n j w told : Nat} {U : Nat → Nat} (hj : j ≤ n) (h : Ms a f n U j 4 told) {nb nc : Nat} (hb : nb ≤ 30) (hc : nc < 60) (e6 : a 62 6 = nI nb) (e7 : a 62 7 = nI nc) {x : Nat} (hx : x < 10) (hv : nv (uj U n j) (lj U n j) 1000000 = nI x) : ∃ f1 : Nat → Nat → Int32, RStep ro a l f w (u2 a 66 (upd (a 66) (180 + 3 * nc) (nI x))) l f1 (w + 1) ∧ FrM a l f (u2 a 66 (upd (a 66) (180 + 3 * nc) (nI x))) l f1 ∧ Ms (u2 a 66 (upd (a 66) (180 + 3 * nc) (nI x))) f1 n U (ej U n j) 5 told := by
  obtain ⟨hM, h3, h27, h26⟩ := h
  have hs := nv_in hj (show x < 2 ^ 31 by omega) hv
  refine ⟨(u3 (nx f (sj U n j) (ej U n j)) 60 27 (5)), m_take hM hj h3 hs (fun c => nw_b (k := 4) (r := true) hM hj hs h27 (by decide) (by decide) (by decide) hv (tb_4t (f := (nx f (sj U n j) (ej U n j))) hb hc e6 e7 h27 hx)), ?_, hM, rfl, rfl, ?_⟩
  · repeat (first | exact FrM_refl | exact FrM_nx | refine FrM_trans ?_ (FrM_l (by omega)) | refine FrM_trans ?_ (FrM_f (by decide)) | refine FrM_trans ?_ (FrM_a (by decide) (by decide) (by simp [hf] <;> omega)))
  · exact h26
theorem w_4f {ro : Nat → Option am_C} {a f : Nat → Nat → Int32} {l : Nat → Int64} {n j w told : Nat} {U : Nat → Nat} (hj : j ≤ n) (h : Ms a f n U j 4 told) {nb nc : Nat} (hb : nb ≤ 30) (hc : nc < 60) (e6 : a 62 6 = nI nb) (e7 : a 62 7 = nI nc) {v : Int32} (hv : nv (uj U n j) (lj U n j) 1000000 = v) (hq : v < 0 ∨ nI 10 ≤ v) : RFail ro a l f w w := by
  obtain ⟨hM, h3, h27, h26⟩ := h
  by_cases hs : sj U n j < n
  · refine m_fail hM hj h3 hs (fun c => nw_b (k := 4) (r := false) hM hj hs h27 (by decide) (by decide) (by decide) hv (tb_4f (f := (nx f (sj U n j) (ej U n j))) hb hc e6 e7 h27 hq)) ?_
    repeat (first | exact FrM_refl | exact FrM_nx | refine FrM_trans ?_ (FrM_l (by omega)) | refine FrM_trans ?_ (FrM_f (by decide)) | refine FrM_trans ?_ (FrM_a (by decide) (by decide) (by simp [hf] <;> omega)))
  · exact m_over hM hj h3 hs h27 (by decide) (by decide) (by decide)
theorem w_5 {ro : Nat → Option am_C} {a f : Nat → Nat → Int32} {l : Nat → Int64} {n j w told : Nat} {U : Nat → Nat} (hj : j ≤ n) (h : Ms a f n U j 5 told) {nb nc : Nat} (hb : nb ≤ 30) (hc : nc < 60) (e6 : a 62 6 = nI nb) (e7 : a 62 7 = nI nc) (ho : oq (uj U n j) (lj U n j) = true) : ∃ f1 : Nat → Nat → Int32, RStep ro a l f w (u2 a 66 (upd (a 66) (180 + 3 * nc + 1) (nI (uj U n j 0)))) l f1 (w + 1) ∧ FrM a l f (u2 a 66 (upd (a 66) (180 + 3 * nc + 1) (nI (uj U n j 0)))) l f1 ∧ Ms (u2 a 66 (upd (a 66) (180 + 3 * nc + 1) (nI (uj U n j 0)))) f1 n U (ej U n j) 6 told := by
  obtain ⟨hM, h3, h27, h26⟩ := h
  have g := j_le (U := U) hj
  have hn := hM.1
  have hs := lj_in hj (show ¬ lj U n j = 0 by rw [oq_1 ho]; decide)
  have hv : nv (uj U n j) (lj U n j) 1000000 = nv (uj U n j) (lj U n j) 1000000 := rfl
  refine ⟨(u3 (nx f (sj U n j) (ej U n j)) 60 27 (6)), m_take hM hj h3 hs (fun c => nw_b (k := 5) (r := true) hM hj hs h27 (by decide) (by decide) (by decide) hv (by have := tb_5 (ro := ro) (c := c) (a := a) (l := l) (f := (nx f (sj U n j) (ej U n j))) (v := nv (uj U n j) (lj U n j) 1000000) hb hc e6 e7 h27 rfl rfl (j_lt hj hs) (by omega) (uM hM hj); rw [show oq (uj U n j) (ej U n j - sj U n j) = true from ho] at this; exact this)), ?_, hM, rfl, rfl, ?_⟩
  · repeat (first | exact FrM_refl | exact FrM_nx | refine FrM_trans ?_ (FrM_l (by omega)) | refine FrM_trans ?_ (FrM_f (by decide)) | refine FrM_trans ?_ (FrM_a (by decide) (by decide) (by simp [hf] <;> omega)))
  · exact h26
theorem w_5f {ro : Nat → Option am_C} {a f : Nat → Nat → Int32} {l : Nat → Int64} {n j w told : Nat} {U : Nat → Nat} (hj : j ≤ n) (h : Ms a f n U j 5 told) {nb nc : Nat} (hb : nb ≤ 30) (hc : nc < 60) (e6 : a 62 6 = nI nb) (e7 : a 62 7 = nI nc) (ho : oq (uj U n j) (lj U n j) = false) : RFail ro a l f w w := by
  obtain ⟨hM, h3, h27, h26⟩ := h
  have g := j_le (U := U) hj
  have hn := hM.1
  by_cases hs : sj U n j < n
  · refine m_fail (a1 := (u2 a 66 (upd (a 66) (180 + 3 * nc + 1) (nI (uj U n j 0))))) (l1 := l) (f1 := (u3 (nx f (sj U n j) (ej U n j)) 60 27 (6))) hM hj h3 hs (fun c => nw_b (k := 5) (r := false) hM hj hs h27 (by decide) (by decide) (by decide) rfl ?_) ?_
    · have := tb_5 (ro := ro) (c := c) (a := a) (l := l) (f := (nx f (sj U n j) (ej U n j))) (v := nv (uj U n j) (lj U n j) 1000000) hb hc e6 e7 h27 rfl rfl (j_lt hj hs) (by omega) (uM hM hj)
      rw [show oq (uj U n j) (ej U n j - sj U n j) = false from ho] at this
      exact this
    · repeat (first | exact FrM_refl | exact FrM_nx | refine FrM_trans ?_ (FrM_l (by omega)) | refine FrM_trans ?_ (FrM_f (by decide)) | refine FrM_trans ?_ (FrM_a (by decide) (by decide) (by simp [hf] <;> omega)))
  · exact m_over hM hj h3 hs h27 (by decide) (by decide) (by decide)
theorem w_6 {ro : Nat → Option am_C} {a f : Nat → Nat → Int32} {l : Nat → Int64} {n j w told : Nat} {U : Nat → Nat} (hj : j ≤ n) (h : Ms a f n U j 6 told) {nb nc : Nat} (hb : nb ≤ 30) (hc : nc < 60) (e6 : a 62 6 = nI nb) (e7 : a 62 7 = nI nc) {x : Nat} (hx : x < 1000000) (hv : nv (uj U n j) (lj U n j) 1000000 = nI x) : ∃ f1 : Nat → Nat → Int32, RStep ro a l f w (u2 (u2 a 66 (upd (a 66) (180 + 3 * nc + 2) (nI x))) 62 (upd (a 62) 7 (nI (nc + 1)))) l f1 (w + 1) ∧ FrM a l f (u2 (u2 a 66 (upd (a 66) (180 + 3 * nc + 2) (nI x))) 62 (upd (a 62) 7 (nI (nc + 1)))) l f1 ∧ Ms (u2 (u2 a 66 (upd (a 66) (180 + 3 * nc + 2) (nI x))) 62 (upd (a 62) 7 (nI (nc + 1)))) f1 n U (ej U n j) 3 told := by
  obtain ⟨hM, h3, h27, h26⟩ := h
  have hs := nv_in hj (show x < 2 ^ 31 by omega) hv
  refine ⟨(u3 (nx f (sj U n j) (ej U n j)) 60 27 (3)), m_take hM hj h3 hs (fun c => nw_b (k := 6) (r := true) hM hj hs h27 (by decide) (by decide) (by decide) hv (tb_6 (f := (nx f (sj U n j) (ej U n j))) (g := true) hb hc e6 e7 h27 (g_t (x := x) (by omega)))), ?_, hM, rfl, rfl, ?_⟩
  · repeat (first | exact FrM_refl | exact FrM_nx | refine FrM_trans ?_ (FrM_l (by omega)) | refine FrM_trans ?_ (FrM_f (by decide)) | refine FrM_trans ?_ (FrM_a (by decide) (by decide) (by simp [hf] <;> omega)))
  · exact h26
theorem w_6f {ro : Nat → Option am_C} {a f : Nat → Nat → Int32} {l : Nat → Int64} {n j w told : Nat} {U : Nat → Nat} (hj : j ≤ n) (h : Ms a f n U j 6 told) {nb nc : Nat} (hb : nb ≤ 30) (hc : nc < 60) (e6 : a 62 6 = nI nb) (e7 : a 62 7 = nI nc) (hv : nv (uj U n j) (lj U n j) 1000000 = -1) : RFail ro a l f w w := by
  obtain ⟨hM, h3, h27, h26⟩ := h
  by_cases hs : sj U n j < n
  · refine m_fail hM hj h3 hs (fun c => nw_b (k := 6) (r := false) hM hj hs h27 (by decide) (by decide) (by decide) hv (tb_6 (f := (nx f (sj U n j) (ej U n j))) (g := false) hb hc e6 e7 h27 g_f)) ?_
    repeat (first | exact FrM_refl | exact FrM_nx | refine FrM_trans ?_ (FrM_l (by omega)) | refine FrM_trans ?_ (FrM_f (by decide)) | refine FrM_trans ?_ (FrM_a (by decide) (by decide) (by simp [hf] <;> omega)))
  · exact m_over hM hj h3 hs h27 (by decide) (by decide) (by decide)
