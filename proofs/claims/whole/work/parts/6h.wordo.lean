/-! the reference, a word at a time: the other sentences -/
theorem FrM_9 {a f : Nat → Nat → Int32} {l : Nat → Int64} {p q : Nat} {v w : Int32} (hp : 32 ≤ p) (hq : 32 ≤ q) : FrM a l f (u2 a 68 (upd (upd (a 68) p v) q w)) l f := by
  refine ⟨fun x hx => u2_ne (by omega), fun x i g1 g2 g3 => ?_, fun _ _ => rfl, fun _ _ => rfl, rfl⟩
  by_cases hz : x = 68
  · subst hz
    have g4 : i < 32 := g3
    rw [u2_same, upd_ne (by omega), upd_ne (by omega)]
  · rw [u2_ne hz]
theorem w_7 {ro : Nat → Option am_C} {a f : Nat → Nat → Int32} {l : Nat → Int64} {n j w told : Nat} {U : Nat → Nat} (hj : j ≤ n) (h : Ms a f n U j 7 told) {k : Nat} (hk : k < 16) (e : a 62 8 = nI k) {x : Nat} (hx : x < 1000000) (hv : nv (uj U n j) (lj U n j) 1000000 = nI x) : ∃ f1 : Nat → Nat → Int32, RStep ro a l f w (u2 (u2 a 67 (upd (a 67) (16 + k) (nI x))) 62 (upd (a 62) 8 (nI (k + 1)))) l f1 (w + 1) ∧ FrM a l f (u2 (u2 a 67 (upd (a 67) (16 + k) (nI x))) 62 (upd (a 62) 8 (nI (k + 1)))) l f1 ∧ Ms (u2 (u2 a 67 (upd (a 67) (16 + k) (nI x))) 62 (upd (a 62) 8 (nI (k + 1)))) f1 n U (ej U n j) 0 (told + 1) := by
  obtain ⟨hM, h3, h27, h26⟩ := h
  have hs := nv_in hj (show x < 2 ^ 31 by omega) hv
  refine ⟨(u3 (u3 (nx f (sj U n j) (ej U n j)) 60 26 (f 60 26 + 1)) 60 27 (0)), m_take hM hj h3 hs (fun c => nw_o (k := 7) (r := true) hM hj hs h27 (by decide) (by decide) hv (to_7 (f := (nx f (sj U n j) (ej U n j))) (g := true) hk e h27 (g_t (x := x) (by omega)))), ?_, hM, rfl, rfl, ?_⟩
  · repeat (first | exact FrM_refl | exact FrM_nx | refine FrM_trans ?_ (FrM_l (by omega)) | refine FrM_trans ?_ (FrM_f (by decide)) | refine FrM_trans ?_ (FrM_a (by decide) (by decide) (by simp [hf] <;> omega)))
  · show f 60 26 + 1 = nI (told + 1)
    rw [h26, nI_1]
theorem w_7f {ro : Nat → Option am_C} {a f : Nat → Nat → Int32} {l : Nat → Int64} {n j w told : Nat} {U : Nat → Nat} (hj : j ≤ n) (h : Ms a f n U j 7 told) {k : Nat} (hk : k < 16) (e : a 62 8 = nI k) (hv : nv (uj U n j) (lj U n j) 1000000 = -1) : RFail ro a l f w w := by
  obtain ⟨hM, h3, h27, h26⟩ := h
  by_cases hs : sj U n j < n
  · refine m_fail hM hj h3 hs (fun c => nw_o (k := 7) (r := false) hM hj hs h27 (by decide) (by decide) hv (to_7 (f := (nx f (sj U n j) (ej U n j))) (g := false) hk e h27 g_f)) ?_
    repeat (first | exact FrM_refl | exact FrM_nx | refine FrM_trans ?_ (FrM_l (by omega)) | refine FrM_trans ?_ (FrM_f (by decide)) | refine FrM_trans ?_ (FrM_a (by decide) (by decide) (by simp [hf] <;> omega)))
  · exact m_over hM hj h3 hs h27 (by decide) (by decide) (by decide)
theorem w_8 {ro : Nat → Option am_C} {a f : Nat → Nat → Int32} {l : Nat → Int64} {n j w told : Nat} {U : Nat → Nat} (hj : j ≤ n) (h : Ms a f n U j 8 told) {k : Nat} (hk : k < 16) (e : a 62 9 = nI k) {x : Nat} (hx : x < 1000000) (hv : nv (uj U n j) (lj U n j) 1000000 = nI x) (hm : an (fun q => decide (a 68 (32 + q) = nI x)) 0 (2 * k) = false) : ∃ f1 : Nat → Nat → Int32, RStep ro a l f w a l f1 (w + 1) ∧ FrM a l f a l f1 ∧ Ms a f1 n U (ej U n j) 9 told ∧ f1 60 28 = nI x := by
  obtain ⟨hM, h3, h27, h26⟩ := h
  have hs := nv_in hj (show x < 2 ^ 31 by omega) hv
  refine ⟨(u3 (u3 (nx f (sj U n j) (ej U n j)) 60 28 (nI x)) 60 27 (9)), m_take hM hj h3 hs (fun c => nw_o (k := 8) (r := true) hM hj hs h27 (by decide) (by decide) hv (to_8t (f := (nx f (sj U n j) (ej U n j))) (by omega) e h27 (nI_pos (by omega)) hm)), ?_, ⟨hM, rfl, rfl, ?_⟩, rfl⟩
  · repeat (first | exact FrM_refl | exact FrM_nx | refine FrM_trans ?_ (FrM_l (by omega)) | refine FrM_trans ?_ (FrM_f (by decide)) | refine FrM_trans ?_ (FrM_a (by decide) (by decide) (by simp [hf] <;> omega)))
  · exact h26
theorem w_8f {ro : Nat → Option am_C} {a f : Nat → Nat → Int32} {l : Nat → Int64} {n j w told : Nat} {U : Nat → Nat} (hj : j ≤ n) (h : Ms a f n U j 8 told) {k : Nat} (hk : k < 16) (e : a 62 9 = nI k) (hv : nv (uj U n j) (lj U n j) 1000000 = -1) : RFail ro a l f w w := by
  obtain ⟨hM, h3, h27, h26⟩ := h
  by_cases hs : sj U n j < n
  · refine m_fail hM hj h3 hs (fun c => nw_o (k := 8) (r := false) hM hj hs h27 (by decide) (by decide) hv (to_8n (f := (nx f (sj U n j) (ej U n j))) (by omega) e h27 (by decide))) ?_
    repeat (first | exact FrM_refl | exact FrM_nx | refine FrM_trans ?_ (FrM_l (by omega)) | refine FrM_trans ?_ (FrM_f (by decide)) | refine FrM_trans ?_ (FrM_a (by decide) (by decide) (by simp [hf] <;> omega)))
  · exact m_over hM hj h3 hs h27 (by decide) (by decide) (by decide)
theorem w_8m {ro : Nat → Option am_C} {a f : Nat → Nat → Int32} {l : Nat → Int64} {n j w told : Nat} {U : Nat → Nat} (hj : j ≤ n) (h : Ms a f n U j 8 told) {k : Nat} (hk : k < 16) (e : a 62 9 = nI k) {x : Nat} (hx : x < 1000000) (hv : nv (uj U n j) (lj U n j) 1000000 = nI x) (hm : an (fun q => decide (a 68 (32 + q) = nI x)) 0 (2 * k) = true) : RFail ro a l f w w := by
  obtain ⟨hM, h3, h27, h26⟩ := h
  have hs := nv_in hj (show x < 2 ^ 31 by omega) hv
  refine m_fail hM hj h3 hs (fun c => nw_o (k := 8) (r := false) hM hj hs h27 (by decide) (by decide) hv (to_8m (f := (nx f (sj U n j) (ej U n j))) (by omega) e h27 (nI_pos (by omega)) hm)) ?_
  repeat (first | exact FrM_refl | exact FrM_nx | refine FrM_trans ?_ (FrM_l (by omega)) | refine FrM_trans ?_ (FrM_f (by decide)) | refine FrM_trans ?_ (FrM_a (by decide) (by decide) (by simp [hf] <;> omega)))
theorem w_9 {ro : Nat → Option am_C} {a f : Nat → Nat → Int32} {l : Nat → Int64} {n j w told : Nat} {U : Nat → Nat} (hj : j ≤ n) (h : Ms a f n U j 9 told) {k : Nat} (hk : k < 16) (e : a 62 9 = nI k) {y : Nat} (hy : y < 1000000) (h28 : f 60 28 = nI y) {x : Nat} (hx : x < 1000000) (hv : nv (uj U n j) (lj U n j) 1000000 = nI x) (hxy : ¬ x = y) (hm : an (fun q => decide (a 68 (32 + q) = nI x)) 0 (2 * k) = false) : ∃ f1 : Nat → Nat → Int32, RStep ro a l f w (u2 (u2 a 68 (upd (upd (a 68) (32 + 2 * k) (f 60 28)) (33 + 2 * k) (nI x))) 62 (upd (a 62) 9 (nI (k + 1)))) l f1 (w + 1) ∧ FrM a l f (u2 (u2 a 68 (upd (upd (a 68) (32 + 2 * k) (f 60 28)) (33 + 2 * k) (nI x))) 62 (upd (a 62) 9 (nI (k + 1)))) l f1 ∧ Ms (u2 (u2 a 68 (upd (upd (a 68) (32 + 2 * k) (f 60 28)) (33 + 2 * k) (nI x))) 62 (upd (a 62) 9 (nI (k + 1)))) f1 n U (ej U n j) 0 (told + 1) := by
  obtain ⟨hM, h3, h27, h26⟩ := h
  have hs := nv_in hj (show x < 2 ^ 31 by omega) hv
  refine ⟨(u3 (u3 (nx f (sj U n j) (ej U n j)) 60 26 (f 60 26 + 1)) 60 27 (0)), m_take hM hj h3 hs (fun c => nw_o (k := 9) (r := true) hM hj hs h27 (by decide) (by decide) hv (to_9t (f := (nx f (sj U n j) (ej U n j))) hk e h27 (nI_pos (by omega)) (by intro z; have z1 : nI x = nI y := z.trans h28; rw [nI_eq (by omega) (by omega)] at z1; exact hxy z1) hm)), ?_, hM, rfl, rfl, ?_⟩
  · repeat (first | exact FrM_refl | exact FrM_nx | refine FrM_trans ?_ (FrM_l (by omega)) | refine FrM_trans ?_ (FrM_f (by decide)) | refine FrM_trans ?_ (FrM_9 (by omega) (by omega)) | refine FrM_trans ?_ (FrM_a (by decide) (by decide) (by simp [hf] <;> omega)))
  · show f 60 26 + 1 = nI (told + 1)
    rw [h26, nI_1]
theorem w_9f {ro : Nat → Option am_C} {a f : Nat → Nat → Int32} {l : Nat → Int64} {n j w told : Nat} {U : Nat → Nat} (hj : j ≤ n) (h : Ms a f n U j 9 told) {k : Nat} (hk : k < 16) (e : a 62 9 = nI k) (hv : nv (uj U n j) (lj U n j) 1000000 = -1) : RFail ro a l f w w := by
  obtain ⟨hM, h3, h27, h26⟩ := h
  by_cases hs : sj U n j < n
  · refine m_fail hM hj h3 hs (fun c => nw_o (k := 9) (r := false) hM hj hs h27 (by decide) (by decide) hv (to_9n (f := (nx f (sj U n j) (ej U n j))) hk e h27 (by decide))) ?_
    repeat (first | exact FrM_refl | exact FrM_nx | refine FrM_trans ?_ (FrM_l (by omega)) | refine FrM_trans ?_ (FrM_f (by decide)) | refine FrM_trans ?_ (FrM_a (by decide) (by decide) (by simp [hf] <;> omega)))
  · exact m_over hM hj h3 hs h27 (by decide) (by decide) (by decide)
theorem w_9e {ro : Nat → Option am_C} {a f : Nat → Nat → Int32} {l : Nat → Int64} {n j w told : Nat} {U : Nat → Nat} (hj : j ≤ n) (h : Ms a f n U j 9 told) {k : Nat} (hk : k < 16) (e : a 62 9 = nI k) {y : Nat} (hy : y < 1000000) (h28 : f 60 28 = nI y) {x : Nat} (hx : x < 1000000) (hv : nv (uj U n j) (lj U n j) 1000000 = nI x) (hxy : x = y) : RFail ro a l f w w := by
  obtain ⟨hM, h3, h27, h26⟩ := h
  have hs := nv_in hj (show x < 2 ^ 31 by omega) hv
  refine m_fail hM hj h3 hs (fun c => nw_o (k := 9) (r := false) hM hj hs h27 (by decide) (by decide) hv (to_9e (f := (nx f (sj U n j) (ej U n j))) hk e h27 (nI_pos (by omega)) (by rw [hxy]; exact h28.symm))) ?_
  repeat (first | exact FrM_refl | exact FrM_nx | refine FrM_trans ?_ (FrM_l (by omega)) | refine FrM_trans ?_ (FrM_f (by decide)) | refine FrM_trans ?_ (FrM_a (by decide) (by decide) (by simp [hf] <;> omega)))
theorem w_9m {ro : Nat → Option am_C} {a f : Nat → Nat → Int32} {l : Nat → Int64} {n j w told : Nat} {U : Nat → Nat} (hj : j ≤ n) (h : Ms a f n U j 9 told) {k : Nat} (hk : k < 16) (e : a 62 9 = nI k) {y : Nat} (hy : y < 1000000) (h28 : f 60 28 = nI y) {x : Nat} (hx : x < 1000000) (hv : nv (uj U n j) (lj U n j) 1000000 = nI x) (hxy : ¬ x = y) (hm : an (fun q => decide (a 68 (32 + q) = nI x)) 0 (2 * k) = true) : RFail ro a l f w w := by
  obtain ⟨hM, h3, h27, h26⟩ := h
  have hs := nv_in hj (show x < 2 ^ 31 by omega) hv
  refine m_fail hM hj h3 hs (fun c => nw_o (k := 9) (r := false) hM hj hs h27 (by decide) (by decide) hv (to_9m (f := (nx f (sj U n j) (ej U n j))) hk e h27 (nI_pos (by omega)) (by intro z; have z1 : nI x = nI y := z.trans h28; rw [nI_eq (by omega) (by omega)] at z1; exact hxy z1) hm)) ?_
  repeat (first | exact FrM_refl | exact FrM_nx | refine FrM_trans ?_ (FrM_l (by omega)) | refine FrM_trans ?_ (FrM_f (by decide)) | refine FrM_trans ?_ (FrM_a (by decide) (by decide) (by simp [hf] <;> omega)))
theorem w_10 {ro : Nat → Option am_C} {a f : Nat → Nat → Int32} {l : Nat → Int64} {n j w told : Nat} {U : Nat → Nat} (hj : j ≤ n) (h : Ms a f n U j 10 told) {k : Nat} (hk : k < 20) (e : a 62 10 = nI k) {x : Nat} (hx : x < 1000000) (hv : nv (uj U n j) (lj U n j) 1000000 = nI x) : ∃ f1 : Nat → Nat → Int32, RStep ro a l f w (u2 a 69 (upd (a 69) (80 + 4 * k + 0) (nI x))) l f1 (w + 1) ∧ FrM a l f (u2 a 69 (upd (a 69) (80 + 4 * k + 0) (nI x))) l f1 ∧ Ms (u2 a 69 (upd (a 69) (80 + 4 * k + 0) (nI x))) f1 n U (ej U n j) 11 told := by
  obtain ⟨hM, h3, h27, h26⟩ := h
  have hs := nv_in hj (show x < 2 ^ 31 by omega) hv
  refine ⟨(u3 (nx f (sj U n j) (ej U n j)) 60 27 (nI 11)), m_take hM hj h3 hs (fun c => nw_o (k := 10) (r := true) hM hj hs h27 (by decide) (by decide) hv (to_m (f := (nx f (sj U n j) (ej U n j))) (k := 10) (r := true) (by decide) (by decide) h27 (tm_10 (f := (nx f (sj U n j) (ej U n j))) (g := true) hk e h27 (g_t (x := x) (by omega))))), ?_, hM, rfl, rfl, ?_⟩
  · repeat (first | exact FrM_refl | exact FrM_nx | refine FrM_trans ?_ (FrM_l (by omega)) | refine FrM_trans ?_ (FrM_f (by decide)) | refine FrM_trans ?_ (FrM_a (by decide) (by decide) (by simp [hf] <;> omega)))
  · exact h26
theorem w_10f {ro : Nat → Option am_C} {a f : Nat → Nat → Int32} {l : Nat → Int64} {n j w told : Nat} {U : Nat → Nat} (hj : j ≤ n) (h : Ms a f n U j 10 told) {k : Nat} (hk : k < 20) (e : a 62 10 = nI k) (hv : nv (uj U n j) (lj U n j) 1000000 = -1) : RFail ro a l f w w := by
  obtain ⟨hM, h3, h27, h26⟩ := h
  by_cases hs : sj U n j < n
  · refine m_fail hM hj h3 hs (fun c => nw_o (k := 10) (r := false) hM hj hs h27 (by decide) (by decide) hv (to_m (f := (nx f (sj U n j) (ej U n j))) (k := 10) (r := false) (by decide) (by decide) h27 (tm_10 (f := (nx f (sj U n j) (ej U n j))) (g := false) hk e h27 g_f))) ?_
    repeat (first | exact FrM_refl | exact FrM_nx | refine FrM_trans ?_ (FrM_l (by omega)) | refine FrM_trans ?_ (FrM_f (by decide)) | refine FrM_trans ?_ (FrM_a (by decide) (by decide) (by simp [hf] <;> omega)))
  · exact m_over hM hj h3 hs h27 (by decide) (by decide) (by decide)
theorem w_11 {ro : Nat → Option am_C} {a f : Nat → Nat → Int32} {l : Nat → Int64} {n j w told : Nat} {U : Nat → Nat} (hj : j ≤ n) (h : Ms a f n U j 11 told) {k : Nat} (hk : k < 20) (e : a 62 10 = nI k) {x : Nat} (hx : x < 10) (hv : nv (uj U n j) (lj U n j) 1000000 = nI x) : ∃ f1 : Nat → Nat → Int32, RStep ro a l f w (u2 a 69 (upd (a 69) (80 + 4 * k + 1) (nI x))) l f1 (w + 1) ∧ FrM a l f (u2 a 69 (upd (a 69) (80 + 4 * k + 1) (nI x))) l f1 ∧ Ms (u2 a 69 (upd (a 69) (80 + 4 * k + 1) (nI x))) f1 n U (ej U n j) 12 told := by
  obtain ⟨hM, h3, h27, h26⟩ := h
  have hs := nv_in hj (show x < 2 ^ 31 by omega) hv
  refine ⟨(u3 (nx f (sj U n j) (ej U n j)) 60 27 (nI 12)), m_take hM hj h3 hs (fun c => nw_o (k := 11) (r := true) hM hj hs h27 (by decide) (by decide) hv (to_m (f := (nx f (sj U n j) (ej U n j))) (k := 11) (r := true) (by decide) (by decide) h27 (tm_11t (f := (nx f (sj U n j) (ej U n j))) hk e h27 hx))), ?_, hM, rfl, rfl, ?_⟩
  · repeat (first | exact FrM_refl | exact FrM_nx | refine FrM_trans ?_ (FrM_l (by omega)) | refine FrM_trans ?_ (FrM_f (by decide)) | refine FrM_trans ?_ (FrM_a (by decide) (by decide) (by simp [hf] <;> omega)))
  · exact h26
theorem w_11f {ro : Nat → Option am_C} {a f : Nat → Nat → Int32} {l : Nat → Int64} {n j w told : Nat} {U : Nat → Nat} (hj : j ≤ n) (h : Ms a f n U j 11 told) {k : Nat} (hk : k < 20) (e : a 62 10 = nI k) {v : Int32} (hv : nv (uj U n j) (lj U n j) 1000000 = v) (hq : v < 0 ∨ nI 10 ≤ v) : RFail ro a l f w w := by
  obtain ⟨hM, h3, h27, h26⟩ := h
  by_cases hs : sj U n j < n
  · refine m_fail hM hj h3 hs (fun c => nw_o (k := 11) (r := false) hM hj hs h27 (by decide) (by decide) hv (to_m (f := (nx f (sj U n j) (ej U n j))) (k := 11) (r := false) (by decide) (by decide) h27 (tm_11f (f := (nx f (sj U n j) (ej U n j))) hk e h27 hq))) ?_
    repeat (first | exact FrM_refl | exact FrM_nx | refine FrM_trans ?_ (FrM_l (by omega)) | refine FrM_trans ?_ (FrM_f (by decide)) | refine FrM_trans ?_ (FrM_a (by decide) (by decide) (by simp [hf] <;> omega)))
  · exact m_over hM hj h3 hs h27 (by decide) (by decide) (by decide)
theorem w_12 {ro : Nat → Option am_C} {a f : Nat → Nat → Int32} {l : Nat → Int64} {n j w told : Nat} {U : Nat → Nat} (hj : j ≤ n) (h : Ms a f n U j 12 told) {k : Nat} (hk : k < 20) (e : a 62 10 = nI k) {x : Nat} (hx : x < 1000000) (hv : nv (uj U n j) (lj U n j) 1000000 = nI x) : ∃ f1 : Nat → Nat → Int32, RStep ro a l f w (u2 a 69 (upd (a 69) (80 + 4 * k + 2) (nI x))) l f1 (w + 1) ∧ FrM a l f (u2 a 69 (upd (a 69) (80 + 4 * k + 2) (nI x))) l f1 ∧ Ms (u2 a 69 (upd (a 69) (80 + 4 * k + 2) (nI x))) f1 n U (ej U n j) 13 told := by
  obtain ⟨hM, h3, h27, h26⟩ := h
  have hs := nv_in hj (show x < 2 ^ 31 by omega) hv
  refine ⟨(u3 (nx f (sj U n j) (ej U n j)) 60 27 (nI 13)), m_take hM hj h3 hs (fun c => nw_o (k := 12) (r := true) hM hj hs h27 (by decide) (by decide) hv (to_m (f := (nx f (sj U n j) (ej U n j))) (k := 12) (r := true) (by decide) (by decide) h27 (tm_12 (f := (nx f (sj U n j) (ej U n j))) (g := true) hk e h27 (g_t (x := x) (by omega))))), ?_, hM, rfl, rfl, ?_⟩
  · repeat (first | exact FrM_refl | exact FrM_nx | refine FrM_trans ?_ (FrM_l (by omega)) | refine FrM_trans ?_ (FrM_f (by decide)) | refine FrM_trans ?_ (FrM_a (by decide) (by decide) (by simp [hf] <;> omega)))
  · exact h26
theorem w_12f {ro : Nat → Option am_C} {a f : Nat → Nat → Int32} {l : Nat → Int64} {n j w told : Nat} {U : Nat → Nat} (hj : j ≤ n) (h : Ms a f n U j 12 told) {k : Nat} (hk : k < 20) (e : a 62 10 = nI k) (hv : nv (uj U n j) (lj U n j) 1000000 = -1) : RFail ro a l f w w := by
  obtain ⟨hM, h3, h27, h26⟩ := h
  by_cases hs : sj U n j < n
  · refine m_fail hM hj h3 hs (fun c => nw_o (k := 12) (r := false) hM hj hs h27 (by decide) (by decide) hv (to_m (f := (nx f (sj U n j) (ej U n j))) (k := 12) (r := false) (by decide) (by decide) h27 (tm_12 (f := (nx f (sj U n j) (ej U n j))) (g := false) hk e h27 g_f))) ?_
    repeat (first | exact FrM_refl | exact FrM_nx | refine FrM_trans ?_ (FrM_l (by omega)) | refine FrM_trans ?_ (FrM_f (by decide)) | refine FrM_trans ?_ (FrM_a (by decide) (by decide) (by simp [hf] <;> omega)))
  · exact m_over hM hj h3 hs h27 (by decide) (by decide) (by decide)
theorem w_13 {ro : Nat → Option am_C} {a f : Nat → Nat → Int32} {l : Nat → Int64} {n j w told : Nat} {U : Nat → Nat} (hj : j ≤ n) (h : Ms a f n U j 13 told) {k : Nat} (hk : k < 20) (e : a 62 10 = nI k) {x : Nat} (hx : x < 1000000) (hv : nv (uj U n j) (lj U n j) 1000000 = nI x) : ∃ f1 : Nat → Nat → Int32, RStep ro a l f w (u2 (u2 a 69 (upd (a 69) (80 + 4 * k + 3) (nI x))) 62 (upd (a 62) 10 (nI (k + 1)))) l f1 (w + 1) ∧ FrM a l f (u2 (u2 a 69 (upd (a 69) (80 + 4 * k + 3) (nI x))) 62 (upd (a 62) 10 (nI (k + 1)))) l f1 ∧ Ms (u2 (u2 a 69 (upd (a 69) (80 + 4 * k + 3) (nI x))) 62 (upd (a 62) 10 (nI (k + 1)))) f1 n U (ej U n j) 0 (told + 1) := by
  obtain ⟨hM, h3, h27, h26⟩ := h
  have hs := nv_in hj (show x < 2 ^ 31 by omega) hv
  refine ⟨(u3 (u3 (u3 (nx f (sj U n j) (ej U n j)) 60 27 (nI 14)) 60 26 (f 60 26 + 1)) 60 27 (0)), m_take hM hj h3 hs (fun c => nw_o (k := 13) (r := true) hM hj hs h27 (by decide) (by decide) hv (to_m (f := (nx f (sj U n j) (ej U n j))) (k := 13) (r := true) (by decide) (by decide) h27 (tm_13 (f := (nx f (sj U n j) (ej U n j))) (g := true) hk e h27 (g_t (x := x) (by omega))))), ?_, hM, rfl, rfl, ?_⟩
  · repeat (first | exact FrM_refl | exact FrM_nx | refine FrM_trans ?_ (FrM_l (by omega)) | refine FrM_trans ?_ (FrM_f (by decide)) | refine FrM_trans ?_ (FrM_a (by decide) (by decide) (by simp [hf] <;> omega)))
  · show f 60 26 + 1 = nI (told + 1)
    rw [h26, nI_1]
theorem w_13f {ro : Nat → Option am_C} {a f : Nat → Nat → Int32} {l : Nat → Int64} {n j w told : Nat} {U : Nat → Nat} (hj : j ≤ n) (h : Ms a f n U j 13 told) {k : Nat} (hk : k < 20) (e : a 62 10 = nI k) (hv : nv (uj U n j) (lj U n j) 1000000 = -1) : RFail ro a l f w w := by
  obtain ⟨hM, h3, h27, h26⟩ := h
  by_cases hs : sj U n j < n
  · refine m_fail hM hj h3 hs (fun c => nw_o (k := 13) (r := false) hM hj hs h27 (by decide) (by decide) hv (to_m (f := (nx f (sj U n j) (ej U n j))) (k := 13) (r := false) (by decide) (by decide) h27 (tm_13 (f := (nx f (sj U n j) (ej U n j))) (g := false) hk e h27 g_f))) ?_
    repeat (first | exact FrM_refl | exact FrM_nx | refine FrM_trans ?_ (FrM_l (by omega)) | refine FrM_trans ?_ (FrM_f (by decide)) | refine FrM_trans ?_ (FrM_a (by decide) (by decide) (by simp [hf] <;> omega)))
  · exact m_over hM hj h3 hs h27 (by decide) (by decide) (by decide)
theorem w_14 {ro : Nat → Option am_C} {a f : Nat → Nat → Int32} {l : Nat → Int64} {n j w told : Nat} {U : Nat → Nat} (hj : j ≤ n) (h : Ms a f n U j 14 told) {k : Nat} (hk : k < 20) (e : a 62 11 = nI k) {x : Nat} (hx : x < 1000000) (hv : nv (uj U n j) (lj U n j) 1000000 = nI x) : ∃ f1 : Nat → Nat → Int32, RStep ro a l f w (u2 a 70 (upd (a 70) (20 + k) (nI x))) l f1 (w + 1) ∧ FrM a l f (u2 a 70 (upd (a 70) (20 + k) (nI x))) l f1 ∧ Ms (u2 a 70 (upd (a 70) (20 + k) (nI x))) f1 n U (ej U n j) 15 told := by
  obtain ⟨hM, h3, h27, h26⟩ := h
  have hs := nv_in hj (show x < 2 ^ 31 by omega) hv
  refine ⟨(u3 (nx f (sj U n j) (ej U n j)) 60 27 (15)), m_take hM hj h3 hs (fun c => nw_o (k := 14) (r := true) hM hj hs h27 (by decide) (by decide) hv (to_14 (f := (nx f (sj U n j) (ej U n j))) (g := true) hk e h27 (g_t (x := x) (by omega)))), ?_, hM, rfl, rfl, ?_⟩
  · repeat (first | exact FrM_refl | exact FrM_nx | refine FrM_trans ?_ (FrM_l (by omega)) | refine FrM_trans ?_ (FrM_f (by decide)) | refine FrM_trans ?_ (FrM_a (by decide) (by decide) (by simp [hf] <;> omega)))
  · exact h26
theorem w_14f {ro : Nat → Option am_C} {a f : Nat → Nat → Int32} {l : Nat → Int64} {n j w told : Nat} {U : Nat → Nat} (hj : j ≤ n) (h : Ms a f n U j 14 told) {k : Nat} (hk : k < 20) (e : a 62 11 = nI k) (hv : nv (uj U n j) (lj U n j) 1000000 = -1) : RFail ro a l f w w := by
  obtain ⟨hM, h3, h27, h26⟩ := h
  by_cases hs : sj U n j < n
  · refine m_fail hM hj h3 hs (fun c => nw_o (k := 14) (r := false) hM hj hs h27 (by decide) (by decide) hv (to_14 (f := (nx f (sj U n j) (ej U n j))) (g := false) hk e h27 g_f)) ?_
    repeat (first | exact FrM_refl | exact FrM_nx | refine FrM_trans ?_ (FrM_l (by omega)) | refine FrM_trans ?_ (FrM_f (by decide)) | refine FrM_trans ?_ (FrM_a (by decide) (by decide) (by simp [hf] <;> omega)))
  · exact m_over hM hj h3 hs h27 (by decide) (by decide) (by decide)
theorem w_15 {ro : Nat → Option am_C} {a f : Nat → Nat → Int32} {l : Nat → Int64} {n j w told : Nat} {U : Nat → Nat} (hj : j ≤ n) (h : Ms a f n U j 15 told) {k : Nat} (hk : k < 20) (e : a 62 11 = nI k) (hm : nm (uj U n j) (lj U n j) = true) (hd : an (fun q => decide (l (20 + q) = lN (pf (uj U n j) 0 (lj U n j) 0))) 0 k = false) : ∃ f1 : Nat → Nat → Int32, RStep ro a l f w (u2 a 62 (upd (a 62) 11 (nI (k + 1)))) (vp_updL l (20 + k) (lN (pf (uj U n j) 0 (lj U n j) 0))) f1 (w + 1) ∧ FrM a l f (u2 a 62 (upd (a 62) 11 (nI (k + 1)))) (vp_updL l (20 + k) (lN (pf (uj U n j) 0 (lj U n j) 0))) f1 ∧ Ms (u2 a 62 (upd (a 62) 11 (nI (k + 1)))) f1 n U (ej U n j) 0 (told + 1) := by
  obtain ⟨hM, h3, h27, h26⟩ := h
  have g := j_le (U := U) hj
  have hn := hM.1
  have hz := fun c => mo_nameAt (ro := ro) (c := c) (a := a) (l := l) (f := (nx f (sj U n j) (ej U n j))) (u := uj U n j) rfl rfl g.2.1 (by omega) (uM hM hj)
  rw [show nm (uj U n j) (ej U n j - sj U n j) = true from hm] at hz
  obtain ⟨t1, t2, t3⟩ := nm_t hm
  have hs := lj_in hj (show ¬ lj U n j = 0 by omega)
  have hv : nv (uj U n j) (lj U n j) 1000000 = nv (uj U n j) (lj U n j) 1000000 := rfl
  have z0 : ¬ lN (pf (uj U n j) 0 (lj U n j) 0) = 0 := lN_ne (pf_8 t2 t3) (pf_pos (by omega) (fun q hq => (t3 q hq).1))
  refine ⟨(u3 (u3 (nx f (sj U n j) (ej U n j)) 60 26 (f 60 26 + 1)) 60 27 (0)), m_take hM hj h3 hs (fun c => nw_o (k := 15) (r := true) hM hj hs h27 (by decide) (by decide) hv (to_15t (f := (nx f (sj U n j) (ej U n j))) hk e h27 (hz c) z0 hd)), ?_, hM, rfl, rfl, ?_⟩
  · repeat (first | exact FrM_refl | exact FrM_nx | refine FrM_trans ?_ (FrM_l (by omega)) | refine FrM_trans ?_ (FrM_f (by decide)) | refine FrM_trans ?_ (FrM_a (by decide) (by decide) (by simp [hf] <;> omega)))
  · show f 60 26 + 1 = nI (told + 1)
    rw [h26, nI_1]
theorem w_15n {ro : Nat → Option am_C} {a f : Nat → Nat → Int32} {l : Nat → Int64} {n j w told : Nat} {U : Nat → Nat} (hj : j ≤ n) (h : Ms a f n U j 15 told) {k : Nat} (hk : k < 20) (e : a 62 11 = nI k) (hm : nm (uj U n j) (lj U n j) = true) (hd : an (fun q => decide (l (20 + q) = lN (pf (uj U n j) 0 (lj U n j) 0))) 0 k = true) : RFail ro a l f w w := by
  obtain ⟨hM, h3, h27, h26⟩ := h
  have g := j_le (U := U) hj
  have hn := hM.1
  have hz := fun c => mo_nameAt (ro := ro) (c := c) (a := a) (l := l) (f := (nx f (sj U n j) (ej U n j))) (u := uj U n j) rfl rfl g.2.1 (by omega) (uM hM hj)
  rw [show nm (uj U n j) (ej U n j - sj U n j) = true from hm] at hz
  obtain ⟨t1, t2, t3⟩ := nm_t hm
  have hs := lj_in hj (show ¬ lj U n j = 0 by omega)
  have hv : nv (uj U n j) (lj U n j) 1000000 = nv (uj U n j) (lj U n j) 1000000 := rfl
  have z0 : ¬ lN (pf (uj U n j) 0 (lj U n j) 0) = 0 := lN_ne (pf_8 t2 t3) (pf_pos (by omega) (fun q hq => (t3 q hq).1))
  refine m_fail hM hj h3 hs (fun c => nw_o (k := 15) (r := false) hM hj hs h27 (by decide) (by decide) hv (to_15n (f := (nx f (sj U n j) (ej U n j))) hk e h27 (hz c) z0 hd)) ?_
  repeat (first | exact FrM_refl | exact FrM_nx | refine FrM_trans ?_ (FrM_l (by omega)) | refine FrM_trans ?_ (FrM_f (by decide)) | refine FrM_trans ?_ (FrM_a (by decide) (by decide) (by simp [hf] <;> omega)))
theorem w_15z {ro : Nat → Option am_C} {a f : Nat → Nat → Int32} {l : Nat → Int64} {n j w told : Nat} {U : Nat → Nat} (hj : j ≤ n) (h : Ms a f n U j 15 told) {k : Nat} (hk : k < 20) (e : a 62 11 = nI k) (hm : nm (uj U n j) (lj U n j) = false) : RFail ro a l f w w := by
  obtain ⟨hM, h3, h27, h26⟩ := h
  have g := j_le (U := U) hj
  have hn := hM.1
  have hz := fun c => mo_nameAt (ro := ro) (c := c) (a := a) (l := l) (f := (nx f (sj U n j) (ej U n j))) (u := uj U n j) rfl rfl g.2.1 (by omega) (uM hM hj)
  rw [show nm (uj U n j) (ej U n j - sj U n j) = false from hm] at hz
  by_cases hs : sj U n j < n
  · refine m_fail hM hj h3 hs (fun c => nw_o (k := 15) (r := false) hM hj hs h27 (by decide) (by decide) rfl (to_15z (f := (nx f (sj U n j) (ej U n j))) hk e h27 (hz c) rfl)) ?_
    repeat (first | exact FrM_refl | exact FrM_nx | refine FrM_trans ?_ (FrM_l (by omega)) | refine FrM_trans ?_ (FrM_f (by decide)) | refine FrM_trans ?_ (FrM_a (by decide) (by decide) (by simp [hf] <;> omega)))
  · exact m_over hM hj h3 hs h27 (by decide) (by decide) (by decide)
