/-! READ -/
set_option maxRecDepth 100000 in
set_option maxHeartbeats 4000000 in
theorem sp_em {ro : Nat → Option am_C} {c : Bool} {a : Nat → Nat → Int32} {l : Nat → Int64} {f : Nat → Nat → Int32} : am_run ro 1 35 [.ref 1] (wd c a l f) none (wd c a l (u3 f 1 1 0)) := by
  refine am_run_of rfl (am_wp_ok (inl := []) 4 0 35 [5] 0 _ _ _ _ ?_)
  show am_T ro 0 35 5 [.ref 1] [] ((wd c a l f).set 1 (.inr (1, [.ref 2, .int (f 1 1), .int (f 1 2), .int (f 1 3), .int (f 1 4)].set 1 (.int 0)))) _
  rw [wf_1_1]
  refine am_wp_ok (inl := []) 2 0 35 [] _ _ _ _ _ ?_
  exact And.intro rfl rfl
set_option maxRecDepth 100000 in
set_option maxHeartbeats 4000000 in
theorem fp_loop {ro : Nat → Option am_C} {c : Bool} {a : Nat → Nat → Int32} {l : Nat → Int64} {f : Nat → Nat → Int32} {K : Option Value → am_H → Prop} : ∀ (m k : Nat) (R S : Nat → Int32), k + m = 6 → (∀ i, i < k → R i = 0) → (∀ i, i < k → S i = 0) → (∀ R' S', (∀ i, i < 6 → R' i = 0) → (∀ i, i < 6 → S' i = 0) → am_T ro 0 42 28 [.ref 6, .int (nI 6)] [] (wd c (u2 (u2 a 7 R') 8 S') l f) K) → am_T ro 0 42 2 [.ref 6, .int (nI k)] [] (wd c (u2 (u2 a 7 R) 8 S) l f) K := by
  intro m
  induction m with
  | zero =>
    intro k R S hm g1 g2 kq
    have e : k = 6 := by omega
    subst e
    refine am_wp_ok (inl := []) 4 0 42 [28] _ _ _ _ _ ?_
    refine am_br_t (show nI 6 ≤ nI 6 from nI_le (Nat.le_refl _) (by decide)) ?_
    exact kq R S g1 g2
  | succ m ih =>
    intro k R S hm g1 g2 kq
    have ck : (nI k).toNatClampNeg = k := nI_clamp (by omega)
    refine am_wp_ok (inl := []) 4 0 42 [8] _ _ _ _ _ ?_
    refine am_br_f (show ¬ nI 6 ≤ nI k from nI_ge (by omega) (by decide)) ?_
    show am_T ro 0 42 8 [.ref 6, .int (nI k)] [] (wd c (u2 (u2 a 7 R) 8 S) l f) K
    refine am_wp_ok (inl := []) 6 0 42 [15] _ _ _ _ _ ?_
    refine And.intro (vp_in_nI (by omega) (by decide)) ?_
    show am_T ro 0 42 15 [.ref 6, .int (nI k)] [] ((wd c (u2 (u2 a 7 R) 8 S) l f).set 7 (.inl (.int, 6, .inl (upd R (nI k).toNatClampNeg 0)))) K
    rw [ws_7, ck, u2_cm 8 7 rfl, u2_u2]
    refine am_wp_ok (inl := []) 6 0 42 [22] _ _ _ _ _ ?_
    refine And.intro (vp_in_nI (by omega) (by decide)) ?_
    show am_T ro 0 42 22 [.ref 6, .int (nI k)] [] ((wd c (u2 (u2 a 7 (upd R k 0)) 8 S) l f).set 8 (.inl (.int, 6, .inl (upd S (nI k).toNatClampNeg 0)))) K
    rw [ws_8, ck, u2_u2]
    refine am_wp_ok (inl := []) 3 0 42 [2] _ _ _ _ _ ?_
    show am_T ro 0 42 2 [.ref 6, .int (nI k + 1)] [] (wd c (u2 (u2 a 7 (upd R k 0)) 8 (upd S k 0)) l f) K
    rw [nI_1]
    exact ih (k + 1) _ _ (by omega) (z_s g1) (z_s g2) kq
set_option maxRecDepth 100000 in
set_option maxHeartbeats 4000000 in
theorem cs_fp {ro : Nat → Option am_C} {c : Bool} {a : Nat → Nat → Int32} {l : Nat → Int64} {f : Nat → Nat → Int32} : ∃ R S : Nat → Int32, (∀ i, i < 6 → R i = 0) ∧ (∀ i, i < 6 → S i = 0) ∧ am_run ro 1 42 [.ref 6] (wd c a l f) none (wd c (u2 (u2 a 7 R) 8 S) l f) := by
  have h0 : am_T ro 0 42 0 (am_l0 42 [.ref 6]) [] (wd c a l f) (fun r hp' => ∃ R S : Nat → Int32, (∀ i, i < 6 → R i = 0) ∧ (∀ i, i < 6 → S i = 0) ∧ r = none ∧ hp' = wd c (u2 (u2 a 7 R) 8 S) l f) := by
    refine am_wp_ok (inl := []) 3 0 42 [2] _ _ _ _ _ ?_
    show am_T ro 0 42 2 [.ref 6, .int (nI 0)] [] (wd c a l f) _
    have hw : wd c a l f = wd c (u2 (u2 a 7 (a 7)) 8 (a 8)) l f := by rw [u2_id, u2_id]
    rw [hw]
    refine fp_loop 6 0 _ _ (by omega) (fun i hi => absurd hi (by omega)) (fun i hi => absurd hi (by omega)) (fun R S g1 g2 => ?_)
    refine am_wp_ok (inl := []) 2 0 42 [] _ _ _ _ _ ?_
    exact ⟨R, S, g1, g2, rfl, rfl⟩
  obtain ⟨r, hp', g1, R, S, g2, g3, rfl, rfl⟩ := am_run_ex rfl h0
  exact ⟨R, S, g2, g3, g1⟩
theorem wd_sw {c : Bool} {a : Nat → Nat → Int32} {l : Nat → Int64} {f : Nat → Nat → Int32} : ((wd c a l f).set 0 (.inr (0, [.ref 1, .ref 3, .ref 6, .ref 9, .ref 13, .ref (bif c then 16 else 38), .ref (bif c then 16 else 38)]))).set 0 (.inr (0, [.ref 1, .ref 3, .ref 6, .ref 9, .ref 13, .ref (bif c then 16 else 38), .ref (bif c then 38 else 16)])) = wd (!c) a l f := by
  cases c <;> rfl
set_option maxRecDepth 100000 in
set_option maxHeartbeats 4000000 in
theorem cl_read_n {ro : Nat → Option am_C} {c : Bool} {a a1 f1 : Nat → Nat → Int32} {l : Nat → Int64} {f : Nat → Nat → Int32} {r : Int32} (h : am_run ro 11 57 [.ref (ob (!c)), .ref 1] (wd c a l f) (some (.int r)) (wd c a1 l f1)) (hr : r < 0) : am_run ro 12 2 [.ref 0] (wd c a l f) (some (.int r)) (wd c a1 l (u3 f1 1 1 0)) := by
  cases c
  all_goals
    refine am_run_of rfl (am_wp_ok (inl := []) 6 11 2 [11] 0 _ _ _ _ ?_)
    refine ⟨_, _, h, ?_⟩
    refine am_wp_ok (inl := []) 5 11 2 [19] _ _ _ _ _ ?_
    refine ⟨_, _, am_run_up sp_em (by decide), ?_⟩
    refine am_wp_ok (inl := []) 5 11 2 [25] _ _ _ _ _ ?_
    refine am_br_f (show ¬ 0 ≤ r from Int32.not_le.mpr hr) ?_
    exact And.intro rfl rfl
set_option maxRecDepth 100000 in
set_option maxHeartbeats 4000000 in
theorem cl_read_p {ro : Nat → Option am_C} {c : Bool} {a a1 f1 : Nat → Nat → Int32} {l : Nat → Int64} {f : Nat → Nat → Int32} {r : Int32} (h : am_run ro 11 57 [.ref (ob (!c)), .ref 1] (wd c a l f) (some (.int r)) (wd c a1 l f1)) (hr : ¬ r < 0) : ∃ R S : Nat → Int32, (∀ i, i < 6 → R i = 0) ∧ (∀ i, i < 6 → S i = 0) ∧ am_run ro 12 2 [.ref 0] (wd c a l f) (some (.int r)) (wd (!c) (u2 (u2 a1 7 R) 8 S) l (u3 f1 1 1 0)) := by
  obtain ⟨R, S, g1, g2, g3⟩ := cs_fp (ro := ro) (c := !c) (a := a1) (l := l) (f := u3 f1 1 1 0)
  refine ⟨R, S, g1, g2, ?_⟩
  cases c
  all_goals
    refine am_run_of rfl (am_wp_ok (inl := []) 6 11 2 [11] 0 _ _ _ _ ?_)
    refine ⟨_, _, h, ?_⟩
    refine am_wp_ok (inl := []) 5 11 2 [19] _ _ _ _ _ ?_
    refine ⟨_, _, am_run_up sp_em (by decide), ?_⟩
    refine am_wp_ok (inl := []) 3 11 2 [25] _ _ _ _ _ ?_
    refine am_br_t (show 0 ≤ r from Int32.not_lt.mp hr) ?_
    refine am_wp_ok (inl := []) 12 11 2 [43] _ _ _ _ _ ?_
    refine am_wp_ok (inl := []) 4 11 2 [50] _ _ _ _ _ ?_
    refine ⟨_, _, am_run_up g3 (by decide), ?_⟩
    refine am_wp_ok (inl := []) 3 11 2 [] _ _ _ _ _ ?_
    exact And.intro rfl rfl
/-! the reference's read, its head and its end -/
set_option maxRecDepth 100000 in
set_option maxHeartbeats 4000000 in
theorem rh_loop {ro : Nat → Option am_C} {c : Bool} {a : Nat → Nat → Int32} {l : Nat → Int64} {f : Nat → Nat → Int32} {K : Option Value → am_H → Prop} : ∀ (m k : Nat) (R : Nat → Int32), k + m = 6 → (∀ i, i < k → R (6 + i) = 0) → (∀ i, i < 6 → R i = a 62 i) → (∀ R', (∀ i, i < 6 → R' (6 + i) = 0) → (∀ i, i < 6 → R' i = a 62 i) → am_T ro 3 106 24 [.ref 60, .int (nI 6), am_un] [] (wd c (u2 a 62 R') l f) K) → am_T ro 3 106 2 [.ref 60, .int (nI k), am_un] [] (wd c (u2 a 62 R) l f) K := by
  intro m
  induction m with
  | zero =>
    intro k R hm g1 g2 kq
    have e : k = 6 := by omega
    subst e
    refine am_wp_ok (inl := []) 4 3 106 [24] _ _ _ _ _ ?_
    refine am_br_t (show nI 6 ≤ nI 6 from nI_le (Nat.le_refl _) (by decide)) ?_
    exact kq R g1 g2
  | succ m ih =>
    intro k R hm g1 g2 kq
    have ck : (nI 6 + nI k).toNatClampNeg = 6 + k := by rw [nI_add, nI_clamp (by omega)]
    refine am_wp_ok (inl := []) 4 3 106 [8] _ _ _ _ _ ?_
    refine am_br_f (show ¬ nI 6 ≤ nI k from nI_ge (by omega) (by decide)) ?_
    show am_T ro 3 106 8 [.ref 60, .int (nI k), am_un] [] (wd c (u2 a 62 R) l f) K
    refine am_wp_ok (inl := []) 8 3 106 [18] _ _ _ _ _ ?_
    refine And.intro (show vp_in (nI 6 + nI k) 12 by rw [nI_add]; exact vp_in_nI (by omega) (by decide)) ?_
    show am_T ro 3 106 18 [.ref 60, .int (nI k), am_un] [] ((wd c (u2 a 62 R) l f).set 62 (.inl (.int, 12, .inl (upd R (nI 6 + nI k).toNatClampNeg 0)))) K
    rw [ws_62, u2_u2, ck]
    refine am_wp_ok (inl := []) 3 3 106 [2] _ _ _ _ _ ?_
    show am_T ro 3 106 2 [.ref 60, .int (nI k + 1), am_un] [] (wd c (u2 a 62 (upd R (6 + k) 0)) l f) K
    rw [nI_1]
    refine ih (k + 1) _ (by omega) (fun i hi => ?_) (fun i hi => (upd_ne (by omega)).trans (g2 i hi)) kq
    by_cases hq : i = k
    · rw [hq, upd_same]
    · rw [upd_ne (by omega)]
      exact g1 i (by omega)
def rz (f : Nat → Nat → Int32) : Nat → Nat → Int32 := u3 (u3 (u3 f 60 26 0) 60 27 0) 60 3 0
set_option maxRecDepth 100000 in
set_option maxHeartbeats 4000000 in
theorem rh_all {ro : Nat → Option am_C} {c : Bool} {a : Nat → Nat → Int32} {l : Nat → Int64} {f : Nat → Nat → Int32} {K : Option Value → am_H → Prop} (kq : ∀ R', (∀ i, i < 6 → R' (6 + i) = 0) → (∀ i, i < 6 → R' i = a 62 i) → am_T ro 3 106 43 [.ref 60, .int (nI 0), .int 1] [] (wd c (u2 a 62 R') l (rz f)) K) : am_T ro 3 106 0 (am_l0 106 [.ref 60]) [] (wd c a l f) K := by
  refine am_wp_ok (inl := []) 3 3 106 [2] _ _ _ _ _ ?_
  show am_T ro 3 106 2 [.ref 60, .int (nI 0), am_un] [] (wd c a l f) K
  have hw : wd c a l f = wd c (u2 a 62 (a 62)) l f := by rw [u2_id]
  rw [hw]
  refine rh_loop 6 0 _ (by omega) (fun i hi => absurd hi (by omega)) (fun _ _ => rfl) (fun R' g1 g2 => ?_)
  refine am_wp_ok (inl := []) 4 3 106 [29] _ _ _ _ _ ?_
  show am_T ro 3 106 29 [.ref 60, .int (nI 6), am_un] [] ((wd c (u2 a 62 R') l f).set 60 (.inr (10, [.ref 61, .int (f 60 1), .int (f 60 2), .int (f 60 3), .ref 62, .ref 63, .ref 64, .ref 65, .ref 66, .ref 67, .ref 68, .ref 69, .ref 70, .ref 71, .ref 72, .ref 73, .ref 74, .ref 75, .int (f 60 18), .ref 76, .ref 77, .ref 78, .ref 79, .int (f 60 23), .ref 80, .ref 81, .int (f 60 26), .int (f 60 27), .int (f 60 28)].set 26 (.int 0)))) K
  rw [wf_60_26]
  have kq' := kq R' g1 g2
  unfold rz at kq'
  generalize u3 f 60 26 0 = G at *
  refine am_wp_ok (inl := []) 4 3 106 [34] _ _ _ _ _ ?_
  show am_T ro 3 106 34 [.ref 60, .int (nI 6), am_un] [] ((wd c (u2 a 62 R') l G).set 60 (.inr (10, [.ref 61, .int (G 60 1), .int (G 60 2), .int (G 60 3), .ref 62, .ref 63, .ref 64, .ref 65, .ref 66, .ref 67, .ref 68, .ref 69, .ref 70, .ref 71, .ref 72, .ref 73, .ref 74, .ref 75, .int (G 60 18), .ref 76, .ref 77, .ref 78, .ref 79, .int (G 60 23), .ref 80, .ref 81, .int (G 60 26), .int (G 60 27), .int (G 60 28)].set 27 (.int 0)))) K
  rw [wf_60_27]
  generalize u3 G 60 27 0 = G at *
  refine am_wp_ok (inl := []) 4 3 106 [39] _ _ _ _ _ ?_
  show am_T ro 3 106 39 [.ref 60, .int (nI 6), am_un] [] ((wd c (u2 a 62 R') l G).set 60 (.inr (10, [.ref 61, .int (G 60 1), .int (G 60 2), .int (G 60 3), .ref 62, .ref 63, .ref 64, .ref 65, .ref 66, .ref 67, .ref 68, .ref 69, .ref 70, .ref 71, .ref 72, .ref 73, .ref 74, .ref 75, .int (G 60 18), .ref 76, .ref 77, .ref 78, .ref 79, .int (G 60 23), .ref 80, .ref 81, .int (G 60 26), .int (G 60 27), .int (G 60 28)].set 3 (.int 0)))) K
  rw [wf_60_3]
  refine am_wp_ok (inl := []) 5 3 106 [43] _ _ _ _ _ ?_
  exact kq'
set_option maxRecDepth 100000 in
set_option maxHeartbeats 4000000 in
theorem r_good {ro : Nat → Option am_C} {c : Bool} {a : Nat → Nat → Int32} {l : Nat → Int64} {f : Nat → Nat → Int32} {a3 : Nat → Nat → Int32} {l3 : Nat → Int64} {w : Nat} {K : Option Value → am_H → Prop} (hw : f 60 27 = 0 ∨ f 60 27 = 3) (hh : am_run ro 1 119 [.ref 60] (wd c a l (u3 f 60 1 0)) none (wd c a3 l3 (u3 f 60 1 0))) (kq : K (some (.int (f 60 26))) (wd c a3 l3 (u3 f 60 1 0))) : am_T ro 3 106 74 [.ref 60, .int (nI w), .int 1] [] (wd c a l f) K := by
  have fin : am_T ro 3 106 93 [.ref 60, .int (nI w), .int 1] [] (wd c a l f) K := by
    refine am_wp_ok (inl := []) 4 3 106 [99] _ _ _ _ _ ?_
    show am_T ro 3 106 99 [.ref 60, .int (nI w), .int 1] [] (wd c a l f) K
    refine am_wp_ok (inl := []) 4 3 106 [104] _ _ _ _ _ ?_
    show am_T ro 3 106 104 [.ref 60, .int (nI w), .int 1] [] ((wd c a l f).set 60 (.inr (10, [.ref 61, .int (f 60 1), .int (f 60 2), .int (f 60 3), .ref 62, .ref 63, .ref 64, .ref 65, .ref 66, .ref 67, .ref 68, .ref 69, .ref 70, .ref 71, .ref 72, .ref 73, .ref 74, .ref 75, .int (f 60 18), .ref 76, .ref 77, .ref 78, .ref 79, .int (f 60 23), .ref 80, .ref 81, .int (f 60 26), .int (f 60 27), .int (f 60 28)].set 1 (.int 0)))) K
    rw [wf_60_1]
    refine am_wp_ok (inl := []) 5 3 106 [116] _ _ _ _ _ ?_
    refine am_br_t (show ¬ (1 : Int32) = 0 by decide) ?_
    refine ⟨_, _, am_run_up hh (by decide), ?_⟩
    refine am_wp_ok (inl := []) 4 3 106 [] _ _ _ _ _ ?_
    exact kq
  refine am_wp_ok (inl := []) 3 3 106 [78] _ _ _ _ _ ?_
  refine am_br_f (show ¬ (1 : Int32) = 0 by decide) ?_
  show am_T ro 3 106 78 [.ref 60, .int (nI w), .int 1] [] (wd c a l f) K
  refine am_wp_ok (inl := []) 8 3 106 [85, 93] _ _ _ _ _ ?_
  by_cases h0 : f 60 27 = 0
  · exact am_br_t h0 fin
  · refine am_br_f h0 ?_
    show am_T ro 3 106 85 [.ref 60, .int (nI w), .int 1] [] (wd c a l f) K
    refine am_wp_ok (inl := []) 5 3 106 [93] _ _ _ _ _ ?_
    exact am_br_f (show ¬ ¬ f 60 27 = 3 from fun z => z (hw.resolve_left h0)) fin
/-! what holds behind -/
theorem Rl_keep {c : Bool} {a a2 f f2 : Nat → Nat → Int32} {l l2 : Nat → Int64} (h1 : ∀ x, (x < 16 ∨ 72 ≤ x ∨ (ob c ≤ x ∧ x ≤ ob c + 21)) → a2 x = a x) (h2 : ∀ x i, 62 ≤ x → x < 72 → i < hf x → a2 x i = a x i) (h3 : ∀ i, i < 20 → l2 i = l i) (h4 : ∀ x, (x = 9 ∨ (ob c ≤ x ∧ x ≤ ob c + 21)) → f2 x = f x) (h5 : f2 60 18 = f 60 18) (h6 : f2 1 1 = 0) (h7 : f2 60 1 = 0) (h : Rl c a l f) : Rl c a2 l2 f2 := by
  obtain ⟨-, k2, k3, k4, k5, nb, nc, ng, nm, np, nn, ⟨b1, b2, b3, b4, b5, b6, b7, b8, b9, b10⟩, b11⟩ := h
  have A : ∀ i, i ≤ 21 → a2 (ob c + i) = a (ob c + i) := fun i hi => h1 _ (Or.inr (Or.inr ⟨by omega, by omega⟩))
  have F : ∀ i, i ≤ 21 → f2 (ob c + i) = f (ob c + i) := fun i hi => h4 _ (Or.inr ⟨by omega, by omega⟩)
  refine ⟨⟨0, by decide, h6, h7, fun i hi => absurd hi (by omega)⟩, ?_, ?_, ?_, ?_, nb, nc, ng, nm, np, nn, ⟨b1, ?_, ?_, ?_, ?_, ?_, ?_, ?_, ?_, ?_⟩, ?_⟩
  · intro i hi
    rw [h1 4 (Or.inl (by decide)), h1 5 (Or.inl (by decide)), h1 72 (Or.inr (Or.inl (by decide))), h1 73 (Or.inr (Or.inl (by decide)))]
    exact k2 i hi
  · intro e he
    rw [h1 7 (Or.inl (by decide)), h1 8 (Or.inl (by decide)), h1 74 (Or.inr (Or.inl (by decide))), h1 75 (Or.inr (Or.inl (by decide)))]
    exact k3 e he
  · unfold rM
    rw [h1 10 (Or.inl (by decide)), h1 11 (Or.inl (by decide)), h1 12 (Or.inl (by decide)), h1 76 (Or.inr (Or.inl (by decide))), h1 77 (Or.inr (Or.inl (by decide))), h4 9 (Or.inl rfl), h5]
    exact k4
  · unfold rH
    rw [h1 14 (Or.inl (by decide)), h1 15 (Or.inl (by decide)), h1 78 (Or.inr (Or.inl (by decide))), h1 79 (Or.inr (Or.inl (by decide)))]
    exact k5
  · rw [F 1 (by decide), F 8 (by decide), F 16 (by decide)]
    exact b2
  · have e : ∀ i, i < 6 → a2 62 i = a 62 i := fun i hi => h2 62 i (by decide) (by decide) hi
    exact ⟨(e 0 (by decide)).trans b3.1, (e 1 (by decide)).trans b3.2.1, (e 2 (by decide)).trans b3.2.2.1, (e 3 (by decide)).trans b3.2.2.2.1, (e 4 (by decide)).trans b3.2.2.2.2.1, (e 5 (by decide)).trans b3.2.2.2.2.2⟩
  · intro i hi
    obtain ⟨p1, p2, p3⟩ := b4 i hi
    rw [A 2 (by decide), A 3 (by decide)]
    exact ⟨p1.trans (h2 63 _ (by decide) (by decide) (show 30 * 0 + i < 30 by omega)).symm, p2.trans (h2 64 _ (by decide) (by decide) (show 30 * 0 + i < 30 by omega)).symm, p3⟩
  · obtain ⟨e, e0, en, he⟩ := b5
    refine ⟨e, e0, en, fun i hi => ?_⟩
    obtain ⟨p1, p2, p3, p4⟩ := he i hi
    rw [A 4 (by decide)]
    exact ⟨p1, p2, p3, (h2 65 _ (by decide) (by decide) (show 31 * 0 + i < 31 by omega)).trans p4⟩
  · intro k hk
    obtain ⟨⟨q, q1, q2, q3⟩, q4, q5⟩ := b6 k hk
    rw [A 5 (by decide), A 6 (by decide), A 7 (by decide)]
    exact ⟨⟨q, q1, q2, (h2 66 _ (by decide) (by decide) (show 180 * 0 + 3 * k < 180 by omega)).trans q3⟩, q4.trans (h2 66 _ (by decide) (by decide) (show 180 * 0 + 3 * k + 1 < 180 by omega)).symm, q5.trans (h2 66 _ (by decide) (by decide) (show 180 * 0 + 3 * k + 2 < 180 by omega)).symm⟩
  · intro i hi
    rw [A 9 (by decide)]
    exact (b7 i hi).trans (h2 67 _ (by decide) (by decide) (show 16 * 0 + i < 16 by omega)).symm
  · intro i hi
    rw [A 10 (by decide), A 11 (by decide)]
    exact ⟨(b8 i hi).1.trans (h2 68 _ (by decide) (by decide) (show 32 * 0 + 2 * i < 32 by omega)).symm, (b8 i hi).2.trans (h2 68 _ (by decide) (by decide) (show 32 * 0 + 2 * i + 1 < 32 by omega)).symm⟩
  · intro i hi
    obtain ⟨p1, p2, p3, p4⟩ := b9 i hi
    rw [A 12 (by decide), A 13 (by decide), A 14 (by decide), A 15 (by decide)]
    exact ⟨p1.trans (h2 69 _ (by decide) (by decide) (show 80 * 0 + 4 * i < 80 by omega)).symm, p2.trans (h2 69 _ (by decide) (by decide) (show 80 * 0 + 4 * i + 1 < 80 by omega)).symm, p3.trans (h2 69 _ (by decide) (by decide) (show 80 * 0 + 4 * i + 2 < 80 by omega)).symm, p4.trans (h2 69 _ (by decide) (by decide) (show 80 * 0 + 4 * i + 3 < 80 by omega)).symm⟩
  · intro i hi
    obtain ⟨p1, k, u, q1, q2, q3, q4, q5, q6⟩ := b10 i hi
    rw [A 17 (by decide), A 18 (by decide), A 19 (by decide)]
    exact ⟨p1.trans (h2 70 _ (by decide) (by decide) (show 20 * 0 + i < 20 by omega)).symm, k, u, q1, q2, q3, q4, q5, (h3 _ (by omega)).trans q6⟩
  · exact (h2 65 nb (by decide) (by decide) (show nb < 31 by omega)).trans b11
/-- a text that was read: the draft is in force -/
theorem Rl_new {c : Bool} {a aC fC a2 a3 f f3 : Nat → Nat → Int32} {l2 l3 : Nat → Int64} {nb nc ng nm np nn : Nat} (hq : rQ (ob c) aC fC a2 l2 nb nc ng nm np nn) (hh : Hd a2 l2 a3 l3 nb) (h1 : ∀ x, (x < 7 ∨ (8 < x ∧ x < 16) ∨ (72 ≤ x ∧ x < 74) ∨ 76 ≤ x) → a3 x = a x) (h7 : ∀ i, i < 6 → a3 7 i = 0) (h8 : ∀ i, i < 6 → a3 8 i = 0) (hC : ∀ x, ob c ≤ x → x ≤ ob c + 21 → a3 x = aC x) (hF : ∀ x, ob c ≤ x → x ≤ ob c + 21 → f3 x = fC x) (h9 : f3 9 = f 9) (h18 : f3 60 18 = f 60 18) (e1 : f3 1 1 = 0) (e60 : f3 60 1 = 0) (k2 : rF a) (k4 : rM a f) (k5 : rH a) : Rl c a3 l3 f3 := by
  obtain ⟨b1, b2, b3, b4, b5, b6, b7, b8, b9, b10⟩ := hq
  obtain ⟨-, d62, d63, d64, d65, d65n, d66, d67, d68, d69, d70, d71, d74, d75⟩ := hh
  have A : ∀ i, i ≤ 21 → a3 (ob c + i) = aC (ob c + i) := fun i hi => hC _ (by omega) (by omega)
  have F : ∀ i, i ≤ 21 → f3 (ob c + i) = fC (ob c + i) := fun i hi => hF _ (by omega) (by omega)
  refine ⟨⟨0, by decide, e1, e60, fun i hi => absurd hi (by omega)⟩, ?_, ?_, ?_, ?_, nb, nc, ng, nm, np, nn, ⟨b1, ?_, ?_, ?_, ?_, ?_, ?_, ?_, ?_, ?_⟩, ?_⟩
  · intro i hi
    rw [h1 4 (by omega), h1 5 (by omega), h1 72 (by omega), h1 73 (by omega)]
    exact k2 i hi
  · intro e he
    refine ⟨0, 0, by decide, by decide, h7 e he, h8 e he, fun p hp => ⟨?_, ?_⟩⟩
    · rw [d74 _ (by omega), Nat.zero_testBit]
      rfl
    · rw [d75 _ (by omega), Nat.zero_testBit]
      rfl
  · unfold rM
    rw [h1 10 (by omega), h1 11 (by omega), h1 12 (by omega), h1 76 (by omega), h1 77 (by omega), h9, h18]
    exact k4
  · unfold rH
    rw [h1 14 (by omega), h1 15 (by omega), h1 78 (by omega), h1 79 (by omega)]
    exact k5
  · rw [F 1 (by decide), F 8 (by decide), F 16 (by decide)]
    exact b2
  · exact ⟨(d62 0 (by decide)).trans b3.1, (d62 1 (by decide)).trans b3.2.1, (d62 2 (by decide)).trans b3.2.2.1, (d62 3 (by decide)).trans b3.2.2.2.1, (d62 4 (by decide)).trans b3.2.2.2.2.1, (d62 5 (by decide)).trans b3.2.2.2.2.2⟩
  · intro i hi
    obtain ⟨p1, p2, p3⟩ := b4 i hi
    rw [A 2 (by decide), A 3 (by decide), show 30 * 0 + i = i by omega]
    exact ⟨p1.trans (d63 i (by omega)).symm, p2.trans (d64 i (by omega)).symm, p3⟩
  · obtain ⟨e, e0, en, he⟩ := b5
    refine ⟨e, e0, en, fun i hi => ?_⟩
    obtain ⟨p1, p2, p3, p4⟩ := he i hi
    rw [A 4 (by decide), show 31 * 0 + i = i by omega]
    exact ⟨p1, p2, p3, (d65 i (by omega) (by omega)).trans p4⟩
  · intro k hk
    obtain ⟨⟨q, q1, q2, q3⟩, q4, q5⟩ := b6 k hk
    rw [A 5 (by decide), A 6 (by decide), A 7 (by decide), show 180 * 0 + 3 * k = 3 * k by omega]
    exact ⟨⟨q, q1, q2, (d66 (3 * k) (by omega)).trans q3⟩, q4.trans (d66 (3 * k + 1) (by omega)).symm, q5.trans (d66 (3 * k + 2) (by omega)).symm⟩
  · intro i hi
    rw [A 9 (by decide), show 16 * 0 + i = i by omega]
    exact (b7 i hi).trans (d67 i (by omega)).symm
  · intro i hi
    obtain ⟨p1, p2, -⟩ := b8 i hi
    rw [A 10 (by decide), A 11 (by decide), show 32 * 0 + 2 * i = 2 * i by omega, d68 (2 * i) (by omega), d68 (2 * i + 1) (by omega), show 32 + (2 * i + 1) = 33 + 2 * i by omega]
    exact ⟨p1, p2⟩
  · intro i hi
    obtain ⟨p1, p2, p3, p4⟩ := b9 i hi
    rw [A 12 (by decide), A 13 (by decide), A 14 (by decide), A 15 (by decide), show 80 * 0 + 4 * i = 4 * i by omega]
    exact ⟨p1.trans (d69 (4 * i) (by omega)).symm, p2.trans (d69 (4 * i + 1) (by omega)).symm, p3.trans (d69 (4 * i + 2) (by omega)).symm, p4.trans (d69 (4 * i + 3) (by omega)).symm⟩
  · intro i hi
    obtain ⟨p1, k, u, q1, q2, q3, q4, q5, q6⟩ := b10 i hi
    rw [A 17 (by decide), A 18 (by decide), A 19 (by decide), show 20 * 0 + i = i by omega]
    exact ⟨p1.trans (d70 i (by omega)).symm, k, u, q1, q2, q3, q4, q5, (d71 i (by omega)).trans q6⟩
  · exact d65n.trans b3.2.1
