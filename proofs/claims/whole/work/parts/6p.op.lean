/-! READ: the call -/
def fz (b : Bool) (f : Nat → Nat → Int32) : Nat → Nat → Int32 := u3 (u3 (u3 (u3 (u3 (u3 f (ob b + 1) 6 0) (ob b + 1) 7 0) (ob b + 8) 7 0) (ob b + 8) 8 0) (ob b + 8) 9 0) (ob b + 16) 5 0
theorem FrC_z {b : Bool} {a f : Nat → Nat → Int32} {s t : Nat} {w : Int32} : FrC b a f a (tx (fz b f) s t w) := by
  refine FrC_trans ?_ FrC_t
  unfold fz
  refine FrC_trans ?_ (FrC_f (by omega) (by omega))
  refine FrC_trans ?_ (FrC_f (by omega) (by omega))
  refine FrC_trans ?_ (FrC_f (by omega) (by omega))
  refine FrC_trans ?_ (FrC_f (by omega) (by omega))
  refine FrC_trans ?_ (FrC_f (by omega) (by omega))
  exact FrC_f (by omega) (by omega)
theorem rQ_z {b : Bool} {a f a' : Nat → Nat → Int32} {l : Nat → Int64} {s t : Nat} {w : Int32} {R : Nat → Int32} (g : ∀ i, i < 6 → R (6 + i) = 0) : rQ (ob b) a (tx (fz b f) s t w) (u2 a' 62 R) l 0 0 0 0 0 0 := by
  refine ⟨by omega, ?_, ⟨g 0 (by decide), g 1 (by decide), g 2 (by decide), g 3 (by decide), g 4 (by decide), g 5 (by decide)⟩, fun i hi => absurd hi (by omega), ⟨fun _ => 0, rfl, rfl, fun i hi => absurd hi (by omega)⟩, fun i hi => absurd hi (by omega), fun i hi => absurd hi (by omega), fun i hi => absurd hi (by omega), fun i hi => absurd hi (by omega), fun i hi => absurd hi (by omega)⟩
  cases b <;> exact ⟨rfl, rfl, rfl, rfl, rfl, rfl⟩
theorem neg_w {W : Nat} (h : W < 1000000) : (-1 - nI W : Int32) < 0 := by
  rw [Int32.lt_iff_toInt_lt, Int32.toInt_sub, nI_toInt (by omega)]
  show ((-1 : Int) - W).bmod (2 ^ 32) < 0
  rw [Int.bmod_eq_of_le (by omega) (by omega)]
  omega
theorem ob_le {b : Bool} : 16 ≤ ob b ∧ ob b ≤ 38 := by cases b <;> decide
theorem op_read {N : Nat} {xs : Nat → Int32} : lp_op (wd_ro N xs) Rl 2 106 [] := by
  intro c a l f hR
  have hR0 := hR
  obtain ⟨⟨n, hn, e1, e60, hT⟩, k2, k3, k4, k5, k6⟩ := hR
  have hU : ∀ i, i < n → uy a i < 256 ∧ a 61 i = nI (uy a i) ∧ a 2 i = nI (if uy a i = 10 then 32 else uy a i) := by
    intro i hi
    obtain ⟨u, hu, x1, x2⟩ := hT i hi
    have e : uy a i = u := by
      unfold uy
      rw [x1, nI_clamp (by omega)]
    rw [e]
    exact ⟨hu, x1, x2⟩
  have hC : CT a f n (uy a) := ⟨hn, e1, fun i hi => ⟨(hU i hi).1, (hU i hi).2.2⟩⟩
  have frz : FrC (!c) a f a (tx (fz (!c) f) (sj (uy a) n 0) (ej (uy a) n 0) (nI 0)) := FrC_z
  have hP : CP a (tx (fz (!c) f) (sj (uy a) n 0) (ej (uy a) n 0) (nI 0)) n (uy a) 0 0 := ⟨CT_w frz hC, by omega, rfl, rfl, rfl⟩
  have jm : ∀ (a' : Nat → Nat → Int32) (l' : Nat → Int64) (f' : Nat → Nat → Int32) (R : Nat → Int32), a' 61 = a 61 → f' 60 1 = nI n → (∀ i, i < 6 → R (6 + i) = 0) → Jm (!c) a (tx (fz (!c) f) (sj (uy a) n 0) (ej (uy a) n 0) (nI 0)) (u2 a' 62 R) l' (rz f') n (uy a) 0 0 0 0 0 0 0 0 0 := by
    intro a' l' f' R h61 h60 g
    refine ⟨⟨hn, h60, fun i hi => ⟨(hU i hi).1, ?_⟩⟩, rfl, rfl, rfl, rQ_z g⟩
    show a' 61 i = _
    rw [h61]
    exact (hU i hi).2.1
  have nn : (!(!c)) = c := Bool.not_not c
  have ol := ob_le (b := c)
  have ol' := ob_le (b := !c)
  rcases te_loop (N := N) (xs := xs) (!c) n 0 0 0 0 0 0 0 0 0 0 a (tx (fz (!c) f) (sj (uy a) n 0) (ej (uy a) n 0) (nI 0)) (u2 a 62 (fun _ => 0)) l (rz f) (by omega) (by omega) (by omega) hP (Or.inl rfl) (jm a l f _ rfl e60 (fun _ _ => rfl)) with ⟨a1, f1, W, c1, cw, c3, c4⟩ | ⟨a1, f1, T1, j1, w1, wt1, nb, nc, ng, nm, np, nq, c1, cT, c3, cj, cs, cwt, c7⟩
  · have fr := FrC_trans frz c1
    have run1 : am_run (wd_ro N xs) 9 57 [.ref (ob (!c)), .ref 1] (wd c a l f) (some (.int (-1 - nI W))) (wd c a1 l f1) := te_head (!c) hC (c3 c l _ ⟨rfl, rfl⟩)
    have run2 := cl_read_n (am_run_up run1 (show 9 ≤ 11 by decide)) (neg_w cw)
    have h0 : am_T (wd_ro N xs) 3 106 0 (am_l0 106 [.ref 60]) [] (wd c a1 l (u3 f1 1 1 0)) (fun r hp' => ∃ (a2 : Nat → Nat → Int32) (l2 : Nat → Int64) (f2 : Nat → Nat → Int32), r = some (.int (-1 - nI W)) ∧ hp' = wd c a2 l2 f2 ∧ Rl c a2 l2 f2) := by
      refine rh_all (fun R g1 g2 => ?_)
      obtain ⟨a2, l2, f2, d1, d2⟩ := c4 _ _ _ (jm a1 l (u3 f1 1 1 0) R (fr.1 61 (by omega)) ((congrFun (fr.2.1 60 (by omega)) 1).trans e60) g1)
      refine d2 c _ ⟨a2, l2, u3 f2 60 1 0, rfl, rfl, ?_⟩
      have fx : ∀ x, (x = 9 ∨ (ob c ≤ x ∧ x ≤ ob c + 21)) → f2 x = f x := by
        intro x hx
        refine (d1.2.2.2.1 x (by omega)).trans ?_
        unfold rz
        rw [u3_x (by omega), u3_x (by omega), u3_x (by omega), u3_x (by omega)]
        refine fr.2.1 x ?_
        rw [nn]
        omega
      refine Rl_keep (fun x hx => ?_) (fun x i g3 g4 g5 => ?_) d1.2.2.1 (fun x hx => ?_) ?_ ?_ rfl hR0
      · refine (d1.1 x (by omega)).trans ((u2_ne (by omega)).trans (fr.1 x ?_))
        rw [nn]
        omega
      · refine (d1.2.1 x i g3 g4 g5).trans ?_
        have e : a1 x = a x := fr.1 x (by omega)
        by_cases hx : x = 62
        · subst hx
          rw [u2_same, g2 i g5, e]
        · rw [u2_ne hx, e]
      · rw [u3_x (by omega)]
        exact fx x hx
      · exact d1.2.2.2.2.trans (congrFun (fr.2.1 60 (by omega)) 18)
      · exact congrFun (d1.2.2.2.1 1 (by decide)) 1
    obtain ⟨r, hp', g1, a2, l2, f2, rfl, rfl, g2⟩ := am_run_ex rfl h0
    exact ⟨_, c, a1, l, _, c, a2, l2, f2, run2, am_run_up g1 (by decide), g2⟩
  · have fr := FrC_trans frz c1
    have run1 : am_run (wd_ro N xs) 9 57 [.ref (ob (!c)), .ref 1] (wd c a l f) (some (.int (nI T1))) (wd c a1 l f1) := te_head (!c) hC (c3 c l _ ⟨rfl, rfl⟩)
    obtain ⟨R7, R8, z7, z8, run2⟩ := cl_read_p (am_run_up run1 (show 9 ≤ 11 by decide)) (nI_pos (by omega))
    have h0 : am_T (wd_ro N xs) 3 106 0 (am_l0 106 [.ref 60]) [] (wd (!c) (u2 (u2 a1 7 R7) 8 R8) l (u3 f1 1 1 0)) (fun r hp' => ∃ (a2 : Nat → Nat → Int32) (l2 : Nat → Int64) (f2 : Nat → Nat → Int32), r = some (.int (nI T1)) ∧ hp' = wd (!c) a2 l2 f2 ∧ Rl (!c) a2 l2 f2) := by
      refine rh_all (fun R g1 g2 => ?_)
      obtain ⟨a2, l2, f2, st, fm, hM, m3, m27, m26, mq⟩ := c7 _ _ _ (jm (u2 (u2 a1 7 R7) 8 R8) l (u3 f1 1 1 0) R (fr.1 61 (by omega)) ((congrFun (fr.2.1 60 (by omega)) 1).trans e60) g1)
      refine st (!c) _ (r_out hM cj m3 cs ?_)
      obtain ⟨a3, l3, hr, hd⟩ := mo_hold (ro := wd_ro N xs) (c := !c) (a := a2) (l := l2) (f := u3 (nx f2 (sj (uy a) n j1) (ej (uy a) n j1)) 60 1 0) mq.2.2.1.1 mq.1.1
      refine r_good ?_ hr ⟨a3, l3, _, congrArg (fun z => some (Value.int z)) m26, rfl, ?_⟩
      · rcases cwt with rfl | rfl
        · exact Or.inl m27
        · exact Or.inr m27
      · have ax : ∀ x, ¬ x = 7 → ¬ x = 8 → (x < 62 ∨ 72 ≤ x) → a2 x = a1 x := fun x h1 h2 h3 => (fm.1 x h3).trans ((u2_ne (by omega)).trans ((u2_ne h2).trans (u2_ne h1)))
        have fx : ∀ x, x < 60 → ¬ x = 1 → (u3 (nx f2 (sj (uy a) n j1) (ej (uy a) n j1)) 60 1 0) x = f1 x := by
          intro x h1 h2
          unfold nx
          rw [u3_x (by omega), u3_x (by omega), u3_x (by omega)]
          refine (fm.2.2.2.1 x h1).trans ?_
          unfold rz
          rw [u3_x (by omega), u3_x (by omega), u3_x (by omega), u3_x h2]
        refine Rl_new (a := a) (f := f) mq hd (fun x hx => ?_) (fun i hi => ?_) (fun i hi => ?_) (fun x h1 h2 => ?_) (fun x h1 h2 => ?_) ?_ ?_ ?_ rfl k2 k4 k5
        · exact (hd.1 x (by omega)).trans ((ax x (by omega) (by omega) (by omega)).trans (fr.1 x (by omega)))
        · rw [hd.1 7 (by omega), fm.1 7 (by omega)]
          exact z7 i hi
        · rw [hd.1 8 (by omega), fm.1 8 (by omega)]
          exact z8 i hi
        · exact (hd.1 x (by omega)).trans (ax x (by omega) (by omega) (by omega))
        · exact fx x (by omega) (by omega)
        · exact (fx 9 (by decide) (by decide)).trans (fr.2.1 9 (by omega))
        · exact fm.2.2.2.2.trans (congrFun (fr.2.1 60 (by omega)) 18)
        · exact congrFun (fm.2.2.2.1 1 (by decide)) 1
    obtain ⟨r, hp', g1, a2, l2, f2, rfl, rfl, g2⟩ := am_run_ex rfl h0
    exact ⟨_, !c, _, l, _, !c, a2, l2, f2, run2, am_run_up g1 (by decide), g2⟩
