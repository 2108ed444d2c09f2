/-! the same count, in the reference -/
set_option maxRecDepth 100000 in
set_option maxHeartbeats 4000000 in
theorem mr_loop {ro : Nat → Option am_C} {c : Bool} {a : Nat → Nat → Int32} {l : Nat → Int64} {f : Nat → Nat → Int32} {i n : Nat} {kk : Int32} {X2 : Value} {v : Int64} {K : Option Value → am_H → Prop} (hn : n ≤ 20) (hi : i < n) (en : a 62 5 = nI n) : ∀ (m k : Nat) (w : Int32), k + m = n → am_T ro 2 132 172 [.ref 60, .int kk, X2, .long v, am_un, .int (nI i), .int (rk (a 81) i k m w), .int (nI n)] [] (wd c a l f) K → am_T ro 2 132 104 [.ref 60, .int kk, X2, .long v, am_un, .int (nI i), .int w, .int (nI k)] [] (wd c a l f) K := by
  have ci : (nI i).toNatClampNeg = i := nI_clamp (by omega)
  have hii : vp_in (nI i) 20 := vp_in_nI (by omega) (by decide)
  have h5 : vp_in (nI 5) 12 := vp_in_nI (by decide) (by decide)
  intro m
  induction m with
  | zero =>
    intro k w h kq
    refine am_wp_ok (inl := []) 8 2 132 [172] _ _ _ _ _ ?_
    refine And.intro h5 ?_
    refine am_br_t (show a 62 5 ≤ nI k by rw [en]; exact nI_le (by omega) (by omega)) ?_
    have e : k = n := by omega
    rw [e]
    exact kq
  | succ m ih =>
    intro k w h kq
    have ck : (nI k).toNatClampNeg = k := nI_clamp (by omega)
    have hik : vp_in (nI k) 20 := vp_in_nI (by omega) (by decide)
    have fin : ∀ w' : Int32, (bif bf (a 81) i k then w + 1 else w) = w' → am_T ro 2 132 166 [.ref 60, .int kk, X2, .long v, am_un, .int (nI i), .int w', .int (nI k)] [] (wd c a l f) K := by
      intro w' hw
      refine am_wp_ok (inl := []) 4 2 132 [104] _ _ _ _ _ ?_
      show am_T ro 2 132 104 [.ref 60, .int kk, X2, .long v, am_un, .int (nI i), .int w', .int (nI k + 1)] [] (wd c a l f) K
      rw [nI_1]
      refine ih (k + 1) w' (by omega) ?_
      rw [← hw]
      exact kq
    have yes : bf (a 81) i k = true → am_T ro 2 132 158 [.ref 60, .int kk, X2, .long v, am_un, .int (nI i), .int w, .int (nI k)] [.int w] (wd c a l f) K := by
      intro hb
      refine am_wp_ok (inl := []) 6 2 132 [166] _ _ _ _ _ ?_
      exact fin (w + 1) (by rw [hb]; rfl)
    have no : bf (a 81) i k = false → am_T ro 2 132 162 [.ref 60, .int kk, X2, .long v, am_un, .int (nI i), .int w, .int (nI k)] [.int w] (wd c a l f) K := by
      intro hb
      refine am_wp_ok (inl := []) 6 2 132 [166] _ _ _ _ _ ?_
      exact fin (w + 0) (by rw [hb, Int32.add_zero]; rfl)
    refine am_wp_ok (inl := []) 8 2 132 [115] _ _ _ _ _ ?_
    refine And.intro h5 ?_
    refine am_br_f (show ¬ a 62 5 ≤ nI k by rw [en]; exact nI_ge (by omega) (by omega)) ?_
    show am_T ro 2 132 115 [.ref 60, .int kk, X2, .long v, am_un, .int (nI i), .int w, .int (nI k)] [] (wd c a l f) K
    refine am_wp_ok (inl := []) 14 2 132 [134, 158] _ _ _ _ _ ?_
    refine And.intro hik (And.intro hii ?_)
    by_cases c1 : a 81 k < a 81 i
    · refine am_br_t (show a 81 (nI k).toNatClampNeg < a 81 (nI i).toNatClampNeg by rw [ck, ci]; exact c1) ?_
      exact yes (by unfold bf; rw [decide_eq_true c1]; rfl)
    · refine am_br_f (show ¬ a 81 (nI k).toNatClampNeg < a 81 (nI i).toNatClampNeg by rw [ck, ci]; exact c1) ?_
      show am_T ro 2 132 134 [.ref 60, .int kk, X2, .long v, am_un, .int (nI i), .int w, .int (nI k)] [.int w] (wd c a l f) K
      refine am_wp_ok (inl := []) 14 2 132 [151, 162] _ _ _ _ _ ?_
      refine And.intro hik (And.intro hii ?_)
      by_cases c2 : a 81 k = a 81 i
      · refine am_br_f (show ¬ ¬ a 81 (nI k).toNatClampNeg = a 81 (nI i).toNatClampNeg by rw [ck, ci]; exact fun z => z c2) ?_
        show am_T ro 2 132 151 [.ref 60, .int kk, X2, .long v, am_un, .int (nI i), .int w, .int (nI k)] [.int w] (wd c a l f) K
        refine am_wp_ok (inl := []) 4 2 132 [158, 162] _ _ _ _ _ ?_
        by_cases c3 : k < i
        · refine am_br_f (nI_ge c3 (by omega)) ?_
          exact yes (by unfold bf; rw [decide_eq_false c1, decide_eq_true c2, decide_eq_true c3]; rfl)
        · refine am_br_t (nI_le (by omega) (by omega)) ?_
          exact no (by unfold bf; rw [decide_eq_false c1, decide_eq_true c2, decide_eq_false c3]; rfl)
      · refine am_br_t (show ¬ a 81 (nI k).toNatClampNeg = a 81 (nI i).toNatClampNeg by rw [ck, ci]; exact c2) ?_
        exact no (by unfold bf; rw [decide_eq_false c1, decide_eq_false c2]; rfl)
