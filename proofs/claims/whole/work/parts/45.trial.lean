/-! trial, and what answers by it -/
def tres (x : Int32) : Int32 := if x ≤ -2 then -2 else x
def tas (x : Int32) : Int32 := if x ≤ -2 then -2 - x else -1
theorem nI_m2 {i : Nat} (h : i < 2 ^ 31) : ¬ nI i ≤ -2 := by
  intro z
  have z1 := Int32.le_iff_toInt_le.mp z
  rw [nI_toInt h] at z1
  have : (-2 : Int32).toInt = -2 := by decide
  omega
theorem tr_n {i : Nat} (h : i < 2 ^ 31) : tres (nI i) = nI i ∧ tas (nI i) = -1 := ⟨if_neg (nI_m2 h), if_neg (nI_m2 h)⟩
theorem tr_m : tres (-1) = -1 ∧ tas (-1) = -1 := ⟨if_neg (by decide), if_neg (by decide)⟩
theorem tr_q {q : Nat} (hq : q < 10) : tres (nI 0 - nI 2 - nI q) = -2 ∧ tas (nI 0 - nI 2 - nI q) = nI q := by
  have h1 := (ask_q hq (x := 0)).2.2.2.2.2
  have h2 := (ask_q hq (x := 0)).1
  unfold ask at h2
  rw [if_pos (ask_q hq (x := 0)).2.1] at h2
  exact ⟨if_pos h1, by unfold tas; rw [if_pos h1]; exact h2⟩
set_option maxRecDepth 100000 in
set_option maxHeartbeats 4000000 in
theorem t_end_n {ro : Nat → Option am_C} {c : Bool} {a : Nat → Nat → Int32} {l : Nat → Int64} {f : Nat → Nat → Int32} {x : Int32} {A B C : Value} (h : f 60 23 < 0) : am_T ro 2 124 164 [.ref 60, .int x, A, B, C] [] (wd c a l f) (fun r hp' => r = some (.int x) ∧ hp' = wd c a l f) := by
  refine am_wp_ok (inl := []) 20 2 124 [] _ _ _ _ _ ?_
  refine am_br_t h ?_
  exact And.intro rfl rfl
set_option maxRecDepth 100000 in
set_option maxHeartbeats 4000000 in
theorem t_end_q {ro : Nat → Option am_C} {c : Bool} {a : Nat → Nat → Int32} {l : Nat → Int64} {f : Nat → Nat → Int32} {x : Int32} {A B C : Value} (h : ¬ f 60 23 < 0) : am_T ro 2 124 164 [.ref 60, .int x, A, B, C] [] (wd c a l f) (fun r hp' => r = some (.int (-2)) ∧ hp' = wd c a l f) := by
  refine am_wp_ok (inl := []) 20 2 124 [] _ _ _ _ _ ?_
  refine am_br_f h ?_
  exact And.intro rfl rfl
set_option maxRecDepth 100000 in
set_option maxHeartbeats 4000000 in
theorem mo_trial {ro : Nat → Option am_C} {c : Bool} {a : Nat → Nat → Int32} {l : Nat → Int64} {f : Nat → Nat → Int32} {nb nc ng : Nat} {e : Nat → Nat} (hb : nb ≤ 30) (hnc : nc ≤ 60) (ecnt : a 62 0 = nI nb) (he : ∀ i, i < nb → e i ≤ e (i + 1) ∧ e (i + 1) ≤ nc) (hS : ∀ i, i ≤ nb → a 65 i = nI (e i)) (hA : ∀ k, k < nc → ∃ q : Nat, q < 10 ∧ a 66 (3 * k) = nI q) (hng : ng ≤ 16) (eg : a 62 2 = nI ng) : am_run ro 3 124 [.ref 60] (wd c a l f) (some (.int (tres (outc (a 63) (a 64) (fun x => an (fun q => decide (a 67 q = x)) 0 ng) (fun i => mt (a 72) (a 73) (fun z => a 66 (3 * z)) (fun z => a 66 (3 * z + 1)) (fun z => a 66 (3 * z + 2)) (e i) (e (i + 1) - e i)) nb)))) (wd c a l (u3 f 60 23 (tas (outc (a 63) (a 64) (fun x => an (fun q => decide (a 67 q = x)) 0 ng) (fun i => mt (a 72) (a 73) (fun z => a 66 (3 * z)) (fun z => a 66 (3 * z + 1)) (fun z => a 66 (3 * z + 2)) (e i) (e (i + 1) - e i)) nb)))) := by
  have trv : ∀ i, i < nb → tri ((fun i => mt (a 72) (a 73) (fun z => a 66 (3 * z)) (fun z => a 66 (3 * z + 1)) (fun z => a 66 (3 * z + 2)) (e i) (e (i + 1) - e i)) i) := fun i hi => mt_tri _ _ (fun k h1 h2 => hA k (by have := he i hi; omega))
  refine am_run_of rfl (am_wp_ok (inl := []) 20 2 124 [9] 0 _ _ _ _ ?_)
  show am_T ro 2 124 9 [.ref 60, .int (-1), .int (nI 0), am_un, am_un] [] ((wd c a l f).set 60 (.inr (10, [.ref 61, .int (f 60 1), .int (f 60 2), .int (f 60 3), .ref 62, .ref 63, .ref 64, .ref 65, .ref 66, .ref 67, .ref 68, .ref 69, .ref 70, .ref 71, .ref 72, .ref 73, .ref 74, .ref 75, .int (f 60 18), .ref 76, .ref 77, .ref 78, .ref 79, .int (f 60 23), .ref 80, .ref 81, .int (f 60 26), .int (f 60 27), .int (f 60 28)].set 23 (.int (-1))))) _
  rw [wf_60_23]
  refine t1_loop hb hnc ecnt he hS hA (f := u3 f 60 23 (-1)) rfl nb 0 (by omega) (fun b' => ?_)
  rw [u3_u3]
  rcases fft_cases (ok := fun _ => true) nb 0 (fun i _ hi => trv i (by omega)) with h | ⟨i, -, hi, h⟩ | ⟨q, hq, h⟩
  · rw [out_neg (show fft (fun _ => true) (fun i => mt (a 72) (a 73) (fun z => a 66 (3 * z)) (fun z => a 66 (3 * z + 1)) (fun z => a 66 (3 * z + 2)) (e i) (e (i + 1) - e i)) 0 nb < 0 by rw [h]; decide), h, fnd_m1, ask_m1, tr_m.1, tr_m.2]
    refine am_wp_ok (inl := []) 20 2 124 [164] _ _ _ _ _ ?_
    refine am_br_t (by decide) ?_
    exact t_end_n (show (-1 : Int32) < 0 by decide)
  · have hi' : i < nb := by omega
    have ci : (nI i).toNatClampNeg = i := nI_clamp (by omega)
    rw [h, show fnd (nI i) = nI i from if_neg (nI_pos (by omega)), show ask (nI i) (-1) = -1 from if_neg (nI_pos (by omega))]
    refine am_wp_ok (inl := []) 20 2 124 [54] _ _ _ _ _ ?_
    refine am_br_f (nI_pos (by omega)) ?_
    show am_T ro 2 124 54 [.ref 60, .int (nI i), .int (nI b'), am_un, am_un] [] (wd c a l (u3 f 60 23 (-1))) _
    refine am_wp_ok (inl := []) 20 2 124 [67, 164] _ _ _ _ _ ?_
    refine And.intro (show vp_in (nI i) 60 from vp_in_nI (by omega) (by decide)) ?_
    have hgen : am_run ro 2 122 [.ref 60, .int (a 63 (nI i).toNatClampNeg)] (wd c a l (u3 f 60 23 (-1))) (some (.int (nI (an (fun q => decide (a 67 q = a 63 i)) 0 ng).toNat))) (wd c a l (u3 f 60 23 (-1))) := by rw [ci]; exact am_run_up (mo_gen hng eg) (by decide)
    refine ⟨_, _, hgen, ?_⟩
    cases hgn : an (fun q => decide (a 67 q = a 63 i)) 0 ng with
    | false =>
      refine am_br_t (show nI false.toNat = 0 from rfl) ?_
      rw [out_pl (gn := (fun x => an (fun q => decide (a 67 q = x)) 0 ng)) h (by omega) hgn, (tr_n (show i < 2 ^ 31 by omega)).1, (tr_n (show i < 2 ^ 31 by omega)).2]
      exact t_end_n (show (-1 : Int32) < 0 by decide)
    | true =>
      refine am_br_f (show ¬ nI true.toNat = 0 by decide) ?_
      show am_T ro 2 124 67 [.ref 60, .int (nI i), .int (nI b'), am_un, am_un] [] (wd c a l (u3 f 60 23 (-1))) _
      refine am_wp_ok (inl := []) 20 2 124 [73] _ _ _ _ _ ?_
      show am_T ro 2 124 73 [.ref 60, .int (nI i), .int (-1), .int (nI i + 1), am_un] [] (wd c a l (u3 f 60 23 (-1))) _
      rw [nI_1, out_sp (gn := (fun x => an (fun q => decide (a 67 q = x)) 0 ng)) h (by omega) hgn]
      refine t2_loop hb hnc ecnt he hS hA hng eg hi' (f := u3 f 60 23 (-1)) rfl (nb - (i + 1)) (i + 1) am_un rfl (by omega) (fun b2 Z => ?_)
      rw [u3_u3]
      rcases fft_cases (ok := fun j => decide (a 64 j = a 64 i) && !an (fun q => decide (a 67 q = a 63 j)) 0 ng) (nb - (i + 1)) (i + 1) (fun j h1 h2 => trv j (by omega)) with hs | ⟨j, h1, h2, hs⟩ | ⟨q, hq, hs⟩
      · rw [hs, fnd_m1, ask_m1, if_pos rfl, (tr_n (show i < 2 ^ 31 by omega)).1, (tr_n (show i < 2 ^ 31 by omega)).2]
        refine am_wp_ok (inl := []) 20 2 124 [164] _ _ _ _ _ ?_
        refine am_br_t (by decide) ?_
        exact t_end_n (show (-1 : Int32) < 0 by decide)
      · have hne : ¬ nI j = -1 := fun z => absurd (show (nI j) < 0 by rw [z]; decide) (nI_pos (by omega))
        rw [hs, show fnd (nI j) = nI j from if_neg (nI_pos (by omega)), show ask (nI j) (-1) = -1 from if_neg (nI_pos (by omega)), if_neg hne, (tr_n (show j < 2 ^ 31 by omega)).1, (tr_n (show j < 2 ^ 31 by omega)).2]
        refine am_wp_ok (inl := []) 20 2 124 [164] _ _ _ _ _ ?_
        refine am_br_f (nI_pos (by omega)) ?_
        exact t_end_n (show (-1 : Int32) < 0 by decide)
      · rw [hs, show fnd (nI 0 - nI 2 - nI q) = -1 from if_pos (ask_q hq (x := 0)).2.1, (ask_q hq).1, if_neg (ask_q hq (x := 0)).2.2.2.2.1, (tr_q hq).1, (tr_q hq).2]
        refine am_wp_ok (inl := []) 20 2 124 [164] _ _ _ _ _ ?_
        refine am_br_t (by decide) ?_
        exact t_end_q (show ¬ nI q < 0 from nI_pos (by omega))
  · rw [out_neg (show fft (fun _ => true) (fun i => mt (a 72) (a 73) (fun z => a 66 (3 * z)) (fun z => a 66 (3 * z + 1)) (fun z => a 66 (3 * z + 2)) (e i) (e (i + 1) - e i)) 0 nb < 0 by rw [h]; exact (ask_q hq (x := 0)).2.1), h, show fnd (nI 0 - nI 2 - nI q) = -1 from if_pos (ask_q hq (x := 0)).2.1, (ask_q hq).1, (tr_q hq).1, (tr_q hq).2]
    refine am_wp_ok (inl := []) 20 2 124 [164] _ _ _ _ _ ?_
    refine am_br_t (by decide) ?_
    exact t_end_q (show ¬ nI q < 0 from nI_pos (by omega))
/-- what an outcome can be -/
def oc (nb : Nat) (x : Int32) : Prop := x = -1 ∨ (∃ i : Nat, i < nb ∧ x = nI i) ∨ ∃ q : Nat, q < 10 ∧ x = nI 0 - nI 2 - nI q
theorem out_oc {T G : Nat → Int32} {gn : Int32 → Bool} {M : Nat → Int32} {nb : Nat} (hb : nb ≤ 30) (h : ∀ i, i < nb → tri (M i)) : oc nb (outc T G gn M nb) := by
  rcases fft_cases (ok := fun _ => true) nb 0 (fun i _ hi => h i (by omega)) with h1 | ⟨i, -, hi, h1⟩ | ⟨q, hq, h1⟩
  · rw [out_neg (by rw [h1]; decide), h1]
    exact Or.inl rfl
  · cases hg : gn (T i) with
    | false => rw [out_pl h1 (by omega) hg]; exact Or.inr (Or.inl ⟨i, by omega, rfl⟩)
    | true =>
      rw [out_sp h1 (by omega) hg]
      by_cases hs : fft (fun j => decide (G j = G i) && !gn (T j)) M (i + 1) (nb - (i + 1)) = -1
      · rw [if_pos hs]
        exact Or.inr (Or.inl ⟨i, by omega, rfl⟩)
      · rw [if_neg hs]
        rcases fft_cases (ok := fun j => decide (G j = G i) && !gn (T j)) (nb - (i + 1)) (i + 1) (fun j h1 h2 => h j (by omega)) with h2 | ⟨j, h2, h3, h4⟩ | ⟨q, hq, h2⟩
        · exact absurd h2 hs
        · exact Or.inr (Or.inl ⟨j, by omega, h4⟩)
        · exact Or.inr (Or.inr ⟨q, hq, h2⟩)
  · rw [out_neg (by rw [h1]; exact (ask_q hq (x := 0)).2.1), h1]
    exact Or.inr (Or.inr ⟨q, hq, rfl⟩)
