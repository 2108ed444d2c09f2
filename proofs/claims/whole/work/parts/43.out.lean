/-! THE OUTCOME, in the class -/
/-- the branch that is taken, -1, or -2 less the fact that is asked for -/
def outc (T G : Nat → Int32) (gn : Int32 → Bool) (M : Nat → Int32) (nb : Nat) : Int32 :=
  if fft (fun _ => true) M 0 nb < 0 then fft (fun _ => true) M 0 nb else
    bif gn (T (fft (fun _ => true) M 0 nb).toNatClampNeg) then
      (if fft (fun i => decide (G i = G (fft (fun _ => true) M 0 nb).toNatClampNeg) && !gn (T i)) M ((fft (fun _ => true) M 0 nb).toNatClampNeg + 1) (nb - ((fft (fun _ => true) M 0 nb).toNatClampNeg + 1)) = -1 then fft (fun _ => true) M 0 nb
        else fft (fun i => decide (G i = G (fft (fun _ => true) M 0 nb).toNatClampNeg) && !gn (T i)) M ((fft (fun _ => true) M 0 nb).toNatClampNeg + 1) (nb - ((fft (fun _ => true) M 0 nb).toNatClampNeg + 1)))
    else fft (fun _ => true) M 0 nb
theorem out_neg {T G : Nat → Int32} {gn : Int32 → Bool} {M : Nat → Int32} {nb : Nat} (h : fft (fun _ => true) M 0 nb < 0) : outc T G gn M nb = fft (fun _ => true) M 0 nb := if_pos h
theorem out_pl {T G : Nat → Int32} {gn : Int32 → Bool} {M : Nat → Int32} {nb i : Nat} (h : fft (fun _ => true) M 0 nb = nI i) (hi : i < 30) (hg : gn (T i) = false) : outc T G gn M nb = nI i := by
  unfold outc
  rw [h, if_neg (nI_pos (by omega)), nI_clamp (by omega), hg]
  rfl
theorem out_sp {T G : Nat → Int32} {gn : Int32 → Bool} {M : Nat → Int32} {nb i : Nat} (h : fft (fun _ => true) M 0 nb = nI i) (hi : i < 30) (hg : gn (T i) = true) : outc T G gn M nb = if fft (fun j => decide (G j = G i) && !gn (T j)) M (i + 1) (nb - (i + 1)) = -1 then nI i else fft (fun j => decide (G j = G i) && !gn (T j)) M (i + 1) (nb - (i + 1)) := by
  unfold outc
  rw [h, if_neg (nI_pos (by omega)), nI_clamp (by omega), hg]
  rfl
set_option maxRecDepth 100000 in
set_option maxHeartbeats 4000000 in
theorem ou_16 {ro : Nat → Option am_C} {c : Bool} {a : Nat → Nat → Int32} {l : Nat → Int64} {f : Nat → Nat → Int32} {nb nc ng : Nat} {e : Nat → Nat} (hb : nb ≤ 30) (hnc : nc ≤ 60) (hng : ng ≤ 16) (ecnt : f 17 6 = nI nb) (ec : f 17 7 = nI nc) (eg : f 24 7 = nI ng) (e0 : e 0 = 0) (he : ∀ i, i < nb → e i ≤ e (i + 1) ∧ e (i + 1) ≤ nc ∧ a 20 i = nI (e (i + 1))) (hA : ∀ k, k < nc → ∃ q : Nat, q < 10 ∧ a 21 k = nI q) (hG : ∀ i, i < nb → ∃ g : Nat, g < 10 ∧ a 19 i = nI g) : am_run ro 5 65 [.ref 16, .ref 3] (wd c a l f) (some (.int (outc (a 18) (a 19) (fun x => an (fun q => decide (a 25 q = x)) 0 ng) (fun i => mt (a 4) (a 5) (a 21) (a 22) (a 23) (e i) (e (i + 1) - e i)) nb))) (wd c a l f) := by
  have tr : ∀ i, 0 ≤ i → i < 0 + nb → tri ((fun i => mt (a 4) (a 5) (a 21) (a 22) (a 23) (e i) (e (i + 1) - e i)) i) := fun i _ hi => mt_tri _ _ (fun k h1 h2 => hA k (by have := he i (by omega); omega))
  have h1 : am_run ro 4 66 [.ref 16, .int 0, .int (-1), .ref 3] (wd c a l f) (some (.int (fft (fun _ => true) (fun i => mt (a 4) (a 5) (a 21) (a 22) (a 23) (e i) (e (i + 1) - e i)) 0 nb))) (wd c a l f) := fi_16 (b := 0) (ok := fun _ => true) hb hnc hng ecnt ec eg e0 he hA (Or.inl ⟨rfl, fun _ => rfl⟩) (by omega)
  refine am_run_of rfl (am_wp_ok (inl := []) 20 4 65 [8] 0 _ _ _ _ ?_)
  refine ⟨_, _, h1, ?_⟩
  show am_T ro 4 65 8 [.ref 16, .ref 3, .int (fft (fun _ => true) (fun i => mt (a 4) (a 5) (a 21) (a 22) (a 23) (e i) (e (i + 1) - e i)) 0 nb), am_un] [] (wd c a l f) _
  rcases fft_cases (ok := fun _ => true) nb 0 tr with h | ⟨i, -, hi, h⟩ | ⟨q, hq, h⟩
  · have hn : fft (fun _ => true) (fun i => mt (a 4) (a 5) (a 21) (a 22) (a 23) (e i) (e (i + 1) - e i)) 0 nb < 0 := by rw [h]; decide
    refine am_wp_ok (inl := []) 20 4 65 [] _ _ _ _ _ ?_
    refine am_br_t hn ?_
    exact And.intro (by rw [out_neg hn]) rfl
  · have hi' : i < nb := by omega
    rw [h]
    refine am_wp_ok (inl := []) 20 4 65 [12] _ _ _ _ _ ?_
    refine am_br_f (nI_pos (by omega)) ?_
    show am_T ro 4 65 12 [.ref 16, .ref 3, .int (nI i), am_un] [] (wd c a l f) _
    refine am_wp_ok (inl := []) 20 4 65 [32] _ _ _ _ _ ?_
    refine ⟨_, _, am_run_up (co_16 hb hi' ecnt) (by decide), ?_⟩
    refine ⟨_, _, am_run_up (ig_16 hng eg) (by decide), ?_⟩
    cases hgn : an (fun q => decide (a 25 q = a 18 i)) 0 ng with
    | false =>
      refine am_br_f (show ¬ ¬ nI false.toNat = 0 from fun z => z rfl) ?_
      exact And.intro (by rw [out_pl (gn := (fun x => an (fun q => decide (a 25 q = x)) 0 ng)) h (by omega) hgn]) rfl
    | true =>
      refine am_br_t (show ¬ nI true.toNat = 0 by decide) ?_
      show am_T ro 4 65 32 [.ref 16, .ref 3, .int (nI i), am_un] [] (wd c a l f) _
      obtain ⟨gg, hgg, egg⟩ := hG i hi'
      have h2 : am_run ro 4 66 [.ref 16, .int (nI i + 1), .int (a 19 i), .ref 3] (wd c a l f) (some (.int (fft (fun j => decide (a 19 j = a 19 i) && !an (fun q => decide (a 25 q = a 18 j)) 0 ng) (fun i => mt (a 4) (a 5) (a 21) (a 22) (a 23) (e i) (e (i + 1) - e i)) (i + 1) (nb - (i + 1))))) (wd c a l f) := by
        rw [nI_1]
        exact fi_16 (b := i + 1) hb hnc hng ecnt ec eg e0 he hA (Or.inr ⟨by rw [egg]; exact fun z => absurd (show (nI gg) < 0 by rw [z]; decide) (nI_pos (by omega)), fun _ => rfl⟩) (by omega)
      refine am_wp_ok (inl := []) 20 4 65 [49] _ _ _ _ _ ?_
      refine ⟨_, _, am_run_up (gr_16 hb hi' ecnt) (by decide), ?_⟩
      refine ⟨_, _, h2, ?_⟩
      show am_T ro 4 65 49 [.ref 16, .ref 3, .int (nI i), .int (fft (fun j => decide (a 19 j = a 19 i) && !an (fun q => decide (a 25 q = a 18 j)) 0 ng) (fun i => mt (a 4) (a 5) (a 21) (a 22) (a 23) (e i) (e (i + 1) - e i)) (i + 1) (nb - (i + 1)))] [] (wd c a l f) _
      rw [out_sp (gn := (fun x => an (fun q => decide (a 25 q = x)) 0 ng)) h (by omega) hgn]
      refine am_wp_ok (inl := []) 20 4 65 [] _ _ _ _ _ ?_
      by_cases hs : fft (fun j => decide (a 19 j = a 19 i) && !an (fun q => decide (a 25 q = a 18 j)) 0 ng) (fun i => mt (a 4) (a 5) (a 21) (a 22) (a 23) (e i) (e (i + 1) - e i)) (i + 1) (nb - (i + 1)) = -1
      · refine am_br_f (show ¬ ¬ fft (fun j => decide (a 19 j = a 19 i) && !an (fun q => decide (a 25 q = a 18 j)) 0 ng) (fun i => mt (a 4) (a 5) (a 21) (a 22) (a 23) (e i) (e (i + 1) - e i)) (i + 1) (nb - (i + 1)) = -1 from fun z => z hs) ?_
        exact And.intro (by rw [if_pos hs]) rfl
      · refine am_br_t hs ?_
        exact And.intro (by rw [if_neg hs]) rfl
  · have hn : fft (fun _ => true) (fun i => mt (a 4) (a 5) (a 21) (a 22) (a 23) (e i) (e (i + 1) - e i)) 0 nb < 0 := by rw [h]; exact (ask_q hq (x := 0)).2.1
    refine am_wp_ok (inl := []) 20 4 65 [] _ _ _ _ _ ?_
    refine am_br_t hn ?_
    exact And.intro (by rw [out_neg hn]) rfl
set_option maxRecDepth 100000 in
set_option maxHeartbeats 4000000 in
theorem ou_38 {ro : Nat → Option am_C} {c : Bool} {a : Nat → Nat → Int32} {l : Nat → Int64} {f : Nat → Nat → Int32} {nb nc ng : Nat} {e : Nat → Nat} (hb : nb ≤ 30) (hnc : nc ≤ 60) (hng : ng ≤ 16) (ecnt : f 39 6 = nI nb) (ec : f 39 7 = nI nc) (eg : f 46 7 = nI ng) (e0 : e 0 = 0) (he : ∀ i, i < nb → e i ≤ e (i + 1) ∧ e (i + 1) ≤ nc ∧ a 42 i = nI (e (i + 1))) (hA : ∀ k, k < nc → ∃ q : Nat, q < 10 ∧ a 43 k = nI q) (hG : ∀ i, i < nb → ∃ g : Nat, g < 10 ∧ a 41 i = nI g) : am_run ro 5 65 [.ref 38, .ref 3] (wd c a l f) (some (.int (outc (a 40) (a 41) (fun x => an (fun q => decide (a 47 q = x)) 0 ng) (fun i => mt (a 4) (a 5) (a 43) (a 44) (a 45) (e i) (e (i + 1) - e i)) nb))) (wd c a l f) := by
  have tr : ∀ i, 0 ≤ i → i < 0 + nb → tri ((fun i => mt (a 4) (a 5) (a 43) (a 44) (a 45) (e i) (e (i + 1) - e i)) i) := fun i _ hi => mt_tri _ _ (fun k h1 h2 => hA k (by have := he i (by omega); omega))
  have h1 : am_run ro 4 66 [.ref 38, .int 0, .int (-1), .ref 3] (wd c a l f) (some (.int (fft (fun _ => true) (fun i => mt (a 4) (a 5) (a 43) (a 44) (a 45) (e i) (e (i + 1) - e i)) 0 nb))) (wd c a l f) := fi_38 (b := 0) (ok := fun _ => true) hb hnc hng ecnt ec eg e0 he hA (Or.inl ⟨rfl, fun _ => rfl⟩) (by omega)
  refine am_run_of rfl (am_wp_ok (inl := []) 20 4 65 [8] 0 _ _ _ _ ?_)
  refine ⟨_, _, h1, ?_⟩
  show am_T ro 4 65 8 [.ref 38, .ref 3, .int (fft (fun _ => true) (fun i => mt (a 4) (a 5) (a 43) (a 44) (a 45) (e i) (e (i + 1) - e i)) 0 nb), am_un] [] (wd c a l f) _
  rcases fft_cases (ok := fun _ => true) nb 0 tr with h | ⟨i, -, hi, h⟩ | ⟨q, hq, h⟩
  · have hn : fft (fun _ => true) (fun i => mt (a 4) (a 5) (a 43) (a 44) (a 45) (e i) (e (i + 1) - e i)) 0 nb < 0 := by rw [h]; decide
    refine am_wp_ok (inl := []) 20 4 65 [] _ _ _ _ _ ?_
    refine am_br_t hn ?_
    exact And.intro (by rw [out_neg hn]) rfl
  · have hi' : i < nb := by omega
    rw [h]
    refine am_wp_ok (inl := []) 20 4 65 [12] _ _ _ _ _ ?_
    refine am_br_f (nI_pos (by omega)) ?_
    show am_T ro 4 65 12 [.ref 38, .ref 3, .int (nI i), am_un] [] (wd c a l f) _
    refine am_wp_ok (inl := []) 20 4 65 [32] _ _ _ _ _ ?_
    refine ⟨_, _, am_run_up (co_38 hb hi' ecnt) (by decide), ?_⟩
    refine ⟨_, _, am_run_up (ig_38 hng eg) (by decide), ?_⟩
    cases hgn : an (fun q => decide (a 47 q = a 40 i)) 0 ng with
    | false =>
      refine am_br_f (show ¬ ¬ nI false.toNat = 0 from fun z => z rfl) ?_
      exact And.intro (by rw [out_pl (gn := (fun x => an (fun q => decide (a 47 q = x)) 0 ng)) h (by omega) hgn]) rfl
    | true =>
      refine am_br_t (show ¬ nI true.toNat = 0 by decide) ?_
      show am_T ro 4 65 32 [.ref 38, .ref 3, .int (nI i), am_un] [] (wd c a l f) _
      obtain ⟨gg, hgg, egg⟩ := hG i hi'
      have h2 : am_run ro 4 66 [.ref 38, .int (nI i + 1), .int (a 41 i), .ref 3] (wd c a l f) (some (.int (fft (fun j => decide (a 41 j = a 41 i) && !an (fun q => decide (a 47 q = a 40 j)) 0 ng) (fun i => mt (a 4) (a 5) (a 43) (a 44) (a 45) (e i) (e (i + 1) - e i)) (i + 1) (nb - (i + 1))))) (wd c a l f) := by
        rw [nI_1]
        exact fi_38 (b := i + 1) hb hnc hng ecnt ec eg e0 he hA (Or.inr ⟨by rw [egg]; exact fun z => absurd (show (nI gg) < 0 by rw [z]; decide) (nI_pos (by omega)), fun _ => rfl⟩) (by omega)
      refine am_wp_ok (inl := []) 20 4 65 [49] _ _ _ _ _ ?_
      refine ⟨_, _, am_run_up (gr_38 hb hi' ecnt) (by decide), ?_⟩
      refine ⟨_, _, h2, ?_⟩
      show am_T ro 4 65 49 [.ref 38, .ref 3, .int (nI i), .int (fft (fun j => decide (a 41 j = a 41 i) && !an (fun q => decide (a 47 q = a 40 j)) 0 ng) (fun i => mt (a 4) (a 5) (a 43) (a 44) (a 45) (e i) (e (i + 1) - e i)) (i + 1) (nb - (i + 1)))] [] (wd c a l f) _
      rw [out_sp (gn := (fun x => an (fun q => decide (a 47 q = x)) 0 ng)) h (by omega) hgn]
      refine am_wp_ok (inl := []) 20 4 65 [] _ _ _ _ _ ?_
      by_cases hs : fft (fun j => decide (a 41 j = a 41 i) && !an (fun q => decide (a 47 q = a 40 j)) 0 ng) (fun i => mt (a 4) (a 5) (a 43) (a 44) (a 45) (e i) (e (i + 1) - e i)) (i + 1) (nb - (i + 1)) = -1
      · refine am_br_f (show ¬ ¬ fft (fun j => decide (a 41 j = a 41 i) && !an (fun q => decide (a 47 q = a 40 j)) 0 ng) (fun i => mt (a 4) (a 5) (a 43) (a 44) (a 45) (e i) (e (i + 1) - e i)) (i + 1) (nb - (i + 1)) = -1 from fun z => z hs) ?_
        exact And.intro (by rw [if_pos hs]) rfl
      · refine am_br_t hs ?_
        exact And.intro (by rw [if_neg hs]) rfl
  · have hn : fft (fun _ => true) (fun i => mt (a 4) (a 5) (a 43) (a 44) (a 45) (e i) (e (i + 1) - e i)) 0 nb < 0 := by rw [h]; exact (ask_q hq (x := 0)).2.1
    refine am_wp_ok (inl := []) 20 4 65 [] _ _ _ _ _ ?_
    refine am_br_t hn ?_
    exact And.intro (by rw [out_neg hn]) rfl
