/-! the edits, a line, in the class -/
set_option maxRecDepth 100000 in
set_option maxHeartbeats 4000000 in
theorem di_in_16 {ro : Nat → Option am_C} {c : Bool} {a : Nat → Nat → Int32} {l : Nat → Int64} {f : Nat → Nat → Int32} {s t nm m i : Nat} {K : Option Value → am_H → Prop} (h2 : f 1 2 = nI s) (h3 : f 1 3 = nI t) (hst : s ≤ t) (ht : t ≤ 900) (hi : 1 ≤ i) (hit : i ≤ t - s) (hnm : nm < 20) (hm : m ≤ 8) : ∀ (n j : Nat) (cr : Int32) (R : Nat → Int32) (U7 U8 : Value), Nat.beq U7.category 1 = true → Nat.beq U8.category 1 = true → 1 ≤ j → j + n = m + 1 → (∀ (cr' : Int32) (V7 V8 : Value), Nat.beq V7.category 1 = true → Nat.beq V8.category 1 = true → am_T ro 1 99 146 [.ref 32, .int (nI nm), .ref 1, .int (nI m), .int (nI i), .int cr', .int (nI (m + 1)), V7, V8] [] (wd c (u2 a 37 (ei (fun j => decide (a 2 (s + (i - 1)) = a 35 (8 * nm + (j - 1)))) n j cr R)) l f) K) → am_T ro 1 99 62 [.ref 32, .int (nI nm), .ref 1, .int (nI m), .int (nI i), .int cr, .int (nI j), U7, U8] [] (wd c (u2 a 37 R) l f) K := by
  intro n
  induction n with
  | zero =>
    intro j cr R U7 U8 hU7 hU8 hj h kk
    refine am_wp_ok (inl := []) 6 1 99 [146] _ _ _ _ _ ?_
    refine am_br_t (nI_lt (by omega) (by omega)) ?_
    have e : j = m + 1 := by omega
    rw [e]
    exact kk cr U7 U8 hU7 hU8
  | succ n ih =>
    intro j cr R U7 U8 hU7 hU8 hj h kk
    have hin : vp_in (nI j) 9 := vp_in_nI (by omega) (by decide)
    have ej : (nI j).toNatClampNeg = j := nI_clamp (by omega)
    have ej1 : nI j - 1 = nI (j - 1) := nI_sub (y := 1) (by omega)
    have ei1 : nI i - 1 = nI (i - 1) := nI_sub (y := 1) (by omega)
    refine am_wp_ok (inl := []) 6 1 99 [68] _ _ _ _ _ ?_
    refine am_br_f (nI_nlt (by omega) (by omega)) ?_
    show am_T ro 1 99 68 [.ref 32, .int (nI nm), .ref 1, .int (nI m), .int (nI i), .int cr, .int (nI j), U7, U8] [] (wd c (u2 a 37 R) l f) K
    refine am_wp_ok (inl := []) 6 1 99 [77] _ _ _ _ _ ?_
    refine And.intro hin ?_
    show am_T ro 1 99 77 [.ref 32, .int (nI nm), .ref 1, .int (nI m), .int (nI i), .int cr, .int (nI j), .int (R (nI j).toNatClampNeg), U8] [] (wd c (u2 a 37 R) l f) K
    rw [ej]
    refine am_wp_ok (inl := []) 6 1 99 [85] _ _ _ _ _ ?_
    have hb : am_run ro 1 31 [.ref 1, .int (nI i - 1)] (wd c (u2 a 37 R) l f) (some (.int (a 2 (s + (i - 1))))) (wd c (u2 a 37 R) l f) := by rw [ei1]; exact sp_byte_t (a := u2 a 37 R) h2 h3 hst ht (by omega)
    refine ⟨_, _, hb, ?_⟩
    show am_T ro 1 99 85 [.ref 32, .int (nI nm), .ref 1, .int (nI m), .int (nI i), .int cr, .int (nI j), .int (R j), U8] [.int (a 2 (s + (i - 1)))] (wd c (u2 a 37 R) l f) K
    refine am_wp_ok (inl := []) 8 1 99 [94] _ _ _ _ _ ?_
    have hl : am_run ro 1 96 [.ref 32, .int (nI nm), .int (nI j - 1)] (wd c (u2 a 37 R) l f) (some (.int (a 35 (8 * nm + (j - 1))))) (wd c (u2 a 37 R) l f) := by rw [ej1]; exact la_16 (a := u2 a 37 R) hnm (by omega)
    refine ⟨_, _, hl, ?_⟩
    show am_T ro 1 99 94 [.ref 32, .int (nI nm), .ref 1, .int (nI m), .int (nI i), .int cr, .int (nI j), .int (R j), U8] [.int (a 35 (8 * nm + (j - 1))), .int (a 2 (s + (i - 1)))] (wd c (u2 a 37 R) l f) K
    have go : am_T ro 1 99 108 [.ref 32, .int (nI nm), .ref 1, .int (nI m), .int (nI i), .int cr, .int (nI j), .int (R j), .int (bif decide (a 2 (s + (i - 1)) = a 35 (8 * nm + (j - 1))) then cr else cr + 1)] [] (wd c (u2 a 37 R) l f) K := by
      generalize hch : (bif decide (a 2 (s + (i - 1)) = a 35 (8 * nm + (j - 1))) then cr else cr + 1) = ch
      refine am_wp_ok (inl := []) 20 1 99 [136] _ _ _ _ _ ?_
      refine And.intro (show vp_in (nI j - 1) 9 by rw [ej1]; exact vp_in_nI (by omega) (by decide)) ?_
      refine And.intro hin ?_
      show am_T ro 1 99 136 [.ref 32, .int (nI nm), .ref 1, .int (nI m), .int (nI i), .int cr, .int (nI j), .int (R j), .int ch] [] ((wd c (u2 a 37 R) l f).set 37 (.inl (.int, 9, .inl (upd R (nI j).toNatClampNeg (mn ch (mn (R j) (R (nI j - 1).toNatClampNeg) + 1)))))) K
      rw [ws_37, u2_u2, ej, ej1, nI_clamp (show j - 1 < 2 ^ 31 by omega)]
      refine am_wp_ok (inl := []) 6 1 99 [62] _ _ _ _ _ ?_
      show am_T ro 1 99 62 [.ref 32, .int (nI nm), .ref 1, .int (nI m), .int (nI i), .int (R j), .int (nI j + 1), .int (R j), .int ch] [] (wd c (u2 a 37 (upd R j (mn ch (mn (R j) (R (j - 1)) + 1)))) l f) K
      rw [nI_1]
      refine ih (j + 1) _ _ _ _ rfl rfl (by omega) (by omega) ?_
      rw [← hch]
      exact kk
    refine am_wp_ok (inl := []) 8 1 99 [108] _ _ _ _ _ ?_
    by_cases hq : a 2 (s + (i - 1)) = a 35 (8 * nm + (j - 1))
    · rw [decide_eq_true hq] at go
      refine am_br_f (show ¬ ¬ a 2 (s + (i - 1)) = a 35 (8 * nm + (j - 1)) from fun z => z hq) ?_
      exact go
    · rw [decide_eq_false hq] at go
      refine am_br_t hq ?_
      exact go
set_option maxRecDepth 100000 in
set_option maxHeartbeats 4000000 in
theorem di_in_38 {ro : Nat → Option am_C} {c : Bool} {a : Nat → Nat → Int32} {l : Nat → Int64} {f : Nat → Nat → Int32} {s t nm m i : Nat} {K : Option Value → am_H → Prop} (h2 : f 1 2 = nI s) (h3 : f 1 3 = nI t) (hst : s ≤ t) (ht : t ≤ 900) (hi : 1 ≤ i) (hit : i ≤ t - s) (hnm : nm < 20) (hm : m ≤ 8) : ∀ (n j : Nat) (cr : Int32) (R : Nat → Int32) (U7 U8 : Value), Nat.beq U7.category 1 = true → Nat.beq U8.category 1 = true → 1 ≤ j → j + n = m + 1 → (∀ (cr' : Int32) (V7 V8 : Value), Nat.beq V7.category 1 = true → Nat.beq V8.category 1 = true → am_T ro 1 99 146 [.ref 54, .int (nI nm), .ref 1, .int (nI m), .int (nI i), .int cr', .int (nI (m + 1)), V7, V8] [] (wd c (u2 a 59 (ei (fun j => decide (a 2 (s + (i - 1)) = a 57 (8 * nm + (j - 1)))) n j cr R)) l f) K) → am_T ro 1 99 62 [.ref 54, .int (nI nm), .ref 1, .int (nI m), .int (nI i), .int cr, .int (nI j), U7, U8] [] (wd c (u2 a 59 R) l f) K := by
  intro n
  induction n with
  | zero =>
    intro j cr R U7 U8 hU7 hU8 hj h kk
    refine am_wp_ok (inl := []) 6 1 99 [146] _ _ _ _ _ ?_
    refine am_br_t (nI_lt (by omega) (by omega)) ?_
    have e : j = m + 1 := by omega
    rw [e]
    exact kk cr U7 U8 hU7 hU8
  | succ n ih =>
    intro j cr R U7 U8 hU7 hU8 hj h kk
    have hin : vp_in (nI j) 9 := vp_in_nI (by omega) (by decide)
    have ej : (nI j).toNatClampNeg = j := nI_clamp (by omega)
    have ej1 : nI j - 1 = nI (j - 1) := nI_sub (y := 1) (by omega)
    have ei1 : nI i - 1 = nI (i - 1) := nI_sub (y := 1) (by omega)
    refine am_wp_ok (inl := []) 6 1 99 [68] _ _ _ _ _ ?_
    refine am_br_f (nI_nlt (by omega) (by omega)) ?_
    show am_T ro 1 99 68 [.ref 54, .int (nI nm), .ref 1, .int (nI m), .int (nI i), .int cr, .int (nI j), U7, U8] [] (wd c (u2 a 59 R) l f) K
    refine am_wp_ok (inl := []) 6 1 99 [77] _ _ _ _ _ ?_
    refine And.intro hin ?_
    show am_T ro 1 99 77 [.ref 54, .int (nI nm), .ref 1, .int (nI m), .int (nI i), .int cr, .int (nI j), .int (R (nI j).toNatClampNeg), U8] [] (wd c (u2 a 59 R) l f) K
    rw [ej]
    refine am_wp_ok (inl := []) 6 1 99 [85] _ _ _ _ _ ?_
    have hb : am_run ro 1 31 [.ref 1, .int (nI i - 1)] (wd c (u2 a 59 R) l f) (some (.int (a 2 (s + (i - 1))))) (wd c (u2 a 59 R) l f) := by rw [ei1]; exact sp_byte_t (a := u2 a 59 R) h2 h3 hst ht (by omega)
    refine ⟨_, _, hb, ?_⟩
    show am_T ro 1 99 85 [.ref 54, .int (nI nm), .ref 1, .int (nI m), .int (nI i), .int cr, .int (nI j), .int (R j), U8] [.int (a 2 (s + (i - 1)))] (wd c (u2 a 59 R) l f) K
    refine am_wp_ok (inl := []) 8 1 99 [94] _ _ _ _ _ ?_
    have hl : am_run ro 1 96 [.ref 54, .int (nI nm), .int (nI j - 1)] (wd c (u2 a 59 R) l f) (some (.int (a 57 (8 * nm + (j - 1))))) (wd c (u2 a 59 R) l f) := by rw [ej1]; exact la_38 (a := u2 a 59 R) hnm (by omega)
    refine ⟨_, _, hl, ?_⟩
    show am_T ro 1 99 94 [.ref 54, .int (nI nm), .ref 1, .int (nI m), .int (nI i), .int cr, .int (nI j), .int (R j), U8] [.int (a 57 (8 * nm + (j - 1))), .int (a 2 (s + (i - 1)))] (wd c (u2 a 59 R) l f) K
    have go : am_T ro 1 99 108 [.ref 54, .int (nI nm), .ref 1, .int (nI m), .int (nI i), .int cr, .int (nI j), .int (R j), .int (bif decide (a 2 (s + (i - 1)) = a 57 (8 * nm + (j - 1))) then cr else cr + 1)] [] (wd c (u2 a 59 R) l f) K := by
      generalize hch : (bif decide (a 2 (s + (i - 1)) = a 57 (8 * nm + (j - 1))) then cr else cr + 1) = ch
      refine am_wp_ok (inl := []) 20 1 99 [136] _ _ _ _ _ ?_
      refine And.intro (show vp_in (nI j - 1) 9 by rw [ej1]; exact vp_in_nI (by omega) (by decide)) ?_
      refine And.intro hin ?_
      show am_T ro 1 99 136 [.ref 54, .int (nI nm), .ref 1, .int (nI m), .int (nI i), .int cr, .int (nI j), .int (R j), .int ch] [] ((wd c (u2 a 59 R) l f).set 59 (.inl (.int, 9, .inl (upd R (nI j).toNatClampNeg (mn ch (mn (R j) (R (nI j - 1).toNatClampNeg) + 1)))))) K
      rw [ws_59, u2_u2, ej, ej1, nI_clamp (show j - 1 < 2 ^ 31 by omega)]
      refine am_wp_ok (inl := []) 6 1 99 [62] _ _ _ _ _ ?_
      show am_T ro 1 99 62 [.ref 54, .int (nI nm), .ref 1, .int (nI m), .int (nI i), .int (R j), .int (nI j + 1), .int (R j), .int ch] [] (wd c (u2 a 59 (upd R j (mn ch (mn (R j) (R (j - 1)) + 1)))) l f) K
      rw [nI_1]
      refine ih (j + 1) _ _ _ _ rfl rfl (by omega) (by omega) ?_
      rw [← hch]
      exact kk
    refine am_wp_ok (inl := []) 8 1 99 [108] _ _ _ _ _ ?_
    by_cases hq : a 2 (s + (i - 1)) = a 57 (8 * nm + (j - 1))
    · rw [decide_eq_true hq] at go
      refine am_br_f (show ¬ ¬ a 2 (s + (i - 1)) = a 57 (8 * nm + (j - 1)) from fun z => z hq) ?_
      exact go
    · rw [decide_eq_false hq] at go
      refine am_br_t hq ?_
      exact go
