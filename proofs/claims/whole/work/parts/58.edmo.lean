/-! the edits, a line, in the reference -/
set_option maxRecDepth 100000 in
set_option maxHeartbeats 4000000 in
theorem sp_least {ro : Nat → Option am_C} {hp : am_H} {x y : Int32} : am_run ro 1 136 [.int x, .int y] hp (some (.int (mn x y))) hp := by
  refine am_run_of rfl (am_wp_ok (inl := []) 8 0 136 [] 0 _ _ _ _ ?_)
  by_cases h : x < y
  · refine am_br_f (Int32.not_le.mpr h) ?_
    refine And.intro ?_ rfl
    rw [show mn x y = x from if_neg (fun z => by have a1 := Int32.lt_iff_toInt_lt.mp h; have a2 := Int32.lt_iff_toInt_lt.mp z; omega)]
  · have h' : y ≤ x := Int32.not_lt.mp h
    refine am_br_t h' ?_
    refine And.intro ?_ rfl
    by_cases h2 : y < x
    · rw [show mn x y = y from if_pos h2]
    · rw [show mn x y = x from if_neg h2]
      have : x = y := Int32.toInt_inj.mp (by have a1 := Int32.le_iff_toInt_le.mp h'; have a2 : ¬ y.toInt < x.toInt := fun z => h2 (Int32.lt_iff_toInt_lt.mpr z); omega)
      rw [this]
set_option maxRecDepth 100000 in
set_option maxHeartbeats 4000000 in
theorem mi_in {ro : Nat → Option am_C} {c : Bool} {a : Nat → Nat → Int32} {l : Nat → Int64} {f : Nat → Nat → Int32} {v w T m i : Nat} {K : Option Value → am_H → Prop} (hv : v < 2 ^ 62) (hw : w < 2 ^ 62) (hT : T ≤ 8) (hi : 1 ≤ i) (hiT : i ≤ T) (hm : m ≤ 8) : ∀ (n j : Nat) (cr : Int32) (R : Nat → Int32) (U : Value), Nat.beq U.category 1 = true → 1 ≤ j → j + n = m + 1 → (∀ (cr' : Int32) (V : Value), Nat.beq V.category 1 = true → am_T ro 1 133 154 [.ref 60, .long (lN v), am_un, .long (lN w), am_un, .int (nI T), .int (nI m), .int (nI i), .int cr', .int (nI (m + 1)), V] [] (wd c (u2 a 80 (ei (fun j => decide (v / 27 ^ (T - i) % 27 = w / 27 ^ (m - j) % 27)) n j cr R)) l f) K) → am_T ro 1 133 66 [.ref 60, .long (lN v), am_un, .long (lN w), am_un, .int (nI T), .int (nI m), .int (nI i), .int cr, .int (nI j), U] [] (wd c (u2 a 80 R) l f) K := by
  intro n
  induction n with
  | zero =>
    intro j cr R U hU hj h kk
    refine am_wp_ok (inl := []) 6 1 133 [154] _ _ _ _ _ ?_
    refine am_br_t (nI_lt (by omega) (by omega)) ?_
    have e : j = m + 1 := by omega
    rw [e]
    exact kk cr U hU
  | succ n ih =>
    intro j cr R U hU hj h kk
    have hin : vp_in (nI j) 9 := vp_in_nI (by omega) (by decide)
    have ej : (nI j).toNatClampNeg = j := nI_clamp (by omega)
    have ej1 : nI j - 1 = nI (j - 1) := nI_sub (y := 1) (by omega)
    have ei1 : nI i - 1 = nI (i - 1) := nI_sub (y := 1) (by omega)
    have hla : am_run ro 1 135 [.long (lN v), .int (nI T), .int (nI i - 1)] (wd c (u2 a 80 R) l f) (some (.int (nI (v / 27 ^ (T - i) % 27)))) (wd c (u2 a 80 R) l f) := by
      have := mo_letter (ro := ro) (hp := wd c (u2 a 80 R) l f) (i := i - 1) (j := T - i) (v := v) (by omega) (by omega) hv
      rw [show i - 1 + (T - i) + 1 = T by omega] at this
      rw [ei1]
      exact this
    have hlb : am_run ro 1 135 [.long (lN w), .int (nI m), .int (nI j - 1)] (wd c (u2 a 80 R) l f) (some (.int (nI (w / 27 ^ (m - j) % 27)))) (wd c (u2 a 80 R) l f) := by
      have := mo_letter (ro := ro) (hp := wd c (u2 a 80 R) l f) (i := j - 1) (j := m - j) (v := w) (by omega) (by omega) hw
      rw [show j - 1 + (m - j) + 1 = m by omega] at this
      rw [ej1]
      exact this
    refine am_wp_ok (inl := []) 6 1 133 [73] _ _ _ _ _ ?_
    refine am_br_f (nI_nlt (by omega) (by omega)) ?_
    show am_T ro 1 133 73 [.ref 60, .long (lN v), am_un, .long (lN w), am_un, .int (nI T), .int (nI m), .int (nI i), .int cr, .int (nI j), U] [] (wd c (u2 a 80 R) l f) K
    refine am_wp_ok (inl := []) 8 1 133 [85] _ _ _ _ _ ?_
    refine ⟨_, _, hla, ?_⟩
    show am_T ro 1 133 85 [.ref 60, .long (lN v), am_un, .long (lN w), am_un, .int (nI T), .int (nI m), .int (nI i), .int cr, .int (nI j), U] [.int (nI (v / 27 ^ (T - i) % 27)), .int cr] (wd c (u2 a 80 R) l f) K
    refine am_wp_ok (inl := []) 8 1 133 [95] _ _ _ _ _ ?_
    refine ⟨_, _, hlb, ?_⟩
    show am_T ro 1 133 95 [.ref 60, .long (lN v), am_un, .long (lN w), am_un, .int (nI T), .int (nI m), .int (nI i), .int cr, .int (nI j), U] [.int (nI (w / 27 ^ (m - j) % 27)), .int (nI (v / 27 ^ (T - i) % 27)), .int cr] (wd c (u2 a 80 R) l f) K
    have go : am_T ro 1 133 106 [.ref 60, .long (lN v), am_un, .long (lN w), am_un, .int (nI T), .int (nI m), .int (nI i), .int cr, .int (nI j), .int (bif decide (v / 27 ^ (T - i) % 27 = w / 27 ^ (m - j) % 27) then cr else cr + 1)] [] (wd c (u2 a 80 R) l f) K := by
      generalize hch : (bif decide (v / 27 ^ (T - i) % 27 = w / 27 ^ (m - j) % 27) then cr else cr + 1) = ch
      refine am_wp_ok (inl := []) 8 1 133 [115] _ _ _ _ _ ?_
      refine And.intro hin ?_
      show am_T ro 1 133 115 [.ref 60, .long (lN v), am_un, .long (lN w), am_un, .int (nI T), .int (nI m), .int (nI i), .int (R (nI j).toNatClampNeg), .int (nI j), .int ch] [] (wd c (u2 a 80 R) l f) K
      rw [ej]
      refine am_wp_ok (inl := []) 20 1 133 [142] _ _ _ _ _ ?_
      refine And.intro hin ?_
      refine And.intro (show vp_in (nI j - 1) 9 by rw [ej1]; exact vp_in_nI (by omega) (by decide)) ?_
      have hs : am_run ro 1 136 [.int (R (nI j).toNatClampNeg), .int (R (nI j - 1).toNatClampNeg)] (wd c (u2 a 80 R) l f) (some (.int (mn (R j) (R (j - 1))))) (wd c (u2 a 80 R) l f) := by rw [ej, ej1, nI_clamp (show j - 1 < 2 ^ 31 by omega)]; exact sp_least
      refine ⟨_, _, hs, ?_⟩
      show am_T ro 1 133 142 [.ref 60, .long (lN v), am_un, .long (lN w), am_un, .int (nI T), .int (nI m), .int (nI i), .int (R j), .int (nI j), .int ch] [.int (mn (R j) (R (j - 1))), .int ch, .int (nI j), .ref 80] (wd c (u2 a 80 R) l f) K
      refine am_wp_ok (inl := []) 4 1 133 [147] _ _ _ _ _ ?_
      refine ⟨_, _, sp_least, ?_⟩
      show am_T ro 1 133 147 [.ref 60, .long (lN v), am_un, .long (lN w), am_un, .int (nI T), .int (nI m), .int (nI i), .int (R j), .int (nI j), .int ch] [.int (mn ch (mn (R j) (R (j - 1)) + 1)), .int (nI j), .ref 80] (wd c (u2 a 80 R) l f) K
      refine am_wp_ok (inl := []) 2 1 133 [148] _ _ _ _ _ ?_
      refine And.intro hin ?_
      show am_T ro 1 133 148 [.ref 60, .long (lN v), am_un, .long (lN w), am_un, .int (nI T), .int (nI m), .int (nI i), .int (R j), .int (nI j), .int ch] [] ((wd c (u2 a 80 R) l f).set 80 (.inl (.int, 9, .inl (upd R (nI j).toNatClampNeg (mn ch (mn (R j) (R (j - 1)) + 1)))))) K
      rw [ws_80, u2_u2, ej]
      refine am_wp_ok (inl := []) 4 1 133 [66] _ _ _ _ _ ?_
      show am_T ro 1 133 66 [.ref 60, .long (lN v), am_un, .long (lN w), am_un, .int (nI T), .int (nI m), .int (nI i), .int (R j), .int (nI j + 1), .int ch] [] (wd c (u2 a 80 (upd R j (mn ch (mn (R j) (R (j - 1)) + 1)))) l f) K
      rw [nI_1]
      refine ih (j + 1) _ _ _ rfl (by omega) (by omega) ?_
      rw [← hch]
      exact kk
    refine am_wp_ok (inl := []) 8 1 133 [106] _ _ _ _ _ ?_
    have l1 : v / 27 ^ (T - i) % 27 < 27 := Nat.mod_lt _ (by decide)
    have l2 : w / 27 ^ (m - j) % 27 < 27 := Nat.mod_lt _ (by decide)
    by_cases hq : v / 27 ^ (T - i) % 27 = w / 27 ^ (m - j) % 27
    · rw [decide_eq_true hq, cond_true] at go
      refine am_br_f (fun z => z (by rw [hq])) ?_
      show am_T ro 1 133 106 [.ref 60, .long (lN v), am_un, .long (lN w), am_un, .int (nI T), .int (nI m), .int (nI i), .int cr, .int (nI j), .int (cr + 0)] [] (wd c (u2 a 80 R) l f) K
      rw [Int32.add_zero]
      exact go
    · rw [decide_eq_false hq] at go
      refine am_br_t (fun z => hq ((nI_eq (by omega) (by omega)).mp z)) ?_
      exact go
