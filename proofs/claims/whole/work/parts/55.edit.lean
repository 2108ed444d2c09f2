/-! THE EDITS, one row -/
def mn (x y : Int32) : Int32 := if y < x then y else x
/-- the row filled with its places, from k on, m places -/
def fl : Nat → Nat → (Nat → Int32) → (Nat → Int32)
  | _, 0, R => R
  | k, m + 1, R => fl (k + 1) m (upd R k (nI k))
/-- one line of the table: from place j on, n places, with the corner -/
def ei (q : Nat → Bool) : Nat → Nat → Int32 → (Nat → Int32) → (Nat → Int32)
  | 0, _, _, R => R
  | n + 1, j, cr, R => ei q n (j + 1) (R j) (upd R j (mn (bif q j then cr else cr + 1) (mn (R j) (R (j - 1)) + 1)))
/-- all lines: from line i on, n lines, of m places -/
def eo (q : Nat → Nat → Bool) (m : Nat) : Nat → Nat → (Nat → Int32) → (Nat → Int32)
  | 0, _, R => R
  | n + 1, i, R => eo q m n (i + 1) (ei (q i) m 1 (R 0) (upd R 0 (nI i)))
set_option maxRecDepth 100000 in
set_option maxHeartbeats 4000000 in
theorem di_fill_16 {ro : Nat → Option am_C} {c : Bool} {a : Nat → Nat → Int32} {l : Nat → Int64} {f : Nat → Nat → Int32} {x1 : Int32} {m : Nat} {U5 U6 U7 U8 : Value} {K : Option Value → am_H → Prop} (hm : m ≤ 8) : ∀ (n k : Nat) (R : Nat → Int32), k + n = m + 1 → am_T ro 1 99 31 [.ref 32, .int x1, .ref 1, .int (nI m), .int (nI (m + 1)), U5, U6, U7, U8] [] (wd c (u2 a 37 (fl k n R)) l f) K → am_T ro 1 99 10 [.ref 32, .int x1, .ref 1, .int (nI m), .int (nI k), U5, U6, U7, U8] [] (wd c (u2 a 37 R) l f) K := by
  intro n
  induction n with
  | zero =>
    intro k R h kk
    refine am_wp_ok (inl := []) 6 1 99 [31] _ _ _ _ _ ?_
    refine am_br_t (nI_lt (by omega) (by omega)) ?_
    have e : k = m + 1 := by omega
    rw [e]
    exact kk
  | succ n ih =>
    intro k R h kk
    refine am_wp_ok (inl := []) 6 1 99 [16] _ _ _ _ _ ?_
    refine am_br_f (nI_nlt (by omega) (by omega)) ?_
    show am_T ro 1 99 16 [.ref 32, .int x1, .ref 1, .int (nI m), .int (nI k), U5, U6, U7, U8] [] (wd c (u2 a 37 R) l f) K
    refine am_wp_ok (inl := []) 6 1 99 [25] _ _ _ _ _ ?_
    refine And.intro (vp_in_nI (by omega) (by decide)) ?_
    show am_T ro 1 99 25 [.ref 32, .int x1, .ref 1, .int (nI m), .int (nI k), U5, U6, U7, U8] [] ((wd c (u2 a 37 R) l f).set 37 (.inl (.int, 9, .inl (upd R (nI k).toNatClampNeg (nI k))))) K
    rw [ws_37, u2_u2, nI_clamp (show k < 2 ^ 31 by omega)]
    refine am_wp_ok (inl := []) 4 1 99 [10] _ _ _ _ _ ?_
    show am_T ro 1 99 10 [.ref 32, .int x1, .ref 1, .int (nI m), .int (nI k + 1), U5, U6, U7, U8] [] (wd c (u2 a 37 (upd R k (nI k))) l f) K
    rw [nI_1]
    exact ih (k + 1) _ (by omega) kk
set_option maxRecDepth 100000 in
set_option maxHeartbeats 4000000 in
theorem di_fill_38 {ro : Nat → Option am_C} {c : Bool} {a : Nat → Nat → Int32} {l : Nat → Int64} {f : Nat → Nat → Int32} {x1 : Int32} {m : Nat} {U5 U6 U7 U8 : Value} {K : Option Value → am_H → Prop} (hm : m ≤ 8) : ∀ (n k : Nat) (R : Nat → Int32), k + n = m + 1 → am_T ro 1 99 31 [.ref 54, .int x1, .ref 1, .int (nI m), .int (nI (m + 1)), U5, U6, U7, U8] [] (wd c (u2 a 59 (fl k n R)) l f) K → am_T ro 1 99 10 [.ref 54, .int x1, .ref 1, .int (nI m), .int (nI k), U5, U6, U7, U8] [] (wd c (u2 a 59 R) l f) K := by
  intro n
  induction n with
  | zero =>
    intro k R h kk
    refine am_wp_ok (inl := []) 6 1 99 [31] _ _ _ _ _ ?_
    refine am_br_t (nI_lt (by omega) (by omega)) ?_
    have e : k = m + 1 := by omega
    rw [e]
    exact kk
  | succ n ih =>
    intro k R h kk
    refine am_wp_ok (inl := []) 6 1 99 [16] _ _ _ _ _ ?_
    refine am_br_f (nI_nlt (by omega) (by omega)) ?_
    show am_T ro 1 99 16 [.ref 54, .int x1, .ref 1, .int (nI m), .int (nI k), U5, U6, U7, U8] [] (wd c (u2 a 59 R) l f) K
    refine am_wp_ok (inl := []) 6 1 99 [25] _ _ _ _ _ ?_
    refine And.intro (vp_in_nI (by omega) (by decide)) ?_
    show am_T ro 1 99 25 [.ref 54, .int x1, .ref 1, .int (nI m), .int (nI k), U5, U6, U7, U8] [] ((wd c (u2 a 59 R) l f).set 59 (.inl (.int, 9, .inl (upd R (nI k).toNatClampNeg (nI k))))) K
    rw [ws_59, u2_u2, nI_clamp (show k < 2 ^ 31 by omega)]
    refine am_wp_ok (inl := []) 4 1 99 [10] _ _ _ _ _ ?_
    show am_T ro 1 99 10 [.ref 54, .int x1, .ref 1, .int (nI m), .int (nI k + 1), U5, U6, U7, U8] [] (wd c (u2 a 59 (upd R k (nI k))) l f) K
    rw [nI_1]
    exact ih (k + 1) _ (by omega) kk
set_option maxRecDepth 100000 in
set_option maxHeartbeats 4000000 in
theorem me_fill {ro : Nat → Option am_C} {c : Bool} {a : Nat → Nat → Int32} {l : Nat → Int64} {f : Nat → Nat → Int32} {v w : Int64} {y : Int32} {m : Nat} {U8 U9 U10 : Value} {K : Option Value → am_H → Prop} (hm : m ≤ 8) : ∀ (n k : Nat) (R : Nat → Int32), k + n = m + 1 → am_T ro 1 133 37 [.ref 60, .long v, am_un, .long w, am_un, .int y, .int (nI m), .int (nI (m + 1)), U8, U9, U10] [] (wd c (u2 a 80 (fl k n R)) l f) K → am_T ro 1 133 15 [.ref 60, .long v, am_un, .long w, am_un, .int y, .int (nI m), .int (nI k), U8, U9, U10] [] (wd c (u2 a 80 R) l f) K := by
  intro n
  induction n with
  | zero =>
    intro k R h kk
    refine am_wp_ok (inl := []) 6 1 133 [37] _ _ _ _ _ ?_
    refine am_br_t (nI_lt (by omega) (by omega)) ?_
    have e : k = m + 1 := by omega
    rw [e]
    exact kk
  | succ n ih =>
    intro k R h kk
    refine am_wp_ok (inl := []) 6 1 133 [22] _ _ _ _ _ ?_
    refine am_br_f (nI_nlt (by omega) (by omega)) ?_
    show am_T ro 1 133 22 [.ref 60, .long v, am_un, .long w, am_un, .int y, .int (nI m), .int (nI k), U8, U9, U10] [] (wd c (u2 a 80 R) l f) K
    refine am_wp_ok (inl := []) 6 1 133 [31] _ _ _ _ _ ?_
    refine And.intro (vp_in_nI (by omega) (by decide)) ?_
    show am_T ro 1 133 31 [.ref 60, .long v, am_un, .long w, am_un, .int y, .int (nI m), .int (nI k), U8, U9, U10] [] ((wd c (u2 a 80 R) l f).set 80 (.inl (.int, 9, .inl (upd R (nI k).toNatClampNeg (nI k))))) K
    rw [ws_80, u2_u2, nI_clamp (show k < 2 ^ 31 by omega)]
    refine am_wp_ok (inl := []) 4 1 133 [15] _ _ _ _ _ ?_
    show am_T ro 1 133 15 [.ref 60, .long v, am_un, .long w, am_un, .int y, .int (nI m), .int (nI k + 1), U8, U9, U10] [] (wd c (u2 a 80 (upd R k (nI k))) l f) K
    rw [nI_1]
    exact ih (k + 1) _ (by omega) kk
