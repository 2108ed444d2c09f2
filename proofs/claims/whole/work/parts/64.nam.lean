/-! a name more; is it there already; is a code mirrored -/
def lw (g : Nat → Int32) (B : Nat) : Nat → Nat → (Nat → Int32) → (Nat → Int32)
  | _, 0, R => R
  | k, m + 1, R => lw g B (k + 1) m (upd R (B + k) (g k))
theorem lw_get {g : Nat → Int32} {B : Nat} : ∀ (m k : Nat) (R : Nat → Int32) (p : Nat), lw g B k m R p = if B + k ≤ p ∧ p < B + k + m then g (p - B) else R p := by
  intro m
  induction m with
  | zero =>
    intro k R p
    rw [if_neg (by omega)]
    rfl
  | succ m ih =>
    intro k R p
    show lw g B (k + 1) m (upd R (B + k) (g k)) p = _
    rw [ih]
    by_cases h1 : p = B + k
    · rw [if_neg (by omega), if_pos (by omega), h1, upd_same]
      exact congrArg g (by omega)
    · by_cases h2 : B + (k + 1) ≤ p ∧ p < B + (k + 1) + m
      · rw [if_pos h2, if_pos (by omega)]
      · rw [if_neg h2, if_neg (by omega), upd_ne h1]
set_option maxRecDepth 100000 in
set_option maxHeartbeats 4000000 in
theorem nl_16 {ro : Nat → Option am_C} {c : Bool} {a : Nat → Nat → Int32} {l : Nat → Int64} {f : Nat → Nat → Int32} {x : Int32} {nn s t : Nat} {K : Option Value → am_H → Prop} (h : nn < 20) (e : f 32 5 = nI nn) (h2 : f 1 2 = nI s) (h3 : f 1 3 = nI t) (hst : s ≤ t) (ht : t ≤ 900) (h8 : t - s ≤ 8) : ∀ (m k : Nat) (R : Nat → Int32), k + m = t - s → am_T ro 1 97 75 [.ref 32, .int x, .ref 1, .int (nI (t - s))] [] (wd c (u2 a 35 (lw (fun q => a 2 (s + q)) (8 * nn) k m R)) l f) K → am_T ro 1 97 42 [.ref 32, .int x, .ref 1, .int (nI k)] [] (wd c (u2 a 35 R) l f) K := by
  intro m
  induction m with
  | zero =>
    intro k R hk kq
    refine am_wp_ok (inl := []) 4 1 97 [47] _ _ _ _ _ ?_
    refine ⟨_, _, sp_len h2 h3 hst, ?_⟩
    show am_T ro 1 97 47 [.ref 32, .int x, .ref 1, .int (nI k)] [.int (nI (t - s)), .int (nI k)] (wd c (u2 a 35 R) l f) K
    refine am_wp_ok (inl := []) 2 1 97 [75] _ _ _ _ _ ?_
    refine am_br_t (nI_le (by omega) (by omega)) ?_
    have ek : k = t - s := by omega
    rw [ek]
    exact kq
  | succ m ih =>
    intro k R hk kq
    refine am_wp_ok (inl := []) 4 1 97 [47] _ _ _ _ _ ?_
    refine ⟨_, _, sp_len h2 h3 hst, ?_⟩
    show am_T ro 1 97 47 [.ref 32, .int x, .ref 1, .int (nI k)] [.int (nI (t - s)), .int (nI k)] (wd c (u2 a 35 R) l f) K
    refine am_wp_ok (inl := []) 2 1 97 [50] _ _ _ _ _ ?_
    refine am_br_f (nI_ge (by omega) (by omega)) ?_
    show am_T ro 1 97 50 [.ref 32, .int x, .ref 1, .int (nI k)] [] (wd c (u2 a 35 R) l f) K
    refine am_wp_ok (inl := []) 12 1 97 [68] _ _ _ _ _ ?_
    refine ⟨_, _, sp_byte_t h2 h3 hst ht (show k < t - s by omega), ?_⟩
    show am_T ro 1 97 68 [.ref 32, .int x, .ref 1, .int (nI k)] [.int (a 2 (s + k)), .int (f 32 5 * nI 8 + nI k), .ref 35] (wd c (u2 a 35 R) l f) K
    rw [e, nI_mul, nI_add, show nn * 8 + k = 8 * nn + k by omega]
    refine am_wp_ok (inl := []) 2 1 97 [69] _ _ _ _ _ ?_
    refine And.intro (vp_in_nI (by omega) (by decide)) ?_
    show am_T ro 1 97 69 [.ref 32, .int x, .ref 1, .int (nI k)] [] ((wd c (u2 a 35 R) l f).set 35 (.inl (.int, 160, .inl (upd R (nI (8 * nn + k)).toNatClampNeg (a 2 (s + k)))))) K
    rw [ws_35, u2_u2, nI_clamp (show 8 * nn + k < 2 ^ 31 by omega)]
    refine am_wp_ok (inl := []) 3 1 97 [42] _ _ _ _ _ ?_
    show am_T ro 1 97 42 [.ref 32, .int x, .ref 1, .int (nI k + 1)] [] (wd c (u2 a 35 (upd R (8 * nn + k) (a 2 (s + k)))) l f) K
    rw [nI_1]
    exact ih (k + 1) _ (by omega) kq
set_option maxRecDepth 100000 in
set_option maxHeartbeats 4000000 in
theorem ad_nm_16 {ro : Nat → Option am_C} {c : Bool} {a : Nat → Nat → Int32} {l : Nat → Int64} {f : Nat → Nat → Int32} {x : Int32} {nn s t : Nat} (h : nn < 20) (e : f 32 5 = nI nn) (h2 : f 1 2 = nI s) (h3 : f 1 3 = nI t) (hst : s ≤ t) (ht : t ≤ 900) (h8 : t - s ≤ 8) : am_run ro 2 97 [.ref 32, .int x, .ref 1] (wd c a l f) none (wd c (u2 (u2 (u2 a 33 (upd (a 33) nn x)) 34 (upd (a 34) nn (nI (t - s)))) 35 (lw (fun q => a 2 (s + q)) (8 * nn) 0 (t - s) (a 35))) l (u3 f 32 5 (nI (nn + 1)))) := by
  refine am_run_of rfl (am_wp_ok (inl := []) 3 1 97 [4] 0 _ _ _ _ ?_)
  refine ⟨_, _, fu_93_16 (by omega) e, ?_⟩
  show am_T ro 1 97 4 [.ref 32, .int x, .ref 1, am_un] [.int (nI (decide (20 ≤ nn)).toNat)] (wd c a l f) _
  rw [decide_eq_false (show ¬ 20 ≤ nn by omega)]
  refine am_wp_ok (inl := []) 2 1 97 [7] _ _ _ _ _ ?_
  refine am_br_f (show ¬ ¬ nI 0 = 0 from fun z => z rfl) ?_
  show am_T ro 1 97 7 [.ref 32, .int x, .ref 1, am_un] [] (wd c a l f) _
  refine am_wp_ok (inl := []) 3 1 97 [11] _ _ _ _ _ ?_
  refine ⟨_, _, sp_len h2 h3 hst, ?_⟩
  show am_T ro 1 97 11 [.ref 32, .int x, .ref 1, am_un] [.int (nI (t - s))] (wd c a l f) _
  refine am_wp_ok (inl := []) 3 1 97 [17] _ _ _ _ _ ?_
  refine am_br_t (show nI (t - s) ≤ nI 8 from nI_le h8 (by decide)) ?_
  show am_T ro 1 97 17 [.ref 32, .int x, .ref 1, am_un] [] (wd c a l f) _
  refine am_wp_ok (inl := []) 7 1 97 [27] _ _ _ _ _ ?_
  refine And.intro (show vp_in (f 32 5) 20 by rw [e]; exact vp_in_nI (by omega) (by decide)) ?_
  show am_T ro 1 97 27 [.ref 32, .int x, .ref 1, am_un] [] ((wd c a l f).set 33 (.inl (.int, 20, .inl (upd (a 33) (f 32 5).toNatClampNeg x)))) _
  rw [ws_33, e, nI_clamp (show nn < 2 ^ 31 by omega)]
  refine am_wp_ok (inl := []) 7 1 97 [39] _ _ _ _ _ ?_
  refine ⟨_, _, sp_len h2 h3 hst, ?_⟩
  show am_T ro 1 97 39 [.ref 32, .int x, .ref 1, am_un] [.int (nI (t - s)), .int (f 32 5), .ref 34] (wd c (u2 a 33 (upd (a 33) nn x)) l f) _
  rw [e]
  refine am_wp_ok (inl := []) 2 1 97 [40] _ _ _ _ _ ?_
  refine And.intro (vp_in_nI (by omega) (by decide)) ?_
  show am_T ro 1 97 40 [.ref 32, .int x, .ref 1, am_un] [] ((wd c (u2 a 33 (upd (a 33) nn x)) l f).set 34 (.inl (.int, 20, .inl (upd (a 34) (nI nn).toNatClampNeg (nI (t - s)))))) _
  rw [ws_34, nI_clamp (show nn < 2 ^ 31 by omega)]
  refine am_wp_ok (inl := []) 3 1 97 [42] _ _ _ _ _ ?_
  show am_T ro 1 97 42 [.ref 32, .int x, .ref 1, .int (nI 0)] [] (wd c (u2 (u2 a 33 (upd (a 33) nn x)) 34 (upd (a 34) nn (nI (t - s)))) l f) _
  have hw : wd c (u2 (u2 a 33 (upd (a 33) nn x)) 34 (upd (a 34) nn (nI (t - s)))) l f = wd c (u2 (u2 (u2 a 33 (upd (a 33) nn x)) 34 (upd (a 34) nn (nI (t - s)))) 35 (a 35)) l f := by
    rw [show a 35 = (u2 (u2 a 33 (upd (a 33) nn x)) 34 (upd (a 34) nn (nI (t - s)))) 35 from rfl, u2_id]
  rw [hw]
  refine nl_16 (a := (u2 (u2 a 33 (upd (a 33) nn x)) 34 (upd (a 34) nn (nI (t - s))))) h e h2 h3 hst ht h8 (t - s) 0 (a 35) (by omega) ?_
  show am_T ro 1 97 75 [.ref 32, .int x, .ref 1, .int (nI (t - s))] [] (wd c (u2 (u2 (u2 a 33 (upd (a 33) nn x)) 34 (upd (a 34) nn (nI (t - s)))) 35 (lw (fun q => a 2 (s + q)) (8 * nn) 0 (t - s) (a 35))) l f) _
  refine am_wp_ok (inl := []) 7 1 97 [85] _ _ _ _ _ ?_
  show am_T ro 1 97 85 [.ref 32, .int x, .ref 1, .int (nI (t - s))] [] ((wd c (u2 (u2 (u2 a 33 (upd (a 33) nn x)) 34 (upd (a 34) nn (nI (t - s)))) 35 (lw (fun q => a 2 (s + q)) (8 * nn) 0 (t - s) (a 35))) l f).set 32 (.inr (9, [.ref 33, .ref 34, .ref 35, .ref 36, .ref 37, .int (f 32 5)].set 5 (.int (f 32 5 + 1))))) _
  rw [wf_32_5, e, nI_1]
  refine am_wp_ok (inl := []) 2 1 97 [] _ _ _ _ _ ?_
  exact And.intro rfl rfl
set_option maxRecDepth 100000 in
set_option maxHeartbeats 4000000 in
theorem nl_38 {ro : Nat → Option am_C} {c : Bool} {a : Nat → Nat → Int32} {l : Nat → Int64} {f : Nat → Nat → Int32} {x : Int32} {nn s t : Nat} {K : Option Value → am_H → Prop} (h : nn < 20) (e : f 54 5 = nI nn) (h2 : f 1 2 = nI s) (h3 : f 1 3 = nI t) (hst : s ≤ t) (ht : t ≤ 900) (h8 : t - s ≤ 8) : ∀ (m k : Nat) (R : Nat → Int32), k + m = t - s → am_T ro 1 97 75 [.ref 54, .int x, .ref 1, .int (nI (t - s))] [] (wd c (u2 a 57 (lw (fun q => a 2 (s + q)) (8 * nn) k m R)) l f) K → am_T ro 1 97 42 [.ref 54, .int x, .ref 1, .int (nI k)] [] (wd c (u2 a 57 R) l f) K := by
  intro m
  induction m with
  | zero =>
    intro k R hk kq
    refine am_wp_ok (inl := []) 4 1 97 [47] _ _ _ _ _ ?_
    refine ⟨_, _, sp_len h2 h3 hst, ?_⟩
    show am_T ro 1 97 47 [.ref 54, .int x, .ref 1, .int (nI k)] [.int (nI (t - s)), .int (nI k)] (wd c (u2 a 57 R) l f) K
    refine am_wp_ok (inl := []) 2 1 97 [75] _ _ _ _ _ ?_
    refine am_br_t (nI_le (by omega) (by omega)) ?_
    have ek : k = t - s := by omega
    rw [ek]
    exact kq
  | succ m ih =>
    intro k R hk kq
    refine am_wp_ok (inl := []) 4 1 97 [47] _ _ _ _ _ ?_
    refine ⟨_, _, sp_len h2 h3 hst, ?_⟩
    show am_T ro 1 97 47 [.ref 54, .int x, .ref 1, .int (nI k)] [.int (nI (t - s)), .int (nI k)] (wd c (u2 a 57 R) l f) K
    refine am_wp_ok (inl := []) 2 1 97 [50] _ _ _ _ _ ?_
    refine am_br_f (nI_ge (by omega) (by omega)) ?_
    show am_T ro 1 97 50 [.ref 54, .int x, .ref 1, .int (nI k)] [] (wd c (u2 a 57 R) l f) K
    refine am_wp_ok (inl := []) 12 1 97 [68] _ _ _ _ _ ?_
    refine ⟨_, _, sp_byte_t h2 h3 hst ht (show k < t - s by omega), ?_⟩
    show am_T ro 1 97 68 [.ref 54, .int x, .ref 1, .int (nI k)] [.int (a 2 (s + k)), .int (f 54 5 * nI 8 + nI k), .ref 57] (wd c (u2 a 57 R) l f) K
    rw [e, nI_mul, nI_add, show nn * 8 + k = 8 * nn + k by omega]
    refine am_wp_ok (inl := []) 2 1 97 [69] _ _ _ _ _ ?_
    refine And.intro (vp_in_nI (by omega) (by decide)) ?_
    show am_T ro 1 97 69 [.ref 54, .int x, .ref 1, .int (nI k)] [] ((wd c (u2 a 57 R) l f).set 57 (.inl (.int, 160, .inl (upd R (nI (8 * nn + k)).toNatClampNeg (a 2 (s + k)))))) K
    rw [ws_57, u2_u2, nI_clamp (show 8 * nn + k < 2 ^ 31 by omega)]
    refine am_wp_ok (inl := []) 3 1 97 [42] _ _ _ _ _ ?_
    show am_T ro 1 97 42 [.ref 54, .int x, .ref 1, .int (nI k + 1)] [] (wd c (u2 a 57 (upd R (8 * nn + k) (a 2 (s + k)))) l f) K
    rw [nI_1]
    exact ih (k + 1) _ (by omega) kq
set_option maxRecDepth 100000 in
set_option maxHeartbeats 4000000 in
theorem ad_nm_38 {ro : Nat → Option am_C} {c : Bool} {a : Nat → Nat → Int32} {l : Nat → Int64} {f : Nat → Nat → Int32} {x : Int32} {nn s t : Nat} (h : nn < 20) (e : f 54 5 = nI nn) (h2 : f 1 2 = nI s) (h3 : f 1 3 = nI t) (hst : s ≤ t) (ht : t ≤ 900) (h8 : t - s ≤ 8) : am_run ro 2 97 [.ref 54, .int x, .ref 1] (wd c a l f) none (wd c (u2 (u2 (u2 a 55 (upd (a 55) nn x)) 56 (upd (a 56) nn (nI (t - s)))) 57 (lw (fun q => a 2 (s + q)) (8 * nn) 0 (t - s) (a 57))) l (u3 f 54 5 (nI (nn + 1)))) := by
  refine am_run_of rfl (am_wp_ok (inl := []) 3 1 97 [4] 0 _ _ _ _ ?_)
  refine ⟨_, _, fu_93_38 (by omega) e, ?_⟩
  show am_T ro 1 97 4 [.ref 54, .int x, .ref 1, am_un] [.int (nI (decide (20 ≤ nn)).toNat)] (wd c a l f) _
  rw [decide_eq_false (show ¬ 20 ≤ nn by omega)]
  refine am_wp_ok (inl := []) 2 1 97 [7] _ _ _ _ _ ?_
  refine am_br_f (show ¬ ¬ nI 0 = 0 from fun z => z rfl) ?_
  show am_T ro 1 97 7 [.ref 54, .int x, .ref 1, am_un] [] (wd c a l f) _
  refine am_wp_ok (inl := []) 3 1 97 [11] _ _ _ _ _ ?_
  refine ⟨_, _, sp_len h2 h3 hst, ?_⟩
  show am_T ro 1 97 11 [.ref 54, .int x, .ref 1, am_un] [.int (nI (t - s))] (wd c a l f) _
  refine am_wp_ok (inl := []) 3 1 97 [17] _ _ _ _ _ ?_
  refine am_br_t (show nI (t - s) ≤ nI 8 from nI_le h8 (by decide)) ?_
  show am_T ro 1 97 17 [.ref 54, .int x, .ref 1, am_un] [] (wd c a l f) _
  refine am_wp_ok (inl := []) 7 1 97 [27] _ _ _ _ _ ?_
  refine And.intro (show vp_in (f 54 5) 20 by rw [e]; exact vp_in_nI (by omega) (by decide)) ?_
  show am_T ro 1 97 27 [.ref 54, .int x, .ref 1, am_un] [] ((wd c a l f).set 55 (.inl (.int, 20, .inl (upd (a 55) (f 54 5).toNatClampNeg x)))) _
  rw [ws_55, e, nI_clamp (show nn < 2 ^ 31 by omega)]
  refine am_wp_ok (inl := []) 7 1 97 [39] _ _ _ _ _ ?_
  refine ⟨_, _, sp_len h2 h3 hst, ?_⟩
  show am_T ro 1 97 39 [.ref 54, .int x, .ref 1, am_un] [.int (nI (t - s)), .int (f 54 5), .ref 56] (wd c (u2 a 55 (upd (a 55) nn x)) l f) _
  rw [e]
  refine am_wp_ok (inl := []) 2 1 97 [40] _ _ _ _ _ ?_
  refine And.intro (vp_in_nI (by omega) (by decide)) ?_
  show am_T ro 1 97 40 [.ref 54, .int x, .ref 1, am_un] [] ((wd c (u2 a 55 (upd (a 55) nn x)) l f).set 56 (.inl (.int, 20, .inl (upd (a 56) (nI nn).toNatClampNeg (nI (t - s)))))) _
  rw [ws_56, nI_clamp (show nn < 2 ^ 31 by omega)]
  refine am_wp_ok (inl := []) 3 1 97 [42] _ _ _ _ _ ?_
  show am_T ro 1 97 42 [.ref 54, .int x, .ref 1, .int (nI 0)] [] (wd c (u2 (u2 a 55 (upd (a 55) nn x)) 56 (upd (a 56) nn (nI (t - s)))) l f) _
  have hw : wd c (u2 (u2 a 55 (upd (a 55) nn x)) 56 (upd (a 56) nn (nI (t - s)))) l f = wd c (u2 (u2 (u2 a 55 (upd (a 55) nn x)) 56 (upd (a 56) nn (nI (t - s)))) 57 (a 57)) l f := by
    rw [show a 57 = (u2 (u2 a 55 (upd (a 55) nn x)) 56 (upd (a 56) nn (nI (t - s)))) 57 from rfl, u2_id]
  rw [hw]
  refine nl_38 (a := (u2 (u2 a 55 (upd (a 55) nn x)) 56 (upd (a 56) nn (nI (t - s))))) h e h2 h3 hst ht h8 (t - s) 0 (a 57) (by omega) ?_
  show am_T ro 1 97 75 [.ref 54, .int x, .ref 1, .int (nI (t - s))] [] (wd c (u2 (u2 (u2 a 55 (upd (a 55) nn x)) 56 (upd (a 56) nn (nI (t - s)))) 57 (lw (fun q => a 2 (s + q)) (8 * nn) 0 (t - s) (a 57))) l f) _
  refine am_wp_ok (inl := []) 7 1 97 [85] _ _ _ _ _ ?_
  show am_T ro 1 97 85 [.ref 54, .int x, .ref 1, .int (nI (t - s))] [] ((wd c (u2 (u2 (u2 a 55 (upd (a 55) nn x)) 56 (upd (a 56) nn (nI (t - s)))) 57 (lw (fun q => a 2 (s + q)) (8 * nn) 0 (t - s) (a 57))) l f).set 54 (.inr (9, [.ref 55, .ref 56, .ref 57, .ref 58, .ref 59, .int (f 54 5)].set 5 (.int (f 54 5 + 1))))) _
  rw [wf_54_5, e, nI_1]
  refine am_wp_ok (inl := []) 2 1 97 [] _ _ _ _ _ ?_
  exact And.intro rfl rfl
theorem ad_nm (b : Bool) {ro : Nat → Option am_C} {c : Bool} {a : Nat → Nat → Int32} {l : Nat → Int64} {f : Nat → Nat → Int32} {x : Int32} {nn s t : Nat} (h : nn < 20) (e : f (ob b + 16) 5 = nI nn) (h2 : f 1 2 = nI s) (h3 : f 1 3 = nI t) (hst : s ≤ t) (ht : t ≤ 900) (h8 : t - s ≤ 8) : am_run ro 2 97 [.ref (ob b + 16), .int x, .ref 1] (wd c a l f) none (wd c (u2 (u2 (u2 a (ob b + 17) (upd (a (ob b + 17)) nn x)) (ob b + 18) (upd (a (ob b + 18)) nn (nI (t - s)))) (ob b + 19) (lw (fun q => a 2 (s + q)) (8 * nn) 0 (t - s) (a (ob b + 19)))) l (u3 f (ob b + 16) 5 (nI (nn + 1)))) := by
  cases b
  · exact ad_nm_16 h e h2 h3 hst ht h8
  · exact ad_nm_38 h e h2 h3 hst ht h8
set_option maxRecDepth 100000 in
set_option maxHeartbeats 4000000 in
theorem ss_16 {ro : Nat → Option am_C} {c : Bool} {a : Nat → Nat → Int32} {l : Nat → Int64} {f : Nat → Nat → Int32} {i k s t : Nat} (hi : i < 20) (ek : a 34 i = nI k) (hk : k ≤ 8) (h2 : f 1 2 = nI s) (h3 : f 1 3 = nI t) (hst : s ≤ t) (ht : t ≤ 900) (hT : k = t - s) : ∀ (m q : Nat), q + m = k → am_T ro 1 95 17 [.ref 32, .int (nI i), .ref 1, .int (nI q)] [] (wd c a l f) (fun r hp' => r = some (.int (nI (al (fun q => decide (a 35 (8 * i + q) = a 2 (s + q))) q m).toNat)) ∧ hp' = wd c a l f) := by
  have ek' : a 34 (nI i).toNatClampNeg = nI k := by rw [nI_clamp (by omega)]; exact ek
  intro m
  induction m with
  | zero =>
    intro q h
    refine am_wp_ok (inl := []) 9 1 95 [] _ _ _ _ _ ?_
    refine And.intro (vp_in_nI (by omega) (by decide)) ?_
    refine am_br_t (show a 34 (nI i).toNatClampNeg ≤ nI q by rw [ek']; exact nI_le (by omega) (by omega)) ?_
    exact And.intro rfl (And.intro rfl rfl)
  | succ m ih =>
    intro q h
    refine am_wp_ok (inl := []) 7 1 95 [27] _ _ _ _ _ ?_
    refine And.intro (vp_in_nI (by omega) (by decide)) ?_
    refine am_br_f (show ¬ a 34 (nI i).toNatClampNeg ≤ nI q by rw [ek']; exact nI_ge (by omega) (by omega)) ?_
    show am_T ro 1 95 27 [.ref 32, .int (nI i), .ref 1, .int (nI q)] [] (wd c a l f) _
    refine am_wp_ok (inl := []) 5 1 95 [33] _ _ _ _ _ ?_
    refine ⟨_, _, la_16 hi (by omega), ?_⟩
    show am_T ro 1 95 33 [.ref 32, .int (nI i), .ref 1, .int (nI q)] [.int (a 35 (8 * i + q))] (wd c a l f) _
    refine am_wp_ok (inl := []) 4 1 95 [38] _ _ _ _ _ ?_
    refine ⟨_, _, sp_byte_t h2 h3 hst ht (show q < t - s by omega), ?_⟩
    show am_T ro 1 95 38 [.ref 32, .int (nI i), .ref 1, .int (nI q)] [.int (a 2 (s + q)), .int (a 35 (8 * i + q))] (wd c a l f) _
    refine am_wp_ok (inl := []) 4 1 95 [43] _ _ _ _ _ ?_
    by_cases hq : a 35 (8 * i + q) = a 2 (s + q)
    · refine am_br_t hq ?_
      show am_T ro 1 95 43 [.ref 32, .int (nI i), .ref 1, .int (nI q)] [] (wd c a l f) _
      refine am_wp_ok (inl := []) 3 1 95 [17] _ _ _ _ _ ?_
      show am_T ro 1 95 17 [.ref 32, .int (nI i), .ref 1, .int (nI q + 1)] [] (wd c a l f) _
      rw [nI_1, al_t (p := fun q => decide (a 35 (8 * i + q) = a 2 (s + q))) (decide_eq_true hq)]
      exact ih (q + 1) (by omega)
    · refine am_br_f hq ?_
      rw [al_f (p := fun q => decide (a 35 (8 * i + q) = a 2 (s + q))) (decide_eq_false hq)]
      exact And.intro rfl (And.intro rfl rfl)
set_option maxRecDepth 100000 in
set_option maxHeartbeats 4000000 in
theorem sm_16 {ro : Nat → Option am_C} {c : Bool} {a : Nat → Nat → Int32} {l : Nat → Int64} {f : Nat → Nat → Int32} {i k s t : Nat} (hi : i < 20) (ek : a 34 i = nI k) (hk : k ≤ 8) (h2 : f 1 2 = nI s) (h3 : f 1 3 = nI t) (hst : s ≤ t) (ht : t ≤ 900) : am_run ro 2 95 [.ref 32, .int (nI i), .ref 1] (wd c a l f) (some (.int (nI (decide (k = t - s) && al (fun q => decide (a 35 (8 * i + q) = a 2 (s + q))) 0 k).toNat))) (wd c a l f) := by
  have ek' : a 34 (nI i).toNatClampNeg = nI k := by rw [nI_clamp (by omega)]; exact ek
  refine am_run_of rfl (am_wp_ok (inl := []) 6 1 95 [6] 0 _ _ _ _ ?_)
  refine And.intro (vp_in_nI (by omega) (by decide)) ?_
  show am_T ro 1 95 6 [.ref 32, .int (nI i), .ref 1, am_un] [.int (a 34 (nI i).toNatClampNeg)] (wd c a l f) _
  rw [ek']
  refine am_wp_ok (inl := []) 3 1 95 [10] _ _ _ _ _ ?_
  refine ⟨_, _, sp_len h2 h3 hst, ?_⟩
  show am_T ro 1 95 10 [.ref 32, .int (nI i), .ref 1, am_un] [.int (nI (t - s)), .int (nI k)] (wd c a l f) _
  refine am_wp_ok (inl := []) 4 1 95 [15] _ _ _ _ _ ?_
  by_cases hq : k = t - s
  · refine am_br_t (show nI k = nI (t - s) by rw [← hq]) ?_
    show am_T ro 1 95 15 [.ref 32, .int (nI i), .ref 1, am_un] [] (wd c a l f) _
    rw [decide_eq_true hq, Bool.true_and]
    refine am_wp_ok (inl := []) 3 1 95 [17] _ _ _ _ _ ?_
    exact ss_16 hi ek hk h2 h3 hst ht hq k 0 (by omega)
  · refine am_br_f (show ¬ nI k = nI (t - s) by rw [nI_eq (by omega) (by omega)]; exact hq) ?_
    rw [decide_eq_false hq, Bool.false_and]
    exact And.intro rfl (And.intro rfl rfl)
set_option maxRecDepth 100000 in
set_option maxHeartbeats 4000000 in
theorem hs_loop_16 {ro : Nat → Option am_C} {c : Bool} {a : Nat → Nat → Int32} {l : Nat → Int64} {f : Nat → Nat → Int32} {n s t : Nat} {P : Nat → Bool} (hn : n ≤ 20) (en : f 32 5 = nI n) (h2 : f 1 2 = nI s) (h3 : f 1 3 = nI t) (hst : s ≤ t) (ht : t ≤ 900) (hk : ∀ i, i < n → ∃ k : Nat, k ≤ 8 ∧ a 34 i = nI k ∧ (decide (k = t - s) && al (fun q => decide (a 35 (8 * i + q) = a 2 (s + q))) 0 k) = P i) : ∀ (m k : Nat), k + m = n → am_T ro 2 94 2 [.ref 32, .ref 1, .int (nI k)] [] (wd c a l f) (fun r hp' => r = some (.int (nI (an P k m).toNat)) ∧ hp' = wd c a l f) := by
  intro m
  induction m with
  | zero =>
    intro k h
    refine am_wp_ok (inl := []) 7 2 94 [] _ _ _ _ _ ?_
    refine am_br_t (show f 32 5 ≤ nI k by rw [en]; exact nI_le (by omega) (by omega)) ?_
    exact And.intro rfl (And.intro rfl rfl)
  | succ m ih =>
    intro k h
    obtain ⟨q, q1, q2, q3⟩ := hk k (by omega)
    refine am_wp_ok (inl := []) 5 2 94 [10] _ _ _ _ _ ?_
    refine am_br_f (show ¬ f 32 5 ≤ nI k by rw [en]; exact nI_ge (by omega) (by omega)) ?_
    show am_T ro 2 94 10 [.ref 32, .ref 1, .int (nI k)] [] (wd c a l f) _
    refine am_wp_ok (inl := []) 5 2 94 [16] _ _ _ _ _ ?_
    refine ⟨_, _, sm_16 (by omega) q2 q1 h2 h3 hst ht, ?_⟩
    show am_T ro 2 94 16 [.ref 32, .ref 1, .int (nI k)] [.int (nI (decide (q = t - s) && al (fun p => decide (a 35 (8 * k + p) = a 2 (s + p))) 0 q).toNat)] (wd c a l f) _
    rw [q3]
    cases e : P k with
    | true =>
      refine am_wp_ok (inl := []) 5 2 94 [21] _ _ _ _ _ ?_
      refine am_br_f (show ¬ nI 1 = 0 by decide) ?_
      rw [an_t e]
      exact And.intro rfl (And.intro rfl rfl)
    | false =>
      refine am_wp_ok (inl := []) 5 2 94 [21] _ _ _ _ _ ?_
      refine am_br_t (show nI 0 = 0 from rfl) ?_
      show am_T ro 2 94 21 [.ref 32, .ref 1, .int (nI k)] [] (wd c a l f) _
      rw [an_f e]
      refine am_wp_ok (inl := []) 3 2 94 [2] _ _ _ _ _ ?_
      show am_T ro 2 94 2 [.ref 32, .ref 1, .int (nI k + 1)] [] (wd c a l f) _
      rw [nI_1]
      exact ih (k + 1) (by omega)
set_option maxRecDepth 100000 in
set_option maxHeartbeats 4000000 in
theorem cs_has_16 {ro : Nat → Option am_C} {c : Bool} {a : Nat → Nat → Int32} {l : Nat → Int64} {f : Nat → Nat → Int32} {n s t : Nat} {P : Nat → Bool} (hn : n ≤ 20) (en : f 32 5 = nI n) (h2 : f 1 2 = nI s) (h3 : f 1 3 = nI t) (hst : s ≤ t) (ht : t ≤ 900) (hk : ∀ i, i < n → ∃ k : Nat, k ≤ 8 ∧ a 34 i = nI k ∧ (decide (k = t - s) && al (fun q => decide (a 35 (8 * i + q) = a 2 (s + q))) 0 k) = P i) : am_run ro 3 94 [.ref 32, .ref 1] (wd c a l f) (some (.int (nI (an P 0 n).toNat))) (wd c a l f) := by
  refine am_run_of rfl (am_wp_ok (inl := []) 3 2 94 [2] 0 _ _ _ _ ?_)
  exact hs_loop_16 hn en h2 h3 hst ht hk n 0 (by omega)
set_option maxRecDepth 100000 in
set_option maxHeartbeats 4000000 in
theorem ss_38 {ro : Nat → Option am_C} {c : Bool} {a : Nat → Nat → Int32} {l : Nat → Int64} {f : Nat → Nat → Int32} {i k s t : Nat} (hi : i < 20) (ek : a 56 i = nI k) (hk : k ≤ 8) (h2 : f 1 2 = nI s) (h3 : f 1 3 = nI t) (hst : s ≤ t) (ht : t ≤ 900) (hT : k = t - s) : ∀ (m q : Nat), q + m = k → am_T ro 1 95 17 [.ref 54, .int (nI i), .ref 1, .int (nI q)] [] (wd c a l f) (fun r hp' => r = some (.int (nI (al (fun q => decide (a 57 (8 * i + q) = a 2 (s + q))) q m).toNat)) ∧ hp' = wd c a l f) := by
  have ek' : a 56 (nI i).toNatClampNeg = nI k := by rw [nI_clamp (by omega)]; exact ek
  intro m
  induction m with
  | zero =>
    intro q h
    refine am_wp_ok (inl := []) 9 1 95 [] _ _ _ _ _ ?_
    refine And.intro (vp_in_nI (by omega) (by decide)) ?_
    refine am_br_t (show a 56 (nI i).toNatClampNeg ≤ nI q by rw [ek']; exact nI_le (by omega) (by omega)) ?_
    exact And.intro rfl (And.intro rfl rfl)
  | succ m ih =>
    intro q h
    refine am_wp_ok (inl := []) 7 1 95 [27] _ _ _ _ _ ?_
    refine And.intro (vp_in_nI (by omega) (by decide)) ?_
    refine am_br_f (show ¬ a 56 (nI i).toNatClampNeg ≤ nI q by rw [ek']; exact nI_ge (by omega) (by omega)) ?_
    show am_T ro 1 95 27 [.ref 54, .int (nI i), .ref 1, .int (nI q)] [] (wd c a l f) _
    refine am_wp_ok (inl := []) 5 1 95 [33] _ _ _ _ _ ?_
    refine ⟨_, _, la_38 hi (by omega), ?_⟩
    show am_T ro 1 95 33 [.ref 54, .int (nI i), .ref 1, .int (nI q)] [.int (a 57 (8 * i + q))] (wd c a l f) _
    refine am_wp_ok (inl := []) 4 1 95 [38] _ _ _ _ _ ?_
    refine ⟨_, _, sp_byte_t h2 h3 hst ht (show q < t - s by omega), ?_⟩
    show am_T ro 1 95 38 [.ref 54, .int (nI i), .ref 1, .int (nI q)] [.int (a 2 (s + q)), .int (a 57 (8 * i + q))] (wd c a l f) _
    refine am_wp_ok (inl := []) 4 1 95 [43] _ _ _ _ _ ?_
    by_cases hq : a 57 (8 * i + q) = a 2 (s + q)
    · refine am_br_t hq ?_
      show am_T ro 1 95 43 [.ref 54, .int (nI i), .ref 1, .int (nI q)] [] (wd c a l f) _
      refine am_wp_ok (inl := []) 3 1 95 [17] _ _ _ _ _ ?_
      show am_T ro 1 95 17 [.ref 54, .int (nI i), .ref 1, .int (nI q + 1)] [] (wd c a l f) _
      rw [nI_1, al_t (p := fun q => decide (a 57 (8 * i + q) = a 2 (s + q))) (decide_eq_true hq)]
      exact ih (q + 1) (by omega)
    · refine am_br_f hq ?_
      rw [al_f (p := fun q => decide (a 57 (8 * i + q) = a 2 (s + q))) (decide_eq_false hq)]
      exact And.intro rfl (And.intro rfl rfl)
set_option maxRecDepth 100000 in
set_option maxHeartbeats 4000000 in
theorem sm_38 {ro : Nat → Option am_C} {c : Bool} {a : Nat → Nat → Int32} {l : Nat → Int64} {f : Nat → Nat → Int32} {i k s t : Nat} (hi : i < 20) (ek : a 56 i = nI k) (hk : k ≤ 8) (h2 : f 1 2 = nI s) (h3 : f 1 3 = nI t) (hst : s ≤ t) (ht : t ≤ 900) : am_run ro 2 95 [.ref 54, .int (nI i), .ref 1] (wd c a l f) (some (.int (nI (decide (k = t - s) && al (fun q => decide (a 57 (8 * i + q) = a 2 (s + q))) 0 k).toNat))) (wd c a l f) := by
  have ek' : a 56 (nI i).toNatClampNeg = nI k := by rw [nI_clamp (by omega)]; exact ek
  refine am_run_of rfl (am_wp_ok (inl := []) 6 1 95 [6] 0 _ _ _ _ ?_)
  refine And.intro (vp_in_nI (by omega) (by decide)) ?_
  show am_T ro 1 95 6 [.ref 54, .int (nI i), .ref 1, am_un] [.int (a 56 (nI i).toNatClampNeg)] (wd c a l f) _
  rw [ek']
  refine am_wp_ok (inl := []) 3 1 95 [10] _ _ _ _ _ ?_
  refine ⟨_, _, sp_len h2 h3 hst, ?_⟩
  show am_T ro 1 95 10 [.ref 54, .int (nI i), .ref 1, am_un] [.int (nI (t - s)), .int (nI k)] (wd c a l f) _
  refine am_wp_ok (inl := []) 4 1 95 [15] _ _ _ _ _ ?_
  by_cases hq : k = t - s
  · refine am_br_t (show nI k = nI (t - s) by rw [← hq]) ?_
    show am_T ro 1 95 15 [.ref 54, .int (nI i), .ref 1, am_un] [] (wd c a l f) _
    rw [decide_eq_true hq, Bool.true_and]
    refine am_wp_ok (inl := []) 3 1 95 [17] _ _ _ _ _ ?_
    exact ss_38 hi ek hk h2 h3 hst ht hq k 0 (by omega)
  · refine am_br_f (show ¬ nI k = nI (t - s) by rw [nI_eq (by omega) (by omega)]; exact hq) ?_
    rw [decide_eq_false hq, Bool.false_and]
    exact And.intro rfl (And.intro rfl rfl)
set_option maxRecDepth 100000 in
set_option maxHeartbeats 4000000 in
theorem hs_loop_38 {ro : Nat → Option am_C} {c : Bool} {a : Nat → Nat → Int32} {l : Nat → Int64} {f : Nat → Nat → Int32} {n s t : Nat} {P : Nat → Bool} (hn : n ≤ 20) (en : f 54 5 = nI n) (h2 : f 1 2 = nI s) (h3 : f 1 3 = nI t) (hst : s ≤ t) (ht : t ≤ 900) (hk : ∀ i, i < n → ∃ k : Nat, k ≤ 8 ∧ a 56 i = nI k ∧ (decide (k = t - s) && al (fun q => decide (a 57 (8 * i + q) = a 2 (s + q))) 0 k) = P i) : ∀ (m k : Nat), k + m = n → am_T ro 2 94 2 [.ref 54, .ref 1, .int (nI k)] [] (wd c a l f) (fun r hp' => r = some (.int (nI (an P k m).toNat)) ∧ hp' = wd c a l f) := by
  intro m
  induction m with
  | zero =>
    intro k h
    refine am_wp_ok (inl := []) 7 2 94 [] _ _ _ _ _ ?_
    refine am_br_t (show f 54 5 ≤ nI k by rw [en]; exact nI_le (by omega) (by omega)) ?_
    exact And.intro rfl (And.intro rfl rfl)
  | succ m ih =>
    intro k h
    obtain ⟨q, q1, q2, q3⟩ := hk k (by omega)
    refine am_wp_ok (inl := []) 5 2 94 [10] _ _ _ _ _ ?_
    refine am_br_f (show ¬ f 54 5 ≤ nI k by rw [en]; exact nI_ge (by omega) (by omega)) ?_
    show am_T ro 2 94 10 [.ref 54, .ref 1, .int (nI k)] [] (wd c a l f) _
    refine am_wp_ok (inl := []) 5 2 94 [16] _ _ _ _ _ ?_
    refine ⟨_, _, sm_38 (by omega) q2 q1 h2 h3 hst ht, ?_⟩
    show am_T ro 2 94 16 [.ref 54, .ref 1, .int (nI k)] [.int (nI (decide (q = t - s) && al (fun p => decide (a 57 (8 * k + p) = a 2 (s + p))) 0 q).toNat)] (wd c a l f) _
    rw [q3]
    cases e : P k with
    | true =>
      refine am_wp_ok (inl := []) 5 2 94 [21] _ _ _ _ _ ?_
      refine am_br_f (show ¬ nI 1 = 0 by decide) ?_
      rw [an_t e]
      exact And.intro rfl (And.intro rfl rfl)
    | false =>
      refine am_wp_ok (inl := []) 5 2 94 [21] _ _ _ _ _ ?_
      refine am_br_t (show nI 0 = 0 from rfl) ?_
      show am_T ro 2 94 21 [.ref 54, .ref 1, .int (nI k)] [] (wd c a l f) _
      rw [an_f e]
      refine am_wp_ok (inl := []) 3 2 94 [2] _ _ _ _ _ ?_
      show am_T ro 2 94 2 [.ref 54, .ref 1, .int (nI k + 1)] [] (wd c a l f) _
      rw [nI_1]
      exact ih (k + 1) (by omega)
set_option maxRecDepth 100000 in
set_option maxHeartbeats 4000000 in
theorem cs_has_38 {ro : Nat → Option am_C} {c : Bool} {a : Nat → Nat → Int32} {l : Nat → Int64} {f : Nat → Nat → Int32} {n s t : Nat} {P : Nat → Bool} (hn : n ≤ 20) (en : f 54 5 = nI n) (h2 : f 1 2 = nI s) (h3 : f 1 3 = nI t) (hst : s ≤ t) (ht : t ≤ 900) (hk : ∀ i, i < n → ∃ k : Nat, k ≤ 8 ∧ a 56 i = nI k ∧ (decide (k = t - s) && al (fun q => decide (a 57 (8 * i + q) = a 2 (s + q))) 0 k) = P i) : am_run ro 3 94 [.ref 54, .ref 1] (wd c a l f) (some (.int (nI (an P 0 n).toNat))) (wd c a l f) := by
  refine am_run_of rfl (am_wp_ok (inl := []) 3 2 94 [2] 0 _ _ _ _ ?_)
  exact hs_loop_38 hn en h2 h3 hst ht hk n 0 (by omega)
theorem cs_has (b : Bool) {ro : Nat → Option am_C} {c : Bool} {a : Nat → Nat → Int32} {l : Nat → Int64} {f : Nat → Nat → Int32} {n s t : Nat} {P : Nat → Bool} (hn : n ≤ 20) (en : f (ob b + 16) 5 = nI n) (h2 : f 1 2 = nI s) (h3 : f 1 3 = nI t) (hst : s ≤ t) (ht : t ≤ 900) (hk : ∀ i, i < n → ∃ k : Nat, k ≤ 8 ∧ a (ob b + 18) i = nI k ∧ (decide (k = t - s) && al (fun q => decide (a (ob b + 19) (8 * i + q) = a 2 (s + q))) 0 k) = P i) : am_run ro 3 94 [.ref (ob b + 16), .ref 1] (wd c a l f) (some (.int (nI (an P 0 n).toNat))) (wd c a l f) := by
  cases b
  · exact cs_has_16 hn en h2 h3 hst ht hk
  · exact cs_has_38 hn en h2 h3 hst ht hk
theorem ff_an {p : Nat → Bool} {g : Nat → Int32} : ∀ (m k : Nat), (∀ i, k ≤ i → i < k + m → ¬ g i = -1) → (ff p g k m = -1 ↔ an p k m = false) := by
  intro m
  induction m with
  | zero => intro k _; exact ⟨fun _ => rfl, fun _ => rfl⟩
  | succ m ih =>
    intro k h
    cases e : p k with
    | true =>
      rw [ff_t e, an_t e]
      exact ⟨fun z => absurd z (h k (by omega) (by omega)), fun z => by cases z⟩
    | false =>
      rw [ff_f e, an_f e]
      exact ih (k + 1) (fun i h1 h2 => h i (by omega) (by omega))
set_option maxRecDepth 100000 in
set_option maxHeartbeats 4000000 in
theorem cs_im_16 {ro : Nat → Option am_C} {c : Bool} {a : Nat → Nat → Int32} {l : Nat → Int64} {f : Nat → Nat → Int32} {n : Nat} {x : Int32} (hn : n ≤ 16) (en : f 24 8 = nI n) (hg : ∀ i, i < n → ¬ a 27 i = -1) : am_run ro 2 84 [.ref 24, .int x] (wd c a l f) (some (.int (nI (an (fun q => decide (a 26 q = x) || decide (a 27 q = x)) 0 n).toNat))) (wd c a l f) := by
  have hf := ff_an (p := fun q => decide (a 26 q = x) || decide (a 27 q = x)) (g := fun q => if (1 : Int32) = 0 then a 26 q else a 27 q) n 0 (fun i _ hi => by
    show ¬ (if (1 : Int32) = 0 then a 26 i else a 27 i) = -1
    rw [if_neg (show ¬ (1 : Int32) = 0 by decide)]
    exact hg i (by omega))
  refine am_run_of rfl (am_wp_ok (inl := []) 5 1 84 [6] 0 _ _ _ _ ?_)
  refine ⟨_, _, mr_16 hn en, ?_⟩
  show am_T ro 1 84 6 [.ref 24, .int x] [.int (ff (fun q => decide (a 26 q = x) || decide (a 27 q = x)) (fun q => if (1 : Int32) = 0 then a 26 q else a 27 q) 0 n)] (wd c a l f) _
  refine am_wp_ok (inl := []) 7 1 84 [] _ _ _ _ _ ?_
  cases e : an (fun q => decide (a 26 q = x) || decide (a 27 q = x)) 0 n with
  | false =>
    refine am_br_t (hf.mpr e) ?_
    exact And.intro rfl (And.intro rfl rfl)
  | true =>
    refine am_br_f (fun z => by rw [hf.mp z] at e; cases e) ?_
    exact And.intro rfl (And.intro rfl rfl)
set_option maxRecDepth 100000 in
set_option maxHeartbeats 4000000 in
theorem cs_im_38 {ro : Nat → Option am_C} {c : Bool} {a : Nat → Nat → Int32} {l : Nat → Int64} {f : Nat → Nat → Int32} {n : Nat} {x : Int32} (hn : n ≤ 16) (en : f 46 8 = nI n) (hg : ∀ i, i < n → ¬ a 49 i = -1) : am_run ro 2 84 [.ref 46, .int x] (wd c a l f) (some (.int (nI (an (fun q => decide (a 48 q = x) || decide (a 49 q = x)) 0 n).toNat))) (wd c a l f) := by
  have hf := ff_an (p := fun q => decide (a 48 q = x) || decide (a 49 q = x)) (g := fun q => if (1 : Int32) = 0 then a 48 q else a 49 q) n 0 (fun i _ hi => by
    show ¬ (if (1 : Int32) = 0 then a 48 i else a 49 i) = -1
    rw [if_neg (show ¬ (1 : Int32) = 0 by decide)]
    exact hg i (by omega))
  refine am_run_of rfl (am_wp_ok (inl := []) 5 1 84 [6] 0 _ _ _ _ ?_)
  refine ⟨_, _, mr_38 hn en, ?_⟩
  show am_T ro 1 84 6 [.ref 46, .int x] [.int (ff (fun q => decide (a 48 q = x) || decide (a 49 q = x)) (fun q => if (1 : Int32) = 0 then a 48 q else a 49 q) 0 n)] (wd c a l f) _
  refine am_wp_ok (inl := []) 7 1 84 [] _ _ _ _ _ ?_
  cases e : an (fun q => decide (a 48 q = x) || decide (a 49 q = x)) 0 n with
  | false =>
    refine am_br_t (hf.mpr e) ?_
    exact And.intro rfl (And.intro rfl rfl)
  | true =>
    refine am_br_f (fun z => by rw [hf.mp z] at e; cases e) ?_
    exact And.intro rfl (And.intro rfl rfl)
theorem cs_im (b : Bool) {ro : Nat → Option am_C} {c : Bool} {a : Nat → Nat → Int32} {l : Nat → Int64} {f : Nat → Nat → Int32} {n : Nat} {x : Int32} (hn : n ≤ 16) (en : f (ob b + 8) 8 = nI n) (hg : ∀ i, i < n → ¬ a (ob b + 11) i = -1) : am_run ro 2 84 [.ref (ob b + 8), .int x] (wd c a l f) (some (.int (nI (an (fun q => decide (a (ob b + 10) q = x) || decide (a (ob b + 11) q = x)) 0 n).toNat))) (wd c a l f) := by
  cases b
  · exact cs_im_16 hn en hg
  · exact cs_im_38 hn en hg
