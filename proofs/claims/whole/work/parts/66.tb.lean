/-! takeOfBranch, takeOfOther, takeOfMap -/
set_option maxRecDepth 100000 in
set_option maxHeartbeats 4000000 in
theorem tb_st {ro : Nat → Option am_C} {c : Bool} {a : Nat → Nat → Int32} {l : Nat → Int64} {f : Nat → Nat → Int32} {nb nc k : Nat} {v : Int32} {K : Option Value → am_H → Prop} (e6 : a 62 6 = nI nb) (e7 : a 62 7 = nI nc) (hw : f 60 27 = nI k) (kq : am_T ro 1 113 (am_ts 29 (nI k) 228 1 5 #[35, 57, 228, 122, 144]) [.ref 60, .int v, .int (nI (30 + nb)), .int (nI (180 + 3 * nc))] [] (wd c a l f) K) : am_T ro 1 113 0 (am_l0 113 [.ref 60, .int v]) [] (wd c a l f) K := by
  refine am_wp_ok (inl := []) 18 1 113 [29] _ _ _ _ _ ?_
  refine And.intro (vp_in_nI (n := 6) (by decide) (by decide)) (And.intro (vp_in_nI (n := 7) (by decide) (by decide)) ?_)
  show am_T ro 1 113 29 [.ref 60, .int v, .int (nI 30 + a 62 6), .int (nI 180 + nI 3 * a 62 7)] [.int (f 60 27)] (wd c a l f) K
  rw [e6, e7, nI_add, nI_mul, nI_add, hw]
  refine am_wp_ok (inl := []) 1 1 113 [] _ _ _ _ _ ?_
  exact And.intro (by decide) kq
set_option maxRecDepth 100000 in
set_option maxHeartbeats 4000000 in
theorem to_st {ro : Nat → Option am_C} {c : Bool} {a : Nat → Nat → Int32} {l : Nat → Int64} {f : Nat → Nat → Int32} {k : Nat} {v : Int32} {K : Option Value → am_H → Prop} (hw : f 60 27 = nI k) (kq : am_T ro 1 114 (am_ts 4 (nI k) 319 7 15 #[52, 104, 133, 319, 319, 319, 319, 222, 254]) [.ref 60, .int v, am_un, am_un] [] (wd c a l f) K) : am_T ro 1 114 0 (am_l0 114 [.ref 60, .int v]) [] (wd c a l f) K := by
  refine am_wp_ok (inl := []) 3 1 114 [4] _ _ _ _ _ ?_
  show am_T ro 1 114 4 [.ref 60, .int v, am_un, am_un] [.int (f 60 27)] (wd c a l f) K
  rw [hw]
  refine am_wp_ok (inl := []) 1 1 114 [] _ _ _ _ _ ?_
  exact And.intro (by decide) kq
set_option maxRecDepth 100000 in
set_option maxHeartbeats 4000000 in
theorem tb_1 {ro : Nat → Option am_C} {c : Bool} {a : Nat → Nat → Int32} {l : Nat → Int64} {f : Nat → Nat → Int32} {nb nc : Nat} {v : Int32} (hb : nb < 30) (hc : nc ≤ 60) (e6 : a 62 6 = nI nb) (e7 : a 62 7 = nI nc) (hw : f 60 27 = nI 1) {g : Bool} (hg : v < 0 ↔ g = false) : am_run ro 2 113 [.ref 60, .int v] (wd c a l f) (some (.int (nI g.toNat))) (wd c (u2 a 63 (upd (a 63) (30 + nb) v)) l (u3 f 60 27 (2))) := by
  refine am_run_of rfl (tb_st (k := 1) e6 e7 hw ?_)
  rw [show am_ts 29 (nI 1) 228 1 5 #[35, 57, 228, 122, 144] = 64 from by decide +kernel]
  refine am_wp_ok (inl := []) 6 1 113 [71] _ _ _ _ _ ?_
  refine And.intro (show vp_in (nI (30 + nb)) 60 by exact vp_in_nI (by omega) (by decide)) ?_
  show am_T ro 1 113 71 [.ref 60, .int v, .int (nI (30 + nb)), .int (nI (180 + 3 * nc))] [] ((wd c a l f).set 63 (.inl (.int, 60, .inl (upd (a 63) (nI (30 + nb)).toNatClampNeg (v))))) _
  rw [ws_63, nI_clamp (show 30 + nb < 2 ^ 31 by omega)]
  refine am_wp_ok (inl := []) 4 1 113 [76] _ _ _ _ _ ?_
  show am_T ro 1 113 76 [.ref 60, .int v, .int (nI (30 + nb)), .int (nI (180 + 3 * nc))] [] ((wd c (u2 a 63 (upd (a 63) (30 + nb) v)) l f).set 60 (.inr (10, [.ref 61, .int (f 60 1), .int (f 60 2), .int (f 60 3), .ref 62, .ref 63, .ref 64, .ref 65, .ref 66, .ref 67, .ref 68, .ref 69, .ref 70, .ref 71, .ref 72, .ref 73, .ref 74, .ref 75, .int (f 60 18), .ref 76, .ref 77, .ref 78, .ref 79, .int (f 60 23), .ref 80, .ref 81, .int (f 60 26), .int (f 60 27), .int (f 60 28)].set 27 (.int (2))))) _
  rw [wf_60_27]
  refine am_wp_ok (inl := []) 6 1 113 [] _ _ _ _ _ ?_
  cases g with
  | false =>
    refine am_br_t (hg.mpr rfl) ?_
    exact And.intro rfl (And.intro rfl rfl)
  | true =>
    refine am_br_f (fun z => by have := hg.mp z; cases this) ?_
    exact And.intro rfl (And.intro rfl rfl)
set_option maxRecDepth 100000 in
set_option maxHeartbeats 4000000 in
theorem tb_2t {ro : Nat → Option am_C} {c : Bool} {a : Nat → Nat → Int32} {l : Nat → Int64} {f : Nat → Nat → Int32} {nb nc : Nat} (hb : nb < 30) (hc : nc ≤ 60) (e6 : a 62 6 = nI nb) (e7 : a 62 7 = nI nc) (hw : f 60 27 = nI 2) {q : Nat} (hq : q < 10) : am_run ro 2 113 [.ref 60, .int (nI q)] (wd c a l f) (some (.int (nI 1))) (wd c (u2 (u2 (u2 a 64 (upd (a 64) (30 + nb) (nI q))) 65 (upd (a 65) (31 + nb) (nI nc))) 62 (upd (a 62) 6 (nI (nb + 1)))) l (u3 (u3 f 60 26 (f 60 26 + 1)) 60 27 (3))) := by
  refine am_run_of rfl (tb_st (k := 2) e6 e7 hw ?_)
  rw [show am_ts 29 (nI 2) 228 1 5 #[35, 57, 228, 122, 144] = 86 from by decide +kernel]
  refine am_wp_ok (inl := []) 6 1 113 [93] _ _ _ _ _ ?_
  refine And.intro (show vp_in (nI (30 + nb)) 60 by exact vp_in_nI (by omega) (by decide)) ?_
  show am_T ro 1 113 93 [.ref 60, .int (nI q), .int (nI (30 + nb)), .int (nI (180 + 3 * nc))] [] ((wd c a l f).set 64 (.inl (.int, 60, .inl (upd (a 64) (nI (30 + nb)).toNatClampNeg ((nI q)))))) _
  rw [ws_64, nI_clamp (show 30 + nb < 2 ^ 31 by omega)]
  refine am_wp_ok (inl := []) 15 1 113 [115] _ _ _ _ _ ?_
  refine And.intro (vp_in_nI (n := 6) (by decide) (by decide)) ?_
  refine And.intro (vp_in_nI (n := 7) (by decide) (by decide)) ?_
  refine And.intro (show vp_in (nI 31 + a 62 6) 62 by rw [e6, nI_add]; exact vp_in_nI (by omega) (by decide)) ?_
  show am_T ro 1 113 115 [.ref 60, .int (nI q), .int (nI (30 + nb)), .int (nI (180 + 3 * nc))] [] ((wd c (u2 a 64 (upd (a 64) (30 + nb) (nI q))) l f).set 65 (.inl (.int, 62, .inl (upd (a 65) (nI 31 + a 62 6).toNatClampNeg (a 62 7))))) _
  rw [ws_65, e7, e6, nI_add, nI_clamp (show 31 + nb < 2 ^ 31 by omega)]
  refine am_wp_ok (inl := []) 9 1 113 [126] _ _ _ _ _ ?_
  refine And.intro (vp_in_nI (n := 6) (by decide) (by decide)) (And.intro (vp_in_nI (n := 6) (by decide) (by decide)) ?_)
  show am_T ro 1 113 126 [.ref 60, .int (nI q), .int (nI (30 + nb)), .int (nI (180 + 3 * nc))] [] ((wd c (u2 (u2 a 64 (upd (a 64) (30 + nb) (nI q))) 65 (upd (a 65) (31 + nb) (nI nc))) l f).set 62 (.inl (.int, 12, .inl (upd (a 62) 6 (a 62 6 + 1))))) _
  rw [ws_62, e6, nI_1]
  refine am_wp_ok (inl := []) 8 1 113 [136] _ _ _ _ _ ?_
  show am_T ro 1 113 136 [.ref 60, .int (nI q), .int (nI (30 + nb)), .int (nI (180 + 3 * nc))] [] ((wd c (u2 (u2 (u2 a 64 (upd (a 64) (30 + nb) (nI q))) 65 (upd (a 65) (31 + nb) (nI nc))) 62 (upd (a 62) 6 (nI (nb + 1)))) l f).set 60 (.inr (10, [.ref 61, .int (f 60 1), .int (f 60 2), .int (f 60 3), .ref 62, .ref 63, .ref 64, .ref 65, .ref 66, .ref 67, .ref 68, .ref 69, .ref 70, .ref 71, .ref 72, .ref 73, .ref 74, .ref 75, .int (f 60 18), .ref 76, .ref 77, .ref 78, .ref 79, .int (f 60 23), .ref 80, .ref 81, .int (f 60 26), .int (f 60 27), .int (f 60 28)].set 26 (.int (f 60 26 + 1))))) _
  rw [wf_60_26]
  refine am_wp_ok (inl := []) 4 1 113 [141] _ _ _ _ _ ?_
  show am_T ro 1 113 141 [.ref 60, .int (nI q), .int (nI (30 + nb)), .int (nI (180 + 3 * nc))] [] ((wd c (u2 (u2 (u2 a 64 (upd (a 64) (30 + nb) (nI q))) 65 (upd (a 65) (31 + nb) (nI nc))) 62 (upd (a 62) 6 (nI (nb + 1)))) l (u3 f 60 26 (f 60 26 + 1))).set 60 (.inr (10, [.ref 61, .int ((u3 f 60 26 (f 60 26 + 1)) 60 1), .int ((u3 f 60 26 (f 60 26 + 1)) 60 2), .int ((u3 f 60 26 (f 60 26 + 1)) 60 3), .ref 62, .ref 63, .ref 64, .ref 65, .ref 66, .ref 67, .ref 68, .ref 69, .ref 70, .ref 71, .ref 72, .ref 73, .ref 74, .ref 75, .int ((u3 f 60 26 (f 60 26 + 1)) 60 18), .ref 76, .ref 77, .ref 78, .ref 79, .int ((u3 f 60 26 (f 60 26 + 1)) 60 23), .ref 80, .ref 81, .int ((u3 f 60 26 (f 60 26 + 1)) 60 26), .int ((u3 f 60 26 (f 60 26 + 1)) 60 27), .int ((u3 f 60 26 (f 60 26 + 1)) 60 28)].set 27 (.int (3))))) _
  rw [wf_60_27]
  refine am_wp_ok (inl := []) 6 1 113 [150] _ _ _ _ _ ?_
  refine ⟨_, _, am_run_up (in_t (k := 9) (by omega) (by decide) rfl) (by decide), ?_⟩
  refine am_wp_ok (inl := []) 2 1 113 [] _ _ _ _ _ ?_
  exact And.intro rfl (And.intro rfl rfl)
set_option maxRecDepth 100000 in
set_option maxHeartbeats 4000000 in
theorem tb_2f {ro : Nat → Option am_C} {c : Bool} {a : Nat → Nat → Int32} {l : Nat → Int64} {f : Nat → Nat → Int32} {nb nc : Nat} {v : Int32} (hb : nb < 30) (hc : nc ≤ 60) (e6 : a 62 6 = nI nb) (e7 : a 62 7 = nI nc) (hw : f 60 27 = nI 2) (hq : v < 0 ∨ nI 10 ≤ v) : am_run ro 2 113 [.ref 60, .int v] (wd c a l f) (some (.int (nI 0))) (wd c (u2 (u2 (u2 a 64 (upd (a 64) (30 + nb) v)) 65 (upd (a 65) (31 + nb) (nI nc))) 62 (upd (a 62) 6 (nI (nb + 1)))) l (u3 (u3 f 60 26 (f 60 26 + 1)) 60 27 (3))) := by
  refine am_run_of rfl (tb_st (k := 2) e6 e7 hw ?_)
  rw [show am_ts 29 (nI 2) 228 1 5 #[35, 57, 228, 122, 144] = 86 from by decide +kernel]
  refine am_wp_ok (inl := []) 6 1 113 [93] _ _ _ _ _ ?_
  refine And.intro (show vp_in (nI (30 + nb)) 60 by exact vp_in_nI (by omega) (by decide)) ?_
  show am_T ro 1 113 93 [.ref 60, .int v, .int (nI (30 + nb)), .int (nI (180 + 3 * nc))] [] ((wd c a l f).set 64 (.inl (.int, 60, .inl (upd (a 64) (nI (30 + nb)).toNatClampNeg (v))))) _
  rw [ws_64, nI_clamp (show 30 + nb < 2 ^ 31 by omega)]
  refine am_wp_ok (inl := []) 15 1 113 [115] _ _ _ _ _ ?_
  refine And.intro (vp_in_nI (n := 6) (by decide) (by decide)) ?_
  refine And.intro (vp_in_nI (n := 7) (by decide) (by decide)) ?_
  refine And.intro (show vp_in (nI 31 + a 62 6) 62 by rw [e6, nI_add]; exact vp_in_nI (by omega) (by decide)) ?_
  show am_T ro 1 113 115 [.ref 60, .int v, .int (nI (30 + nb)), .int (nI (180 + 3 * nc))] [] ((wd c (u2 a 64 (upd (a 64) (30 + nb) v)) l f).set 65 (.inl (.int, 62, .inl (upd (a 65) (nI 31 + a 62 6).toNatClampNeg (a 62 7))))) _
  rw [ws_65, e7, e6, nI_add, nI_clamp (show 31 + nb < 2 ^ 31 by omega)]
  refine am_wp_ok (inl := []) 9 1 113 [126] _ _ _ _ _ ?_
  refine And.intro (vp_in_nI (n := 6) (by decide) (by decide)) (And.intro (vp_in_nI (n := 6) (by decide) (by decide)) ?_)
  show am_T ro 1 113 126 [.ref 60, .int v, .int (nI (30 + nb)), .int (nI (180 + 3 * nc))] [] ((wd c (u2 (u2 a 64 (upd (a 64) (30 + nb) v)) 65 (upd (a 65) (31 + nb) (nI nc))) l f).set 62 (.inl (.int, 12, .inl (upd (a 62) 6 (a 62 6 + 1))))) _
  rw [ws_62, e6, nI_1]
  refine am_wp_ok (inl := []) 8 1 113 [136] _ _ _ _ _ ?_
  show am_T ro 1 113 136 [.ref 60, .int v, .int (nI (30 + nb)), .int (nI (180 + 3 * nc))] [] ((wd c (u2 (u2 (u2 a 64 (upd (a 64) (30 + nb) v)) 65 (upd (a 65) (31 + nb) (nI nc))) 62 (upd (a 62) 6 (nI (nb + 1)))) l f).set 60 (.inr (10, [.ref 61, .int (f 60 1), .int (f 60 2), .int (f 60 3), .ref 62, .ref 63, .ref 64, .ref 65, .ref 66, .ref 67, .ref 68, .ref 69, .ref 70, .ref 71, .ref 72, .ref 73, .ref 74, .ref 75, .int (f 60 18), .ref 76, .ref 77, .ref 78, .ref 79, .int (f 60 23), .ref 80, .ref 81, .int (f 60 26), .int (f 60 27), .int (f 60 28)].set 26 (.int (f 60 26 + 1))))) _
  rw [wf_60_26]
  refine am_wp_ok (inl := []) 4 1 113 [141] _ _ _ _ _ ?_
  show am_T ro 1 113 141 [.ref 60, .int v, .int (nI (30 + nb)), .int (nI (180 + 3 * nc))] [] ((wd c (u2 (u2 (u2 a 64 (upd (a 64) (30 + nb) v)) 65 (upd (a 65) (31 + nb) (nI nc))) 62 (upd (a 62) 6 (nI (nb + 1)))) l (u3 f 60 26 (f 60 26 + 1))).set 60 (.inr (10, [.ref 61, .int ((u3 f 60 26 (f 60 26 + 1)) 60 1), .int ((u3 f 60 26 (f 60 26 + 1)) 60 2), .int ((u3 f 60 26 (f 60 26 + 1)) 60 3), .ref 62, .ref 63, .ref 64, .ref 65, .ref 66, .ref 67, .ref 68, .ref 69, .ref 70, .ref 71, .ref 72, .ref 73, .ref 74, .ref 75, .int ((u3 f 60 26 (f 60 26 + 1)) 60 18), .ref 76, .ref 77, .ref 78, .ref 79, .int ((u3 f 60 26 (f 60 26 + 1)) 60 23), .ref 80, .ref 81, .int ((u3 f 60 26 (f 60 26 + 1)) 60 26), .int ((u3 f 60 26 (f 60 26 + 1)) 60 27), .int ((u3 f 60 26 (f 60 26 + 1)) 60 28)].set 27 (.int (3))))) _
  rw [wf_60_27]
  refine am_wp_ok (inl := []) 6 1 113 [150] _ _ _ _ _ ?_
  refine ⟨_, _, am_run_up (in_f (k := 9) hq (by decide) rfl) (by decide), ?_⟩
  refine am_wp_ok (inl := []) 2 1 113 [] _ _ _ _ _ ?_
  exact And.intro rfl (And.intro rfl rfl)
set_option maxRecDepth 100000 in
set_option maxHeartbeats 4000000 in
theorem tb_4t {ro : Nat → Option am_C} {c : Bool} {a : Nat → Nat → Int32} {l : Nat → Int64} {f : Nat → Nat → Int32} {nb nc : Nat} (hb : nb ≤ 30) (hc : nc < 60) (e6 : a 62 6 = nI nb) (e7 : a 62 7 = nI nc) (hw : f 60 27 = nI 4) {q : Nat} (hq : q < 10) : am_run ro 2 113 [.ref 60, .int (nI q)] (wd c a l f) (some (.int (nI 1))) (wd c (u2 a 66 (upd (a 66) (180 + 3 * nc) (nI q))) l (u3 f 60 27 (5))) := by
  refine am_run_of rfl (tb_st (k := 4) e6 e7 hw ?_)
  rw [show am_ts 29 (nI 4) 228 1 5 #[35, 57, 228, 122, 144] = 151 from by decide +kernel]
  refine am_wp_ok (inl := []) 6 1 113 [158] _ _ _ _ _ ?_
  refine And.intro (show vp_in (nI (180 + 3 * nc)) 360 by exact vp_in_nI (by omega) (by decide)) ?_
  show am_T ro 1 113 158 [.ref 60, .int (nI q), .int (nI (30 + nb)), .int (nI (180 + 3 * nc))] [] ((wd c a l f).set 66 (.inl (.int, 360, .inl (upd (a 66) (nI (180 + 3 * nc)).toNatClampNeg ((nI q)))))) _
  rw [ws_66, nI_clamp (show 180 + 3 * nc < 2 ^ 31 by omega)]
  refine am_wp_ok (inl := []) 4 1 113 [163] _ _ _ _ _ ?_
  show am_T ro 1 113 163 [.ref 60, .int (nI q), .int (nI (30 + nb)), .int (nI (180 + 3 * nc))] [] ((wd c (u2 a 66 (upd (a 66) (180 + 3 * nc) (nI q))) l f).set 60 (.inr (10, [.ref 61, .int (f 60 1), .int (f 60 2), .int (f 60 3), .ref 62, .ref 63, .ref 64, .ref 65, .ref 66, .ref 67, .ref 68, .ref 69, .ref 70, .ref 71, .ref 72, .ref 73, .ref 74, .ref 75, .int (f 60 18), .ref 76, .ref 77, .ref 78, .ref 79, .int (f 60 23), .ref 80, .ref 81, .int (f 60 26), .int (f 60 27), .int (f 60 28)].set 27 (.int (5))))) _
  rw [wf_60_27]
  refine am_wp_ok (inl := []) 6 1 113 [172] _ _ _ _ _ ?_
  refine ⟨_, _, am_run_up (in_t (k := 9) (by omega) (by decide) rfl) (by decide), ?_⟩
  refine am_wp_ok (inl := []) 2 1 113 [] _ _ _ _ _ ?_
  exact And.intro rfl (And.intro rfl rfl)
set_option maxRecDepth 100000 in
set_option maxHeartbeats 4000000 in
theorem tb_4f {ro : Nat → Option am_C} {c : Bool} {a : Nat → Nat → Int32} {l : Nat → Int64} {f : Nat → Nat → Int32} {nb nc : Nat} {v : Int32} (hb : nb ≤ 30) (hc : nc < 60) (e6 : a 62 6 = nI nb) (e7 : a 62 7 = nI nc) (hw : f 60 27 = nI 4) (hq : v < 0 ∨ nI 10 ≤ v) : am_run ro 2 113 [.ref 60, .int v] (wd c a l f) (some (.int (nI 0))) (wd c (u2 a 66 (upd (a 66) (180 + 3 * nc) v)) l (u3 f 60 27 (5))) := by
  refine am_run_of rfl (tb_st (k := 4) e6 e7 hw ?_)
  rw [show am_ts 29 (nI 4) 228 1 5 #[35, 57, 228, 122, 144] = 151 from by decide +kernel]
  refine am_wp_ok (inl := []) 6 1 113 [158] _ _ _ _ _ ?_
  refine And.intro (show vp_in (nI (180 + 3 * nc)) 360 by exact vp_in_nI (by omega) (by decide)) ?_
  show am_T ro 1 113 158 [.ref 60, .int v, .int (nI (30 + nb)), .int (nI (180 + 3 * nc))] [] ((wd c a l f).set 66 (.inl (.int, 360, .inl (upd (a 66) (nI (180 + 3 * nc)).toNatClampNeg (v))))) _
  rw [ws_66, nI_clamp (show 180 + 3 * nc < 2 ^ 31 by omega)]
  refine am_wp_ok (inl := []) 4 1 113 [163] _ _ _ _ _ ?_
  show am_T ro 1 113 163 [.ref 60, .int v, .int (nI (30 + nb)), .int (nI (180 + 3 * nc))] [] ((wd c (u2 a 66 (upd (a 66) (180 + 3 * nc) v)) l f).set 60 (.inr (10, [.ref 61, .int (f 60 1), .int (f 60 2), .int (f 60 3), .ref 62, .ref 63, .ref 64, .ref 65, .ref 66, .ref 67, .ref 68, .ref 69, .ref 70, .ref 71, .ref 72, .ref 73, .ref 74, .ref 75, .int (f 60 18), .ref 76, .ref 77, .ref 78, .ref 79, .int (f 60 23), .ref 80, .ref 81, .int (f 60 26), .int (f 60 27), .int (f 60 28)].set 27 (.int (5))))) _
  rw [wf_60_27]
  refine am_wp_ok (inl := []) 6 1 113 [172] _ _ _ _ _ ?_
  refine ⟨_, _, am_run_up (in_f (k := 9) hq (by decide) rfl) (by decide), ?_⟩
  refine am_wp_ok (inl := []) 2 1 113 [] _ _ _ _ _ ?_
  exact And.intro rfl (And.intro rfl rfl)
def oq (u : Nat → Nat) (T : Nat) : Bool := decide (T = 1) && (decide (u 0 = 60) || decide (u 0 = 61) || decide (u 0 = 62))
set_option maxRecDepth 100000 in
set_option maxHeartbeats 4000000 in
theorem tb_5 {ro : Nat → Option am_C} {c : Bool} {a : Nat → Nat → Int32} {l : Nat → Int64} {f : Nat → Nat → Int32} {nb nc : Nat} {v : Int32} (hb : nb ≤ 30) (hc : nc < 60) (e6 : a 62 6 = nI nb) (e7 : a 62 7 = nI nc) (hw : f 60 27 = nI 5) {s t : Nat} {u : Nat → Nat} (h2 : f 60 2 = nI s) (h3 : f 60 3 = nI t) (hst : s < t) (ht : t ≤ 900) (hu : ∀ q, q < t - s → a 61 (s + q) = nI (u q) ∧ u q < 256) : am_run ro 2 113 [.ref 60, .int v] (wd c a l f) (some (.int (nI (oq u (t - s)).toNat))) (wd c (u2 a 66 (upd (a 66) (180 + 3 * nc + 1) (nI (u 0)))) l (u3 f 60 27 (6))) := by
  refine am_run_of rfl (tb_st (k := 5) e6 e7 hw ?_)
  rw [show am_ts 29 (nI 5) 228 1 5 #[35, 57, 228, 122, 144] = 173 from by decide +kernel]
  have ef : a 61 (f 60 2).toNatClampNeg = nI (u 0) := by rw [h2, nI_clamp (by omega)]; exact (hu 0 (by omega)).1
  have ed : f 60 3 - f 60 2 = nI (t - s) := by rw [h2, h3, nI_sub (by omega)]
  have hin : vp_in (f 60 2) 900 := by rw [h2]; exact vp_in_nI (by omega) (by decide)
  have u0 := (hu 0 (by omega)).2
  refine am_wp_ok (inl := []) 13 1 113 [190] _ _ _ _ _ ?_
  refine And.intro (hin) ?_
  refine And.intro (show vp_in (nI (180 + 3 * nc) + 1) 360 by rw [nI_1]; exact vp_in_nI (by omega) (by decide)) ?_
  show am_T ro 1 113 190 [.ref 60, .int v, .int (nI (30 + nb)), .int (nI (180 + 3 * nc))] [] ((wd c a l f).set 66 (.inl (.int, 360, .inl (upd (a 66) (nI (180 + 3 * nc) + 1).toNatClampNeg (a 61 (f 60 2).toNatClampNeg))))) _
  rw [ws_66, ef, nI_1, nI_clamp (show 180 + 3 * nc + 1 < 2 ^ 31 by omega)]
  refine am_wp_ok (inl := []) 4 1 113 [196] _ _ _ _ _ ?_
  show am_T ro 1 113 196 [.ref 60, .int v, .int (nI (30 + nb)), .int (nI (180 + 3 * nc))] [] ((wd c (u2 a 66 (upd (a 66) (180 + 3 * nc + 1) (nI (u 0)))) l f).set 60 (.inr (10, [.ref 61, .int (f 60 1), .int (f 60 2), .int (f 60 3), .ref 62, .ref 63, .ref 64, .ref 65, .ref 66, .ref 67, .ref 68, .ref 69, .ref 70, .ref 71, .ref 72, .ref 73, .ref 74, .ref 75, .int (f 60 18), .ref 76, .ref 77, .ref 78, .ref 79, .int (f 60 23), .ref 80, .ref 81, .int (f 60 26), .int (f 60 27), .int (f 60 28)].set 27 (.int (6))))) _
  rw [wf_60_27]
  generalize hE : (u3 f 60 27 (6)) = E
  have E2 : E 60 2 = f 60 2 := by rw [← hE]; rfl
  have E3 : E 60 3 = f 60 3 := by rw [← hE]; rfl
  have no : am_T ro 1 113 255 [.ref 60, .int v, .int (nI (30 + nb)), .int (nI (180 + 3 * nc))] [] (wd c (u2 a 66 (upd (a 66) (180 + 3 * nc + 1) (nI (u 0)))) l E) (fun r hp' => r = some (.int (nI 0)) ∧ hp' = wd c (u2 a 66 (upd (a 66) (180 + 3 * nc + 1) (nI (u 0)))) l E) := by
    refine am_wp_ok (inl := []) 3 1 113 [] _ _ _ _ _ ?_
    exact And.intro rfl (And.intro rfl rfl)
  have ye : am_T ro 1 113 251 [.ref 60, .int v, .int (nI (30 + nb)), .int (nI (180 + 3 * nc))] [] (wd c (u2 a 66 (upd (a 66) (180 + 3 * nc + 1) (nI (u 0)))) l E) (fun r hp' => r = some (.int (nI 1)) ∧ hp' = wd c (u2 a 66 (upd (a 66) (180 + 3 * nc + 1) (nI (u 0)))) l E) := by
    refine am_wp_ok (inl := []) 4 1 113 [] _ _ _ _ _ ?_
    exact And.intro rfl (And.intro rfl rfl)
  have hin' : vp_in (E 60 2) 900 := by rw [E2]; exact hin
  have ef' : a 61 (E 60 2).toNatClampNeg = nI (u 0) := by rw [E2]; exact ef
  unfold oq
  refine am_wp_ok (inl := []) 8 1 113 [209, 255] _ _ _ _ _ ?_
  by_cases hT : t - s = 1
  · refine am_br_f (show ¬ ¬ E 60 3 - E 60 2 = nI 1 by rw [E2, E3, ed, hT]; exact fun z => z rfl) ?_
    rw [decide_eq_true hT, Bool.true_and]
    show am_T ro 1 113 209 [.ref 60, .int v, .int (nI (30 + nb)), .int (nI (180 + 3 * nc))] [] (wd c (u2 a 66 (upd (a 66) (180 + 3 * nc + 1) (nI (u 0)))) l E) _
    refine am_wp_ok (inl := []) 7 1 113 [223, 251] _ _ _ _ _ ?_
    refine And.intro hin' ?_
    by_cases h60 : u 0 = 60
    · refine am_br_t (show a 61 (E 60 2).toNatClampNeg = nI 60 by rw [ef', h60]) ?_
      rw [show (decide (u 0 = 60) || decide (u 0 = 61) || decide (u 0 = 62)) = true by rw [h60]; rfl]
      exact ye
    refine am_br_f (show ¬ a 61 (E 60 2).toNatClampNeg = nI 60 by rw [ef', nI_eq (by omega) (by decide)]; exact h60) ?_
    show am_T ro 1 113 223 [.ref 60, .int v, .int (nI (30 + nb)), .int (nI (180 + 3 * nc))] [] (wd c (u2 a 66 (upd (a 66) (180 + 3 * nc + 1) (nI (u 0)))) l E) _
    refine am_wp_ok (inl := []) 7 1 113 [237, 251] _ _ _ _ _ ?_
    refine And.intro hin' ?_
    by_cases h61 : u 0 = 61
    · refine am_br_t (show a 61 (E 60 2).toNatClampNeg = nI 61 by rw [ef', h61]) ?_
      rw [show (decide (u 0 = 60) || decide (u 0 = 61) || decide (u 0 = 62)) = true by rw [h61]; rfl]
      exact ye
    refine am_br_f (show ¬ a 61 (E 60 2).toNatClampNeg = nI 61 by rw [ef', nI_eq (by omega) (by decide)]; exact h61) ?_
    show am_T ro 1 113 237 [.ref 60, .int v, .int (nI (30 + nb)), .int (nI (180 + 3 * nc))] [] (wd c (u2 a 66 (upd (a 66) (180 + 3 * nc + 1) (nI (u 0)))) l E) _
    refine am_wp_ok (inl := []) 7 1 113 [251, 255] _ _ _ _ _ ?_
    refine And.intro hin' ?_
    by_cases h62 : u 0 = 62
    · refine am_br_f (show ¬ ¬ a 61 (E 60 2).toNatClampNeg = nI 62 by rw [ef', h62]; exact fun z => z rfl) ?_
      rw [show (decide (u 0 = 60) || decide (u 0 = 61) || decide (u 0 = 62)) = true by rw [h62]; rfl]
      exact ye
    · refine am_br_t (show ¬ a 61 (E 60 2).toNatClampNeg = nI 62 by rw [ef', nI_eq (by omega) (by decide)]; exact h62) ?_
      rw [decide_eq_false h60, decide_eq_false h61, decide_eq_false h62]
      exact no
  · refine am_br_t (show ¬ E 60 3 - E 60 2 = nI 1 by rw [E2, E3, ed, nI_eq (by omega) (by decide)]; exact hT) ?_
    rw [decide_eq_false hT, Bool.false_and]
    exact no
set_option maxRecDepth 100000 in
set_option maxHeartbeats 4000000 in
theorem tb_6 {ro : Nat → Option am_C} {c : Bool} {a : Nat → Nat → Int32} {l : Nat → Int64} {f : Nat → Nat → Int32} {nb nc : Nat} {v : Int32} (hb : nb ≤ 30) (hc : nc < 60) (e6 : a 62 6 = nI nb) (e7 : a 62 7 = nI nc) (hw : f 60 27 = nI 6) {g : Bool} (hg : v < 0 ↔ g = false) : am_run ro 2 113 [.ref 60, .int v] (wd c a l f) (some (.int (nI g.toNat))) (wd c (u2 (u2 a 66 (upd (a 66) (180 + 3 * nc + 2) v)) 62 (upd (a 62) 7 (nI (nc + 1)))) l (u3 f 60 27 (3))) := by
  refine am_run_of rfl (tb_st (k := 6) e6 e7 hw ?_)
  rw [show am_ts 29 (nI 6) 228 1 5 #[35, 57, 228, 122, 144] = 257 from by decide +kernel]
  refine am_wp_ok (inl := []) 8 1 113 [266] _ _ _ _ _ ?_
  refine And.intro (show vp_in (nI (180 + 3 * nc) + nI 2) 360 by rw [nI_add]; exact vp_in_nI (by omega) (by decide)) ?_
  show am_T ro 1 113 266 [.ref 60, .int v, .int (nI (30 + nb)), .int (nI (180 + 3 * nc))] [] ((wd c a l f).set 66 (.inl (.int, 360, .inl (upd (a 66) (nI (180 + 3 * nc) + nI 2).toNatClampNeg (v))))) _
  rw [ws_66, nI_add, nI_clamp (show 180 + 3 * nc + 2 < 2 ^ 31 by omega)]
  refine am_wp_ok (inl := []) 9 1 113 [277] _ _ _ _ _ ?_
  refine And.intro (vp_in_nI (n := 7) (by decide) (by decide)) (And.intro (vp_in_nI (n := 7) (by decide) (by decide)) ?_)
  show am_T ro 1 113 277 [.ref 60, .int v, .int (nI (30 + nb)), .int (nI (180 + 3 * nc))] [] ((wd c (u2 a 66 (upd (a 66) (180 + 3 * nc + 2) v)) l f).set 62 (.inl (.int, 12, .inl (upd (a 62) 7 (a 62 7 + 1))))) _
  rw [ws_62, e7, nI_1]
  refine am_wp_ok (inl := []) 4 1 113 [282] _ _ _ _ _ ?_
  show am_T ro 1 113 282 [.ref 60, .int v, .int (nI (30 + nb)), .int (nI (180 + 3 * nc))] [] ((wd c (u2 (u2 a 66 (upd (a 66) (180 + 3 * nc + 2) v)) 62 (upd (a 62) 7 (nI (nc + 1)))) l f).set 60 (.inr (10, [.ref 61, .int (f 60 1), .int (f 60 2), .int (f 60 3), .ref 62, .ref 63, .ref 64, .ref 65, .ref 66, .ref 67, .ref 68, .ref 69, .ref 70, .ref 71, .ref 72, .ref 73, .ref 74, .ref 75, .int (f 60 18), .ref 76, .ref 77, .ref 78, .ref 79, .int (f 60 23), .ref 80, .ref 81, .int (f 60 26), .int (f 60 27), .int (f 60 28)].set 27 (.int (3))))) _
  rw [wf_60_27]
  refine am_wp_ok (inl := []) 6 1 113 [] _ _ _ _ _ ?_
  cases g with
  | false =>
    refine am_br_t (hg.mpr rfl) ?_
    exact And.intro rfl (And.intro rfl rfl)
  | true =>
    refine am_br_f (fun z => by have := hg.mp z; cases this) ?_
    exact And.intro rfl (And.intro rfl rfl)
