/-! THE STEP, instruction by instruction -/
set_option maxHeartbeats 4000000 in
set_option maxRecDepth 100000 in
theorem am_step {p : Program} {l : Launch} {e : Env} {R : Room} {s : State} {m : MethodId} {args : Array Value} {below : List Frame} {meth : Method} {c : Code} {Q : State → Prop} {D : va_G} {bs : Nat} {ad : Nat → Nat} {dA : FieldType → ClassId} {ro : Nat → Option am_C} {mi n0 z0 : Nat}
    (hX : am_Cx p s m args meth c R D bs ad dA ro mi) {pc nx t : Nat} {L st : List Value} {hp : am_H} {i : Instr} (hd : am_cd mi pc = some (i, nx, t)) {pc' : Nat} {L' st' : List Value} {hp' : am_H} {φ : Option Prop} (h : am_st ro mi pc nx t L st hp i = some (pc', L', st', hp', φ)) (hφ : am_ph φ)
    (hn0 : n0 ≤ hp.length ∧ z0 ≤ am_sz hp) (hR0 : hp'.length - n0 ≤ R.cells ∧ am_sz hp' - z0 ≤ R.slots)
    (k : am_W p l e R s m args below meth c Q D bs ad dA mi n0 z0 pc' L' st' hp') : am_W p l e R s m args below meth c Q D bs ad dA mi n0 z0 pc L st hp := by
  have hX0 := hX
  obtain ⟨hx, hb, hml, hown, hts, hKF, hin, hR, hbs⟩ := hX
  cases i with
  | iconst v =>
    obtain rfl := am_nx hd rfl
    have hk := am_kc_iconst hd
    cases h
    intro H locs ls hl hr hS
    exact lv_iconst hx hb (am_dc hd rfl) hk (k H locs ls hl hr hS)
  | bipush v =>
    obtain rfl := am_nx hd rfl
    have hk := am_kc_bipush hd
    cases h
    intro H locs ls hl hr hS
    exact lv_bipush hx hb (am_dc hd rfl) hk (k H locs ls hl hr hS)
  | sipush v =>
    obtain rfl := am_nx hd rfl
    have hk := am_kc_sipush hd
    cases h
    intro H locs ls hl hr hS
    exact lv_sipush hx hb (am_dc hd rfl) hk (k H locs ls hl hr hS)
  | lconst v =>
    obtain rfl := am_nx hd rfl
    cases h
    intro H locs ls hl hr hS
    exact lv_lconst hx hb (am_dc hd rfl) rfl (k H locs ls hl hr hS)
  | ldc j =>
    obtain rfl := am_nx hd rfl
    obtain ⟨v, hv, h⟩ := am_ov_inv h
    cases h
    intro H locs ls hl hr hS
    rcases am_kI_ok hv with ⟨x, rfl, hc⟩ | ⟨q, hq, e1, e2, rfl⟩
    · exact lv_ldc hx hb hown (hts _ hc) (am_dc hd rfl) (k H locs ls hl hr hS)
    · have k1 := k H locs ls hl hr hS
      rw [List.map_cons, am_cv_ra (am_sk_99 q hq)] at k1
      exact va_ldcS (own := am_mO mi) (tx := q.2.2.1) hx hb hown (by have := hKF.2.2.2.1 q hq; rw [e1, e2] at this; exact this) (am_dc hd rfl) k1
  | ldc2_w j =>
    obtain rfl := am_nx hd rfl
    obtain ⟨v, hv, h⟩ := am_ov_inv h
    cases h
    intro H locs ls hl hr hS
    exact lv_ldc2 hx hb hown (hts _ (am_kL_ok hv)) (am_dc hd rfl) (k H locs ls hl hr hS)
  | aload j =>
    obtain rfl := am_nx hd rfl
    obtain ⟨x, hL, ho, h⟩ := am_la_inv h
    cases h
    intro H locs ls hl hr hS
    obtain ⟨a, ha⟩ := am_ok1_cv (bs := bs) (ad := ad) ho
    have k1 := k H locs ls hl hr hS
    have hq := am_load hl hL (am_ok1_okv ho)
    rw [List.map_cons] at k1
    rw [ha] at k1 hq
    exact lv_aload hx hb (am_dc hd rfl) hq k1
  | aload_n j =>
    obtain rfl := am_nx hd rfl
    obtain ⟨x, hL, ho, h⟩ := am_la_inv h
    cases h
    intro H locs ls hl hr hS
    obtain ⟨a, ha⟩ := am_ok1_cv (bs := bs) (ad := ad) ho
    have k1 := k H locs ls hl hr hS
    have hq := am_load hl hL (am_ok1_okv ho)
    rw [List.map_cons] at k1
    rw [ha] at k1 hq
    exact lv_aload_n hx hb (am_dc hd rfl) rfl hq k1
  | iload j =>
    obtain rfl := am_nx hd rfl
    obtain ⟨x, hL, h⟩ := am_li_inv h
    cases h
    intro H locs ls hl hr hS
    exact lv_iload hx hb (am_dc hd rfl) (am_load hl hL rfl) (k H locs ls hl hr hS)
  | iload_n j =>
    obtain rfl := am_nx hd rfl
    obtain ⟨x, hL, h⟩ := am_li_inv h
    cases h
    intro H locs ls hl hr hS
    exact lv_iload_n hx hb (am_dc hd rfl) rfl (am_load hl hL rfl) (k H locs ls hl hr hS)
  | lload j =>
    obtain rfl := am_nx hd rfl
    obtain ⟨x, hL, h⟩ := am_ll_inv h
    cases h
    intro H locs ls hl hr hS
    exact lv_lload hx hb (am_dc hd rfl) (am_load hl hL rfl) (k H locs ls hl hr hS)
  | lload_n j =>
    obtain rfl := am_nx hd rfl
    obtain ⟨x, hL, h⟩ := am_ll_inv h
    cases h
    intro H locs ls hl hr hS
    exact lv_lload_n hx hb (am_dc hd rfl) rfl (am_load hl hL rfl) (k H locs ls hl hr hS)
  | astore j =>
    obtain rfl := am_nx hd rfl
    obtain ⟨x, r, rfl, ho, h⟩ := am_a1_inv h
    obtain ⟨hp1, h⟩ := am_s1_inv h
    have hlt := am_kc_astore hd
    cases h
    intro H locs ls hl hr hS
    obtain ⟨a, ha⟩ := am_ok1_cv (bs := bs) (ad := ad) ho
    rw [List.map_cons, ha]
    exact lv_astore hx hb (am_dc hd rfl) hl hlt rfl (fun ls1 hl1 => k H locs ls1 (am_store1 (v := x) hp1 (by rw [ha]; exact hl1)) hr hS)
  | astore_n j =>
    obtain rfl := am_nx hd rfl
    obtain ⟨x, r, rfl, ho, h⟩ := am_a1_inv h
    obtain ⟨hp1, h⟩ := am_s1_inv h
    have hlt := am_kc_astore_n hd
    cases h
    intro H locs ls hl hr hS
    obtain ⟨a, ha⟩ := am_ok1_cv (bs := bs) (ad := ad) ho
    rw [List.map_cons, ha]
    exact lv_astore_n hx hb (am_dc hd rfl) rfl hl hlt rfl (fun ls1 hl1 => k H locs ls1 (am_store1 (v := x) hp1 (by rw [ha]; exact hl1)) hr hS)
  | istore j =>
    obtain rfl := am_nx hd rfl
    obtain ⟨x, r, e0, g0⟩ := am_i1_inv h
    subst e0
    replace h := g0
    obtain ⟨hp1, h⟩ := am_s1_inv h
    have hlt := am_kc_istore hd
    cases h
    intro H locs ls hl hr hS
    exact lv_istore hx hb (am_dc hd rfl) hl hlt rfl (fun ls1 hl1 => k H locs ls1 (am_store1 (v := .int x) hp1 hl1) hr hS)
  | istore_n j =>
    obtain rfl := am_nx hd rfl
    obtain ⟨x, r, e0, g0⟩ := am_i1_inv h
    subst e0
    replace h := g0
    obtain ⟨hp1, h⟩ := am_s1_inv h
    have hlt := am_kc_istore_n hd
    cases h
    intro H locs ls hl hr hS
    exact lv_istore_n hx hb (am_dc hd rfl) rfl hl hlt rfl (fun ls1 hl1 => k H locs ls1 (am_store1 (v := .int x) hp1 hl1) hr hS)
  | lstore j =>
    obtain rfl := am_nx hd rfl
    obtain ⟨x, r, e0, g0⟩ := am_l1_inv h
    subst e0
    replace h := g0
    obtain ⟨hp1, h⟩ := am_s2_inv h
    have hlt := am_kc_lstore hd
    cases h
    intro H locs ls hl hr hS
    exact lv_lstore hx hb (am_dc hd rfl) hl hlt rfl (fun ls1 hl1 => k H locs ls1 (am_store2 (v := .long x) hp1 hl1) hr hS)
  | lstore_n j =>
    obtain rfl := am_nx hd rfl
    obtain ⟨x, r, e0, g0⟩ := am_l1_inv h
    subst e0
    replace h := g0
    obtain ⟨hp1, h⟩ := am_s2_inv h
    have hlt := am_kc_lstore_n hd
    cases h
    intro H locs ls hl hr hS
    exact lv_lstore_n hx hb (am_dc hd rfl) rfl hl hlt rfl (fun ls1 hl1 => k H locs ls1 (am_store2 (v := .long x) hp1 hl1) hr hS)
  | iinc j v =>
    obtain rfl := am_nx hd rfl
    obtain ⟨x, hL, h⟩ := am_li_inv h
    obtain ⟨hp1, h⟩ := am_s1_inv h
    have hk := am_kc_iinc hd
    have hlt := hk.2
    cases h
    intro H locs ls hl hr hS
    obtain ⟨q, hq⟩ := List.getElem?_of_mem (am_en_mem (bs := bs) (ad := ad) hL rfl)
    exact lv_iinc hx hb (am_dc hd rfl) hl (k := q) hq (congrArg (x + ·) hk.1) hlt rfl (fun ls1 hl1 => k H locs ls1 (am_store1 (v := .int (x + am_ki v)) hp1 hl1) hr hS)
  | iadd =>
    obtain rfl := am_nx hd rfl
    obtain ⟨x, y, r, e0, g0⟩ := am_i2_inv h
    subst e0
    replace h := g0
    cases h
    intro H locs ls hl hr hS
    exact lv_iadd hx hb (am_dc hd rfl) (k H locs ls hl hr hS)
  | isub =>
    obtain rfl := am_nx hd rfl
    obtain ⟨x, y, r, e0, g0⟩ := am_i2_inv h
    subst e0
    replace h := g0
    cases h
    intro H locs ls hl hr hS
    exact lv_isub hx hb (am_dc hd rfl) (k H locs ls hl hr hS)
  | imul =>
    obtain rfl := am_nx hd rfl
    obtain ⟨x, y, r, e0, g0⟩ := am_i2_inv h
    subst e0
    replace h := g0
    cases h
    intro H locs ls hl hr hS
    exact lv_imul hx hb (am_dc hd rfl) (k H locs ls hl hr hS)
  | iand =>
    obtain rfl := am_nx hd rfl
    obtain ⟨x, y, r, e0, g0⟩ := am_i2_inv h
    subst e0
    replace h := g0
    cases h
    intro H locs ls hl hr hS
    exact lv_iand hx hb (am_dc hd rfl) (k H locs ls hl hr hS)
  | ior =>
    obtain rfl := am_nx hd rfl
    obtain ⟨x, y, r, e0, g0⟩ := am_i2_inv h
    subst e0
    replace h := g0
    cases h
    intro H locs ls hl hr hS
    exact lv_ior hx hb (am_dc hd rfl) (k H locs ls hl hr hS)
  | ixor =>
    obtain rfl := am_nx hd rfl
    obtain ⟨x, y, r, e0, g0⟩ := am_i2_inv h
    subst e0
    replace h := g0
    cases h
    intro H locs ls hl hr hS
    exact lv_ixor hx hb (am_dc hd rfl) (k H locs ls hl hr hS)
  | ishl =>
    obtain rfl := am_nx hd rfl
    obtain ⟨x, y, r, e0, g0⟩ := am_i2_inv h
    subst e0
    replace h := g0
    cases h
    intro H locs ls hl hr hS
    exact lv_ishl hx hb (am_dc hd rfl) (k H locs ls hl hr hS)
  | ishr =>
    obtain rfl := am_nx hd rfl
    obtain ⟨x, y, r, e0, g0⟩ := am_i2_inv h
    subst e0
    replace h := g0
    cases h
    intro H locs ls hl hr hS
    exact lv_ishr hx hb (am_dc hd rfl) (k H locs ls hl hr hS)
  | idiv =>
    obtain rfl := am_nx hd rfl
    obtain ⟨x, y, r, e0, g0⟩ := am_i2_inv h
    subst e0
    replace h := g0
    cases h
    intro H locs ls hl hr hS
    exact lv_idiv hx hb (am_dc hd rfl) hφ (k H locs ls hl hr hS)
  | irem =>
    obtain rfl := am_nx hd rfl
    obtain ⟨x, y, r, e0, g0⟩ := am_i2_inv h
    subst e0
    replace h := g0
    cases h
    intro H locs ls hl hr hS
    exact lv_irem hx hb (am_dc hd rfl) hφ (k H locs ls hl hr hS)
  | ladd =>
    obtain rfl := am_nx hd rfl
    obtain ⟨x, y, r, e0, g0⟩ := am_l2_inv h
    subst e0
    replace h := g0
    cases h
    intro H locs ls hl hr hS
    exact lv_ladd hx hb (am_dc hd rfl) (k H locs ls hl hr hS)
  | lsub =>
    obtain rfl := am_nx hd rfl
    obtain ⟨x, y, r, e0, g0⟩ := am_l2_inv h
    subst e0
    replace h := g0
    cases h
    intro H locs ls hl hr hS
    exact lv_lsub hx hb (am_dc hd rfl) (k H locs ls hl hr hS)
  | lmul =>
    obtain rfl := am_nx hd rfl
    obtain ⟨x, y, r, e0, g0⟩ := am_l2_inv h
    subst e0
    replace h := g0
    cases h
    intro H locs ls hl hr hS
    exact lv_lmul hx hb (am_dc hd rfl) (k H locs ls hl hr hS)
  | ldiv =>
    obtain rfl := am_nx hd rfl
    obtain ⟨x, y, r, e0, g0⟩ := am_l2_inv h
    subst e0
    replace h := g0
    cases h
    intro H locs ls hl hr hS
    exact lv_ldiv hx hb (am_dc hd rfl) hφ (k H locs ls hl hr hS)
  | lrem =>
    obtain rfl := am_nx hd rfl
    obtain ⟨x, y, r, e0, g0⟩ := am_l2_inv h
    subst e0
    replace h := g0
    cases h
    intro H locs ls hl hr hS
    exact lv_lrem hx hb (am_dc hd rfl) hφ (k H locs ls hl hr hS)
  | lcmp =>
    obtain rfl := am_nx hd rfl
    obtain ⟨x, y, r, e0, g0⟩ := am_l2_inv h
    subst e0
    replace h := g0
    cases h
    intro H locs ls hl hr hS
    exact W.lcmp hx hb (am_dc hd rfl) (k H locs ls hl hr hS)
  | i2l =>
    obtain rfl := am_nx hd rfl
    obtain ⟨x, r, e0, g0⟩ := am_i1_inv h
    subst e0
    replace h := g0
    cases h
    intro H locs ls hl hr hS
    exact lv_i2l hx hb (am_dc hd rfl) rfl (k H locs ls hl hr hS)
  | l2i =>
    obtain rfl := am_nx hd rfl
    obtain ⟨x, r, e0, g0⟩ := am_l1_inv h
    subst e0
    replace h := g0
    cases h
    intro H locs ls hl hr hS
    exact lv_l2i hx hb (am_dc hd rfl) rfl (k H locs ls hl hr hS)
  | i2c =>
    obtain rfl := am_nx hd rfl
    obtain ⟨x, r, e0, g0⟩ := am_i1_inv h
    subst e0
    replace h := g0
    cases h
    intro H locs ls hl hr hS
    exact lv_i2c hx hb (am_dc hd rfl) rfl (k H locs ls hl hr hS)
  | dup =>
    obtain rfl := am_nx hd rfl
    obtain ⟨v, r, e0, g0⟩ := am_v1_inv h
    subst e0
    replace h := g0
    obtain ⟨hc, h⟩ := am_bt_inv h
    cases h
    intro H locs ls hl hr hS
    exact lv_dup hx hb (am_dc hd rfl) (by rw [am_cv_cat]; exact Nat.eq_of_beq_eq_true hc) (k H locs ls hl hr hS)
  | pop =>
    obtain rfl := am_nx hd rfl
    obtain ⟨v, r, e0, g0⟩ := am_v1_inv h
    subst e0
    replace h := g0
    obtain ⟨hc, h⟩ := am_bt_inv h
    cases h
    intro H locs ls hl hr hS
    exact lv_pop hx hb (am_dc hd rfl) (by rw [am_cv_cat]; exact Nat.eq_of_beq_eq_true hc) (k H locs ls hl hr hS)
  | dup_x1 =>
    obtain rfl := am_nx hd rfl
    obtain ⟨v, w, r, e0, g0⟩ := am_v2_inv h
    subst e0
    replace h := g0
    obtain ⟨hc, h⟩ := am_bt_inv h
    rw [Bool.and_eq_true] at hc
    cases h
    intro H locs ls hl hr hS
    exact lv_dup_x1 hx hb (am_dc hd rfl) (by rw [am_cv_cat]; exact Nat.eq_of_beq_eq_true hc.1) (by rw [am_cv_cat]; exact Nat.eq_of_beq_eq_true hc.2) (k H locs ls hl hr hS)
  | dup2 =>
    obtain rfl := am_nx hd rfl
    obtain ⟨v, w, r, e0, g0⟩ := am_v2_inv h
    subst e0
    replace h := g0
    obtain ⟨hc, h⟩ := am_bt_inv h
    rw [Bool.and_eq_true] at hc
    cases h
    intro H locs ls hl hr hS
    exact lv_dup2_11 hx hb (am_dc hd rfl) (by rw [am_cv_cat]; exact Nat.eq_of_beq_eq_true hc.1) (by rw [am_cv_cat]; exact Nat.eq_of_beq_eq_true hc.2) (k H locs ls hl hr hS)
  | goto off =>
    have ht := am_kc_goto hd
    cases h
    intro H locs ls hl hr hS
    exact lv_goto hx hb (am_dc hd rfl) ht (k H locs ls hl hr hS)
  | tableswitch dflt lo hi offs =>
    obtain ⟨x, r, e0, g0⟩ := am_i1_inv h
    subst e0
    replace h := g0
    cases h
    intro H locs ls hl hr hS
    obtain ⟨f1, f2, f3⟩ := hφ
    have k1 := k H locs ls hl hr hS
    unfold am_ts at k1
    obtain ⟨ln, hdd, -, -⟩ := am_cd_ok hd
    by_cases q : x.toInt < lo ∨ hi < x.toInt
    · rw [if_pos q] at k1
      exact lv_tableOut hx hb hdd q (Int.toNat_of_nonneg f1).symm k1
    · rw [if_neg q] at k1
      have hlt : (x.toInt - lo).toNat < offs.size := by omega
      have hg : offs[(x.toInt - lo).toNat]? = some (offs.getD (x.toInt - lo).toNat dflt) := by simp [Array.getD, hlt]
      exact lv_tableIn hx hb hdd (fun z => q (Or.inl z)) (fun z => q (Or.inr z)) hg (Int.toNat_of_nonneg (f2 _ (Array.mem_toList_iff.mpr (Array.mem_of_getElem? hg)))).symm k1
  | getstatic j =>
    obtain rfl := am_nx hd rfl
    obtain ⟨v, hv, h⟩ := am_ov_inv h
    cases h
    intro H locs ls hl hr hS
    obtain ⟨q, hq, hlk, rfl⟩ := am_kG_ok hv
    have k1 := k H locs ls hl hr hS
    exact va_gets (C := q.1) (n := q.2.1) (d := q.2.2.1) (ref := q.1) hx hb (hKF.2.2.2.2 q hq) hS hown (hts _ hlk) (fun _ z => z) (am_dc hd rfl) k1
  | getfield j =>
    obtain rfl := am_nx hd rfl
    obtain ⟨v0, r, rfl, ho, h⟩ := am_a1_inv h
    obtain ⟨v, hg, h⟩ := am_ov_inv h
    obtain ⟨ci, kx, fs, hc, hv⟩ := am_gf_inv hg
    cases h
    intro H locs ls hl hr hS
    have k1 := k H locs ls hl hr hS
    rcases hc with ⟨a, rfl, hkf, hc⟩ | ⟨a, rfl, hkq, hc⟩
    · obtain ⟨C, T, N, hcl, hkN, hlk⟩ := am_kF_ok hkf
      have hP := am_P1 (hr.2 a _ hc)
      have hv2 : (fs.map (am_cv bs ad))[kx]? = some (am_cv bs ad v) := by simp [hv]
      rcases hlk with hlk | ⟨host, hlk⟩
      · exact va_get (C := C) (T := T) (N := N) (ci := ci) hx hb hts (am_cl_ok hcl).1 hown hKF.1 hP 0 rfl hcl kx hkN (hts _ hlk) (fun _ z => z) hv2 (am_dc hd rfl) k1
      · exact va_getN (C := C) (T := T) (N := N) (ci := ci) (host := host) hx hb hts (am_cl_ok hcl).1 hown hKF.1 hP 0 rfl hcl kx hkN (va_Nw.use rfl (hKF.2.1 _ hlk)) (fun _ z => z) hv2 (am_dc hd rfl) k1
    · have hro := (hKF.2.2.1 _ _ hc).2.2 kx v hv
      rw [List.map_cons, am_cv_ra (hKF.2.2.1 _ _ hc).1]
      exact va_getX (N := 1) (i := 0) (v := fun _ => am_cv bs ad v) (ad := fun _ => ad a) (ref := (am_rT ci kx).1) hx hb (fun _ _ => hro) (Nat.lt_succ_self 0) hS hown (hts _ (am_kQ_ok hkq)) (fun _ z => z) (am_dc hd rfl) k1
  | putfield j =>
    obtain rfl := am_nx hd rfl
    obtain ⟨v, a, r, e0, g0⟩ := am_va_inv h
    subst e0
    replace h := g0
    obtain ⟨ci, kx, ty, hkp, h⟩ := am_kf_inv h
    obtain ⟨fs, hob, h⟩ := am_ov_inv h
    have hc := am_ob_inv hob
    obtain ⟨hlt, h⟩ := am_bt_inv h
    cases h
    intro H locs ls hl hr hS
    obtain ⟨C, T, N, hcl, hkN, hlk, hfin, hpd⟩ := am_kP_ok hd hkp
    refine am_put hX0 hcl hkN hlk hfin hpd (am_nf_ok hφ) (am_blt_t hlt) hr hS hc (am_dc hd rfl) (fun H1 locs1 hr1 hS1 => ?_)
    have k1 := k H1 locs1 ls hl hr1 hS1
    rw [List.length_set, am_sz_set (c := .inr (ci, fs)) (by simp [am_cs]) hc] at k1
    exact k1
  | iaload =>
    obtain rfl := am_nx hd rfl
    obtain ⟨x, v0, r, e0, g0⟩ := am_ia_inv h
    subst e0
    replace h := g0
    obtain ⟨N, g, hc, h⟩ := am_ai_inv h
    cases h
    intro H locs ls hl hr hS
    have k1 := k H locs ls hl hr hS
    rcases am_gi_any hc with ⟨a, rfl, hc⟩ | ⟨a, rfl, hc⟩
    · exact va_iald hx hb hKF.1 (am_P1 (hr.2 a _ hc)) 0 0 rfl rfl hφ (am_dc hd rfl) k1
    · rw [List.map_cons, List.map_cons, am_cv_ra (hKF.2.2.1 _ _ hc).1]
      exact va_ti hx hb (hKF.2.2.1 _ _ hc).2 hS hφ rfl (am_dc hd rfl) k1
  | baload =>
    obtain rfl := am_nx hd rfl
    obtain ⟨x, v0, r, e0, g0⟩ := am_ia_inv h
    subst e0
    replace h := g0
    obtain ⟨N, g, hc, h⟩ := am_ab_inv h
    cases h
    intro H locs ls hl hr hS
    have k1 := k H locs ls hl hr hS
    rcases hc with ⟨a, rfl, hc⟩ | ⟨a, rfl, hc⟩
    · exact va_zald hx hb hKF.1 (am_P1 (hr.2 a _ hc)) 0 1 rfl rfl hφ (am_dc hd rfl) k1
    · rw [List.map_cons, List.map_cons, am_cv_ra (hKF.2.2.1 _ _ hc).1]
      exact va_tb hx hb (hKF.2.2.1 _ _ hc).2 hS hφ rfl (am_dc hd rfl) k1
  | laload =>
    obtain rfl := am_nx hd rfl
    obtain ⟨x, v0, r, e0, g0⟩ := am_ia_inv h
    subst e0
    replace h := g0
    obtain ⟨N, g, hc, h⟩ := am_al_inv h
    cases h
    intro H locs ls hl hr hS
    have k1 := k H locs ls hl hr hS
    rcases am_gi_any hc with ⟨a, rfl, hc⟩ | ⟨a, rfl, hc⟩
    · exact va_lald hx hb hKF.1 (am_P1 (hr.2 a _ hc)) 0 2 rfl rfl hφ (am_dc hd rfl) k1
    · cases hc
  | iastore =>
    obtain rfl := am_nx hd rfl
    obtain ⟨x, j, a, r, e0, g0⟩ := am_iia_inv h
    subst e0
    replace h := g0
    obtain ⟨N, g, hc, h⟩ := am_ai_inv h
    cases h
    intro H locs ls hl hr hS
    refine am_iast hX0 hr hS hc hφ (am_dc hd rfl) (fun H1 locs1 hr1 hS1 => ?_)
    have k1 := k H1 locs1 ls hl hr1 hS1
    rw [List.length_set, am_sz_set (c := .inl (.int, N, .inl g)) (d := .inl (.int, N, .inl (upd g j.toNatClampNeg x))) rfl hc] at k1
    exact k1
  | bastore =>
    obtain rfl := am_nx hd rfl
    obtain ⟨x, j, a, r, e0, g0⟩ := am_iia_inv h
    subst e0
    replace h := g0
    obtain ⟨N, g, hc, h⟩ := am_az_inv h
    cases h
    intro H locs ls hl hr hS
    refine am_zast hX0 hr hS hc hφ (am_dc hd rfl) (fun H1 locs1 hr1 hS1 => ?_)
    have k1 := k H1 locs1 ls hl hr1 hS1
    rw [List.length_set, am_sz_set (c := .inl (.boolean, N, .inl g)) (d := .inl (.boolean, N, .inl (upd g j.toNatClampNeg (vp_nar .boolean x)))) rfl hc] at k1
    exact k1
  | lastore =>
    obtain rfl := am_nx hd rfl
    obtain ⟨x, j, a, r, e0, g0⟩ := am_lia_inv h
    subst e0
    replace h := g0
    obtain ⟨N, g, hc, h⟩ := am_al_inv h
    cases h
    intro H locs ls hl hr hS
    refine am_last hX0 hr hS hc hφ (am_dc hd rfl) (fun H1 locs1 hr1 hS1 => ?_)
    have k1 := k H1 locs1 ls hl hr1 hS1
    rw [List.length_set, am_sz_set (c := .inl (.long, N, .inr (.inl g))) (d := .inl (.long, N, .inr (.inl (vp_updL g j.toNatClampNeg x)))) rfl hc] at k1
    exact k1
  | arraylength =>
    obtain rfl := am_nx hd rfl
    obtain ⟨v0, r, rfl, ho, h⟩ := am_a1_inv h
    obtain ⟨N, hc, h⟩ := am_an_inv h
    cases h
    intro H locs ls hl hr hS
    have k1 := k H locs ls hl hr hS
    rcases hc with ⟨a, g, rfl, hc⟩ | ⟨a, ty, g, rfl, hc⟩
    · exact va_alen hx hb hKF.1 (am_P1 (hr.2 a _ hc)) 0 0 rfl rfl rfl (am_dc hd rfl) k1
    · rw [List.map_cons, am_cv_ra (hKF.2.2.1 _ _ hc).1]
      exact va_tlen hx hb (hKF.2.2.1 _ _ hc).2 hS rfl (am_dc hd rfl) k1
  | newarray t =>
    obtain rfl := am_nx hd rfl
    obtain ⟨x, r, e0, g0⟩ := am_i1_inv h
    subst e0
    replace h := g0
    obtain ⟨ca, hca, h⟩ := am_ov_inv h
    cases h
    intro H locs ls hl hr hS
    obtain ⟨f1, f2⟩ := hφ
    rw [List.length_append, am_sz_app] at hR0
    have hk : ∀ H1 : Heap, am_rp D bs ad dA (hp ++ [ca]) H1 → va_S (fun q => bs ≤ q) s.heap H1 locs → W p l e R s m args below meth c H1 locs (hp.length - n0 + 1) (am_sz hp - z0 + am_cs ca) Q (F0 m (pc + 2) ls (.ref (bs + hp.length) :: r.map (am_cv bs ad))) := by
      intro H1 hr1 hS1
      have k1 := k H1 locs ls hl hr1 hS1
      rw [List.length_append, am_sz_app, show hp.length + [ca].length - n0 = hp.length - n0 + 1 from by simp; omega, show am_sz hp + am_cs ca - z0 = am_sz hp - z0 + am_cs ca from by omega] at k1
      exact k1
    have hc1 : hp.length - n0 + 1 ≤ R.cells := by have := hR0.1; simp at this; omega
    have hc2 : am_sz hp - z0 + am_cs ca ≤ R.slots := by have := hR0.2; omega
    cases t with
    | int =>
      cases hca
      exact am_newa (ty := .int) (t0 := 0) (N := x.toNatClampNeg) hX0 hr hS rfl am_ac_int rfl (fun z => z) rfl (fun _ => rfl) f1 rfl (by show _ * _ ≤ _; simp [componentBytes]; omega) hc1 hc2 (am_dc hd rfl) hk
    | boolean =>
      cases hca
      exact am_newa (ty := .boolean) (t0 := 1) (N := x.toNatClampNeg) hX0 hr hS rfl am_ac_boolean rfl (fun z => z) rfl (fun _ => rfl) f1 rfl (by show _ * _ ≤ _; simp [componentBytes]; omega) hc1 hc2 (am_dc hd rfl) hk
    | long =>
      cases hca
      exact am_newa (ty := .long) (t0 := 2) (N := x.toNatClampNeg) hX0 hr hS rfl am_ac_long rfl (fun z => z) rfl (fun _ => rfl) f1 rfl (by show _ * _ ≤ _; simp [componentBytes]; omega) hc1 hc2 (am_dc hd rfl) hk
    | _ => cases hca
  | new j =>
    obtain rfl := am_nx hd rfl
    obtain ⟨ci, hkc, h⟩ := am_ov_inv h
    cases h
    intro H locs ls hl hr hS
    obtain ⟨C, T, N, hcl, h1, h2, h3, hdl, hdf⟩ := am_kC_ok hkc
    rw [List.length_append, am_sz_app] at hR0
    have hcs : am_cs (.inr (ci, am_df ci)) = N := hdl
    refine am_newo (N := N) hX0 hr hS hcl h1 h2 h3 (hdf bs ad) (by have := hR0.1; simp at this; omega) (by have := hR0.2; rw [hcs] at this; omega) (am_dc hd rfl) (fun H1 hr1 hS1 => ?_)
    have k1 := k H1 locs ls hl hr1 hS1
    rw [List.length_append, am_sz_app, hcs, show hp.length + [(Sum.inr (ci, am_df ci) : am_C)].length - n0 = hp.length - n0 + 1 from by simp; omega, show am_sz hp + N - z0 = am_sz hp - z0 + N from by omega] at k1
    exact k1
  | invokespecial j =>
    obtain rfl := am_nx hd rfl
    obtain ⟨hko, h⟩ := am_bt_inv h
    obtain ⟨v0, r, rfl, ho, h⟩ := am_a1_inv h
    obtain ⟨hrm, h⟩ := am_bt_inv h
    cases h
    intro H locs ls hl hr hS
    obtain ⟨a, ha⟩ := am_ok1_cv (bs := bs) (ad := ad) ho
    rw [List.map_cons, ha]
    have hsum : ((st'.map (am_cv bs ad)).map fun v => v.category).sum ≤ 8 := by rw [List.map_map, show ((fun v : Value => v.category) ∘ am_cv bs ad) = Value.category from funext am_cv_cat]; exact Nat.le_of_ble_eq_true hrm
    exact W.objInit (a := a) (rest := st'.map (am_cv bs ad)) hx hb hown (hts _ (am_kO_ok hko)) (hts _ am_ob_i) (hts _ am_ob_c) rfl (by rw [hml]; exact hl.1) rfl (am_dc hd rfl) hR.1 (by have := lv_room (m := m) (pc := pc) (ls := ls) (rest := []) hsum; have := hR.2; show 2 * 0 + _ + 12 ≤ _; omega) (k H locs ls hl hr hS)
  | invokestatic j =>
    obtain rfl := am_nx hd rfl
    obtain ⟨hko, h⟩ := am_bt_inv h
    obtain ⟨x, y, r, e0, g0⟩ := am_i2_inv h
    subst e0
    replace h := g0
    obtain ⟨hrm, h⟩ := am_bt_inv h
    cases h
    intro H locs ls hl hr hS
    have hsum : ((r.map (am_cv bs ad)).map fun v => v.category).sum ≤ 8 := by rw [List.map_map, show ((fun v : Value => v.category) ∘ am_cv bs ad) = Value.category from funext am_cv_cat]; exact Nat.le_of_ble_eq_true hrm
    obtain ⟨w1, w2, w3, w4⟩ := am_kN_ok hko
    exact va_mmin hx hb (by rw [hml]; exact hl.1.symm) hown (hts _ w1) (hts _ w2) (hts _ w3) (hts _ w4) hR.1 (by have := hR.2; omega) hR0.1 hR0.2 (am_dc hd rfl) (k H locs ls hl hr hS)
  | _ => cases h
set_option maxHeartbeats 4000000 in
/-- a branch -/
theorem am_brs {p : Program} {l : Launch} {e : Env} {R : Room} {s : State} {m : MethodId} {args : Array Value} {below : List Frame} {meth : Method} {c : Code} {Q : State → Prop} {D : va_G} {bs : Nat} {ad : Nat → Nat} {dA : FieldType → ClassId} {ro : Nat → Option am_C} {mi n0 z0 : Nat}
    (hX : am_Cx p s m args meth c R D bs ad dA ro mi) {pc nx t : Nat} {L st : List Value} {hp : am_H} {i : Instr} (hd : am_cd mi pc = some (i, nx, t)) {q : Prop} {st' : List Value} (h : am_bc st i = some (q, st'))
    (k : (q ∧ am_W p l e R s m args below meth c Q D bs ad dA mi n0 z0 t L st' hp) ∨ (¬ q ∧ am_W p l e R s m args below meth c Q D bs ad dA mi n0 z0 nx L st' hp)) : am_W p l e R s m args below meth c Q D bs ad dA mi n0 z0 pc L st hp := by
  obtain ⟨hx, hb, -⟩ := hX
  cases i with
  | ifCond cnd off =>
    obtain rfl := am_nx hd rfl
    have ht := am_kc_ifCond hd
    cases cnd with
    | eq =>
      obtain ⟨x, r, e0, g0⟩ := am_i1_inv h
      subst e0
      replace h := g0
      cases h
      intro H locs ls hl hr hS
      rcases k with ⟨hq, k⟩ | ⟨hq, k⟩
      · exact lv_if_eq hx hb (am_dc hd rfl) ht (fun _ => k H locs ls hl hr hS) (fun z => absurd hq z)
      · exact lv_if_eq hx hb (am_dc hd rfl) ht (fun z => absurd z hq) (fun _ => k H locs ls hl hr hS)
    | ne =>
      obtain ⟨x, r, e0, g0⟩ := am_i1_inv h
      subst e0
      replace h := g0
      cases h
      intro H locs ls hl hr hS
      rcases k with ⟨hq, k⟩ | ⟨hq, k⟩
      · exact lv_if_ne hx hb (am_dc hd rfl) ht (fun _ => k H locs ls hl hr hS) (fun z => absurd z hq)
      · exact lv_if_ne hx hb (am_dc hd rfl) ht (fun z => absurd z hq) (fun _ => k H locs ls hl hr hS)
    | lt =>
      obtain ⟨x, r, e0, g0⟩ := am_i1_inv h
      subst e0
      replace h := g0
      cases h
      intro H locs ls hl hr hS
      rcases k with ⟨hq, k⟩ | ⟨hq, k⟩
      · exact lv_if_lt hx hb (am_dc hd rfl) ht (fun _ => k H locs ls hl hr hS) (fun z => absurd hq z)
      · exact lv_if_lt hx hb (am_dc hd rfl) ht (fun z => absurd z hq) (fun _ => k H locs ls hl hr hS)
    | ge =>
      obtain ⟨x, r, e0, g0⟩ := am_i1_inv h
      subst e0
      replace h := g0
      cases h
      intro H locs ls hl hr hS
      rcases k with ⟨hq, k⟩ | ⟨hq, k⟩
      · exact lv_if_ge hx hb (am_dc hd rfl) ht (fun _ => k H locs ls hl hr hS) (fun z => absurd hq z)
      · exact lv_if_ge hx hb (am_dc hd rfl) ht (fun z => absurd z hq) (fun _ => k H locs ls hl hr hS)
    | gt =>
      obtain ⟨x, r, e0, g0⟩ := am_i1_inv h
      subst e0
      replace h := g0
      cases h
      intro H locs ls hl hr hS
      rcases k with ⟨hq, k⟩ | ⟨hq, k⟩
      · exact lv_if_gt hx hb (am_dc hd rfl) ht (fun _ => k H locs ls hl hr hS) (fun z => absurd hq z)
      · exact lv_if_gt hx hb (am_dc hd rfl) ht (fun z => absurd z hq) (fun _ => k H locs ls hl hr hS)
    | le =>
      obtain ⟨x, r, e0, g0⟩ := am_i1_inv h
      subst e0
      replace h := g0
      cases h
      intro H locs ls hl hr hS
      rcases k with ⟨hq, k⟩ | ⟨hq, k⟩
      · exact lv_if_le hx hb (am_dc hd rfl) ht (fun _ => k H locs ls hl hr hS) (fun z => absurd hq z)
      · exact lv_if_le hx hb (am_dc hd rfl) ht (fun z => absurd z hq) (fun _ => k H locs ls hl hr hS)
  | if_icmp cnd off =>
    obtain rfl := am_nx hd rfl
    have ht := am_kc_if_icmp hd
    cases cnd with
    | eq =>
      obtain ⟨x, y, r, e0, g0⟩ := am_i2_inv h
      subst e0
      replace h := g0
      cases h
      intro H locs ls hl hr hS
      rcases k with ⟨hq, k⟩ | ⟨hq, k⟩
      · exact lv_icmp_eq hx hb (am_dc hd rfl) ht (fun _ => k H locs ls hl hr hS) (fun z => absurd hq z)
      · exact lv_icmp_eq hx hb (am_dc hd rfl) ht (fun z => absurd z hq) (fun _ => k H locs ls hl hr hS)
    | ne =>
      obtain ⟨x, y, r, e0, g0⟩ := am_i2_inv h
      subst e0
      replace h := g0
      cases h
      intro H locs ls hl hr hS
      rcases k with ⟨hq, k⟩ | ⟨hq, k⟩
      · exact lv_icmp_ne hx hb (am_dc hd rfl) ht (fun _ => k H locs ls hl hr hS) (fun z => absurd z hq)
      · exact lv_icmp_ne hx hb (am_dc hd rfl) ht (fun z => absurd z hq) (fun _ => k H locs ls hl hr hS)
    | lt =>
      obtain ⟨x, y, r, e0, g0⟩ := am_i2_inv h
      subst e0
      replace h := g0
      cases h
      intro H locs ls hl hr hS
      rcases k with ⟨hq, k⟩ | ⟨hq, k⟩
      · exact lv_icmp_lt hx hb (am_dc hd rfl) ht (fun _ => k H locs ls hl hr hS) (fun z => absurd hq z)
      · exact lv_icmp_lt hx hb (am_dc hd rfl) ht (fun z => absurd z hq) (fun _ => k H locs ls hl hr hS)
    | ge =>
      obtain ⟨x, y, r, e0, g0⟩ := am_i2_inv h
      subst e0
      replace h := g0
      cases h
      intro H locs ls hl hr hS
      rcases k with ⟨hq, k⟩ | ⟨hq, k⟩
      · exact lv_icmp_ge hx hb (am_dc hd rfl) ht (fun _ => k H locs ls hl hr hS) (fun z => absurd hq z)
      · exact lv_icmp_ge hx hb (am_dc hd rfl) ht (fun z => absurd z hq) (fun _ => k H locs ls hl hr hS)
    | gt =>
      obtain ⟨x, y, r, e0, g0⟩ := am_i2_inv h
      subst e0
      replace h := g0
      cases h
      intro H locs ls hl hr hS
      rcases k with ⟨hq, k⟩ | ⟨hq, k⟩
      · exact lv_icmp_gt hx hb (am_dc hd rfl) ht (fun _ => k H locs ls hl hr hS) (fun z => absurd hq z)
      · exact lv_icmp_gt hx hb (am_dc hd rfl) ht (fun z => absurd z hq) (fun _ => k H locs ls hl hr hS)
    | le =>
      obtain ⟨x, y, r, e0, g0⟩ := am_i2_inv h
      subst e0
      replace h := g0
      cases h
      intro H locs ls hl hr hS
      rcases k with ⟨hq, k⟩ | ⟨hq, k⟩
      · exact lv_icmp_le hx hb (am_dc hd rfl) ht (fun _ => k H locs ls hl hr hS) (fun z => absurd hq z)
      · exact lv_icmp_le hx hb (am_dc hd rfl) ht (fun z => absurd z hq) (fun _ => k H locs ls hl hr hS)
  | _ => cases h
