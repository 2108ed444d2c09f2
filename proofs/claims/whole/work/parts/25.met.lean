/-! A RUN IS SOUND: the method's contract -/
noncomputable def am_ws (mi : Nat) : List Cond := .code (am_mN mi) (am_mB mi) (am_mL mi) (am_mR mi) :: am_TB
noncomputable def am_ro (d mc ms : Nat) : Room := { frames := d, cells := mc, slots := ms, locals := d * 32 }
noncomputable def am_Pc (D : va_G) (bs : Nat) (ad : Nat → Nat) (dA : FieldType → ClassId) (ro : Nat → Option am_C) (as : List Value) (hp : am_H) : Array Value → State → Prop := fun v U => v = (as.map (am_cv bs ad)).toArray ∧ am_rp D bs ad dA hp U.heap ∧ am_KF D bs ad dA ro U U.heap ∧ bs ≤ U.heap.size
noncomputable def am_Qc (D : va_G) (bs : Nat) (ad : Nat → Nat) (dA : FieldType → ClassId) (r : Option Value) (hp' : am_H) : Array Value → State → Outcome → State → Prop := fun _ st o t => o = .returned (r.map (am_cv bs ad)) ∧ am_rp D bs ad dA hp' t.heap ∧ va_F (fun q => bs ≤ q) st t
theorem am_NW_warm {s U : State} (hW : s.WarmedH U.vm) {w : Cond} (hw : w ∈ am_NW) (h : va_Nw w s) : va_Nw w U := by
  have hn := (List.mem_filter.mp hw).2
  cases w <;> first | (cases hn; done) | exact va_Nw.warmF hW h | exact va_Nw.warmM hW h
theorem am_NW_same {u U : State} (hv : u.vm = U.vm) {w : Cond} (hw : w ∈ am_NW) (h : va_Nw w u) : va_Nw w U := by
  have hn := (List.mem_filter.mp hw).2
  cases w <;> first | (cases hn; done) | exact va_Nw.same rfl hv h
theorem am_rc_moved {ro : Nat → Option am_C} {bs : Nat} {ad : Nat → Nat} {u U : State} {H H1 : Heap} {k : Nat} (hvm : u.vm.Alike U.vm) (hq : ∀ a : Nat, a < H.size → ¬ bs ≤ a → H1[a]? = H[a]?) : ∀ {c : am_C}, am_rc ro bs ad u H k c → am_rc ro bs ad U H1 k c := by
  intro c h
  match c, h with
  | .inl (ty, n, .inl g), h => exact va_T.moved hvm (va_T.kept (A := fun q => bs ≤ q) h hq)
  | .inl (ty, n, .inr g), h => exact h
  | .inr (ci, fs), h => exact ⟨va_O.moved hvm (va_O.kept (A := fun q => bs ≤ q) h.1 hq), fun j v hv => va_OF.moved hvm (va_OF.kept (A := fun q => bs ≤ q) (h.2 j v hv) hq)⟩
theorem am_KF.warm {D : va_G} {bs : Nat} {ad : Nat → Nat} {dA : FieldType → ClassId} {ro : Nat → Option am_C} {s U : State} {H : Heap} (h : am_KF D bs ad dA ro s H) (hW : s.WarmedH U.vm) {H1 : Heap} (hq : ∀ a : Nat, a < H.size → ¬ bs ≤ a → H1[a]? = H[a]?) : am_KF D bs ad dA ro U H1 := by
  obtain ⟨h1, h2, h3, h4, h5⟩ := h
  exact ⟨va_K.moved hW.alike h1, fun w hw => am_NW_warm hW hw (h2 w hw), fun k c hc => ⟨(h3 k c hc).1, am_rc_moved hW.alike hq (h3 k c hc).2⟩, fun q hq1 => vk_R.warm hW (h4 q hq1), fun q hq1 => va_Z.moved hW.alike (va_Z.kept (A := fun q => bs ≤ q) (h5 q hq1) hq)⟩
theorem am_KF.same {D : va_G} {bs : Nat} {ad : Nat → Nat} {dA : FieldType → ClassId} {ro : Nat → Option am_C} {u U : State} {H : Heap} (h : am_KF D bs ad dA ro u H) (hv : u.vm = U.vm) : am_KF D bs ad dA ro U H := by
  obtain ⟨h1, h2, h3, h4, h5⟩ := h
  have ha : u.vm.Alike U.vm := by rw [hv]; exact Vm.Alike.refl _
  exact ⟨va_K.moved ha h1, fun w hw => am_NW_same hv hw (h2 w hw), fun k c hc => ⟨(h3 k c hc).1, am_rc_moved ha (fun _ _ _ => rfl) (h3 k c hc).2⟩, fun q hq1 => vk_R.same hv.symm (h4 q hq1), fun q hq1 => va_Z.moved ha (h5 q hq1)⟩
theorem am_Pc_blind {D : va_G} {bs : Nat} {ad : Nat → Nat} {dA : FieldType → ClassId} {ro : Nat → Option am_C} {as : List Value} {hp : am_H} : FrameBlind (am_Pc D bs ad dA ro as hp) := by
  intro a U g mk h
  obtain ⟨h1, h2, h3, h4⟩ := h
  exact ⟨h1, h2, h3.same rfl, h4⟩
theorem am_good (mi : Nat) (Ts : List Cond) (h : ∀ w ∈ am_TB, w ∈ Ts) (hc : Cond.code (am_mN mi) (am_mB mi) (am_mL mi) (am_mR mi) ∈ am_TB) : GoodIn Ts (am_ws mi) := by
  intro w hw
  have hw2 : w ∈ am_TB := by
    rcases List.mem_cons.mp hw with e | e
    · rw [e]; exact hc
    · exact e
  exact ⟨h w hw2, good_of_word (List.mem_filter.mp hw2).2⟩
section AMC
variable {p : Program} {l : Launch} {e : Env} {R : Room} {s : State} {m : MethodId} {args : Array Value} {below : List Frame} {meth : Method} {c : Code} {H : Heap} {locs : List Loc} {cells slots : Nat} {Q : State → Prop} {D : va_G} {bs : Nat} {ad : Nat → Nat} {dA : FieldType → ClassId} {ro : Nat → Option am_C} {mi : Nat} {hp : am_H}
theorem am_go {pc mc ms : Nat} {ls : Array Slot} {rest st0 : List Value} {a : Array Value} {r1 : Option Value} {hp1 : am_H} (hr : va_Run p l e R s m args below meth c H locs cells slots mc ms (F0 m pc ls st0) rest (am_Qc D bs ad dA r1 hp1 a) (fun q => bs ≤ q)) (hS : va_S (fun q => bs ≤ q) s.heap H locs)
    (kk : ∀ (H1 : Heap) (locs1 : List Loc), am_rp D bs ad dA hp1 H1 → va_S (fun q => bs ≤ q) s.heap H1 locs1 → W p l e R s m args below meth c H1 locs1 (cells + mc) (slots + ms) Q (F0 m (pc + 3) ls ((r1.map (am_cv bs ad)).toList ++ rest))) : W p l e R s m args below meth c H locs cells slots Q (F0 m pc ls st0) := by
  intro T hT X
  obtain ⟨v, st₀, t, T', L, h0, X', hL, e1, e2, ⟨hv, hp, hz, hk⟩, st⟩ := hr T hT X
  cases hv
  rw [h0] at hz hk
  obtain ⟨t2, a1, b1⟩ := kk T'.heap (locs ++ L) (by rw [e1]; exact hp)
    ⟨Nat.le_trans hS.1 (by rw [e1]; exact hz), fun q h1 h2 => by rw [e1, hk q (Nat.lt_of_lt_of_le h1 hS.1) h2]; exact hS.2.1 q h1 h2, fun q hq => by
      rcases List.mem_append.mp hq with h | h
      · exact hS.2.2 q h
      · exact hL q h⟩ T' rfl X'
  exact ⟨t2, st t2 a1, b1⟩
theorem am_sum {r : List Value} (h : am_rm r = true) : ((r.map (am_cv bs ad)).map fun v => v.category).sum ≤ 8 := by
  rw [List.map_map, show ((fun v : Value => v.category) ∘ am_cv bs ad) = Value.category from funext am_cv_cat]
  exact Nat.le_of_ble_eq_true h
set_option maxHeartbeats 4000000 in
/-- a call -/
theorem am_call {n0 z0 d mj mc ms : Nat} (hX : am_Cx p s m args meth c R D bs ad dA ro mi) {pc nx t : Nat} {L st rest as : List Value} {i : Instr} (hd : am_cd mi pc = some (i, nx, t)) {r1 : Option Value} {hp1 : am_H} (hi : am_iv ro mi st hp i = some (mj, as, rest))
    (hM : Met l (am_mN mj) (am_ws mj) (am_ro d mc ms) (am_Pc D bs ad dA ro as hp) (am_Qc D bs ad dA r1 hp1) mc ms (fun q => bs ≤ q)) (hmc : hp.length - n0 + mc = hp1.length - n0) (hms : am_sz hp - z0 + ms = am_sz hp1 - z0) (hRd : d + 1 ≤ R.frames ∧ d * 32 + 32 ≤ R.locals) (hR0 : hp1.length - n0 ≤ R.cells ∧ am_sz hp1 - z0 ≤ R.slots)
    (k : am_W p l e R s m args below meth c Q D bs ad dA mi n0 z0 nx L (r1.toList ++ rest) hp1) : am_W p l e R s m args below meth c Q D bs ad dA mi n0 z0 pc L st hp := by
  obtain ⟨hx, hb, hml, hown, hts, hKF, hin, hR, hbs⟩ := hX
  intro H locs ls hl hr hS
  have hml9 := am_mL_le mj
  have hroom : (am_ro d mc ms).frames + 1 ≤ R.frames ∧ 8 + (am_mL mj + 11) + (am_ro d mc ms).locals ≤ R.locals := ⟨hRd.1, by show 8 + (am_mL mj + 11) + d * 32 ≤ R.locals; omega⟩
  have hf : hp.length - n0 + mc ≤ R.cells ∧ am_sz hp - z0 + ms ≤ R.slots := ⟨by rw [hmc]; exact hR0.1, by rw [hms]; exact hR0.2⟩
  have hfix : CallFix p m c (am_mB mi) (am_mL mi) s args am_TB (am_mO mi) := ⟨hx, hb, hml, hown, hts⟩
  have hpre : ∀ U : State, U.heap = H → s.WarmedH U.vm → am_Pc D bs ad dA ro as hp (as.map (am_cv bs ad)).toArray U := fun U hU hW => ⟨rfl, by rw [hU]; exact hr, by rw [hU]; exact hKF.warm hW (fun a h1 h2 => hS.2.1 a h1 h2), by rw [hU]; exact Nat.le_trans hbs hS.1⟩
  have kk : ∀ (H1 : Heap) (locs1 : List Loc), am_rp D bs ad dA hp1 H1 → va_S (fun q => bs ≤ q) s.heap H1 locs1 → W p l e R s m args below meth c H1 locs1 (hp.length - n0 + mc) (am_sz hp - z0 + ms) Q (F0 m nx ls ((r1.map (am_cv bs ad)).toList ++ rest.map (am_cv bs ad))) := by
    intro H1 locs1 hr1 hS1
    have k1 := k H1 locs1 ls hl hr1 hS1
    rw [hmc, hms]
    rw [show (r1.toList ++ rest).map (am_cv bs ad) = (r1.map (am_cv bs ad)).toList ++ rest.map (am_cv bs ad) from by cases r1 <;> simp] at k1
    exact k1
  cases i with
  | invokevirtual j =>
    obtain rfl := am_nx hd rfl
    simp only [am_iv] at hi
    split at hi
    · next mj1 n1 hkv =>
      split at hi
      · next b rest1 hdr =>
        split at hi
        · next hcnd =>
          cases hi
          rw [Bool.and_eq_true, Bool.and_eq_true] at hcnd
          obtain ⟨⟨hrv, hrm⟩, hln⟩ := hcnd
          have hln := Nat.eq_of_beq_eq_true hln
          obtain ⟨hlk, w1, w2, w3, w4, w5⟩ := am_kV_ok hkv
          have hrecv : ∃ b1 : Nat, am_cv bs ad b = .ref b1 ∧ ∃ cellB : Cell, H[b1]? = some cellB ∧ cellB.vm.isStatics = false ∧ s.vm.findClass (am_mN mj).cls = some cellB.cls := by
            unfold am_rv at hrv
            split at hrv
            · next cj fs hg =>
              have hcj := Nat.eq_of_beq_eq_true hrv
              subst hcj
              rcases am_gi_any hg with ⟨a, rfl, hc⟩ | ⟨a, rfl, hc⟩
              · refine ⟨bs + a, rfl, ?_⟩
                have hat := hr.2 a _ hc
                obtain ⟨q, hq, hob⟩ := id hat
                have := va_recv hKF.1 (am_P1 hat) hq (q0 := 0) (fs := fs.map (am_cv bs ad)) rfl
                rw [am_cl_nm hq, am_mC_ok] at this
                exact this
              · refine ⟨ad a, am_cv_ra (hKF.2.2.1 _ _ hc).1, ?_⟩
                have := va_Orecv (hKF.2.2.1 _ _ hc).2.1 hS
                rw [am_mC_ok] at this
                exact this
            · cases hrv
          obtain ⟨b1, hb1, hrecv⟩ := hrecv
          have hst : st.map (am_cv bs ad) = ((st.take n1).reverse.map (am_cv bs ad)).reverse ++ .ref b1 :: rest.map (am_cv bs ad) := by
            conv => lhs; rw [← List.take_append_drop n1 st, hdr]
            simp [hb1]
          rw [List.map_cons, hb1] at hpre
          have hp3 : PreV s H (am_mN mj).cls b1 (am_Pc D bs ad dA ro (b :: (st.take n1).reverse) hp) ((st.take n1).reverse.map (am_cv bs ad)) := ⟨am_Pc_blind, hrecv, hpre⟩
          rw [hst]
          rcases hlk with hlk | ⟨host, hlk⟩
          · exact am_go (va_runV (bytes := am_mB mj) (maxL := am_mL mj) (ret := am_mR mj) (n := n1) (nL := am_mL mi) hfix hM ⟨callB_of n1 hts (am_good mj _ (fun _ h => h) w4) rfl rfl rfl (hts _ w3) (hts _ hlk) w5 hroom, hts _ w1, hts _ w2⟩ hp3 rfl (by rw [List.length_map, List.length_reverse]; exact hln) hl.1 rfl (lv_room (am_sum hrm)) (am_dc hd rfl) hf) hS kk
          · exact am_go (va_runVN (bytes := am_mB mj) (maxL := am_mL mj) (ret := am_mR mj) (n := n1) (nL := am_mL mi) hfix hM ⟨va_cnB n1 hts (am_good mj _ (fun _ h => h) w4) rfl rfl rfl (hKF.2.1 _ hlk) (hts _ w3) w5 hroom, hts _ w1, hts _ w2⟩ hp3 rfl (by rw [List.length_map, List.length_reverse]; exact hln) hl.1 rfl (lv_room (am_sum hrm)) (am_dc hd rfl) hf) hS kk
        · cases hi
      · cases hi
    · cases hi
  | invokestatic j =>
    obtain rfl := am_nx hd rfl
    simp only [am_iv] at hi
    split at hi
    · next mj1 n1 hkv =>
      split at hi
      · next hcnd =>
        cases hi
        rw [Bool.and_eq_true] at hcnd
        obtain ⟨hrm, hln⟩ := hcnd
        have hln := Nat.eq_of_beq_eq_true hln
        obtain ⟨hlk, w1, w3, w4, w5⟩ := am_kT_ok hkv
        have hst : st.map (am_cv bs ad) = ((st.take n1).reverse.map (am_cv bs ad)).reverse ++ (st.drop n1).map (am_cv bs ad) := by
          conv => lhs; rw [← List.take_append_drop n1 st]
          simp
        have hp3 : PreS s H (am_Pc D bs ad dA ro (st.take n1).reverse hp) ((st.take n1).reverse.map (am_cv bs ad)) := ⟨am_Pc_blind, hpre⟩
        rw [hst]
        rcases hlk with hlk | ⟨host, hlk⟩
        · exact am_go (va_runS (bytes := am_mB mj) (maxL := am_mL mj) (ret := am_mR mj) (n := n1) (nL := am_mL mi) hfix hM ⟨callB_of n1 hts (am_good mj _ (fun _ h => h) w4) rfl rfl rfl (hts _ w3) (hts _ hlk) w5 hroom, hts _ w1⟩ hp3 rfl (by rw [List.length_map, List.length_reverse]; exact hln) hl.1 rfl (lv_room (am_sum hrm)) (am_dc hd rfl) hf) hS kk
        · exact am_go (va_runSN (bytes := am_mB mj) (maxL := am_mL mj) (ret := am_mR mj) (n := n1) (nL := am_mL mi) hfix hM ⟨va_cnB n1 hts (am_good mj _ (fun _ h => h) w4) rfl rfl rfl (hKF.2.1 _ hlk) (hts _ w3) w5 hroom, hts _ w1, trivial⟩ hp3 rfl (by rw [List.length_map, List.length_reverse]; exact hln) hl.1 rfl (lv_room (am_sum hrm)) (am_dc hd rfl) hf) hS kk
      · cases hi
    · cases hi
  | invokespecial j =>
    obtain rfl := am_nx hd rfl
    simp only [am_iv] at hi
    split at hi
    · next mj1 n1 hkv =>
      split at hi
      · next b rest1 hdr =>
        split at hi
        · next hcnd =>
          cases hi
          rw [Bool.and_eq_true] at hcnd
          obtain ⟨hrm, hln⟩ := hcnd
          have hln := Nat.eq_of_beq_eq_true hln
          obtain ⟨hlk, w1, w2, w3, w4, w5, w6⟩ := am_kX_ok hkv
          have hst : st.map (am_cv bs ad) = ((st.take n1).reverse.map (am_cv bs ad)).reverse ++ .ref (bs + b) :: rest.map (am_cv bs ad) := by
            conv => lhs; rw [← List.take_append_drop n1 st, hdr]
            simp [am_cv]
          have hp3 : PreS s H (am_Pc D bs ad dA ro (.ref b :: (st.take n1).reverse) hp) (.ref (bs + b) :: (st.take n1).reverse.map (am_cv bs ad)) := ⟨am_Pc_blind, hpre⟩
          have hM2 := hM
          rw [hst]
          rcases hlk with hlk | ⟨host, hlk⟩
          · exact am_go (va_runI (bytes := am_mB mj) (maxL := am_mL mj) (n := n1) (nL := am_mL mi) hfix hM ⟨callB_of n1 hts (am_good mj _ (fun _ h => h) w4) (by rw [am_ws, w6]) rfl rfl (hts _ w3) (hts _ hlk) w5 hroom, w2, hts _ w1⟩ hp3 rfl (by rw [List.length_map, List.length_reverse]; exact hln) hl.1 rfl (lv_room (am_sum hrm)) (am_dc hd rfl) hf) hS kk
          · exact am_go (va_runIN (bytes := am_mB mj) (maxL := am_mL mj) (n := n1) (nL := am_mL mi) hfix hM ⟨va_cnB n1 hts (am_good mj _ (fun _ h => h) w4) (by rw [am_ws, w6]) rfl rfl (hKF.2.1 _ hlk) (hts _ w3) w5 hroom, w2, hts _ w1⟩ hp3 rfl (by rw [List.length_map, List.length_reverse]; exact hln) hl.1 rfl (lv_room (am_sum hrm)) (am_dc hd rfl) hf) hS kk
        · cases hi
      · cases hi
    · cases hi
  | _ => cases hi
/-- a run of one body -/
theorem am_evW {n0 z0 d : Nat} (hX : am_Cx p s m args meth c R D bs ad dA ro mi) {call : Nat → List Value → am_H → Option Value → am_H → Prop} (hcall : ∀ mj as hp r hp', call mj as hp r hp' → am_le hp hp' ∧ Met l (am_mN mj) (am_ws mj) (am_ro d (hp'.length - hp.length) (am_sz hp' - am_sz hp)) (am_Pc D bs ad dA ro as hp) (am_Qc D bs ad dA r hp') (hp'.length - hp.length) (am_sz hp' - am_sz hp) (fun q => bs ≤ q)) (hRd : d + 1 ≤ R.frames ∧ d * 32 + 32 ≤ R.locals) {r : Option Value} {hp' : am_H} (hR0 : hp'.length - n0 ≤ R.cells ∧ am_sz hp' - z0 ≤ R.slots)
    (fin : ∀ (pc nx t : Nat) (L st : List Value) (i : Instr), am_cd mi pc = some (i, nx, t) → am_fn st i = some r → am_fk mi r → am_W p l e R s m args below meth c Q D bs ad dA mi n0 z0 pc L st hp') :
    ∀ (k pc : Nat) (L st : List Value) (hp : am_H), n0 ≤ hp.length ∧ z0 ≤ am_sz hp → am_ev ro call mi k pc L st hp r hp' → am_W p l e R s m args below meth c Q D bs ad dA mi n0 z0 pc L st hp := by
  intro k
  induction k with
  | zero =>
    intro pc L st hp hn h
    obtain ⟨i, nx, t, hd, hf, hk, rfl⟩ := h
    exact fin pc nx t L st i hd hf hk
  | succ k ih =>
    intro pc L st hp hn h
    obtain ⟨i, nx, t, hd, h | h | h⟩ := h
    · obtain ⟨pc1, L1, st1, hp1, φ, hs, hφ, h⟩ := h
      have l1 := am_st_le hs
      have l2 := am_ev_le (fun _ _ _ _ _ z => (hcall _ _ _ _ _ z).1) k _ _ _ _ h
      exact am_step hX hd hs hφ hn ⟨by have := l2.1; omega, by have := l2.2; omega⟩ (ih pc1 L1 st1 hp1 ⟨Nat.le_trans hn.1 l1.1, Nat.le_trans hn.2 l1.2⟩ h)
    · obtain ⟨q, st1, hb, ⟨hq, h⟩ | ⟨hq, h⟩⟩ := h
      · exact am_brs hX hd hb (Or.inl ⟨hq, ih t L st1 hp hn h⟩)
      · exact am_brs hX hd hb (Or.inr ⟨hq, ih nx L st1 hp hn h⟩)
    · obtain ⟨mj, as, rest, r1, hp1, hi, hc, h⟩ := h
      obtain ⟨l1, hM⟩ := hcall _ _ _ _ _ hc
      have l2 := am_ev_le (fun _ _ _ _ _ z => (hcall _ _ _ _ _ z).1) k _ _ _ _ h
      have a1 := l1.1; have a2 := l1.2; have a3 := l2.1; have a4 := l2.2; have a5 := hn.1; have a6 := hn.2
      exact am_call hX hd hi hM (by omega) (by omega) hRd ⟨by omega, by omega⟩ (ih nx L _ hp1 ⟨by omega, by omega⟩ h)
end AMC
theorem am_lay_len (bs : Nat) (ad : Nat → Nat) : ∀ as : List Value, (lg_sl (as.map (am_cv bs ad))).length = (am_lay as).length := by
  intro as
  induction as with
  | nil => rfl
  | cons v r ih =>
    simp only [lg_sl, List.map_cons, List.flatMap_cons, am_lay, am_cv_cat] at ih ⊢
    split <;> simp [ih] <;> omega
theorem am_lay_in {bs : Nat} {ad : Nat → Nat} : ∀ (as : List Value) (i j : Nat) (v : Value), (am_lay as)[i]? = some v → am_okv v = true → (j + i, am_cv bs ad v) ∈ lv_args j (as.map (am_cv bs ad)) := by
  intro as
  induction as with
  | nil => intro i j v h; simp [am_lay] at h
  | cons w r ih =>
    intro i j v h ho
    simp only [am_lay] at h
    simp only [List.map_cons, lv_args, am_cv_cat]
    split at h
    · next hc =>
      rw [if_pos hc]
      match i, h with
      | 0, h => cases h; exact List.mem_cons_self
      | 1, h => cases h; cases ho
      | i + 2, h =>
        have := ih i (j + 2) v (by simpa using h) ho
        rw [show j + 2 + i = j + (i + 2) by omega] at this
        exact List.mem_cons_of_mem _ this
    · next hc =>
      rw [if_neg hc]
      match i, h with
      | 0, h => cases h; exact List.mem_cons_self
      | i + 1, h =>
        have := ih i (j + 1) v (by simpa using h) ho
        rw [show j + 1 + i = j + (i + 1) by omega] at this
        exact List.mem_cons_of_mem _ this
theorem am_l0_has {bs : Nat} {ad : Nat → Nat} {mi : Nat} {as : List Value} {ls : Array Slot} (h : lv_has ls (am_mL mi) (lv_args 0 (as.map (am_cv bs ad)))) : lv_has ls (am_mL mi) (am_en bs ad (am_l0 mi as)) := by
  refine ⟨h.1, h.2.1, fun q hq => h.2.2 q ?_⟩
  obtain ⟨v, hv, ho, he⟩ := am_en_of hq
  unfold am_l0 at hv
  by_cases hi : q.1 < (am_lay as).length
  · rw [List.getElem?_append_left hi] at hv
    have := am_lay_in (bs := bs) (ad := ad) as q.1 0 v hv ho
    rw [Nat.zero_add, ← he] at this
    exact this
  · rw [List.getElem?_append_right (by omega)] at hv
    have := List.mem_of_getElem? hv
    rw [List.mem_replicate] at this
    rw [this.2] at ho
    cases ho
set_option maxHeartbeats 4000000 in
theorem am_met {ro : Nat → Option am_C} {l : Launch} {D : va_G} {bs : Nat} {ad : Nat → Nat} {dA : FieldType → ClassId} : ∀ (d mi : Nat) (as : List Value) (hp : am_H) (r : Option Value) (hp' : am_H), am_run ro d mi as hp r hp' → am_le hp hp' ∧ Met l (am_mN mi) (am_ws mi) (am_ro d (hp'.length - hp.length) (am_sz hp' - am_sz hp)) (am_Pc D bs ad dA ro as hp) (am_Qc D bs ad dA r hp') (hp'.length - hp.length) (am_sz hp' - am_sz hp) (fun q => bs ≤ q) := by
  intro d
  induction d with
  | zero => intro mi as hp r hp' h; cases h
  | succ d ih =>
    intro mi as hp r hp' h
    refine ⟨am_run_le _ _ _ _ _ _ h, ?_⟩
    obtain ⟨hlen, k, h⟩ := h
    refine va_MetF (cc := am_mB mi) (maxL := am_mL mi) (ret := am_mR mi) (am_mN_plain mi) rfl ?_
    intro p e s m args below meth c s₁ B hml hv
    obtain ⟨rfl, hr, hKF, hbs⟩ := hv
    have hts := atoms_spec (ws := am_ws mi) B.pre
    have hX : am_Cx p s m (as.map (am_cv bs ad)).toArray meth c (headSpec (am_ws mi) (am_ro (d + 1) (hp'.length - hp.length) (am_sz hp' - am_sz hp))).room D bs ad dA ro mi := by
      refine ⟨B.exec, B.bytes, hml, findClass_of_methodNamed B.named, fun w hw => hts w (List.mem_cons_of_mem _ hw), hKF, fun hi => ?_, ⟨?_, ?_⟩, hbs⟩
      · exact ((name_of_methodNamed B.named B.method).1).trans (am_mI_ok hi)
      · show 1 ≤ d + 1; omega
      · show 21 ≤ (d + 1) * 32; omega
    have hl := lv_entry (as.map (am_cv bs ad)) (n := am_mL mi) (by rw [am_lay_len]; exact hlen)
    rw [lg_entry_eq]
    generalize (lg_sl (as.map (am_cv bs ad)) ++ List.replicate (am_mL mi - (lg_sl (as.map (am_cv bs ad))).length) Slot.unset).toArray = ls at hl ⊢
    have hW := am_evW (Q := MQ below (am_Qc D bs ad dA r hp') (as.map (am_cv bs ad)).toArray s (hp'.length - hp.length) (am_sz hp' - am_sz hp) (fun q => bs ≤ q)) (below := below) (e := e) (n0 := hp.length) (z0 := am_sz hp) hX (fun mj as1 hp1 r1 hp2 z => ih mj as1 hp1 r1 hp2 z) ⟨Nat.le_refl _, by show d * 32 + 32 ≤ (d + 1) * 32; omega⟩ (r := r) (hp' := hp') ⟨Nat.le_refl _, Nat.le_refl _⟩ ?_ k 0 (am_l0 mi as) [] hp ⟨Nat.le_refl _, Nat.le_refl _⟩ h
    · have := hW s.heap [] ls (am_l0_has hl) hr va_S.rf
      rw [Nat.sub_self, Nat.sub_self] at this
      exact this
    · intro pc nx t L st i hd hf hk H locs ls1 hl1 hr1 hS1
      have hq : ∀ t : State, t.heap = H → s.WarmedH t.vm → am_Qc D bs ad dA r hp' (as.map (am_cv bs ad)).toArray s (.returned (r.map (am_cv bs ad))) t := fun t ht hw => ⟨rfl, by rw [ht]; exact hr1, hS1.F ht⟩
      have hlocks := B.notSynchronized
      cases i with
      | ireturn =>
        simp only [am_fn] at hf
        split at hf
        · cases hf
          obtain ⟨ty, h1, h2⟩ := hk
          exact W.zret B.exec B.bytes (B.returns.trans h1) h2 hq hS1.2.2 (am_dc hd rfl)
        · cases hf
      | lreturn =>
        simp only [am_fn] at hf
        split at hf
        · cases hf
          exact W.lret B.exec B.bytes (B.returns.trans hk) hq hS1.2.2 (am_dc hd rfl)
        · cases hf
      | return_ =>
        simp only [am_fn] at hf
        split at hf
        · cases hf
          exact W.vret B.exec B.bytes (B.returns.trans hk) hq hS1.2.2 (am_dc hd rfl)
        · cases hf
      | _ => cases hf
