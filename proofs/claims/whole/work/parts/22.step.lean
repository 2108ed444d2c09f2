/-! ONE STEP IS SOUND -/
noncomputable def am_tys (dA : FieldType → ClassId) : List (ClassId × FieldType) := [(dA .int, .int), (dA .boolean, .boolean), (dA .long, .long)]
/-- cells from before -/
noncomputable def am_rc (ro : Nat → Option am_C) (bs : Nat) (ad : Nat → Nat) (U : State) (H : Heap) (k : Nat) : am_C → Prop
  | .inl (ty, n, .inl g) => va_T ty (ad k) n (fun j => .int (g j)) (fun q => bs ≤ q) U H
  | .inl _ => False
  | .inr (ci, fs) => va_O (am_cN ci) (ad k) (fun q => bs ≤ q) U H ∧ ∀ (j : Nat) (v : Value), fs[j]? = some v → va_OF (am_rT ci j).1 (am_rT ci j).2.1 (am_rT ci j).2.2 (am_cv bs ad v) (ad k) (fun q => bs ≤ q) U H
noncomputable def am_KF (D : va_G) (bs : Nat) (ad : Nat → Nat) (dA : FieldType → ClassId) (ro : Nat → Option am_C) (U : State) (H : Heap) : Prop :=
  va_K D am_cl (am_tys dA) U ∧ (∀ w ∈ am_NW, va_Nw w U) ∧ (∀ k c, ro k = some c → Nat.beq k 99 = false ∧ am_rc ro bs ad U H k c) ∧ (∀ q ∈ am_sk, vk_R q.1 q.2.1 q.2.2.1 (ad q.2.2.2) U) ∧ (∀ q ∈ am_gs, va_Z q.1 q.2.1 q.2.2.1 (am_cv bs ad q.2.2.2) (fun q => bs ≤ q) U H)
/-- what holds during a method -/
noncomputable def am_Cx (p : Program) (s : State) (m : MethodId) (args : Array Value) (meth : Method) (c : Code) (R : Room) (D : va_G) (bs : Nat) (ad : Nat → Nat) (dA : FieldType → ClassId) (ro : Nat → Option am_C) (mi : Nat) : Prop :=
  p.tables.exec = Jvm.exec ∧ c.code = am_mB mi ∧ c.maxLocals = am_mL mi ∧ s.vm.findClass (am_mO mi) = some m.cls ∧ (∀ w ∈ am_TB, w.before args s = true) ∧ am_KF D bs ad dA ro s s.heap ∧ (am_mI mi = true → meth.name = "<init>") ∧ (1 ≤ R.frames ∧ 21 ≤ R.locals) ∧ bs ≤ s.heap.size
noncomputable def am_W (p : Program) (l : Launch) (e : Env) (R : Room) (s : State) (m : MethodId) (args : Array Value) (below : List Frame) (meth : Method) (c : Code) (Q : State → Prop) (D : va_G) (bs : Nat) (ad : Nat → Nat) (dA : FieldType → ClassId) (mi n0 z0 : Nat) (pc : Nat) (L st : List Value) (hp : am_H) : Prop :=
  ∀ (H : Heap) (locs : List Loc) (ls : Array Slot), lv_has ls (am_mL mi) (am_en bs ad L) → am_rp D bs ad dA hp H → va_S (fun q => bs ≤ q) s.heap H locs →
    W p l e R s m args below meth c H locs (hp.length - n0) (am_sz hp - z0) Q (F0 m pc ls (st.map (am_cv bs ad)))
theorem am_cv_nar {bs : Nat} {ad : Nat → Nat} {ty : FieldType} {v : Value} (h : narrow ty v = v ∧ fits ty v = true) : narrow ty (am_cv bs ad v) = am_cv bs ad v ∧ fits ty (am_cv bs ad v) = true := by
  cases v with
  | ref a => cases ty <;> first | exact ⟨rfl, rfl⟩ | (exact absurd h.2 (by simp [fits]))
  | retAddr n => exact absurd h.2 (by cases ty <;> simp [fits])
  | _ => exact h
section AMS
variable {p : Program} {l : Launch} {e : Env} {R : Room} {s : State} {m : MethodId} {args : Array Value} {below : List Frame} {meth : Method} {c : Code} {H : Heap} {locs : List Loc} {cells slots : Nat} {Q : State → Prop} {D : va_G} {bs : Nat} {ad : Nat → Nat} {dA : FieldType → ClassId} {ro : Nat → Option am_C} {mi : Nat} {hp : am_H}
/-- a write to a field that isn't final -/
theorem am_put {ls : Array Slot} {pc index ci k N a : Nat} {C : String} {T : u_T} {ty : FieldType} {fs rest : List Value} {v : Value} (hX : am_Cx p s m args meth c R D bs ad dA ro mi) (hcl : am_cl[ci]? = some (C, T, N)) (hk : k < N) (hlink : Cond.fieldLink (am_mO mi) index (T k).1 (T k).2.1 (T k).2.2.1 ∈ am_TB) (hfin : (T k).2.2.2 = false ∨ ((T k).2.2.2 = true ∧ am_mI mi = true ∧ (T k).1 = am_mO mi)) (hd : parseFieldDescriptor (T k).2.2.1 = some ty) (hv : narrow ty v = v ∧ fits ty v = true) (hl : k < fs.length)
    (hr : am_rp D bs ad dA hp H) (hS : va_S (fun q => bs ≤ q) s.heap H locs) (hc : hp[a]? = some (.inr (ci, fs))) (hdg : decode (am_mB mi) pc = .ok (.putfield index, 3))
    (kk : ∀ (H1 : Heap) (locs1 : List Loc), am_rp D bs ad dA (hp.set a (.inr (ci, fs.set k v))) H1 → va_S (fun q => bs ≤ q) s.heap H1 locs1 → W p l e R s m args below meth c H1 locs1 cells slots Q (F0 m (pc + 3) ls rest)) : W p l e R s m args below meth c H locs cells slots Q (F0 m pc ls (am_cv bs ad v :: .ref (bs + a) :: rest)) := by
  obtain ⟨hx, hb, hml, hown, hts, hKF, hin, hR, hbs⟩ := hX
  obtain ⟨hws, ty0, hty, hnm⟩ := am_cl_ok hcl
  have hv := am_cv_nar (bs := bs) (ad := ad) hv
  have hK := hKF.1
  have hap := va_apart (own := am_mO mi) hts hws ty0 hty hnm hK hcl
  obtain ⟨r, h1, cell, q1, q2, q3, q4⟩ := hr.2 a _ hc
  have hr1 : r = (C, T, N) := Option.some.inj (h1.symm.trans hcl)
  subst hr1
  obtain ⟨hSl, hfc, kC, hkC, hkind⟩ := hK.1 ci _ hcl
  obtain ⟨cf, kf, fi, f, hi, hsl⟩ := hSl k hk
  have hst := (u_facts hfc hkC (u_lays hts hws hk) hi).1
  have hlen : k < (fs.map (am_cv bs ad)).length := by rw [List.length_map]; exact hl
  have fin : ∀ H' : Heap, H'[bs + a]? = some (cell.setSlot f.slot (am_cv bs ad v)) → H'.size = H.size → (∀ q, q ≠ bs + a → H'[q]? = H[q]?) → W p l e R s m args below meth c H' (locs ++ [⟨bs + a, f.slot⟩]) cells slots Q (F0 m (pc + 3) ls rest) := by
    intro H' e1 e2 e3
    rw [hsl] at e1 ⊢
    refine kk H' _ (hr.set ?_ e2 e3) (hS.put e2 e3 (by show bs ≤ bs + a; omega))
    show va_at D am_cl (bs + a, .inr (ci, (fs.set k v).map (am_cv bs ad))) H'
    refine ⟨_, hcl, t_OB.to (V := updV (vp_V (fs.map (am_cv bs ad))) k (am_cv bs ad v)) ⟨_, e1, q2, q3, t_set q4 hap hk _⟩ (fun j _ => ?_)⟩
    rw [vp_updV_set hlen, List.map_set]
  rcases hfin with hfin | ⟨hfin, hmi, hdecl⟩
  · have hlay := hts _ (hws _ (u_in_lay hk))
    unfold u_lay at hlay
    rw [if_neg (by rw [hfin]; decide)] at hlay
    have h6 := u_store hfc hkC hkind hlay hi hd hv.1 hv.2
    exact W.putK hx hb (f := f) ⟨hown, hts _ hlink, ⟨_, _, _, hi⟩, hst⟩ (by rw [q2]; exact h6) q1 q3 (by rw [hsl]; exact k2_hasslot (q4 k hk)) rfl rfl hdg fin
  · have hlay := hts _ (hws _ (u_in_lay hk))
    unfold u_lay at hlay
    rw [if_pos hfin] at hlay
    have hcf : m.cls = cf := by
      obtain ⟨_, _, c', _, _, _, -, -, hf', -, -, -, hown2, -⟩ := Cond.laysFinal_spec hlay
      have e1 : c' = cf := by have := hi.symm.trans hf'; simp at this; exact this.1.symm
      rw [hdecl] at hown2
      rw [← e1]; exact Option.some.inj (hown.symm.trans hown2)
    have h6 := u_fits hfc hkC hkind (Or.inr hlay) hi hd hv.1 hv.2
    exact W.putFinK hx hb hown (hts _ hlink) hi hst hcf (hin hmi) (by rw [q2]; exact h6) q1 q3 (by rw [hsl]; exact k2_hasslot (q4 k hk)) rfl rfl hdg fin
theorem am_iast {ls : Array Slot} {pc n a : Nat} {g : Nat → Int32} {rest : List Value} {x i : Int32} (hX : am_Cx p s m args meth c R D bs ad dA ro mi) (hr : am_rp D bs ad dA hp H) (hS : va_S (fun q => bs ≤ q) s.heap H locs) (hc : hp[a]? = some (.inl (.int, n, .inl g))) (hin : vp_in i n) (hdg : decode (am_mB mi) pc = .ok (.iastore, 1))
    (kk : ∀ (H1 : Heap) (locs1 : List Loc), am_rp D bs ad dA (hp.set a (.inl (.int, n, .inl (upd g i.toNatClampNeg x)))) H1 → va_S (fun q => bs ≤ q) s.heap H1 locs1 → W p l e R s m args below meth c H1 locs1 cells slots Q (F0 m (pc + 1) ls rest)) : W p l e R s m args below meth c H locs cells slots Q (F0 m pc ls (.int x :: .int i :: .ref (bs + a) :: rest)) := by
  obtain ⟨hx, hb, hml, hown, hts, hKF, -⟩ := hX
  have hat : H[bs + a]? = some (vp_cell (dA .int) (n, .inl g)) := hr.2 a _ hc
  refine W.iast hx hb hat ((hKF.1.2 0 _ rfl).1 n (fun j => .int (g j))) (fun q => by cases q) (by show ¬ (i < 0 ∨ (arrV _ _ _).slots.size ≤ _); rw [arrV_size]; exact hin) rfl rfl hdg fun H1 e z oq => ?_
  refine kk H1 _ (hr.set ?_ z oq) (hS.put z oq (by show bs ≤ bs + a; omega))
  show H1[bs + a]? = some (vp_cell (dA .int) (n, .inl (upd g i.toNatClampNeg x)))
  rw [e, vp_cell_i, vp_cell_i, arrV_store]
  congr 2
  funext q
  by_cases hq : q = i.toNatClampNeg
  · subst hq
    simp [updV, upd]
  · simp [updV, upd, hq]
theorem am_zast {ls : Array Slot} {pc n a : Nat} {g : Nat → Int32} {rest : List Value} {x i : Int32} (hX : am_Cx p s m args meth c R D bs ad dA ro mi) (hr : am_rp D bs ad dA hp H) (hS : va_S (fun q => bs ≤ q) s.heap H locs) (hc : hp[a]? = some (.inl (.boolean, n, .inl g))) (hin : vp_in i n) (hdg : decode (am_mB mi) pc = .ok (.bastore, 1))
    (kk : ∀ (H1 : Heap) (locs1 : List Loc), am_rp D bs ad dA (hp.set a (.inl (.boolean, n, .inl (upd g i.toNatClampNeg (vp_nar .boolean x))))) H1 → va_S (fun q => bs ≤ q) s.heap H1 locs1 → W p l e R s m args below meth c H1 locs1 cells slots Q (F0 m (pc + 1) ls rest)) : W p l e R s m args below meth c H locs cells slots Q (F0 m pc ls (.int x :: .int i :: .ref (bs + a) :: rest)) := by
  obtain ⟨hx, hb, hml, hown, hts, hKF, -⟩ := hX
  have hat : H[bs + a]? = some (vp_cell (dA .boolean) (n, .inl g)) := hr.2 a _ hc
  refine W.zast hx hb hat ((hKF.1.2 1 _ rfl).1 n (fun j => .int (g j))) (fun q => by cases q) (by show ¬ (i < 0 ∨ (arrV _ _ _).slots.size ≤ _); rw [arrV_size]; exact hin) rfl rfl hdg fun H1 e z oq => ?_
  refine kk H1 _ (hr.set ?_ z oq) (hS.put z oq (by show bs ≤ bs + a; omega))
  show H1[bs + a]? = some (vp_cell (dA .boolean) (n, .inl (upd g i.toNatClampNeg (vp_nar .boolean x))))
  rw [e, vp_cell_i, vp_cell_i, arrV_store]
  congr 2
  funext q
  by_cases hq : q = i.toNatClampNeg
  · subst hq
    simp [updV, upd, vp_nar, narrow]
  · simp [updV, upd, hq]
theorem am_last {ls : Array Slot} {pc n a : Nat} {g : Nat → Int64} {rest : List Value} {x : Int64} {i : Int32} (hX : am_Cx p s m args meth c R D bs ad dA ro mi) (hr : am_rp D bs ad dA hp H) (hS : va_S (fun q => bs ≤ q) s.heap H locs) (hc : hp[a]? = some (.inl (.long, n, .inr (.inl g)))) (hin : vp_in i n) (hdg : decode (am_mB mi) pc = .ok (.lastore, 1))
    (kk : ∀ (H1 : Heap) (locs1 : List Loc), am_rp D bs ad dA (hp.set a (.inl (.long, n, .inr (.inl (vp_updL g i.toNatClampNeg x))))) H1 → va_S (fun q => bs ≤ q) s.heap H1 locs1 → W p l e R s m args below meth c H1 locs1 cells slots Q (F0 m (pc + 1) ls rest)) : W p l e R s m args below meth c H locs cells slots Q (F0 m pc ls (.long x :: .int i :: .ref (bs + a) :: rest)) := by
  obtain ⟨hx, hb, hml, hown, hts, hKF, -⟩ := hX
  have hat : H[bs + a]? = some (vp_cell (dA .long) (n, .inr (.inl g))) := hr.2 a _ hc
  refine W.last hx hb hat ((hKF.1.2 2 _ rfl).1 n (fun j => .long (g j))) (fun q => by cases q) (by show ¬ (i < 0 ∨ (arrV _ _ _).slots.size ≤ _); rw [arrV_size]; exact hin) rfl rfl hdg fun H1 e z oq => ?_
  refine kk H1 _ (hr.set ?_ z oq) (hS.put z oq (by show bs ≤ bs + a; omega))
  show H1[bs + a]? = some (vp_cell (dA .long) (n, .inr (.inl (vp_updL g i.toNatClampNeg x))))
  rw [e, vp_cell_l, vp_cell_l, arrV_store]
  congr 2
  funext q
  by_cases hq : q = i.toNatClampNeg
  · subst hq
    simp [updV, vp_updL]
  · simp [updV, vp_updL, hq]
/-- a new array -/
theorem am_newa {ls : Array Slot} {pc N : Nat} {t : ArrayType} {ty : FieldType} {t0 : Nat} {n : Int32} {ca : am_C} {a0 : vp_A} {rest : List Value} (hX : am_Cx p s m args meth c R D bs ad dA ro mi) (hr : am_rp D bs ad dA hp H) (hS : va_S (fun q => bs ≤ q) s.heap H locs) (hty : newarray.typeOf t = ty) (hac : Cond.arrayClass ty ∈ am_TB) (ht0 : (am_tys dA)[t0]? = some (dA ty, ty)) (hRA : va_RA s (dA ty) ty → s.vm.findClass ("[" ++ ty.toString) = some (dA ty)) (hca : ca = .inl (ty, a0)) (ha : ∀ cA : ClassId, vp_cell cA a0 = arrV cA N (fun _ => defaultValue ty)) (hn : ¬ n < 0) (hN : n.toNatClampNeg = N) (hbytes : N * componentBytes ty ≤ 536870912) (hcells : cells + 1 ≤ R.cells) (hslots : slots + N ≤ R.slots) (hdg : decode (am_mB mi) pc = .ok (.newarray t, 2))
    (kk : ∀ (H1 : Heap), am_rp D bs ad dA (hp ++ [ca]) H1 → va_S (fun q => bs ≤ q) s.heap H1 locs → W p l e R s m args below meth c H1 locs (cells + 1) (slots + N) Q (F0 m (pc + 2) ls (.ref (bs + hp.length) :: rest))) : W p l e R s m args below meth c H locs cells slots Q (F0 m pc ls (.int n :: rest)) := by
  obtain ⟨hx, hb, hml, hown, hts, hKF, -⟩ := hX
  subst hty
  subst hca
  refine va_newaK hx hb (hts _ hac) rfl hdg rfl hn hN hbytes hcells hslots hr.1 fun H1 cA e1 z1 o1 hAr hNm => ?_
  have e : cA = dA (newarray.typeOf t) := Option.some.inj (hNm.symm.trans (hRA (hKF.1.2 t0 _ ht0).2))
  subst e
  refine kk H1 (hr.push ?_ (by rw [z1, hr.1]) (fun q hq => o1 q (by rw [← hr.1]; exact hq))) ⟨Nat.le_trans hS.1 (by rw [z1, hr.1]; omega), fun q h1 h2 => (o1 q (by have := hS.1; rw [hr.1] at this; omega)).trans (hS.2.1 q h1 h2), hS.2.2⟩
  show H1[H.size]? = some (vp_cell _ _)
  rw [ha, hr.1]
  exact e1
/-- a new object -/
theorem am_newo {ls : Array Slot} {pc N ci index : Nat} {C : String} {T : u_T} {rest : List Value} (hX : am_Cx p s m args meth c R D bs ad dA ro mi) (hr : am_rp D bs ad dA hp H) (hS : va_S (fun q => bs ≤ q) s.heap H locs) (hcl : am_cl[ci]? = some (C, T, N)) (h1 : Cond.classLink (am_mO mi) index C ∈ am_TB) (h2 : Cond.instantiable C N ∈ am_TB) (h3 : Cond.initialized C ∈ am_TB) (hdf : ∀ ty : Nat → FieldType, (∀ k, k < N → parseFieldDescriptor (T k).2.2.1 = some (ty k)) → ∀ j, j < N → defaultValue (ty j) = vp_V ((am_df ci).map (am_cv bs ad)) j) (hcells : cells + 1 ≤ R.cells) (hslots : slots + N ≤ R.slots) (hdg : decode (am_mB mi) pc = .ok (.new index, 3))
    (kk : ∀ (H1 : Heap), am_rp D bs ad dA (hp ++ [.inr (ci, am_df ci)]) H1 → va_S (fun q => bs ≤ q) s.heap H1 locs → W p l e R s m args below meth c H1 locs (cells + 1) (slots + N) Q (F0 m (pc + 3) ls (.ref (bs + hp.length) :: rest))) : W p l e R s m args below meth c H locs cells slots Q (F0 m pc ls rest) := by
  obtain ⟨hx, hb, hml, hown, hts, hKF, -⟩ := hX
  obtain ⟨hws, ty0, hty, hnm⟩ := am_cl_ok hcl
  have hKn := hKF.1.1 ci _ hcl
  refine W.newcK hx hb hown (hts _ h1) (hts _ h2) (hts _ h3) rfl hdg hcells hslots hKn.2.1 hr.1 fun H1 kC hkC e1 z1 o1 => ?_
  refine kk H1 (hr.push ?_ (by rw [z1, hr.1]) (fun q hq => o1 q (by rw [← hr.1]; exact hq))) ⟨Nat.le_trans hS.1 (by rw [z1, hr.1]; omega), fun q h1 h2 => (o1 q (by have := hS.1; rw [hr.1] at this; omega)).trans (hS.2.1 q h1 h2), hS.2.2⟩
  rw [hr.1]
  exact ⟨_, hcl, (u_born ty0 hts hws hKn hkC e1 hty).to (hdf ty0 hty)⟩
end AMS
