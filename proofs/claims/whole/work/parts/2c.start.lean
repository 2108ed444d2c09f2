/-! FROM THE LAW'S ENTRY to the abstract machine -/
def st_len : List Nat := [4, 4, 1, 1, 1, 7, 6, 3, 4]
def st_byt : List (List Int32) := [[99, 111, 100, 101], [119, 104, 101, 110], [60], [61], [62], [103, 101, 110, 101, 114, 97, 108], [109, 105, 114, 114, 111, 114], [109, 97, 112], [110, 97, 109, 101]]
def st_idx : List Nat := [54, 98, 106, 108, 110, 63, 68, 73, 78]
def st_tm (i : Nat) : Term := .string "CodeRules$Rules" (st_idx.getD i 0)
theorem am_inst_ok {ci : Nat} {q : vw_C} (h : am_cl[ci]? = some q) : Cond.instantiable q.1 q.2.2 ∈ am_TB := by
  have h0 : ∀ ci, ci < am_cl.length → am_cf ci (fun q => am_isw (am_cP ci).1 (.instantiable q.1 q.2.2)) = true := by decide +kernel
  obtain ⟨C, T, N, h1, h2⟩ := am_cf_of (h0 ci (List.getElem?_eq_some_iff.mp h).1)
  rw [h] at h1
  cases h1
  exact am_isw_of h2
theorem st_ref {A : Array Value} {s : State} (hts : ∀ w ∈ lw_tbl, w.before A s = true) {ad : Nat → Nat} (he : ∀ i : Nat, i < 9 → (st_tm i).eval A s none [] s = some (.ref (ad (1 + 2 * i)))) : ∀ q ∈ am_sk, vk_R q.1 q.2.1 q.2.2.1 (ad q.2.2.2) s := by
  intro q hq
  simp only [am_sk, List.mem_cons, List.not_mem_nil, or_false] at hq
  rcases hq with rfl | rfl | rfl | rfl | rfl | rfl | rfl | rfl | rfl
  · exact vk_R.of (hts _ (am_at_in (k := 2093) (by decide +kernel))) (he 0 (by decide))
  · exact vk_R.of (hts _ (am_at_in (k := 2173) (by decide +kernel))) (he 1 (by decide))
  · exact vk_R.of (hts _ (am_at_in (k := 2182) (by decide +kernel))) (he 2 (by decide))
  · exact vk_R.of (hts _ (am_at_in (k := 2183) (by decide +kernel))) (he 3 (by decide))
  · exact vk_R.of (hts _ (am_at_in (k := 2184) (by decide +kernel))) (he 4 (by decide))
  · exact vk_R.of (hts _ (am_at_in (k := 2191) (by decide +kernel))) (he 5 (by decide))
  · exact vk_R.of (hts _ (am_at_in (k := 2205) (by decide +kernel))) (he 6 (by decide))
  · exact vk_R.of (hts _ (am_at_in (k := 2227) (by decide +kernel))) (he 7 (by decide))
  · exact vk_R.of (hts _ (am_at_in (k := 2241) (by decide +kernel))) (he 8 (by decide))
theorem st_S {A : Array Value} {s : State} (hg : ∀ w ∈ flatC (Jvm.Cond.and given_1 narrow_1), w.before A s = true) {B : Nat → Prop} (hB : ∀ a : Nat, a < s.heap.size → ¬ B a) : ∃ adK adV : Nat → Nat, vk_S 9 st_len st_byt adK adV B s s.heap ∧ ∀ i : Nat, i < 9 → (st_tm i).eval A s none [] s = some (.ref (adK i)) := by
  refine vk_Sof (tm := st_tm) (by decide +kernel) ?_ ?_ ?_ ?_ ?_ ?_ hB
  · intro i hi
    refine hg _ ?_
    revert hi
    revert i
    decide +kernel
  · intro i hi
    refine hg _ ?_
    revert hi
    revert i
    decide +kernel
  · intro i hi
    refine hg _ ?_
    revert hi
    revert i
    decide +kernel
  · intro i hi
    refine hg _ ?_
    revert hi
    revert i
    decide +kernel
  · intro i hi j hj
    refine hg _ ?_
    revert hj
    revert j
    revert hi
    revert i
    decide +kernel
  · intro i j hi hj hij
    have h0 : ∀ i, i < 9 → ∀ j, j < 9 → i ≠ j → (Cond.not (Cond.eq (st_tm i) (st_tm j))) ∈ flatC (Jvm.Cond.and given_1 narrow_1) ∨ (Cond.not (Cond.eq (st_tm j) (st_tm i))) ∈ flatC (Jvm.Cond.and given_1 narrow_1) := by decide +kernel
    rcases h0 i hi j hj hij with h | h
    · exact Or.inl (hg _ h)
    · exact Or.inr (hg _ h)
/-- where the cells from before lie -/
def st_ad (b z : Nat) (adK adV : Nat → Nat) (k : Nat) : Nat := if k = 0 then b else if k = 99 then z else if k % 2 = 1 then adK (k / 2) else adV (k / 2 - 1)
theorem st_rc {A : Array Value} {s : State} {b L z : Nat} {xs : Nat → Int32} {adK adV : Nat → Nat} (hX : va_X b L xs s s.heap) (hbl : b < s.heap.size) (hS : vk_S 9 st_len st_byt adK adV (fun q => s.heap.size ≤ q) s s.heap) : ∀ k c, wd_ro L xs k = some c → Nat.beq k 99 = false ∧ am_rc (wd_ro L xs) s.heap.size (st_ad b z adK adV) s s.heap k c := by
  intro k c h
  obtain ⟨hk, h⟩ := am_in_of h
  have hk : k = 0 ∨ k = 1 ∨ k = 2 ∨ k = 3 ∨ k = 4 ∨ k = 5 ∨ k = 6 ∨ k = 7 ∨ k = 8 ∨ k = 9 ∨ k = 10 ∨ k = 11 ∨ k = 12 ∨ k = 13 ∨ k = 14 ∨ k = 15 ∨ k = 16 ∨ k = 17 ∨ k = 18 := by omega
  rcases hk with rfl | rfl | rfl | rfl | rfl | rfl | rfl | rfl | rfl | rfl | rfl | rfl | rfl | rfl | rfl | rfl | rfl | rfl | rfl
  · cases h
    obtain ⟨scr, h1, h2, h3, h4, h5⟩ := hX
    refine ⟨rfl, scr, h1, h2, h3, Nat.le_of_eq h4.symm, by rw [h4], h5, ?_⟩
    show ¬ s.heap.size ≤ b
    omega
  · cases h
    obtain ⟨h1, h2, h3, -⟩ := hS.1 0 (by decide)
    refine ⟨rfl, h1, fun j v hv => ?_⟩
    match j, hv with
    | 0, hv => cases hv; exact h3
    | 1, hv => cases hv; exact h2
  · cases h
    exact ⟨rfl, (hS.1 0 (by decide)).2.2.2⟩
  · cases h
    obtain ⟨h1, h2, h3, -⟩ := hS.1 1 (by decide)
    refine ⟨rfl, h1, fun j v hv => ?_⟩
    match j, hv with
    | 0, hv => cases hv; exact h3
    | 1, hv => cases hv; exact h2
  · cases h
    exact ⟨rfl, (hS.1 1 (by decide)).2.2.2⟩
  · cases h
    obtain ⟨h1, h2, h3, -⟩ := hS.1 2 (by decide)
    refine ⟨rfl, h1, fun j v hv => ?_⟩
    match j, hv with
    | 0, hv => cases hv; exact h3
    | 1, hv => cases hv; exact h2
  · cases h
    exact ⟨rfl, (hS.1 2 (by decide)).2.2.2⟩
  · cases h
    obtain ⟨h1, h2, h3, -⟩ := hS.1 3 (by decide)
    refine ⟨rfl, h1, fun j v hv => ?_⟩
    match j, hv with
    | 0, hv => cases hv; exact h3
    | 1, hv => cases hv; exact h2
  · cases h
    exact ⟨rfl, (hS.1 3 (by decide)).2.2.2⟩
  · cases h
    obtain ⟨h1, h2, h3, -⟩ := hS.1 4 (by decide)
    refine ⟨rfl, h1, fun j v hv => ?_⟩
    match j, hv with
    | 0, hv => cases hv; exact h3
    | 1, hv => cases hv; exact h2
  · cases h
    exact ⟨rfl, (hS.1 4 (by decide)).2.2.2⟩
  · cases h
    obtain ⟨h1, h2, h3, -⟩ := hS.1 5 (by decide)
    refine ⟨rfl, h1, fun j v hv => ?_⟩
    match j, hv with
    | 0, hv => cases hv; exact h3
    | 1, hv => cases hv; exact h2
  · cases h
    exact ⟨rfl, (hS.1 5 (by decide)).2.2.2⟩
  · cases h
    obtain ⟨h1, h2, h3, -⟩ := hS.1 6 (by decide)
    refine ⟨rfl, h1, fun j v hv => ?_⟩
    match j, hv with
    | 0, hv => cases hv; exact h3
    | 1, hv => cases hv; exact h2
  · cases h
    exact ⟨rfl, (hS.1 6 (by decide)).2.2.2⟩
  · cases h
    obtain ⟨h1, h2, h3, -⟩ := hS.1 7 (by decide)
    refine ⟨rfl, h1, fun j v hv => ?_⟩
    match j, hv with
    | 0, hv => cases hv; exact h3
    | 1, hv => cases hv; exact h2
  · cases h
    exact ⟨rfl, (hS.1 7 (by decide)).2.2.2⟩
  · cases h
    obtain ⟨h1, h2, h3, -⟩ := hS.1 8 (by decide)
    refine ⟨rfl, h1, fun j v hv => ?_⟩
    match j, hv with
    | 0, hv => cases hv; exact h3
    | 1, hv => cases hv; exact h2
  · cases h
    exact ⟨rfl, (hS.1 8 (by decide)).2.2.2⟩
theorem st_gs {A : Array Value} {s : State} (hts : ∀ w ∈ lw_tbl, w.before A s = true) (hg : ∀ w ∈ flatC (Jvm.Cond.and given_1 narrow_1), w.before A s = true) {b : Nat} {adK adV : Nat → Nat} : ∃ z : Nat, ∀ q ∈ am_gs, va_Z q.1 q.2.1 q.2.2.1 (am_cv s.heap.size (st_ad b z adK adV) q.2.2.2) (fun q => s.heap.size ≤ q) s s.heap := by
  have hA : ∀ a : Nat, a < s.heap.size → ¬ s.heap.size ≤ a := fun a h => by omega
  have h1 : va_Z "java/lang/String" "COMPACT_STRINGS" "Z" (.int 1) (fun q => s.heap.size ≤ q) s s.heap := va_Zof (hts _ (am_at_in (k := 2107) (by decide +kernel))) (hts _ (am_at_in (k := 1036) (by decide +kernel))) (va_eqt (hg _ (by decide +kernel))) hA
  have h2 : va_Zq "jdk/internal/util/Preconditions" "SIOOBE_FORMATTER" "Ljava/util/function/BiFunction;" (fun q => s.heap.size ≤ q) s s.heap := va_Zqof (hts _ (am_at_in (k := 2127) (by decide +kernel))) (hts _ (am_at_in (k := 1038) (by decide +kernel))) (hg _ (by decide +kernel)) hA
  rcases h2 with h2 | ⟨t, h2⟩
  · refine ⟨0, fun q hq => ?_⟩
    simp only [am_gs, List.mem_cons, List.not_mem_nil, or_false] at hq
    rcases hq with rfl | rfl
    · exact h1
    · exact h2
  · refine ⟨t + 1, fun q hq => ?_⟩
    simp only [am_gs, List.mem_cons, List.not_mem_nil, or_false] at hq
    rcases hq with rfl | rfl
    · exact h1
    · exact h2
set_option maxHeartbeats 4000000 in
set_option maxRecDepth 100000 in
/-- the law's walk out of a run of the abstract machine -/
theorem am_start {p : Program} {e : Env} {s : State} {m : MethodId} {below : List Frame} {meth : Method} {c : Code} (l : Launch) {b L : Nat} {xs : Nat → Int32} (C0 : lw_At p s m meth c b L xs)
    (HR : am_T (wd_ro L xs) 12 154 0 (am_l0 154 [.retAddr 1]) [] [] (fun r hp' => r = some (.int 1) ∧ hp'.length ≤ 82 ∧ am_sz hp' ≤ 4590)) :
    W p l e room_1 s m #[Value.ref b] below meth c s.heap [] 0 0 (lw_Z below #[Value.ref b] s) (entryFrame m ([Value.ref b] : List Value).toArray 4) := by
  obtain ⟨hx, hb, hret, hml, hown, hts, hX, hbl, hlocks, hgv⟩ := C0
  obtain ⟨r, hp', ⟨k, hev⟩, rfl, hr1, hr2⟩ := HR
  have hg := flat_of_before _ hgv
  have hA : ∀ a : Nat, a < s.heap.size → ¬ s.heap.size ≤ a := fun a h => by omega
  have htB : ∀ w ∈ am_TB, w.before #[Value.ref b] s = true := fun w hw => hts w (List.mem_filter.mp hw).1
  have hcl : ∀ ci : Nat, ∃ q : ClassId × (Nat → Nat), ∀ z, am_cl[ci]? = some z → u_Kn s z.1 z.2.1 z.2.2 q.1 q.2 := by
    intro ci
    cases h : am_cl[ci]? with
    | none => exact ⟨(m.cls, fun _ => 0), fun z hz => by cases hz⟩
    | some z =>
      obtain ⟨cC, iS, hk⟩ := u_known htB (am_cl_ok (C := z.1) (T := z.2.1) (N := z.2.2) h).1 (htB _ (am_inst_ok h))
      exact ⟨(cC, iS), fun z' hz' => by cases hz'; exact hk⟩
  obtain ⟨g, hgk⟩ := Classical.axiomOfChoice hcl
  obtain ⟨cI, kI, qI, i1, i2, i3⟩ := Cond.arrayClass_spec (htB _ am_ac_int)
  obtain ⟨cZ, kZ, qZ, z1, z2, z3⟩ := Cond.arrayClass_spec (htB _ am_ac_boolean)
  obtain ⟨cJ, kJ, qJ, j1, j2, j3⟩ := Cond.arrayClass_spec (htB _ am_ac_long)
  obtain ⟨adK, adV, hS, hSe⟩ := st_S hg hA
  obtain ⟨z, hz⟩ := st_gs (b := b) (adK := adK) (adV := adV) hts hg
  have hKF : am_KF (fun c => (g c).1, fun c => (g c).2) s.heap.size (st_ad b z adK adV) (fun ty => match ty with | .int => cI | .boolean => cZ | _ => cJ) (wd_ro L xs) s s.heap := by
    refine ⟨⟨fun ci q hq => hgk ci q hq, fun k q hq => ?_⟩, fun w hw => ?_, st_rc (A := #[Value.ref b]) hX hbl hS, st_ref hts (fun i hi => ?_), hz⟩
    · match k, hq with
      | 0, hq => cases hq; exact ⟨fun n z => ⟨fun k h => (by cases h), kI, i2, qI, i3⟩, i1⟩
      | 1, hq => cases hq; exact ⟨fun n z => ⟨fun k h => (by cases h), kZ, z2, qZ, z3⟩, z1⟩
      | 2, hq => cases hq; exact ⟨fun n z => ⟨fun k h => (by cases h), kJ, j2, qJ, j3⟩, j1⟩
    · have h1 := hts w (List.mem_filter.mp hw).1
      have h2 := (List.mem_filter.mp hw).2
      refine va_tabs (A := #[Value.ref b]) ?_ rfl h1
      cases w <;> first | rfl | cases h2
    · rw [hSe i hi]
      unfold st_ad
      rw [if_neg (by omega), if_neg (by omega), if_pos (by omega), show (1 + 2 * i) / 2 = i by omega]
  have hX0 : am_Cx p s m #[Value.ref b] meth c room_1 (fun c => (g c).1, fun c => (g c).2) s.heap.size (st_ad b z adK adV) (fun ty => match ty with | .int => cI | .boolean => cZ | _ => cJ) (wd_ro L xs) 154 :=
    ⟨hx, hb, hml, hown, htB, hKF, (fun h => absurd h (by decide +kernel)), ⟨by decide, by decide⟩, Nat.le_refl _⟩
  have hl := lv_entry [Value.ref b] (n := 4) (Nat.le_of_ble_eq_true rfl)
  rw [lg_entry_eq]
  generalize (lg_sl [Value.ref b] ++ List.replicate (4 - (lg_sl [Value.ref b]).length) Slot.unset).toArray = ls at hl ⊢
  have hW := am_evW (Q := lw_Z below #[Value.ref b] s) (l := l) (e := e) (below := below) (n0 := 0) (z0 := 0) (d := 12) hX0 (fun mj as hp r hp' z => am_met 12 mj as hp r hp' z) ⟨by decide, by decide⟩ (r := some (.int 1)) (hp' := hp') ⟨hr1, hr2⟩ ?_ k 0 (am_l0 154 [.retAddr 1]) [] [] ⟨Nat.le_refl _, Nat.le_refl _⟩ hev
  · have h1 : lv_has ls (am_mL 154) (am_en s.heap.size (st_ad b z adK adV) (am_l0 154 [.retAddr 1])) := am_l0_has (bs := s.heap.size) (ad := st_ad b z adK adV) (mi := 154) (as := [.retAddr 1]) hl
    exact hW s.heap [] ls h1 ⟨by simp, fun i c hi => by cases hi⟩ va_S.rf
  · intro pc nx t L1 st i hd hf hk H locs ls1 hl1 hr3 hS1
    cases i with
    | ireturn =>
      simp only [am_fn] at hf
      split at hf
      · cases hf
        refine va_forget (fun q hq => hS1.2.2 q hq) (W.widen (k := 82) (n := 4590) (by omega) (by omega) ?_)
        exact lw_ret hx hb hret hlocks (am_dc hd rfl)
      · cases hf
    | lreturn =>
      simp only [am_fn] at hf
      split at hf <;> cases hf
    | return_ =>
      simp only [am_fn] at hf
      split at hf <;> cases hf
    | _ => cases hf
