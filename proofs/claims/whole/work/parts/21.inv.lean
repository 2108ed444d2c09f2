/-! inversions -/
theorem am_sk_99 : ∀ q ∈ am_sk, Nat.beq q.2.2.2 99 = false := by decide +kernel
theorem am_i1_inv {α : Type} {st : List Value} {f : Int32 → List Value → Option α} {z : α} (h : am_i1 st f = some z) : ∃ x r, st = .int x :: r ∧ f x r = some z := by
  unfold am_i1 at h
  split at h
  · exact ⟨_, _, rfl, h⟩
  · cases h
theorem am_i2_inv {α : Type} {st : List Value} {f : Int32 → Int32 → List Value → Option α} {z : α} (h : am_i2 st f = some z) : ∃ x y r, st = .int y :: .int x :: r ∧ f x y r = some z := by
  unfold am_i2 at h
  split at h
  · exact ⟨_, _, _, rfl, h⟩
  · cases h
theorem am_l1_inv {st : List Value} {f : Int64 → List Value → Option am_R} {z : am_R} (h : am_l1 st f = some z) : ∃ x r, st = .long x :: r ∧ f x r = some z := by
  unfold am_l1 at h
  split at h
  · exact ⟨_, _, rfl, h⟩
  · cases h
theorem am_l2_inv {st : List Value} {f : Int64 → Int64 → List Value → Option am_R} {z : am_R} (h : am_l2 st f = some z) : ∃ x y r, st = .long y :: .long x :: r ∧ f x y r = some z := by
  unfold am_l2 at h
  split at h
  · exact ⟨_, _, _, rfl, h⟩
  · cases h
theorem am_a1_inv {st : List Value} {f : Value → List Value → Option am_R} {z : am_R} (h : am_a1 st f = some z) : ∃ x r, st = x :: r ∧ am_ok1 x = true ∧ f x r = some z := by
  unfold am_a1 at h
  split at h
  · split at h
    · next e => exact ⟨_, _, rfl, e, h⟩
    · cases h
  · cases h
theorem am_cv_ra {bs k : Nat} {ad : Nat → Nat} (h : Nat.beq k 99 = false) : am_cv bs ad (.retAddr (k + 1)) = .ref (ad k) := by
  show (bif Nat.beq k 99 then _ else _) = _
  rw [h]
  rfl
/-- a reference is one of the row, or one from before -/
theorem am_ok1_or {v : Value} (h : am_ok1 v = true) : (∃ a, v = .ref a) ∨ ∃ k, v = .retAddr (k + 1) ∧ Nat.beq k 99 = false := by
  unfold am_ok1 at h
  split at h
  · exact Or.inl ⟨_, rfl⟩
  · next k => exact Or.inr ⟨_, rfl, by simpa using h⟩
  · cases h
theorem am_ok1_cv {bs : Nat} {ad : Nat → Nat} {v : Value} (h : am_ok1 v = true) : ∃ a, am_cv bs ad v = .ref a := by
  rcases am_ok1_or h with ⟨a, rfl⟩ | ⟨k, rfl, hk⟩
  · exact ⟨_, rfl⟩
  · exact ⟨_, am_cv_ra hk⟩
theorem am_ok1_okv {v : Value} (h : am_ok1 v = true) : am_okv v = true := by
  rcases am_ok1_or h with ⟨a, rfl⟩ | ⟨k, rfl, hk⟩ <;> rfl
theorem am_v1_inv {st : List Value} {f : Value → List Value → Option am_R} {z : am_R} (h : am_v1 st f = some z) : ∃ x r, st = x :: r ∧ f x r = some z := by
  unfold am_v1 at h
  split at h
  · exact ⟨_, _, rfl, h⟩
  · cases h
theorem am_v2_inv {st : List Value} {f : Value → Value → List Value → Option am_R} {z : am_R} (h : am_v2 st f = some z) : ∃ x y r, st = x :: y :: r ∧ f x y r = some z := by
  unfold am_v2 at h
  split at h
  · exact ⟨_, _, _, rfl, h⟩
  · cases h
theorem am_ia_inv {st : List Value} {f : Int32 → Value → List Value → Option am_R} {z : am_R} (h : am_ia st f = some z) : ∃ x y r, st = .int x :: y :: r ∧ f x y r = some z := by
  unfold am_ia at h
  split at h
  · exact ⟨_, _, _, rfl, h⟩
  · cases h
theorem am_iia_inv {st : List Value} {f : Int32 → Int32 → Nat → List Value → Option am_R} {z : am_R} (h : am_iia st f = some z) : ∃ x i a r, st = .int x :: .int i :: .ref a :: r ∧ f x i a r = some z := by
  unfold am_iia at h
  split at h
  · exact ⟨_, _, _, _, rfl, h⟩
  · cases h
theorem am_lia_inv {st : List Value} {f : Int64 → Int32 → Nat → List Value → Option am_R} {z : am_R} (h : am_lia st f = some z) : ∃ x i a r, st = .long x :: .int i :: .ref a :: r ∧ f x i a r = some z := by
  unfold am_lia at h
  split at h
  · exact ⟨_, _, _, _, rfl, h⟩
  · cases h
theorem am_va_inv {st : List Value} {f : Value → Nat → List Value → Option am_R} {z : am_R} (h : am_va st f = some z) : ∃ x y r, st = x :: .ref y :: r ∧ f x y r = some z := by
  unfold am_va at h
  split at h
  · exact ⟨_, _, _, rfl, h⟩
  · cases h
theorem am_li_inv {L : List Value} {i : Nat} {f : Int32 → Option am_R} {z : am_R} (h : am_li L i f = some z) : ∃ x, L[i]? = some (.int x) ∧ f x = some z := by
  unfold am_li at h
  split at h
  · next e => exact ⟨_, e, h⟩
  · cases h
theorem am_ll_inv {L : List Value} {i : Nat} {f : Int64 → Option am_R} {z : am_R} (h : am_ll L i f = some z) : ∃ x, L[i]? = some (.long x) ∧ f x = some z := by
  unfold am_ll at h
  split at h
  · next e => exact ⟨_, e, h⟩
  · cases h
theorem am_la_inv {L : List Value} {i : Nat} {f : Value → Option am_R} {z : am_R} (h : am_la L i f = some z) : ∃ x, L[i]? = some x ∧ am_ok1 x = true ∧ f x = some z := by
  unfold am_la at h
  split at h
  · next e =>
    split at h
    · next e2 => exact ⟨_, e, e2, h⟩
    · cases h
  · cases h
theorem am_s1_inv {L : List Value} {i : Nat} {v : Value} {f : List Value → Option am_R} {z : am_R} (h : am_s1 L i v f = some z) : am_pr L i = true ∧ f (L.set i v) = some z := by
  unfold am_s1 at h
  split at h
  · next e => exact ⟨e, h⟩
  · cases h
theorem am_s2_inv {L : List Value} {i : Nat} {v : Value} {f : List Value → Option am_R} {z : am_R} (h : am_s2 L i v f = some z) : am_pr L i = true ∧ f ((L.set i v).set (i + 1) am_un) = some z := by
  unfold am_s2 at h
  split at h
  · next e => exact ⟨e, h⟩
  · cases h
theorem am_ov_inv {α : Type} {o : Option α} {f : α → Option am_R} {z : am_R} (h : am_ov o f = some z) : ∃ v, o = some v ∧ f v = some z := by
  unfold am_ov at h
  split at h
  · exact ⟨_, rfl, h⟩
  · cases h
theorem am_bt_inv {b : Bool} {o : Option am_R} {z : am_R} (h : am_bt b o = some z) : b = true ∧ o = some z := by
  unfold am_bt at h
  split at h
  · exact ⟨rfl, h⟩
  · cases h
theorem am_kf_inv {o : Option (Nat × Nat × FieldType)} {f : Nat → Nat → FieldType → Option am_R} {z : am_R} (h : am_kf o f = some z) : ∃ ci k ty, o = some (ci, k, ty) ∧ f ci k ty = some z := by
  unfold am_kf at h
  split at h
  · exact ⟨_, _, _, rfl, h⟩
  · cases h
theorem am_ob_inv {o : Option am_C} {ci : Nat} {fs : List Value} (h : am_ob o ci = some fs) : o = some (.inr (ci, fs)) := by
  unfold am_ob at h
  split at h
  · split at h
    · next e => cases h; rw [Nat.eq_of_beq_eq_true e]
    · cases h
  · cases h
theorem am_ai_inv {o : Option am_C} {f : Nat → (Nat → Int32) → Option am_R} {z : am_R} (h : am_ai o f = some z) : ∃ n g, o = some (.inl (.int, n, .inl g)) ∧ f n g = some z := by
  unfold am_ai at h
  split at h
  · exact ⟨_, _, rfl, h⟩
  · cases h
theorem am_az_inv {o : Option am_C} {f : Nat → (Nat → Int32) → Option am_R} {z : am_R} (h : am_az o f = some z) : ∃ n g, o = some (.inl (.boolean, n, .inl g)) ∧ f n g = some z := by
  unfold am_az at h
  split at h
  · exact ⟨_, _, rfl, h⟩
  · cases h
theorem am_al_inv {o : Option am_C} {f : Nat → (Nat → Int64) → Option am_R} {z : am_R} (h : am_al o f = some z) : ∃ n g, o = some (.inl (.long, n, .inr (.inl g))) ∧ f n g = some z := by
  unfold am_al at h
  split at h
  · exact ⟨_, _, rfl, h⟩
  · cases h
theorem am_ab_inv {ro : Nat → Option am_C} {hp : am_H} {v : Value} {f : Nat → (Nat → Int32) → Option am_R} {z : am_R} (h : am_ab ro hp v f = some z) : ∃ n g, ((∃ a, v = .ref a ∧ hp[a]? = some (.inl (.boolean, n, .inl g))) ∨ (∃ k, v = .retAddr (k + 1) ∧ ro k = some (.inl (.byte, n, .inl g)))) ∧ f n g = some z := by
  unfold am_ab at h
  split at h
  · obtain ⟨n, g, e, h⟩ := am_az_inv h
    exact ⟨n, g, Or.inl ⟨_, rfl, e⟩, h⟩
  · split at h
    · next e => exact ⟨_, _, Or.inr ⟨_, rfl, e⟩, h⟩
    · cases h
  · cases h
theorem am_an_inv {ro : Nat → Option am_C} {hp : am_H} {v : Value} {f : Nat → Option am_R} {z : am_R} (h : am_an ro hp v f = some z) : ∃ n, ((∃ a g, v = .ref a ∧ hp[a]? = some (.inl (.int, n, g))) ∨ (∃ k ty g, v = .retAddr (k + 1) ∧ ro k = some (.inl (ty, n, .inl g)))) ∧ f n = some z := by
  unfold am_an at h
  split at h
  · split at h
    · next e => exact ⟨_, Or.inl ⟨_, _, rfl, e⟩, h⟩
    · cases h
  · split at h
    · next e => exact ⟨_, Or.inr ⟨_, _, _, rfl, e⟩, h⟩
    · cases h
  · cases h
theorem am_gf_inv {ro : Nat → Option am_C} {hp : am_H} {v : Value} {kF kQ : Option (Nat × Nat)} {w : Value} (h : am_gf ro hp v kF kQ = some w) : ∃ ci k fs, ((∃ a, v = .ref a ∧ kF = some (ci, k) ∧ hp[a]? = some (.inr (ci, fs))) ∨ (∃ j, v = .retAddr (j + 1) ∧ kQ = some (ci, k) ∧ ro j = some (.inr (ci, fs)))) ∧ fs[k]? = some w := by
  unfold am_gf at h
  split at h
  · split at h
    · split at h
      · next e => exact ⟨_, _, _, Or.inl ⟨_, rfl, rfl, am_ob_inv e⟩, h⟩
      · cases h
    · cases h
  · split at h
    · split at h
      · next e => exact ⟨_, _, _, Or.inr ⟨_, rfl, rfl, am_ob_inv e⟩, h⟩
      · cases h
    · cases h
  · cases h
theorem am_gi_any {ro : Nat → Option am_C} {hp : am_H} {v : Value} {c : am_C} (h : am_gi ro hp v = some c) : (∃ a, v = .ref a ∧ hp[a]? = some c) ∨ (∃ k, v = .retAddr (k + 1) ∧ ro k = some c) := by
  unfold am_gi at h
  split at h
  · exact Or.inl ⟨_, rfl, h⟩
  · exact Or.inr ⟨_, rfl, h⟩
  · cases h
theorem am_blt_t {a b : Nat} (h : Nat.blt a b = true) : a < b := Nat.le_of_ble_eq_true h
theorem am_nf_ok {ty : FieldType} {v : Value} (h : am_ph (am_nf ty v)) : narrow ty v = v ∧ fits ty v = true := by
  unfold am_nf at h
  split at h
  · exact ⟨rfl, rfl⟩
  · exact ⟨rfl, rfl⟩
  · exact ⟨rfl, rfl⟩
  · exact ⟨rfl, rfl⟩
  · exact h
/-! what the table's check gives -/
theorem am_dcl {mi pc nx t k : Nat} {i : Instr} (hd : am_cd mi pc = some (i, nx, t)) (hk : am_len i = k + 1) : decode (am_mB mi) pc = .ok (i, k + 1) ∧ nx = pc + (k + 1) := by
  obtain ⟨n, h1, h2, -⟩ := am_cd_ok hd
  have : n = k + 1 ∧ nx = pc + (k + 1) := by
    cases i <;> simp [am_len] at hk <;> subst hk <;> simp_all [am_ck, am_len]
  exact ⟨by rw [← this.1]; exact h1, this.2⟩
theorem am_dc {mi pc nx t k : Nat} {i : Instr} (hd : am_cd mi pc = some (i, nx, t)) (hk : am_len i = k + 1) : decode (am_mB mi) pc = .ok (i, k + 1) := (am_dcl hd hk).1
theorem am_nx {mi pc nx t k : Nat} {i : Instr} (hd : am_cd mi pc = some (i, nx, t)) (hk : am_len i = k + 1) : nx = pc + (k + 1) := (am_dcl hd hk).2
theorem am_ck_of {mi pc nx t : Nat} {i : Instr} (hd : am_cd mi pc = some (i, nx, t)) : ∃ n, am_ck (am_mL mi) pc nx t n i = true := by
  obtain ⟨n, h1, h2, -⟩ := am_cd_ok hd
  exact ⟨n, h2⟩
theorem am_kc_iconst {mi pc nx t : Nat} {v : Int} (hd : am_cd mi pc = some (.iconst v, nx, t)) : Int32.ofInt v = am_ki v := by
  obtain ⟨n, h⟩ := am_ck_of hd
  simp only [am_ck, Bool.and_eq_true, decide_eq_true_eq] at h
  exact h.2
theorem am_kc_bipush {mi pc nx t : Nat} {v : Int} (hd : am_cd mi pc = some (.bipush v, nx, t)) : (Int8.ofInt v).toInt32 = am_ki v := by
  obtain ⟨n, h⟩ := am_ck_of hd
  simp only [am_ck, Bool.and_eq_true, decide_eq_true_eq] at h
  exact h.2
theorem am_kc_sipush {mi pc nx t : Nat} {v : Int} (hd : am_cd mi pc = some (.sipush v, nx, t)) : (Int16.ofInt v).toInt32 = am_ki v := by
  obtain ⟨n, h⟩ := am_ck_of hd
  simp only [am_ck, Bool.and_eq_true, decide_eq_true_eq] at h
  exact h.2
theorem am_kc_iinc {mi pc nx t j : Nat} {v : Int} (hd : am_cd mi pc = some (.iinc j v, nx, t)) : Int32.ofInt v = am_ki v ∧ j < am_mL mi := by
  obtain ⟨n, h⟩ := am_ck_of hd
  simp only [am_ck, Bool.and_eq_true, decide_eq_true_eq] at h
  exact ⟨h.1.2, am_blt_t h.2⟩
theorem am_kc_istore {mi pc nx t : Nat} {j : Nat} (hd : am_cd mi pc = some (.istore j, nx, t)) : j < am_mL mi := by
  obtain ⟨n, h⟩ := am_ck_of hd
  simp only [am_ck, Bool.and_eq_true] at h
  exact am_blt_t h.2
theorem am_kc_astore {mi pc nx t : Nat} {j : Nat} (hd : am_cd mi pc = some (.astore j, nx, t)) : j < am_mL mi := by
  obtain ⟨n, h⟩ := am_ck_of hd
  simp only [am_ck, Bool.and_eq_true] at h
  exact am_blt_t h.2
theorem am_kc_lstore {mi pc nx t : Nat} {j : Nat} (hd : am_cd mi pc = some (.lstore j, nx, t)) : j + 1 < am_mL mi := by
  obtain ⟨n, h⟩ := am_ck_of hd
  simp only [am_ck, Bool.and_eq_true] at h
  exact am_blt_t h.2
theorem am_kc_istore_n {mi pc nx t : Nat} {j : Fin 4} (hd : am_cd mi pc = some (.istore_n j, nx, t)) : j.val < am_mL mi := by
  obtain ⟨n, h⟩ := am_ck_of hd
  simp only [am_ck, Bool.and_eq_true] at h
  exact am_blt_t h.2
theorem am_kc_astore_n {mi pc nx t : Nat} {j : Fin 4} (hd : am_cd mi pc = some (.astore_n j, nx, t)) : j.val < am_mL mi := by
  obtain ⟨n, h⟩ := am_ck_of hd
  simp only [am_ck, Bool.and_eq_true] at h
  exact am_blt_t h.2
theorem am_kc_lstore_n {mi pc nx t : Nat} {j : Fin 4} (hd : am_cd mi pc = some (.lstore_n j, nx, t)) : j.val + 1 < am_mL mi := by
  obtain ⟨n, h⟩ := am_ck_of hd
  simp only [am_ck, Bool.and_eq_true] at h
  exact am_blt_t h.2
theorem am_kc_goto {mi pc nx t : Nat} {off : Int} (hd : am_cd mi pc = some (.goto off, nx, t)) : (pc : Int) + off = (t : Int) := by
  obtain ⟨n, h⟩ := am_ck_of hd
  simp only [am_ck, Bool.and_eq_true, decide_eq_true_eq] at h
  exact h.2
theorem am_kc_ifCond {mi pc nx t : Nat} {cn : Jvm.ClassFile.Cond} {off : Int} (hd : am_cd mi pc = some (.ifCond cn off, nx, t)) : (pc : Int) + off = (t : Int) := by
  obtain ⟨n, h⟩ := am_ck_of hd
  simp only [am_ck, Bool.and_eq_true, decide_eq_true_eq] at h
  exact h.2
theorem am_kc_if_icmp {mi pc nx t : Nat} {cn : Jvm.ClassFile.Cond} {off : Int} (hd : am_cd mi pc = some (.if_icmp cn off, nx, t)) : (pc : Int) + off = (t : Int) := by
  obtain ⟨n, h⟩ := am_ck_of hd
  simp only [am_ck, Bool.and_eq_true, decide_eq_true_eq] at h
  exact h.2
/-! locals -/
theorem am_en_mem {bs : Nat} {ad : Nat → Nat} {L : List Value} {i : Nat} {v : Value} (h : L[i]? = some v) (hv : am_okv v = true) : (i, am_cv bs ad v) ∈ am_en bs ad L := by
  refine List.mem_filterMap.mpr ⟨i, List.mem_range.mpr (List.getElem?_eq_some_iff.mp h).1, ?_⟩
  simp [h, hv]
theorem am_en_of {bs : Nat} {ad : Nat → Nat} {L : List Value} {q : Nat × Value} (h : q ∈ am_en bs ad L) : ∃ v, L[q.1]? = some v ∧ am_okv v = true ∧ q.2 = am_cv bs ad v := by
  obtain ⟨i, -, hi⟩ := List.mem_filterMap.mp h
  split at hi
  · next v hv =>
    split at hi
    · next ho =>
      cases hi
      exact ⟨v, hv, ho, rfl⟩
    · cases hi
  · cases hi
theorem am_cv_cat {bs : Nat} {ad : Nat → Nat} (v : Value) : (am_cv bs ad v).category = v.category := by
  cases v with
  | retAddr n =>
    cases n with
    | zero => rfl
    | succ k =>
      show (bif Nat.beq k 99 then (match ad 99 with | 0 => Value.null | a + 1 => .ref a) else .ref (ad k)).category = 1
      cases Nat.beq k 99 with
      | false => rfl
      | true => show (match ad 99 with | 0 => Value.null | a + 1 => .ref a).category = 1; split <;> rfl
  | _ => rfl
theorem am_load {bs : Nat} {ad : Nat → Nat} {n : Nat} {L : List Value} {ls : Array Slot} (h : lv_has ls n (am_en bs ad L)) {i : Nat} {v : Value} (hi : L[i]? = some v) (hv : am_okv v = true) : ls[i]? = some (.val (am_cv bs ad v)) := h.2.2 _ (am_en_mem hi hv)
theorem am_pr_spec {L : List Value} {i j : Nat} (h : am_pr L i = true) (hj : j + 1 = i) {v : Value} (hv : L[j]? = some v) : v.category = 1 := by
  subst hj
  simp only [am_pr, hv] at h
  exact Nat.eq_of_beq_eq_true h
theorem am_store1 {bs : Nat} {ad : Nat → Nat} {n : Nat} {L : List Value} {ls' : Array Slot} {i : Nat} {v : Value} (hp : am_pr L i = true) (h : lv_has ls' n ((i, am_cv bs ad v) :: (am_en bs ad L).filter (fun q => !(q.1 == i) && !(q.1 + 1 == i && q.2.category == 2)))) : lv_has ls' n (am_en bs ad (L.set i v)) := by
  refine ⟨h.1, h.2.1, fun q hq => ?_⟩
  obtain ⟨w, hw, ho, he⟩ := am_en_of hq
  by_cases hi : q.1 = i
  · have hs : (L.set i v)[i]? = some w := hi ▸ hw
    have hlt : i < L.length := by
      have := (List.getElem?_eq_some_iff.mp hs).1
      simpa using this
    rw [List.getElem?_set_self hlt] at hs
    cases hs
    have := h.2.2 (i, am_cv bs ad v) List.mem_cons_self
    rw [hi, he]
    exact this
  · rw [List.getElem?_set_ne (fun e => hi e.symm)] at hw
    refine h.2.2 q (List.mem_cons_of_mem _ (List.mem_filter.mpr ⟨?_, ?_⟩))
    · have hm := am_en_mem (bs := bs) (ad := ad) hw ho
      rw [← he] at hm
      exact hm
    · have hc : q.1 + 1 = i → q.2.category = 1 := fun e => by rw [he, am_cv_cat]; exact am_pr_spec hp e hw
      by_cases e : q.1 + 1 = i
      · simp [hi, hc e]
      · simp [hi, e]
theorem am_store2 {bs : Nat} {ad : Nat → Nat} {n : Nat} {L : List Value} {ls' : Array Slot} {i : Nat} {v : Value} (hp : am_pr L i = true) (h : lv_has ls' n ((i, am_cv bs ad v) :: (am_en bs ad L).filter (fun q => !(q.1 == i) && (!(q.1 == i + 1) && !(q.1 + 1 == i && q.2.category == 2))))) : lv_has ls' n (am_en bs ad ((L.set i v).set (i + 1) am_un)) := by
  refine ⟨h.1, h.2.1, fun q hq => ?_⟩
  obtain ⟨w, hw, ho, he⟩ := am_en_of hq
  by_cases h1 : q.1 = i + 1
  · have hs : ((L.set i v).set (i + 1) am_un)[i + 1]? = some w := h1 ▸ hw
    have hlt : i + 1 < (L.set i v).length := by
      have := (List.getElem?_eq_some_iff.mp hs).1
      simpa using this
    rw [List.getElem?_set_self hlt] at hs
    cases hs
    cases ho
  · rw [List.getElem?_set_ne (fun e => h1 e.symm)] at hw
    by_cases hi : q.1 = i
    · have hs : (L.set i v)[i]? = some w := hi ▸ hw
      have hlt : i < L.length := by
        have := (List.getElem?_eq_some_iff.mp hs).1
        simpa using this
      rw [List.getElem?_set_self hlt] at hs
      cases hs
      have := h.2.2 (i, am_cv bs ad v) List.mem_cons_self
      rw [hi, he]
      exact this
    · rw [List.getElem?_set_ne (fun e => hi e.symm)] at hw
      refine h.2.2 q (List.mem_cons_of_mem _ (List.mem_filter.mpr ⟨?_, ?_⟩))
      · have hm := am_en_mem (bs := bs) (ad := ad) hw ho
        rw [← he] at hm
        exact hm
      · have hc : q.1 + 1 = i → q.2.category = 1 := fun e => by rw [he, am_cv_cat]; exact am_pr_spec hp e hw
        by_cases e : q.1 + 1 = i
        · simp [hi, h1, hc e]
        · simp [hi, h1, e]
/-! cells -/
theorem am_rp.set {D : va_G} {bs : Nat} {ad : Nat → Nat} {dA : FieldType → ClassId} {hp : am_H} {H H1 : Heap} {i : Nat} {c : am_C} (h : am_rp D bs ad dA hp H) (hc : va_at D am_cl (bs + i, am_ce bs ad dA c) H1) (hz : H1.size = H.size) (ho : ∀ q, q ≠ bs + i → H1[q]? = H[q]?) : am_rp D bs ad dA (hp.set i c) H1 := by
  refine ⟨by rw [hz, h.1, List.length_set], fun j d hj => ?_⟩
  by_cases e : j = i
  · subst e
    have hlt : j < hp.length := by
      have := (List.getElem?_eq_some_iff.mp hj).1
      simpa using this
    rw [List.getElem?_set_self hlt] at hj
    cases hj
    exact hc
  · rw [List.getElem?_set_ne (fun q => e q.symm)] at hj
    exact (h.2 j d hj).kept (ho _ (by show bs + j ≠ bs + i; omega))
theorem am_rp.push {D : va_G} {bs : Nat} {ad : Nat → Nat} {dA : FieldType → ClassId} {hp : am_H} {H H1 : Heap} {c : am_C} (h : am_rp D bs ad dA hp H) (hc : va_at D am_cl (H.size, am_ce bs ad dA c) H1) (hz : H1.size = H.size + 1) (ho : ∀ q, q < H.size → H1[q]? = H[q]?) : am_rp D bs ad dA (hp ++ [c]) H1 := by
  refine ⟨by rw [hz, h.1]; simp; omega, fun j d hj => ?_⟩
  by_cases e : j < hp.length
  · rw [List.getElem?_append_left e] at hj
    exact (h.2 j d hj).kept (ho _ (by show bs + j < _; rw [h.1]; omega))
  · rw [List.getElem?_append_right (by omega)] at hj
    have hz1 : j - hp.length < 1 := (List.getElem?_eq_some_iff.mp hj).1
    have hj0 : j = hp.length := by omega
    subst hj0
    simp at hj
    subst hj
    rw [← h.1]
    exact hc
theorem am_sz_set {c d : am_C} (hs : am_cs d = am_cs c) : ∀ {hp : am_H} {i : Nat}, hp[i]? = some c → am_sz (hp.set i d) = am_sz hp := by
  intro hp
  induction hp with
  | nil => intro i h; cases h
  | cons a r ih =>
    intro i h
    cases i with
    | zero =>
      simp at h
      subst h
      simp [am_sz, hs]
    | succ i =>
      simp at h
      simp [am_sz, ih h]
theorem am_sz_app (c : am_C) : ∀ hp : am_H, am_sz (hp ++ [c]) = am_sz hp + am_cs c := by
  intro hp
  induction hp with
  | nil => simp [am_sz]
  | cons a r ih => simp [am_sz, ih]; omega
theorem am_P1 {D : va_G} {q : Nat × va_E} {H : Heap} (h : va_at D am_cl q H) : va_P D am_cl [q] H := by
  intro k x hx
  cases k with
  | zero => cases hx; exact h
  | succ k => simp at hx
