/-! WHAT IS TO BE SHOWN OF A STRETCH OF CODE: am_wp reads the code off the table and says, step by step, what must hold -/
/-- from here the method ends, with an answer and a row of cells that K takes -/
noncomputable def am_T (ro : Nat → Option am_C) (d mi pc : Nat) (L st : List Value) (hp : am_H) (K : Option Value → am_H → Prop) : Prop := ∃ r hp', (∃ k, am_ev ro (am_run ro d) mi k pc L st hp r hp') ∧ K r hp'
theorem am_T.mono {ro : Nat → Option am_C} {d mi pc : Nat} {L st : List Value} {hp : am_H} {K K' : Option Value → am_H → Prop} (h : am_T ro d mi pc L st hp K) (g : ∀ r hp', K r hp' → K' r hp') : am_T ro d mi pc L st hp K' := by
  obtain ⟨r, hp', h1, h2⟩ := h
  exact ⟨r, hp', h1, g r hp' h2⟩
noncomputable def am_fk' (mi : Nat) (r : Option Value) (K : Prop) : Prop := match r with
  | some (.int x) => match am_mR mi with
    | some .int => K
    | some ty => narrow ty (.int x) = .int x ∧ K
    | none => False
  | some (.long _) => match am_mR mi with
    | some .long => K
    | _ => False
  | none => match am_mR mi with
    | none => K
    | _ => False
  | _ => False
theorem am_fk_of {mi : Nat} {r : Option Value} {K : Prop} (h : am_fk' mi r K) : am_fk mi r ∧ K := by
  unfold am_fk' at h
  split at h
  · split at h
    · next e => exact ⟨⟨.int, e, rfl⟩, h⟩
    · next e => exact ⟨⟨_, e, h.1⟩, h.2⟩
    · cases h
  · split at h
    · next e => exact ⟨e, h⟩
    · cases h
  · split at h
    · next e => exact ⟨e, h⟩
    · cases h
  · cases h
/-- a condition, where there is one, and what follows -/
noncomputable def am_an' (φ : Option Prop) (X : Prop) : Prop := match φ with
  | none => X
  | some c => c ∧ X
theorem am_an'_of {φ : Option Prop} {X : Prop} (h : am_an' φ X) : am_ph φ ∧ X := by
  cases φ with
  | none => exact ⟨trivial, h⟩
  | some c => exact h
/-- inl: the methods that are walked through at a call; the others are named by their run -/
noncomputable def am_wp (ro : Nat → Option am_C) (inl : List Nat) : Nat → Nat → Nat → List Nat → Nat → List Value → List Value → am_H → (Option Value → am_H → Prop) → Prop
  | 0, d, mi, _, pc, L, st, hp, K => am_T ro d mi pc L st hp K
  | n + 1, d, mi, stop, pc, L, st, hp, K => match am_cd mi pc with
    | none => False
    | some (i, nx, t) => match am_st ro mi pc nx t L st hp i with
      | some (pc1, L1, st1, hp1, φ) => am_an' φ (bif stop.elem pc1 then am_T ro d mi pc1 L1 st1 hp1 K else am_wp ro inl n d mi stop pc1 L1 st1 hp1 K)
      | none => match am_bc st i with
        | some (q, st1) => (q → bif stop.elem t then am_T ro d mi t L st1 hp K else am_wp ro inl n d mi stop t L st1 hp K) ∧ (¬ q → bif stop.elem nx then am_T ro d mi nx L st1 hp K else am_wp ro inl n d mi stop nx L st1 hp K)
        | none => match am_iv ro mi st hp i with
          | some (mj, as, rest) => bif inl.elem mj then (match d with
              | 0 => False
              | e + 1 => match Nat.ble (am_lay as).length (am_mL mj) with
                | true => am_wp ro inl n e mj [] 0 (am_l0 mj as) [] hp (fun r hp1 => bif stop.elem nx then am_T ro d mi nx L (r.toList ++ rest) hp1 K else am_wp ro inl n d mi stop nx L (r.toList ++ rest) hp1 K)
                | false => False)
            else ∃ r hp1, am_run ro d mj as hp r hp1 ∧ (bif stop.elem nx then am_T ro d mi nx L (r.toList ++ rest) hp1 K else am_wp ro inl n d mi stop nx L (r.toList ++ rest) hp1 K)
          | none => match am_fn st i with
            | some r => am_fk' mi r (K r hp)
            | none => False
theorem am_T.step {ro : Nat → Option am_C} {d mi pc nx t : Nat} {L st : List Value} {hp : am_H} {K : Option Value → am_H → Prop} {i : Instr} (hd : am_cd mi pc = some (i, nx, t)) {pc1 : Nat} {L1 st1 : List Value} {hp1 : am_H} {φ : Option Prop} (hs : am_st ro mi pc nx t L st hp i = some (pc1, L1, st1, hp1, φ)) (hφ : am_ph φ) (h : am_T ro d mi pc1 L1 st1 hp1 K) : am_T ro d mi pc L st hp K := by
  obtain ⟨r, hp', ⟨k, h1⟩, h2⟩ := h
  exact ⟨r, hp', ⟨k + 1, i, nx, t, hd, Or.inl ⟨pc1, L1, st1, hp1, φ, hs, hφ, h1⟩⟩, h2⟩
theorem am_T.brt {ro : Nat → Option am_C} {d mi pc nx t : Nat} {L st : List Value} {hp : am_H} {K : Option Value → am_H → Prop} {i : Instr} (hd : am_cd mi pc = some (i, nx, t)) {q : Prop} {st1 : List Value} (hs : am_bc st i = some (q, st1)) (hq : q) (h : am_T ro d mi t L st1 hp K) : am_T ro d mi pc L st hp K := by
  obtain ⟨r, hp', ⟨k, h1⟩, h2⟩ := h
  exact ⟨r, hp', ⟨k + 1, i, nx, t, hd, Or.inr (Or.inl ⟨q, st1, hs, Or.inl ⟨hq, h1⟩⟩)⟩, h2⟩
theorem am_T.brf {ro : Nat → Option am_C} {d mi pc nx t : Nat} {L st : List Value} {hp : am_H} {K : Option Value → am_H → Prop} {i : Instr} (hd : am_cd mi pc = some (i, nx, t)) {q : Prop} {st1 : List Value} (hs : am_bc st i = some (q, st1)) (hq : ¬ q) (h : am_T ro d mi nx L st1 hp K) : am_T ro d mi pc L st hp K := by
  obtain ⟨r, hp', ⟨k, h1⟩, h2⟩ := h
  exact ⟨r, hp', ⟨k + 1, i, nx, t, hd, Or.inr (Or.inl ⟨q, st1, hs, Or.inr ⟨hq, h1⟩⟩)⟩, h2⟩
theorem am_T.call {ro : Nat → Option am_C} {d mi pc nx t : Nat} {L st : List Value} {hp : am_H} {K : Option Value → am_H → Prop} {i : Instr} (hd : am_cd mi pc = some (i, nx, t)) {mj : Nat} {as rest : List Value} (hs : am_iv ro mi st hp i = some (mj, as, rest)) {r1 : Option Value} {hp1 : am_H} (hc : am_run ro d mj as hp r1 hp1) (h : am_T ro d mi nx L (r1.toList ++ rest) hp1 K) : am_T ro d mi pc L st hp K := by
  obtain ⟨r, hp', ⟨k, h1⟩, h2⟩ := h
  exact ⟨r, hp', ⟨k + 1, i, nx, t, hd, Or.inr (Or.inr ⟨mj, as, rest, r1, hp1, hs, hc, h1⟩)⟩, h2⟩
theorem am_bif {b : Bool} {X Y : Prop} (h : bif b then X else Y) (g : Y → X) : X := by
  cases b
  · exact g h
  · exact h
theorem am_wp_ok {ro : Nat → Option am_C} {inl : List Nat} : ∀ (n d mi : Nat) (stop : List Nat) (pc : Nat) (L st : List Value) (hp : am_H) (K : Option Value → am_H → Prop), am_wp ro inl n d mi stop pc L st hp K → am_T ro d mi pc L st hp K := by
  intro n
  induction n with
  | zero => intro d mi stop pc L st hp K h; exact h
  | succ n ih =>
    intro d mi stop pc L st hp K h
    unfold am_wp at h
    split at h
    · cases h
    · next i nx t hd =>
      split at h
      · next pc1 L1 st1 hp1 φ hs =>
        obtain ⟨h1, h2⟩ := am_an'_of h
        exact am_T.step hd hs h1 (am_bif h2 (ih _ _ _ _ _ _ _ _))
      · split at h
        · next q st1 hs =>
          by_cases hq : q
          · exact am_T.brt hd hs hq (am_bif (h.1 hq) (ih _ _ _ _ _ _ _ _))
          · exact am_T.brf hd hs hq (am_bif (h.2 hq) (ih _ _ _ _ _ _ _ _))
        · split at h
          · next mj as rest hs =>
            cases hin : inl.elem mj with
            | true =>
              rw [hin, cond_true] at h
              cases d with
              | zero => exact False.elim h
              | succ e =>
                dsimp only at h
                split at h
                · next hle =>
                  obtain ⟨r1, hp1, hk, h⟩ := ih _ _ _ _ _ _ _ _ h
                  exact am_T.call hd hs (r1 := r1) (hp1 := hp1) ⟨Nat.le_of_ble_eq_true hle, hk⟩ (am_bif h (ih _ _ _ _ _ _ _ _))
                · exact False.elim h
            | false =>
              rw [hin, cond_false] at h
              obtain ⟨r1, hp1, hk, h⟩ := h
              exact am_T.call hd hs hk (am_bif h (ih _ _ _ _ _ _ _ _))
          · split at h
            · next r hf =>
              obtain ⟨h1, h2⟩ := am_fk_of h
              exact ⟨r, hp, ⟨0, i, nx, t, hd, hf, h1, rfl⟩, h2⟩
            · cases h
/-- a method's run out of its code -/
theorem am_run_of {ro : Nat → Option am_C} {d mi : Nat} {as : List Value} {hp : am_H} {r : Option Value} {hp' : am_H} (hl : Nat.ble (am_lay as).length (am_mL mi) = true) (h : am_T ro d mi 0 (am_l0 mi as) [] hp (fun r1 hp1 => r1 = r ∧ hp1 = hp')) : am_run ro (d + 1) mi as hp r hp' := by
  obtain ⟨r1, hp1, hk, rfl, rfl⟩ := h
  exact ⟨Nat.le_of_ble_eq_true hl, hk⟩
theorem am_br_t {q X Y : Prop} (h : q) (k : X) : (q → X) ∧ (¬ q → Y) := ⟨fun _ => k, fun z => absurd h z⟩
theorem am_br_f {q X Y : Prop} (h : ¬ q) (k : Y) : (q → X) ∧ (¬ q → Y) := ⟨fun z => absurd z h, fun _ => k⟩
/-- deeper is no harm -/
theorem am_ev_up {ro : Nat → Option am_C} {c1 c2 : Nat → List Value → am_H → Option Value → am_H → Prop} (hc : ∀ mj as hp r hp', c1 mj as hp r hp' → c2 mj as hp r hp') {mi : Nat} {r : Option Value} {hp' : am_H} : ∀ (k pc : Nat) (L st : List Value) (hp : am_H), am_ev ro c1 mi k pc L st hp r hp' → am_ev ro c2 mi k pc L st hp r hp' := by
  intro k
  induction k with
  | zero => intro pc L st hp h; exact h
  | succ k ih =>
    intro pc L st hp h
    obtain ⟨i, nx, t, hd, h | h | h⟩ := h
    · obtain ⟨pc1, L1, st1, hp1, φ, hs, hφ, h⟩ := h
      exact ⟨i, nx, t, hd, Or.inl ⟨pc1, L1, st1, hp1, φ, hs, hφ, ih _ _ _ _ h⟩⟩
    · obtain ⟨q, st1, hb, ⟨hq, h⟩ | ⟨hq, h⟩⟩ := h
      · exact ⟨i, nx, t, hd, Or.inr (Or.inl ⟨q, st1, hb, Or.inl ⟨hq, ih _ _ _ _ h⟩⟩)⟩
      · exact ⟨i, nx, t, hd, Or.inr (Or.inl ⟨q, st1, hb, Or.inr ⟨hq, ih _ _ _ _ h⟩⟩)⟩
    · obtain ⟨mj, as, rest, r1, hp1, hi, hc1, h⟩ := h
      exact ⟨i, nx, t, hd, Or.inr (Or.inr ⟨mj, as, rest, r1, hp1, hi, hc _ _ _ _ _ hc1, ih _ _ _ _ h⟩)⟩
theorem am_run_up1 {ro : Nat → Option am_C} : ∀ (d mi : Nat) (as : List Value) (hp : am_H) (r : Option Value) (hp' : am_H), am_run ro d mi as hp r hp' → am_run ro (d + 1) mi as hp r hp' := by
  intro d
  induction d with
  | zero => intro mi as hp r hp' h; cases h
  | succ d ih =>
    intro mi as hp r hp' h
    obtain ⟨h1, k, h⟩ := h
    exact ⟨h1, k, am_ev_up ih k _ _ _ _ h⟩
theorem am_run_up {ro : Nat → Option am_C} {d e mi : Nat} {as : List Value} {hp : am_H} {r : Option Value} {hp' : am_H} (h : am_run ro d mi as hp r hp') (hd : d ≤ e) : am_run ro e mi as hp r hp' := by
  induction e with
  | zero =>
    cases d with
    | zero => exact h
    | succ d => omega
  | succ e ih =>
    by_cases hq : d ≤ e
    · exact am_run_up1 _ _ _ _ _ _ (ih hq)
    · have : d = e + 1 := by omega
      rw [← this]
      exact h
