/-! the edits agree where letters and rows do -/
theorem fl_get : ∀ (n k : Nat) (R : Nat → Int32) (p : Nat), fl k n R p = if k ≤ p ∧ p < k + n then nI p else R p := by
  intro n
  induction n with
  | zero => intro k R p; rw [if_neg (by omega)]; rfl
  | succ n ih =>
    intro k R p
    show fl (k + 1) n (upd R k (nI k)) p = _
    rw [ih]
    by_cases h : p = k
    · subst h
      rw [if_neg (by omega), if_pos (by omega), upd_same]
    · rw [upd_ne h]
      by_cases h2 : k + 1 ≤ p ∧ p < k + 1 + n
      · rw [if_pos h2, if_pos (by omega)]
      · rw [if_neg h2, if_neg (by omega)]
theorem ei_eq {q q' : Nat → Bool} {m : Nat} : ∀ (n j : Nat) (cr : Int32) (R R' : Nat → Int32), 1 ≤ j → j + n = m + 1 → (∀ p, p ≤ m → R p = R' p) → (∀ p, j ≤ p → p ≤ m → q p = q' p) → ∀ p, p ≤ m → ei q n j cr R p = ei q' n j cr R' p := by
  intro n
  induction n with
  | zero => intro j cr R R' h1 h2 hR hq p hp; exact hR p hp
  | succ n ih =>
    intro j cr R R' h1 h2 hR hq p hp
    show ei q n (j + 1) (R j) (upd R j _) p = ei q' n (j + 1) (R' j) (upd R' j _) p
    rw [hR j (by omega), hR (j - 1) (by omega), hq j (by omega) (by omega)]
    refine ih (j + 1) _ _ _ (by omega) (by omega) (fun x hx => ?_) (fun x x1 x2 => hq x (by omega) x2) p hp
    by_cases e : x = j
    · subst e
      rw [upd_same, upd_same]
    · rw [upd_ne e, upd_ne e]
      exact hR x hx
theorem eo_eq {q q' : Nat → Nat → Bool} {m : Nat} : ∀ (n i : Nat) (R R' : Nat → Int32), (∀ p, p ≤ m → R p = R' p) → (∀ x p, i ≤ x → x < i + n → 1 ≤ p → p ≤ m → q x p = q' x p) → ∀ p, p ≤ m → eo q m n i R p = eo q' m n i R' p := by
  intro n
  induction n with
  | zero => intro i R R' hR hq p hp; exact hR p hp
  | succ n ih =>
    intro i R R' hR hq p hp
    show eo q m n (i + 1) (ei (q i) m 1 (R 0) (upd R 0 (nI i))) p = eo q' m n (i + 1) (ei (q' i) m 1 (R' 0) (upd R' 0 (nI i))) p
    refine ih (i + 1) _ _ (fun x hx => ?_) (fun x p x1 x2 => hq x p (by omega) (by omega)) p hp
    rw [hR 0 (by omega)]
    refine ei_eq m 1 _ _ _ (by omega) (by omega) (fun y hy => ?_) (fun y y1 y2 => hq i y (by omega) (by omega) y1 y2) x hx
    by_cases e : y = 0
    · subst e
      rw [upd_same, upd_same]
    · rw [upd_ne e, upd_ne e]
      exact hR y hy
theorem eo_fl {q q' : Nat → Nat → Bool} {m n : Nat} {R R' : Nat → Int32} (hq : ∀ x p, 1 ≤ x → x ≤ n → 1 ≤ p → p ≤ m → q x p = q' x p) : eo q m n 1 (fl 0 (m + 1) R) m = eo q' m n 1 (fl 0 (m + 1) R') m :=
  eo_eq n 1 _ _ (fun p hp => by rw [fl_get, fl_get, if_pos (by omega), if_pos (by omega)]) (fun x p x1 x2 p1 p2 => hq x p x1 (by omega) p1 p2) m (Nat.le_refl m)
