/-! packed names, by arithmetic -/
theorem pf_snoc {u : Nat → Nat} : ∀ (m k P : Nat), pf u k (m + 1) P = 27 * pf u k m P + (u (k + m) - 96) := by
  intro m
  induction m with
  | zero => intro k P; rfl
  | succ m ih =>
    intro k P
    show pf u (k + 1) (m + 1) (27 * P + (u k - 96)) = 27 * pf u (k + 1) m (27 * P + (u k - 96)) + _
    rw [ih, show k + 1 + m = k + (m + 1) by omega]
theorem pf_lt {u : Nat → Nat} : ∀ m : Nat, (∀ j, j < m → u j ≤ 122) → pf u 0 m 0 < 27 ^ m := by
  intro m
  induction m with
  | zero => intro h; exact Nat.one_pos
  | succ m ih =>
    intro h
    have h1 := ih (fun j hj => h j (by omega))
    have h2 := h m (by omega)
    rw [pf_snoc, Nat.zero_add, Nat.pow_succ]
    omega
theorem pf_div {u : Nat → Nat} {m : Nat} (h : u m ≤ 122) : pf u 0 (m + 1) 0 / 27 = pf u 0 m 0 ∧ pf u 0 (m + 1) 0 % 27 = u m - 96 := by
  rw [pf_snoc, Nat.zero_add]
  omega
theorem pf_at {u : Nat → Nat} {m : Nat} : ∀ j : Nat, j ≤ m → (∀ q, q < m → u q ≤ 122) → pf u 0 m 0 / 27 ^ j = pf u 0 (m - j) 0 := by
  intro j
  induction j with
  | zero => intro _ _; rw [Nat.pow_zero, Nat.div_one, Nat.sub_zero]
  | succ j ih =>
    intro hj h
    rw [Nat.pow_succ, ← Nat.div_div_eq_div_mul, ih (by omega) h, show m - j = m - (j + 1) + 1 by omega]
    exact (pf_div (h _ (by omega))).1
theorem pf_let {u : Nat → Nat} {m j : Nat} (hj : j < m) (h : ∀ q, q < m → u q ≤ 122) : pf u 0 m 0 / 27 ^ j % 27 = u (m - j - 1) - 96 := by
  rw [pf_at j (by omega) h, show m - j = m - j - 1 + 1 by omega]
  exact (pf_div (h _ (by omega))).2
theorem pf_pos {u : Nat → Nat} {m : Nat} (hm : 0 < m) (h : ∀ q, q < m → 97 ≤ u q) : ¬ pf u 0 m 0 = 0 := by
  have h1 := h (m - 1) (by omega)
  rw [show m = m - 1 + 1 by omega, pf_snoc, Nat.zero_add]
  omega
theorem pf_dc {u : Nat → Nat} : ∀ (m n : Nat), m ≤ n → (∀ q, q < m → 97 ≤ u q ∧ u q ≤ 122) → dc n (pf u 0 m 0) = m := by
  intro m
  induction m with
  | zero =>
    intro n _ _
    cases n with
    | zero => rfl
    | succ n => rfl
  | succ m ih =>
    intro n hn h
    cases n with
    | zero => omega
    | succ n =>
      rw [show dc (n + 1) (pf u 0 (m + 1) 0) = 1 + dc n (pf u 0 (m + 1) 0 / 27) from if_neg (pf_pos (by omega) (fun q hq => (h q hq).1)), (pf_div (h m (by omega)).2).1, ih n (by omega) (fun q hq => h q (by omega))]
      omega
