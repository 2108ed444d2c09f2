/-! tables with two keys; words by their places -/
def am_b2 {α : Type} (P J : Nat) (f : Nat → Nat → Option α) (p j : Nat) : Option α := bif Nat.blt p P && Nat.blt j J then f p j else none
def am_oq {α : Type} (o : Option α) (g : α → Bool) : Bool := match o with
  | none => true
  | some v => g v
theorem am_b2_all {α : Type} {P J : Nat} {f : Nat → Nat → Option α} {q : Nat → Nat → α → Bool} (h : ∀ p, p < P → ∀ j, j < J → am_oq (f p j) (q p j) = true) {p j : Nat} {v : α} (hv : am_b2 P J f p j = some v) : q p j v = true := by
  unfold am_b2 at hv
  cases hc : (Nat.blt p P && Nat.blt j J) with
  | false => rw [hc] at hv; cases hv
  | true =>
    rw [hc] at hv
    rw [Bool.and_eq_true] at hc
    have := h p (Nat.le_of_ble_eq_true hc.1) j (Nat.le_of_ble_eq_true hc.2)
    replace hv : f p j = some v := hv
    rw [hv] at this
    exact this
def am_in {α : Type} (N : Nat) (f : Nat → Option α) (j : Nat) : Option α := bif Nat.blt j N then f j else none
theorem am_in_of {α : Type} {N : Nat} {f : Nat → Option α} {j : Nat} {v : α} (hv : am_in N f j = some v) : j < N ∧ f j = some v := by
  unfold am_in at hv
  cases hc : Nat.blt j N with
  | false => rw [hc] at hv; cases hv
  | true =>
    rw [hc] at hv
    exact ⟨Nat.le_of_ble_eq_true hc, hv⟩
/-- what a value is in the machine: bs is the heap's size at the law's entry, ad k where the k-th cell from before lies -/
def am_cv (bs : Nat) (ad : Nat → Nat) : Value → Value
  | .ref i => .ref (bs + i)
  | .retAddr (k + 1) => bif Nat.beq k 99 then (match ad 99 with
    | 0 => .null
    | a + 1 => .ref a) else .ref (ad k)
  | v => v
/-- methods by number: all tables of methods are read at the number's last eight bits -/
def am_sm (mi : Nat) : Nat := Nat.land mi 255
theorem am_mall (f : Nat → Bool) (h : ∀ j, j < 256 → f j = true) (mi : Nat) : f (am_sm mi) = true := h _ (Nat.and_lt_two_pow mi (show 255 < 2 ^ 8 by decide))
