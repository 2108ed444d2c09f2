/-! THE CELLS behind the two constructors: arrays a (by cell), the one row of longs l, fields f (by cell and place); c says which of the two rule sets is in force -/
noncomputable def wd (c : Bool) (a : Nat → Nat → Int32) (l : Nat → Int64) (f : Nat → Nat → Int32) : am_H := [
  .inr (0, [.ref 1, .ref 3, .ref 6, .ref 9, .ref 13, .ref (bif c then 38 else 16), .ref (bif c then 16 else 38)]),
  .inr (1, [.ref 2, .int (f 1 1), .int (f 1 2), .int (f 1 3), .int (f 1 4)]),
  .inl (.int, 900, .inl (a 2)),
  .inr (2, [.ref 4, .ref 5]),
  .inl (.boolean, 10, .inl (a 4)),
  .inl (.int, 10, .inl (a 5)),
  .inr (3, [.ref 7, .ref 8]),
  .inl (.int, 6, .inl (a 7)),
  .inl (.int, 6, .inl (a 8)),
  .inr (4, [.ref 10, .ref 11, .ref 12, .int (f 9 3)]),
  .inl (.int, 6, .inl (a 10)),
  .inl (.int, 30, .inl (a 11)),
  .inl (.int, 30, .inl (a 12)),
  .inr (5, [.ref 14, .ref 15]),
  .inl (.int, 8, .inl (a 14)),
  .inl (.int, 96, .inl (a 15)),
  .inr (6, [.ref 17, .ref 24, .ref 32]),
  .inr (7, [.ref 18, .ref 19, .ref 20, .ref 21, .ref 22, .ref 23, .int (f 17 6), .int (f 17 7)]),
  .inl (.int, 30, .inl (a 18)),
  .inl (.int, 30, .inl (a 19)),
  .inl (.int, 30, .inl (a 20)),
  .inl (.int, 60, .inl (a 21)),
  .inl (.int, 60, .inl (a 22)),
  .inl (.int, 60, .inl (a 23)),
  .inr (8, [.ref 25, .ref 26, .ref 27, .ref 28, .ref 29, .ref 30, .ref 31, .int (f 24 7), .int (f 24 8), .int (f 24 9)]),
  .inl (.int, 16, .inl (a 25)),
  .inl (.int, 16, .inl (a 26)),
  .inl (.int, 16, .inl (a 27)),
  .inl (.int, 20, .inl (a 28)),
  .inl (.int, 20, .inl (a 29)),
  .inl (.int, 20, .inl (a 30)),
  .inl (.int, 20, .inl (a 31)),
  .inr (9, [.ref 33, .ref 34, .ref 35, .ref 36, .ref 37, .int (f 32 5)]),
  .inl (.int, 20, .inl (a 33)),
  .inl (.int, 20, .inl (a 34)),
  .inl (.int, 160, .inl (a 35)),
  .inl (.int, 20, .inl (a 36)),
  .inl (.int, 9, .inl (a 37)),
  .inr (6, [.ref 39, .ref 46, .ref 54]),
  .inr (7, [.ref 40, .ref 41, .ref 42, .ref 43, .ref 44, .ref 45, .int (f 39 6), .int (f 39 7)]),
  .inl (.int, 30, .inl (a 40)),
  .inl (.int, 30, .inl (a 41)),
  .inl (.int, 30, .inl (a 42)),
  .inl (.int, 60, .inl (a 43)),
  .inl (.int, 60, .inl (a 44)),
  .inl (.int, 60, .inl (a 45)),
  .inr (8, [.ref 47, .ref 48, .ref 49, .ref 50, .ref 51, .ref 52, .ref 53, .int (f 46 7), .int (f 46 8), .int (f 46 9)]),
  .inl (.int, 16, .inl (a 47)),
  .inl (.int, 16, .inl (a 48)),
  .inl (.int, 16, .inl (a 49)),
  .inl (.int, 20, .inl (a 50)),
  .inl (.int, 20, .inl (a 51)),
  .inl (.int, 20, .inl (a 52)),
  .inl (.int, 20, .inl (a 53)),
  .inr (9, [.ref 55, .ref 56, .ref 57, .ref 58, .ref 59, .int (f 54 5)]),
  .inl (.int, 20, .inl (a 55)),
  .inl (.int, 20, .inl (a 56)),
  .inl (.int, 160, .inl (a 57)),
  .inl (.int, 20, .inl (a 58)),
  .inl (.int, 9, .inl (a 59)),
  .inr (10, [.ref 61, .int (f 60 1), .int (f 60 2), .int (f 60 3), .ref 62, .ref 63, .ref 64, .ref 65, .ref 66, .ref 67, .ref 68, .ref 69, .ref 70, .ref 71, .ref 72, .ref 73, .ref 74, .ref 75, .int (f 60 18), .ref 76, .ref 77, .ref 78, .ref 79, .int (f 60 23), .ref 80, .ref 81, .int (f 60 26), .int (f 60 27), .int (f 60 28)]),
  .inl (.int, 900, .inl (a 61)),
  .inl (.int, 12, .inl (a 62)),
  .inl (.int, 60, .inl (a 63)),
  .inl (.int, 60, .inl (a 64)),
  .inl (.int, 62, .inl (a 65)),
  .inl (.int, 360, .inl (a 66)),
  .inl (.int, 32, .inl (a 67)),
  .inl (.int, 64, .inl (a 68)),
  .inl (.int, 160, .inl (a 69)),
  .inl (.int, 40, .inl (a 70)),
  .inl (.long, 40, .inr (.inl l)),
  .inl (.boolean, 10, .inl (a 72)),
  .inl (.int, 10, .inl (a 73)),
  .inl (.boolean, 60, .inl (a 74)),
  .inl (.boolean, 60, .inl (a 75)),
  .inl (.int, 6, .inl (a 76)),
  .inl (.int, 60, .inl (a 77)),
  .inl (.int, 8, .inl (a 78)),
  .inl (.int, 96, .inl (a 79)),
  .inl (.int, 9, .inl (a 80)),
  .inl (.int, 20, .inl (a 81))]
/-- writing one of many -/
def u2 {α : Type} (a : Nat → α) (k : Nat) (v : α) : Nat → α := fun j => bif Nat.beq j k then v else a j
def u3 (f : Nat → Nat → Int32) (i k : Nat) (v : Int32) : Nat → Nat → Int32 := fun x y => bif Nat.beq x i && Nat.beq y k then v else f x y
theorem u2_same {α : Type} {a : Nat → α} {k : Nat} {v : α} : u2 a k v k = v := by simp [u2]
theorem u2_ne {α : Type} {a : Nat → α} {k j : Nat} {v : α} (h : j ≠ k) : u2 a k v j = a j := by
  have : Nat.beq j k = false := by
    cases e : Nat.beq j k with
    | false => rfl
    | true => exact absurd (Nat.eq_of_beq_eq_true e) h
  simp [u2, this]
/-- the cells from before: the script, the texts and their bytes -/
noncomputable def wd_ro (n : Nat) (xs : Nat → Int32) : Nat → Option am_C := am_in 19 fun k => (bif Nat.blt k 9 then (bif Nat.blt k 4 then (bif Nat.blt k 2 then (bif Nat.blt k 1 then (bif Nat.beq k 0 then some (.inl (.int, n, .inl xs)) else none) else (bif Nat.beq k 1 then some (.inr (100, [.retAddr 3, .int 0])) else none)) else (bif Nat.blt k 3 then (bif Nat.beq k 2 then some (.inl (.byte, 4, .inl (fun j => ([99, 111, 100, 101] : List Int32).getD j 0))) else none) else (bif Nat.beq k 3 then some (.inr (100, [.retAddr 5, .int 0])) else none))) else (bif Nat.blt k 6 then (bif Nat.blt k 5 then (bif Nat.beq k 4 then some (.inl (.byte, 4, .inl (fun j => ([119, 104, 101, 110] : List Int32).getD j 0))) else none) else (bif Nat.beq k 5 then some (.inr (100, [.retAddr 7, .int 0])) else none)) else (bif Nat.blt k 7 then (bif Nat.beq k 6 then some (.inl (.byte, 1, .inl (fun j => ([60] : List Int32).getD j 0))) else none) else (bif Nat.blt k 8 then (bif Nat.beq k 7 then some (.inr (100, [.retAddr 9, .int 0])) else none) else (bif Nat.beq k 8 then some (.inl (.byte, 1, .inl (fun j => ([61] : List Int32).getD j 0))) else none))))) else (bif Nat.blt k 14 then (bif Nat.blt k 11 then (bif Nat.blt k 10 then (bif Nat.beq k 9 then some (.inr (100, [.retAddr 11, .int 0])) else none) else (bif Nat.beq k 10 then some (.inl (.byte, 1, .inl (fun j => ([62] : List Int32).getD j 0))) else none)) else (bif Nat.blt k 12 then (bif Nat.beq k 11 then some (.inr (100, [.retAddr 13, .int 0])) else none) else (bif Nat.blt k 13 then (bif Nat.beq k 12 then some (.inl (.byte, 7, .inl (fun j => ([103, 101, 110, 101, 114, 97, 108] : List Int32).getD j 0))) else none) else (bif Nat.beq k 13 then some (.inr (100, [.retAddr 15, .int 0])) else none)))) else (bif Nat.blt k 16 then (bif Nat.blt k 15 then (bif Nat.beq k 14 then some (.inl (.byte, 6, .inl (fun j => ([109, 105, 114, 114, 111, 114] : List Int32).getD j 0))) else none) else (bif Nat.beq k 15 then some (.inr (100, [.retAddr 17, .int 0])) else none)) else (bif Nat.blt k 17 then (bif Nat.beq k 16 then some (.inl (.byte, 3, .inl (fun j => ([109, 97, 112] : List Int32).getD j 0))) else none) else (bif Nat.blt k 18 then (bif Nat.beq k 17 then some (.inr (100, [.retAddr 19, .int 0])) else none) else (bif Nat.beq k 18 then some (.inl (.byte, 4, .inl (fun j => ([110, 97, 109, 101] : List Int32).getD j 0))) else none))))))
-- text 0: code, object 2
-- text 1: when, object 4
-- text 2: <, object 6
-- text 3: =, object 8
-- text 4: >, object 10
-- text 5: general, object 12
-- text 6: mirror, object 14
-- text 7: map, object 16
-- text 8: name, object 18
