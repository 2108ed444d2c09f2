/-! WHAT TIES THE CLASS TO THE REFERENCE -/
/-- the rule set in force begins at this cell -/
def ob (c : Bool) : Nat := bif c then 38 else 16
/-- the bytes u k, u (k + 1) .. of small letters, packed to the base 27 behind P -/
def pf (u : Nat → Nat) : Nat → Nat → Nat → Nat
  | _, 0, P => P
  | k, m + 1, P => pf u (k + 1) m (27 * P + (u k - 96))
def rT (a : Nat → Nat → Int32) (f : Nat → Nat → Int32) : Prop := ∃ n : Nat, n ≤ 900 ∧ f 1 1 = nI n ∧ f 60 1 = nI n ∧ ∀ i, i < n → ∃ u : Nat, u < 256 ∧ a 61 i = nI u ∧ a 2 i = nI (if u = 10 then 32 else u)
def rF (a : Nat → Nat → Int32) : Prop := ∀ i, i < 10 → a 4 i = a 72 i ∧ (a 4 i = 0 ∨ a 4 i = 1) ∧ a 5 i = a 73 i
def rP (a : Nat → Nat → Int32) : Prop := ∀ e, e < 6 → ∃ nd th : Nat, nd < 1024 ∧ th < 1024 ∧ a 7 e = nI nd ∧ a 8 e = nI th ∧ ∀ p, p < 10 → a 74 (10 * e + p) = nI (nd.testBit p).toNat ∧ a 75 (10 * e + p) = nI (th.testBit p).toNat
def rM (a : Nat → Nat → Int32) (f : Nat → Nat → Int32) : Prop := (∃ n : Nat, n ≤ 6 ∧ f 9 3 = nI n ∧ f 60 18 = nI n) ∧ (∀ p, p < 6 → ∃ k : Nat, k ≤ 5 ∧ a 10 p = nI k ∧ a 76 p = nI k) ∧ ∀ q, q < 30 → a 11 q = a 77 (2 * q) ∧ a 12 q = a 77 (2 * q + 1)
def rH (a : Nat → Nat → Int32) : Prop := (∀ p, p < 8 → ∃ k : Nat, k ≤ 12 ∧ a 14 p = nI k ∧ a 78 p = nI k) ∧ ∀ q, q < 96 → a 15 q = a 79 q
/-- a rule set of the class, at o, against a half of the reference's rows -/
def rS (o h : Nat) (a : Nat → Nat → Int32) (l : Nat → Int64) (f : Nat → Nat → Int32) (nb nc ng nm np nn : Nat) : Prop :=
  (nb ≤ 30 ∧ nc ≤ 60 ∧ ng ≤ 16 ∧ nm ≤ 16 ∧ np ≤ 20 ∧ nn ≤ 20) ∧
  (f (o + 1) 6 = nI nb ∧ f (o + 1) 7 = nI nc ∧ f (o + 8) 7 = nI ng ∧ f (o + 8) 8 = nI nm ∧ f (o + 8) 9 = nI np ∧ f (o + 16) 5 = nI nn) ∧
  (a 62 (6 * h) = nI nb ∧ a 62 (6 * h + 1) = nI nc ∧ a 62 (6 * h + 2) = nI ng ∧ a 62 (6 * h + 3) = nI nm ∧ a 62 (6 * h + 4) = nI np ∧ a 62 (6 * h + 5) = nI nn) ∧
  (∀ i, i < nb → a (o + 2) i = a 63 (30 * h + i) ∧ a (o + 3) i = a 64 (30 * h + i) ∧ ∃ g : Nat, g < 10 ∧ a (o + 3) i = nI g) ∧
  (∃ e : Nat → Nat, e 0 = 0 ∧ e nb = nc ∧ ∀ i, i < nb → e i ≤ e (i + 1) ∧ e (i + 1) ≤ nc ∧ a (o + 4) i = nI (e (i + 1)) ∧ a 65 (31 * h + i) = nI (e i)) ∧
  (∀ k, k < nc → (∃ q : Nat, q < 10 ∧ a (o + 5) k = nI q ∧ a 66 (180 * h + 3 * k) = nI q) ∧ a (o + 6) k = a 66 (180 * h + 3 * k + 1) ∧ a (o + 7) k = a 66 (180 * h + 3 * k + 2)) ∧
  (∀ i, i < ng → a (o + 9) i = a 67 (16 * h + i)) ∧
  (∀ i, i < nm → a (o + 10) i = a 68 (32 * h + 2 * i) ∧ a (o + 11) i = a 68 (32 * h + 2 * i + 1)) ∧
  (∀ i, i < np → a (o + 12) i = a 69 (80 * h + 4 * i) ∧ a (o + 13) i = a 69 (80 * h + 4 * i + 1) ∧ a (o + 14) i = a 69 (80 * h + 4 * i + 2) ∧ a (o + 15) i = a 69 (80 * h + 4 * i + 3)) ∧
  (∀ i, i < nn → a (o + 17) i = a 70 (20 * h + i) ∧ ∃ (k : Nat) (u : Nat → Nat), 1 ≤ k ∧ k ≤ 8 ∧ (∀ j, j < k → 97 ≤ u j ∧ u j ≤ 122) ∧ a (o + 18) i = nI k ∧ (∀ j, j < k → a (o + 19) (8 * i + j) = nI (u j)) ∧ l (20 * h + i) = lN (pf u 0 k 0))
def rR (c : Bool) (a : Nat → Nat → Int32) (l : Nat → Int64) (f : Nat → Nat → Int32) : Prop := ∃ nb nc ng nm np nn : Nat, rS (ob c) 0 a l f nb nc ng nm np nn ∧ a 65 nb = nI nc
def Rl : lp_R := fun c a l f => rT a f ∧ rF a ∧ rP a ∧ rM a f ∧ rH a ∧ rR c a l f
theorem Rl_zero : Rl false (fun _ _ => 0) (fun _ => 0) (fun _ _ => 0) := by
  refine ⟨⟨0, by omega, rfl, rfl, fun i h => absurd h (by omega)⟩, fun i _ => ⟨rfl, Or.inl rfl, rfl⟩, fun e _ => ⟨0, 0, by omega, by omega, rfl, rfl, fun p _ => ⟨by simp [nI], by simp [nI]⟩⟩, ⟨⟨0, by omega, rfl, rfl⟩, fun p _ => ⟨0, by omega, rfl, rfl⟩, fun q _ => ⟨rfl, rfl⟩⟩, ⟨fun p _ => ⟨0, by omega, rfl, rfl⟩, fun q _ => rfl⟩, ⟨0, 0, 0, 0, 0, 0, ⟨⟨by omega, by omega, by omega, by omega, by omega, by omega⟩, ⟨rfl, rfl, rfl, rfl, rfl, rfl⟩, ⟨rfl, rfl, rfl, rfl, rfl, rfl⟩, fun i h => absurd h (by omega), ⟨fun _ => 0, rfl, rfl, fun i h => absurd h (by omega)⟩, fun i h => absurd h (by omega), fun i h => absurd h (by omega), fun i h => absurd h (by omega), fun i h => absurd h (by omega), fun i h => absurd h (by omega)⟩, rfl⟩⟩
/-! small helpers that both call -/
theorem sp_below_t {ro : Nat → Option am_C} {v b : Int32} {hp : am_H} (h1 : ¬ v < 0) (h2 : ¬ b ≤ v) : am_run ro 1 4 [.int v, .int b] hp (some (.int 1)) hp := by
  refine am_run_of rfl (am_wp_ok (inl := []) 20 0 4 [] 0 _ _ _ _ ?_)
  refine am_br_f h1 (am_br_f h2 ?_)
  exact And.intro rfl (And.intro rfl rfl)
theorem sp_below_f {ro : Nat → Option am_C} {v b : Int32} {hp : am_H} (h : v < 0 ∨ b ≤ v) : am_run ro 1 4 [.int v, .int b] hp (some (.int 0)) hp := by
  refine am_run_of rfl (am_wp_ok (inl := []) 20 0 4 [] 0 _ _ _ _ ?_)
  by_cases h1 : v < 0
  · refine am_br_t h1 ?_
    exact And.intro rfl (And.intro rfl rfl)
  · refine am_br_f h1 (am_br_t (h.resolve_left h1) ?_)
    exact And.intro rfl (And.intro rfl rfl)
theorem sp_in_t {ro : Nat → Option am_C} {v lo hi : Int64} {hp : am_H} (h1 : lo ≤ v) (h2 : v ≤ hi) : am_run ro 1 105 [.long v, .long lo, .long hi] hp (some (.int 1)) hp := by
  refine am_run_of rfl (am_wp_ok (inl := []) 20 0 105 [] 0 _ _ _ _ ?_)
  refine am_br_f (fun q => absurd ((lg_cmp_lt _ _).mp q) (by rw [Int64.not_lt]; exact h1)) ?_
  refine am_br_f (fun q => absurd ((lg_cmp_gt _ _).mp q) (by rw [Int64.not_lt]; exact h2)) ?_
  exact And.intro rfl (And.intro rfl rfl)
theorem sp_in_f {ro : Nat → Option am_C} {v lo hi : Int64} {hp : am_H} (h : v < lo ∨ hi < v) : am_run ro 1 105 [.long v, .long lo, .long hi] hp (some (.int 0)) hp := by
  refine am_run_of rfl (am_wp_ok (inl := []) 20 0 105 [] 0 _ _ _ _ ?_)
  by_cases h1 : v < lo
  · refine am_br_t ((lg_cmp_lt _ _).mpr h1) ?_
    exact And.intro rfl (And.intro rfl rfl)
  · refine am_br_f (fun q => h1 ((lg_cmp_lt _ _).mp q)) (am_br_t ((lg_cmp_gt _ _).mpr (h.resolve_left h1)) ?_)
    exact And.intro rfl (And.intro rfl rfl)
/-- an int against longs that are ints -/
theorem li_le {x : Int32} {k : Nat} (hk : k < 2 ^ 31) : x.toInt64 ≤ Int64.ofNat k ↔ x.toInt ≤ k := by
  rw [Int64.le_iff_toInt_le, Int32.toInt_toInt64, Int64.toInt_ofNat_of_lt (by omega)]
theorem li_ge {x : Int32} : (0 : Int64) ≤ x.toInt64 ↔ 0 ≤ x.toInt := by
  rw [Int64.le_iff_toInt_le, Int32.toInt_toInt64]
  exact Iff.rfl
/-- x is one of 0 .. k - 1, or it isn't: as both ask it -/
theorem bd (x : Int32) (k : Nat) (hk : k < 2 ^ 31) : (∃ j : Nat, j < k ∧ x = nI j) ∨ (x < 0 ∨ nI k ≤ x) := by
  by_cases h : x < 0
  · exact Or.inr (Or.inl h)
  · obtain ⟨j, hj, rfl⟩ := nI_of h
    by_cases hq : j < k
    · exact Or.inl ⟨j, hq, rfl⟩
    · exact Or.inr (Or.inr ((nI_leI hk hj).mpr (by omega)))
theorem in_t {ro : Nat → Option am_C} {j k : Nat} {hi : Int64} {hp : am_H} (h : j ≤ k) (hk : k < 2 ^ 31) (hh : hi = Int64.ofNat k) : am_run ro 1 105 [.long (nI j).toInt64, .long (Int64.ofNat 0), .long hi] hp (some (.int 1)) hp := by
  subst hh
  refine sp_in_t ?_ ((li_le hk).mpr ?_)
  · exact li_ge.mpr (by rw [nI_toInt (by omega)]; omega)
  · rw [nI_toInt (by omega)]; omega
theorem in_f {ro : Nat → Option am_C} {x : Int32} {k : Nat} {hi : Int64} {hp : am_H} (h : x < 0 ∨ nI (k + 1) ≤ x) (hk : k + 1 < 2 ^ 31) (hh : hi = Int64.ofNat k) : am_run ro 1 105 [.long x.toInt64, .long (Int64.ofNat 0), .long hi] hp (some (.int 0)) hp := by
  subst hh
  refine sp_in_f ?_
  rcases h with h | h
  · left
    rw [Int64.lt_iff_toInt_lt, Int32.toInt_toInt64]
    exact Int32.lt_iff_toInt_lt.mp h
  · right
    rw [Int64.lt_iff_toInt_lt, Int32.toInt_toInt64, Int64.toInt_ofNat_of_lt (by omega)]
    have := Int32.le_iff_toInt_le.mp h
    rw [nI_toInt hk] at this
    omega
