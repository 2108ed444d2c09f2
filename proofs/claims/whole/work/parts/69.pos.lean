/-! THE TEXT by its bytes U, n of them: words at the same places for both -/
def Bk (U : Nat → Nat) (i : Nat) : Bool := decide (U i = 32) || decide (U i = 10)
/-- the word behind place j: where it begins, where it ends, its bytes -/
def sj (U : Nat → Nat) (n j : Nat) : Nat := ws (Bk U) n j
def ej (U : Nat → Nat) (n j : Nat) : Nat := we (Bk U) n j
def uj (U : Nat → Nat) (n j : Nat) : Nat → Nat := fun q => U (sj U n j + q)
def lj (U : Nat → Nat) (n j : Nat) : Nat := ej U n j - sj U n j
def CT (a f : Nat → Nat → Int32) (n : Nat) (U : Nat → Nat) : Prop := n ≤ 900 ∧ f 1 1 = nI n ∧ ∀ i, i < n → U i < 256 ∧ a 2 i = nI (if U i = 10 then 32 else U i)
def MT (a f : Nat → Nat → Int32) (n : Nat) (U : Nat → Nat) : Prop := n ≤ 900 ∧ f 60 1 = nI n ∧ ∀ i, i < n → U i < 256 ∧ a 61 i = nI (U i)
theorem bC {a f : Nat → Nat → Int32} {n : Nat} {U : Nat → Nat} (hC : CT a f n U) : ∀ i, i < n → bl a i = Bk U i := by
  intro i hi
  obtain ⟨hu, e⟩ := hC.2.2 i hi
  unfold bl Bk
  rw [e]
  by_cases h10 : U i = 10
  · rw [if_pos h10, h10]
    rfl
  · rw [if_neg h10, decide_eq_false h10, Bool.or_false]
    exact decide_eq_decide.mpr (nI_eq (by omega) (by decide))
theorem bM {a f : Nat → Nat → Int32} {n : Nat} {U : Nat → Nat} (hM : MT a f n U) : ∀ i, i < n → bm a i = Bk U i := by
  intro i hi
  obtain ⟨hu, e⟩ := hM.2.2 i hi
  unfold bm Bk
  rw [e]
  rw [decide_eq_decide.mpr (nI_eq (show U i < 2 ^ 31 by omega) (show 32 < 2 ^ 31 by decide)), decide_eq_decide.mpr (nI_eq (show U i < 2 ^ 31 by omega) (show 10 < 2 ^ 31 by decide))]
theorem w_eq {b b' : Nat → Bool} {n j : Nat} (h : ∀ i, i < n → b i = b' i) (hj : j ≤ n) : ws b n j = ws b' n j ∧ we b n j = we b' n j := by
  have e : ws b n j = ws b' n j := sk_eq _ _ (fun k _ h2 => h k (by omega))
  refine ⟨e, ?_⟩
  unfold we
  rw [e]
  have := ws_le (b := b') hj
  exact sk_eq _ _ (fun k _ h2 => by show (!b k) = (!b' k); rw [h k (by omega)])
theorem j_le {U : Nat → Nat} {n j : Nat} (h : j ≤ n) : j ≤ sj U n j ∧ sj U n j ≤ ej U n j ∧ ej U n j ≤ n := by
  have g1 := ws_le (b := Bk U) h
  have g2 := we_le (b := Bk U) h
  exact ⟨g1.1, g2.1, g2.2⟩
theorem sk_at {b : Nat → Bool} : ∀ (m i : Nat), sk b i m < i + m → b (sk b i m) = false := by
  intro m
  induction m with
  | zero => intro i h; exact absurd h (by show ¬ i < i + 0; omega)
  | succ m ih =>
    intro i h
    cases e : b i with
    | false => rw [sk_f e]; exact e
    | true =>
      rw [sk_t e] at h ⊢
      exact ih (i + 1) (by omega)
/-- a word that is there has a byte -/
theorem j_lt {U : Nat → Nat} {n j : Nat} (h : j ≤ n) (hs : sj U n j < n) : sj U n j < ej U n j := by
  have hb : Bk U (sj U n j) = false := sk_at (n - j) j (show sk (Bk U) j (n - j) < j + (n - j) by
    have : sk (Bk U) j (n - j) = sj U n j := rfl
    omega)
  have e : n - sj U n j = (n - sj U n j - 1) + 1 := by omega
  show sj U n j < sk (fun k => !Bk U k) (sj U n j) (n - sj U n j)
  rw [e, sk_t (show (!Bk U (sj U n j)) = true by rw [hb]; rfl)]
  have := (sk_le (b := fun k => !Bk U k) (n - sj U n j - 1) (sj U n j + 1)).1
  omega
theorem j_by {U : Nat → Nat} {n j : Nat} (h : j ≤ n) : ∀ q, q < lj U n j → ¬ uj U n j q = 32 ∧ ¬ uj U n j q = 10 := by
  intro q hq
  have g := j_le (U := U) h
  have hb : (!Bk U (sj U n j + q)) = true := sk_in (b := fun k => !Bk U k) (n - sj U n j) (sj U n j) (sj U n j + q) (by omega) (show sj U n j + q < ej U n j by unfold lj at hq; omega)
  unfold Bk at hb
  constructor
  · intro z
    rw [show U (sj U n j + q) = 32 from z] at hb
    exact absurd hb (by decide)
  · intro z
    rw [show U (sj U n j + q) = 10 from z] at hb
    exact absurd hb (by decide)
theorem uC {a f : Nat → Nat → Int32} {n j : Nat} {U : Nat → Nat} (hC : CT a f n U) (h : j ≤ n) : ∀ q, q < ej U n j - sj U n j → a 2 (sj U n j + q) = nI (uj U n j q) ∧ uj U n j q < 256 := by
  intro q hq
  have g := j_le (U := U) h
  obtain ⟨hu, e⟩ := hC.2.2 (sj U n j + q) (by omega)
  have hb := j_by (U := U) h q hq
  rw [if_neg (show ¬ U (sj U n j + q) = 10 from hb.2)] at e
  exact ⟨e, hu⟩
theorem uM {a f : Nat → Nat → Int32} {n j : Nat} {U : Nat → Nat} (hM : MT a f n U) (h : j ≤ n) : ∀ q, q < ej U n j - sj U n j → a 61 (sj U n j + q) = nI (uj U n j q) ∧ uj U n j q < 256 := by
  intro q hq
  have g := j_le (U := U) h
  obtain ⟨hu, e⟩ := hM.2.2 (sj U n j + q) (by omega)
  exact ⟨e, hu⟩
/-! the class's steps in the text -/
theorem c_next {ro : Nat → Option am_C} {c : Bool} {a : Nat → Nat → Int32} {l : Nat → Int64} {f : Nat → Nat → Int32} {n j : Nat} {w : Int32} {U : Nat → Nat} (hC : CT a f n U) (hj : j ≤ n) (h3 : f 1 3 = nI j) (h4 : f 1 4 = w) : am_run ro 1 27 [.ref 1] (wd c a l f) none (wd c a l (tx f (sj U n j) (ej U n j) (w + 1))) := by
  have h := cs_next (ro := ro) (c := c) (a := a) (l := l) hC.1 hC.2.1 h3 hj h4
  obtain ⟨e1, e2⟩ := w_eq (bC hC) hj
  rw [e1, e2] at h
  exact h
theorem c_first {ro : Nat → Option am_C} {c : Bool} {a : Nat → Nat → Int32} {l : Nat → Int64} {f : Nat → Nat → Int32} {n : Nat} {U : Nat → Nat} (hC : CT a f n U) : am_run ro 2 26 [.ref 1] (wd c a l f) none (wd c a l (tx f (sj U n 0) (ej U n 0) 0)) := by
  have h := cs_first (ro := ro) (c := c) (a := a) (l := l) hC.1 hC.2.1
  obtain ⟨e1, e2⟩ := w_eq (bC hC) (show 0 ≤ n by omega)
  rw [e1, e2] at h
  exact h
theorem c_num {ro : Nat → Option am_C} {c : Bool} {a : Nat → Nat → Int32} {l : Nat → Int64} {f : Nat → Nat → Int32} {n j b : Nat} {w : Int32} {U : Nat → Nat} (hb : b ≤ 1000000) (hC : CT a f n U) (hj : j ≤ n) (h3 : f 1 3 = nI j) (h4 : f 1 4 = w) : am_run ro 2 32 [.ref 1, .int (nI b)] (wd c a l f) (some (.int (nv (uj U n j) (lj U n j) b))) (wd c a l (tx f (sj U n j) (ej U n j) (w + 1))) := by
  obtain ⟨e1, e2⟩ := w_eq (bC hC) hj
  have h := cs_num (ro := ro) (c := c) (l := l) (u := uj U n j) hb hC.1 hC.2.1 h3 hj h4 (by rw [e1, e2]; exact uC hC hj)
  rw [e1, e2] at h
  exact h
theorem c_name {ro : Nat → Option am_C} {c : Bool} {a : Nat → Nat → Int32} {l : Nat → Int64} {f : Nat → Nat → Int32} {n j : Nat} {U : Nat → Nat} (hC : CT a f n U) (hj : j ≤ n) (h2 : f 1 2 = nI (sj U n j)) (h3 : f 1 3 = nI (ej U n j)) : am_run ro 2 33 [.ref 1] (wd c a l f) (some (.int (nI (nm (uj U n j) (lj U n j)).toNat))) (wd c a l f) := by
  have g := j_le (U := U) hj
  have hn := hC.1
  exact cs_name h2 h3 g.2.1 (by omega) (uC hC hj)
/-! tx: the word at hand, and writes beside it -/
theorem tx_tx {f : Nat → Nat → Int32} {s t s' t' : Nat} {w w' : Int32} : tx (tx f s t w) s' t' w' = tx f s' t' w' := by
  funext x y
  simp only [tx, u3]
  cases h1 : Nat.beq x 1 <;> cases h2 : Nat.beq y 2 <;> cases h3 : Nat.beq y 3 <;> cases h4 : Nat.beq y 4 <;> rfl
theorem tx_u3 {f : Nat → Nat → Int32} {s t i k : Nat} {w v : Int32} (hi : Nat.beq i 1 = false) : u3 (tx f s t w) i k v = tx (u3 f i k v) s t w := by
  funext x y
  simp only [tx, u3]
  cases h0 : Nat.beq x i <;> cases h1 : Nat.beq x 1
  · rfl
  · cases h2 : Nat.beq y 2 <;> cases h3 : Nat.beq y 3 <;> cases h4 : Nat.beq y 4 <;> rfl
  · rfl
  · have e0 := Nat.eq_of_beq_eq_true h0
    have e1 := Nat.eq_of_beq_eq_true h1
    rw [← e0, e1] at hi
    cases hi
theorem CT_tx {a f : Nat → Nat → Int32} {n s t : Nat} {w : Int32} {U : Nat → Nat} (hC : CT a f n U) : CT a (tx f s t w) n U := hC
theorem c_says_0 {N : Nat} {xs : Nat → Int32} {c : Bool} {a : Nat → Nat → Int32} {l : Nat → Int64} {f : Nat → Nat → Int32} {n j : Nat} {U : Nat → Nat} (hC : CT a f n U) (hj : j ≤ n) (h2 : f 1 2 = nI (sj U n j)) (h3 : f 1 3 = nI (ej U n j)) : am_run (wd_ro N xs) 5 29 [.ref 1, .retAddr 2] (wd c a l f) (some (.int (nI (sw (uj U n j) (lj U n j) vt_0 4).toNat))) (wd c a l f) := by
  have g := j_le (U := U) hj
  have hn := hC.1
  exact cs_says_0 h2 h3 g.2.1 (by omega) (uC hC hj)
theorem c_says_1 {N : Nat} {xs : Nat → Int32} {c : Bool} {a : Nat → Nat → Int32} {l : Nat → Int64} {f : Nat → Nat → Int32} {n j : Nat} {U : Nat → Nat} (hC : CT a f n U) (hj : j ≤ n) (h2 : f 1 2 = nI (sj U n j)) (h3 : f 1 3 = nI (ej U n j)) : am_run (wd_ro N xs) 5 29 [.ref 1, .retAddr 4] (wd c a l f) (some (.int (nI (sw (uj U n j) (lj U n j) vt_1 4).toNat))) (wd c a l f) := by
  have g := j_le (U := U) hj
  have hn := hC.1
  exact cs_says_1 h2 h3 g.2.1 (by omega) (uC hC hj)
theorem c_says_2 {N : Nat} {xs : Nat → Int32} {c : Bool} {a : Nat → Nat → Int32} {l : Nat → Int64} {f : Nat → Nat → Int32} {n j : Nat} {U : Nat → Nat} (hC : CT a f n U) (hj : j ≤ n) (h2 : f 1 2 = nI (sj U n j)) (h3 : f 1 3 = nI (ej U n j)) : am_run (wd_ro N xs) 5 29 [.ref 1, .retAddr 6] (wd c a l f) (some (.int (nI (sw (uj U n j) (lj U n j) vt_2 1).toNat))) (wd c a l f) := by
  have g := j_le (U := U) hj
  have hn := hC.1
  exact cs_says_2 h2 h3 g.2.1 (by omega) (uC hC hj)
theorem c_says_3 {N : Nat} {xs : Nat → Int32} {c : Bool} {a : Nat → Nat → Int32} {l : Nat → Int64} {f : Nat → Nat → Int32} {n j : Nat} {U : Nat → Nat} (hC : CT a f n U) (hj : j ≤ n) (h2 : f 1 2 = nI (sj U n j)) (h3 : f 1 3 = nI (ej U n j)) : am_run (wd_ro N xs) 5 29 [.ref 1, .retAddr 8] (wd c a l f) (some (.int (nI (sw (uj U n j) (lj U n j) vt_3 1).toNat))) (wd c a l f) := by
  have g := j_le (U := U) hj
  have hn := hC.1
  exact cs_says_3 h2 h3 g.2.1 (by omega) (uC hC hj)
theorem c_says_4 {N : Nat} {xs : Nat → Int32} {c : Bool} {a : Nat → Nat → Int32} {l : Nat → Int64} {f : Nat → Nat → Int32} {n j : Nat} {U : Nat → Nat} (hC : CT a f n U) (hj : j ≤ n) (h2 : f 1 2 = nI (sj U n j)) (h3 : f 1 3 = nI (ej U n j)) : am_run (wd_ro N xs) 5 29 [.ref 1, .retAddr 10] (wd c a l f) (some (.int (nI (sw (uj U n j) (lj U n j) vt_4 1).toNat))) (wd c a l f) := by
  have g := j_le (U := U) hj
  have hn := hC.1
  exact cs_says_4 h2 h3 g.2.1 (by omega) (uC hC hj)
theorem c_says_5 {N : Nat} {xs : Nat → Int32} {c : Bool} {a : Nat → Nat → Int32} {l : Nat → Int64} {f : Nat → Nat → Int32} {n j : Nat} {U : Nat → Nat} (hC : CT a f n U) (hj : j ≤ n) (h2 : f 1 2 = nI (sj U n j)) (h3 : f 1 3 = nI (ej U n j)) : am_run (wd_ro N xs) 5 29 [.ref 1, .retAddr 12] (wd c a l f) (some (.int (nI (sw (uj U n j) (lj U n j) vt_5 7).toNat))) (wd c a l f) := by
  have g := j_le (U := U) hj
  have hn := hC.1
  exact cs_says_5 h2 h3 g.2.1 (by omega) (uC hC hj)
theorem c_says_6 {N : Nat} {xs : Nat → Int32} {c : Bool} {a : Nat → Nat → Int32} {l : Nat → Int64} {f : Nat → Nat → Int32} {n j : Nat} {U : Nat → Nat} (hC : CT a f n U) (hj : j ≤ n) (h2 : f 1 2 = nI (sj U n j)) (h3 : f 1 3 = nI (ej U n j)) : am_run (wd_ro N xs) 5 29 [.ref 1, .retAddr 14] (wd c a l f) (some (.int (nI (sw (uj U n j) (lj U n j) vt_6 6).toNat))) (wd c a l f) := by
  have g := j_le (U := U) hj
  have hn := hC.1
  exact cs_says_6 h2 h3 g.2.1 (by omega) (uC hC hj)
theorem c_says_7 {N : Nat} {xs : Nat → Int32} {c : Bool} {a : Nat → Nat → Int32} {l : Nat → Int64} {f : Nat → Nat → Int32} {n j : Nat} {U : Nat → Nat} (hC : CT a f n U) (hj : j ≤ n) (h2 : f 1 2 = nI (sj U n j)) (h3 : f 1 3 = nI (ej U n j)) : am_run (wd_ro N xs) 5 29 [.ref 1, .retAddr 16] (wd c a l f) (some (.int (nI (sw (uj U n j) (lj U n j) vt_7 3).toNat))) (wd c a l f) := by
  have g := j_le (U := U) hj
  have hn := hC.1
  exact cs_says_7 h2 h3 g.2.1 (by omega) (uC hC hj)
theorem c_says_8 {N : Nat} {xs : Nat → Int32} {c : Bool} {a : Nat → Nat → Int32} {l : Nat → Int64} {f : Nat → Nat → Int32} {n j : Nat} {U : Nat → Nat} (hC : CT a f n U) (hj : j ≤ n) (h2 : f 1 2 = nI (sj U n j)) (h3 : f 1 3 = nI (ej U n j)) : am_run (wd_ro N xs) 5 29 [.ref 1, .retAddr 18] (wd c a l f) (some (.int (nI (sw (uj U n j) (lj U n j) vt_8 4).toNat))) (wd c a l f) := by
  have g := j_le (U := U) hj
  have hn := hC.1
  exact cs_says_8 h2 h3 g.2.1 (by omega) (uC hC hj)
/-! the reference's loop over words -/
def nx (f : Nat → Nat → Int32) (s t : Nat) : Nat → Nat → Int32 := u3 (u3 f 60 2 (nI s)) 60 3 (nI t)
theorem m_next {ro : Nat → Option am_C} {c : Bool} {a : Nat → Nat → Int32} {l : Nat → Int64} {f : Nat → Nat → Int32} {n j : Nat} {U : Nat → Nat} (hM : MT a f n U) (hj : j ≤ n) (h3 : f 60 3 = nI j) : am_run ro 2 107 [.ref 60] (wd c a l f) (some (.int (nI (decide (sj U n j < n)).toNat))) (wd c a l (nx f (sj U n j) (ej U n j))) := by
  have h := mo_next (ro := ro) (c := c) (a := a) (l := l) hM.1 hM.2.1 h3 hj
  obtain ⟨e1, e2⟩ := w_eq (bM hM) hj
  rw [e1, e2] at h
  exact h
/-! a refused text -/
set_option maxRecDepth 100000 in
set_option maxHeartbeats 4000000 in
theorem r_bad {ro : Nat → Option am_C} {c : Bool} {a : Nat → Nat → Int32} {l : Nat → Int64} {f : Nat → Nat → Int32} {w : Nat} {g : Int32} {K : Option Value → am_H → Prop} (hg : g = 0 ∨ (¬ f 60 27 = 0 ∧ ¬ f 60 27 = 3)) (kq : K (some (.int (-1 - nI w))) (wd c a l (u3 f 60 1 0))) : am_T ro 3 106 74 [.ref 60, .int (nI w), .int g] [] (wd c a l f) K := by
  have fin : am_T ro 3 106 97 [.ref 60, .int (nI w), .int g] [] (wd c a l f) K := by
    refine am_wp_ok (inl := []) 3 3 106 [99] _ _ _ _ _ ?_
    show am_T ro 3 106 99 [.ref 60, .int (nI w), .int 0] [] (wd c a l f) K
    refine am_wp_ok (inl := []) 4 3 106 [104] _ _ _ _ _ ?_
    show am_T ro 3 106 104 [.ref 60, .int (nI w), .int 0] [] ((wd c a l f).set 60 (.inr (10, [.ref 61, .int (f 60 1), .int (f 60 2), .int (f 60 3), .ref 62, .ref 63, .ref 64, .ref 65, .ref 66, .ref 67, .ref 68, .ref 69, .ref 70, .ref 71, .ref 72, .ref 73, .ref 74, .ref 75, .int (f 60 18), .ref 76, .ref 77, .ref 78, .ref 79, .int (f 60 23), .ref 80, .ref 81, .int (f 60 26), .int (f 60 27), .int (f 60 28)].set 1 (.int 0)))) K
    rw [wf_60_1]
    refine am_wp_ok (inl := []) 6 3 106 [112] _ _ _ _ _ ?_
    refine am_br_f (show ¬ ¬ (0 : Int32) = 0 from fun z => z rfl) ?_
    exact kq
  refine am_wp_ok (inl := []) 3 3 106 [78, 97] _ _ _ _ _ ?_
  by_cases h : g = 0
  · exact am_br_t h fin
  · obtain ⟨h0, h3⟩ := hg.resolve_left h
    refine am_br_f h ?_
    show am_T ro 3 106 78 [.ref 60, .int (nI w), .int g] [] (wd c a l f) K
    refine am_wp_ok (inl := []) 8 3 106 [97] _ _ _ _ _ ?_
    refine am_br_f h0 ?_
    refine am_br_t h3 ?_
    exact fin
set_option maxRecDepth 100000 in
set_option maxHeartbeats 4000000 in
theorem r_word {ro : Nat → Option am_C} {c : Bool} {a : Nat → Nat → Int32} {l : Nat → Int64} {f : Nat → Nat → Int32} {n j w : Nat} {U : Nat → Nat} {b : Bool} {hp : am_H} {K : Option Value → am_H → Prop} (hM : MT a f n U) (hj : j ≤ n) (h3 : f 60 3 = nI j) (hs : sj U n j < n) (h : am_run ro 3 109 [.ref 60] (wd c a l (nx f (sj U n j) (ej U n j))) (some (.int (nI b.toNat))) hp) (kq : am_T ro 3 106 43 [.ref 60, .int (nI (w + b.toNat)), .int (nI b.toNat)] [] hp K) : am_T ro 3 106 43 [.ref 60, .int (nI w), .int 1] [] (wd c a l f) K := by
  refine am_wp_ok (inl := []) 3 3 106 [47] _ _ _ _ _ ?_
  refine am_br_f (show ¬ (1 : Int32) = 0 by decide) ?_
  show am_T ro 3 106 47 [.ref 60, .int (nI w), .int 1] [] (wd c a l f) K
  refine am_wp_ok (inl := []) 3 3 106 [51] _ _ _ _ _ ?_
  refine ⟨_, _, am_run_up (m_next hM hj h3) (by decide), ?_⟩
  show am_T ro 3 106 51 [.ref 60, .int (nI w), .int 1] [.int (nI (decide (sj U n j < n)).toNat)] (wd c a l (nx f (sj U n j) (ej U n j))) K
  rw [decide_eq_true hs]
  refine am_wp_ok (inl := []) 2 3 106 [54] _ _ _ _ _ ?_
  refine am_br_f (show ¬ nI 1 = 0 by decide) ?_
  show am_T ro 3 106 54 [.ref 60, .int (nI w), .int 1] [] (wd c a l (nx f (sj U n j) (ej U n j))) K
  refine am_wp_ok (inl := []) 3 3 106 [58] _ _ _ _ _ ?_
  refine ⟨_, _, h, ?_⟩
  show am_T ro 3 106 58 [.ref 60, .int (nI w), .int 1] [.int (nI b.toNat)] hp K
  refine am_wp_ok (inl := []) 9 3 106 [43] _ _ _ _ _ ?_
  cases b with
  | true =>
    refine am_br_f (show ¬ nI 1 = 0 by decide) ?_
    show am_T ro 3 106 43 [.ref 60, .int (nI w + 1), .int (nI 1)] [] hp K
    rw [nI_1]
    exact kq
  | false =>
    refine am_br_t (show nI 0 = 0 from rfl) ?_
    show am_T ro 3 106 43 [.ref 60, .int (nI w + nI 0), .int (nI 0)] [] hp K
    rw [nI_add]
    exact kq
theorem r_take {ro : Nat → Option am_C} {c : Bool} {a : Nat → Nat → Int32} {l : Nat → Int64} {f : Nat → Nat → Int32} {a1 f1 : Nat → Nat → Int32} {l1 : Nat → Int64} {n j w : Nat} {U : Nat → Nat} {K : Option Value → am_H → Prop} (hM : MT a f n U) (hj : j ≤ n) (h3 : f 60 3 = nI j) (hs : sj U n j < n) (h : am_run ro 3 109 [.ref 60] (wd c a l (nx f (sj U n j) (ej U n j))) (some (.int (nI 1))) (wd c a1 l1 f1)) (kq : am_T ro 3 106 43 [.ref 60, .int (nI (w + 1)), .int 1] [] (wd c a1 l1 f1) K) : am_T ro 3 106 43 [.ref 60, .int (nI w), .int 1] [] (wd c a l f) K :=
  r_word (b := true) hM hj h3 hs h kq
set_option maxRecDepth 100000 in
set_option maxHeartbeats 4000000 in
theorem r_fail {ro : Nat → Option am_C} {c : Bool} {a : Nat → Nat → Int32} {l : Nat → Int64} {f : Nat → Nat → Int32} {a1 f1 : Nat → Nat → Int32} {l1 : Nat → Int64} {n j w : Nat} {U : Nat → Nat} {K : Option Value → am_H → Prop} (hM : MT a f n U) (hj : j ≤ n) (h3 : f 60 3 = nI j) (hs : sj U n j < n) (h : am_run ro 3 109 [.ref 60] (wd c a l (nx f (sj U n j) (ej U n j))) (some (.int (nI 0))) (wd c a1 l1 f1)) (kq : K (some (.int (-1 - nI w))) (wd c a1 l1 (u3 f1 60 1 0))) : am_T ro 3 106 43 [.ref 60, .int (nI w), .int 1] [] (wd c a l f) K := by
  refine r_word (b := false) hM hj h3 hs h ?_
  show am_T ro 3 106 43 [.ref 60, .int (nI w), .int (nI 0)] [] (wd c a1 l1 f1) K
  refine am_wp_ok (inl := []) 3 3 106 [74] _ _ _ _ _ ?_
  refine am_br_t (show nI 0 = 0 from rfl) ?_
  exact r_bad (Or.inl rfl) kq
set_option maxRecDepth 100000 in
set_option maxHeartbeats 4000000 in
theorem r_out {ro : Nat → Option am_C} {c : Bool} {a : Nat → Nat → Int32} {l : Nat → Int64} {f : Nat → Nat → Int32} {n j w : Nat} {U : Nat → Nat} {K : Option Value → am_H → Prop} (hM : MT a f n U) (hj : j ≤ n) (h3 : f 60 3 = nI j) (hs : n ≤ sj U n j) (kq : am_T ro 3 106 74 [.ref 60, .int (nI w), .int 1] [] (wd c a l (nx f (sj U n j) (ej U n j))) K) : am_T ro 3 106 43 [.ref 60, .int (nI w), .int 1] [] (wd c a l f) K := by
  refine am_wp_ok (inl := []) 3 3 106 [47] _ _ _ _ _ ?_
  refine am_br_f (show ¬ (1 : Int32) = 0 by decide) ?_
  show am_T ro 3 106 47 [.ref 60, .int (nI w), .int 1] [] (wd c a l f) K
  refine am_wp_ok (inl := []) 3 3 106 [51] _ _ _ _ _ ?_
  refine ⟨_, _, am_run_up (m_next hM hj h3) (by decide), ?_⟩
  show am_T ro 3 106 51 [.ref 60, .int (nI w), .int 1] [.int (nI (decide (sj U n j < n)).toNat)] (wd c a l (nx f (sj U n j) (ej U n j))) K
  rw [decide_eq_false (show ¬ sj U n j < n by omega)]
  refine am_wp_ok (inl := []) 2 3 106 [74] _ _ _ _ _ ?_
  refine am_br_t (show nI 0 = 0 from rfl) ?_
  exact kq
theorem r_over {ro : Nat → Option am_C} {c : Bool} {a : Nat → Nat → Int32} {l : Nat → Int64} {f : Nat → Nat → Int32} {n j w : Nat} {U : Nat → Nat} {K : Option Value → am_H → Prop} (hM : MT a f n U) (hj : j ≤ n) (h3 : f 60 3 = nI j) (hs : n ≤ sj U n j) (h0 : ¬ f 60 27 = 0) (h3' : ¬ f 60 27 = 3) (kq : K (some (.int (-1 - nI w))) (wd c a l (u3 (nx f (sj U n j) (ej U n j)) 60 1 0))) : am_T ro 3 106 43 [.ref 60, .int (nI w), .int 1] [] (wd c a l f) K :=
  r_out hM hj h3 hs (r_bad (Or.inr ⟨h0, h3'⟩) kq)
