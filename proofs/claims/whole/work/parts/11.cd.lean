/-- a class's row, with a field of it -/
noncomputable def am_cf (ci : Nat) (g : vw_C → Bool) : Bool := match am_cl[ci]? with
  | none => false
  | some q => g q
theorem am_cf_of {ci : Nat} {g : vw_C → Bool} (h : am_cf ci g = true) : ∃ C T N, am_cl[ci]? = some (C, T, N) ∧ g (C, T, N) = true := by
  unfold am_cf at h
  split at h
  · cases h
  · next q hq => exact ⟨q.1, q.2.1, q.2.2, hq, h⟩
/-- a final field is written in a constructor of its owner alone -/
noncomputable def am_cx (mi : Nat) : Instr → Bool
  | .putfield j => match am_kP (am_mP mi) j with
    | some (ci, k, _) => am_cf ci fun q => !(q.2.1 k).2.2.2 || (am_mI mi && decide ((q.2.1 k).1 = am_pN (am_mP mi)))
    | none => true
  | _ => true
/-- a table's row against the bytes -/
noncomputable def am_cq (mi pc : Nat) (v : Instr × Nat × Nat) : Bool := match decode (am_mB mi) pc with
  | .ok (j, n) => decide (j = v.1) && am_ck (am_mL mi) pc v.2.1 v.2.2 n v.1 && am_cx mi v.1
  | _ => false
def am_cqr (a n : Nat) : Prop := ∀ k, k < n → ∀ pc, pc < am_nC → am_oq (am_cdT (a + k) pc) (am_cq (a + k) pc) = true
theorem am_cqr_0 : am_cqr 0 8 := by unfold am_cqr; decide +kernel
theorem am_cqr_8 : am_cqr 8 8 := by unfold am_cqr; decide +kernel
theorem am_cqr_16 : am_cqr 16 8 := by unfold am_cqr; decide +kernel
theorem am_cqr_24 : am_cqr 24 8 := by unfold am_cqr; decide +kernel
theorem am_cqr_32 : am_cqr 32 8 := by unfold am_cqr; decide +kernel
theorem am_cqr_40 : am_cqr 40 8 := by unfold am_cqr; decide +kernel
theorem am_cqr_48 : am_cqr 48 8 := by unfold am_cqr; decide +kernel
theorem am_cqr_56 : am_cqr 56 8 := by unfold am_cqr; decide +kernel
theorem am_cqr_64 : am_cqr 64 8 := by unfold am_cqr; decide +kernel
theorem am_cqr_72 : am_cqr 72 8 := by unfold am_cqr; decide +kernel
theorem am_cqr_80 : am_cqr 80 8 := by unfold am_cqr; decide +kernel
theorem am_cqr_88 : am_cqr 88 8 := by unfold am_cqr; decide +kernel
theorem am_cqr_96 : am_cqr 96 8 := by unfold am_cqr; decide +kernel
theorem am_cqr_104 : am_cqr 104 8 := by unfold am_cqr; decide +kernel
theorem am_cqr_112 : am_cqr 112 8 := by unfold am_cqr; decide +kernel
theorem am_cqr_120 : am_cqr 120 8 := by unfold am_cqr; decide +kernel
theorem am_cqr_128 : am_cqr 128 8 := by unfold am_cqr; decide +kernel
theorem am_cqr_136 : am_cqr 136 8 := by unfold am_cqr; decide +kernel
theorem am_cqr_144 : am_cqr 144 8 := by unfold am_cqr; decide +kernel
theorem am_cqr_152 : am_cqr 152 3 := by unfold am_cqr; decide +kernel
theorem am_cq_all : ∀ mi, mi < am_nM → ∀ pc, pc < am_nC → am_oq (am_cdT mi pc) (am_cq mi pc) = true := by
  intro mi h pc hpc
  have h : mi < 155 := h
  by_cases h0 : mi < 8
  · have := am_cqr_0 (mi - 0) (by omega) pc hpc
    rw [show 0 + (mi - 0) = mi by omega] at this
    exact this
  by_cases h8 : mi < 16
  · have := am_cqr_8 (mi - 8) (by omega) pc hpc
    rw [show 8 + (mi - 8) = mi by omega] at this
    exact this
  by_cases h16 : mi < 24
  · have := am_cqr_16 (mi - 16) (by omega) pc hpc
    rw [show 16 + (mi - 16) = mi by omega] at this
    exact this
  by_cases h24 : mi < 32
  · have := am_cqr_24 (mi - 24) (by omega) pc hpc
    rw [show 24 + (mi - 24) = mi by omega] at this
    exact this
  by_cases h32 : mi < 40
  · have := am_cqr_32 (mi - 32) (by omega) pc hpc
    rw [show 32 + (mi - 32) = mi by omega] at this
    exact this
  by_cases h40 : mi < 48
  · have := am_cqr_40 (mi - 40) (by omega) pc hpc
    rw [show 40 + (mi - 40) = mi by omega] at this
    exact this
  by_cases h48 : mi < 56
  · have := am_cqr_48 (mi - 48) (by omega) pc hpc
    rw [show 48 + (mi - 48) = mi by omega] at this
    exact this
  by_cases h56 : mi < 64
  · have := am_cqr_56 (mi - 56) (by omega) pc hpc
    rw [show 56 + (mi - 56) = mi by omega] at this
    exact this
  by_cases h64 : mi < 72
  · have := am_cqr_64 (mi - 64) (by omega) pc hpc
    rw [show 64 + (mi - 64) = mi by omega] at this
    exact this
  by_cases h72 : mi < 80
  · have := am_cqr_72 (mi - 72) (by omega) pc hpc
    rw [show 72 + (mi - 72) = mi by omega] at this
    exact this
  by_cases h80 : mi < 88
  · have := am_cqr_80 (mi - 80) (by omega) pc hpc
    rw [show 80 + (mi - 80) = mi by omega] at this
    exact this
  by_cases h88 : mi < 96
  · have := am_cqr_88 (mi - 88) (by omega) pc hpc
    rw [show 88 + (mi - 88) = mi by omega] at this
    exact this
  by_cases h96 : mi < 104
  · have := am_cqr_96 (mi - 96) (by omega) pc hpc
    rw [show 96 + (mi - 96) = mi by omega] at this
    exact this
  by_cases h104 : mi < 112
  · have := am_cqr_104 (mi - 104) (by omega) pc hpc
    rw [show 104 + (mi - 104) = mi by omega] at this
    exact this
  by_cases h112 : mi < 120
  · have := am_cqr_112 (mi - 112) (by omega) pc hpc
    rw [show 112 + (mi - 112) = mi by omega] at this
    exact this
  by_cases h120 : mi < 128
  · have := am_cqr_120 (mi - 120) (by omega) pc hpc
    rw [show 120 + (mi - 120) = mi by omega] at this
    exact this
  by_cases h128 : mi < 136
  · have := am_cqr_128 (mi - 128) (by omega) pc hpc
    rw [show 128 + (mi - 128) = mi by omega] at this
    exact this
  by_cases h136 : mi < 144
  · have := am_cqr_136 (mi - 136) (by omega) pc hpc
    rw [show 136 + (mi - 136) = mi by omega] at this
    exact this
  by_cases h144 : mi < 152
  · have := am_cqr_144 (mi - 144) (by omega) pc hpc
    rw [show 144 + (mi - 144) = mi by omega] at this
    exact this
  by_cases h152 : mi < 155
  · have := am_cqr_152 (mi - 152) (by omega) pc hpc
    rw [show 152 + (mi - 152) = mi by omega] at this
    exact this
  omega
theorem am_cd_ok {mi pc nx t : Nat} {i : Instr} (hd : am_cd mi pc = some (i, nx, t)) : ∃ n, decode (am_mB mi) pc = .ok (i, n) ∧ am_ck (am_mL mi) pc nx t n i = true ∧ am_cx mi i = true := by
  have h := am_b2_all am_cq_all hd
  unfold am_cq at h
  split at h
  · next j n hdec =>
    rw [Bool.and_eq_true, Bool.and_eq_true] at h
    have e : j = i := of_decide_eq_true h.1.1
    subst e
    exact ⟨n, hdec, h.1.2, h.2⟩
  · cases h
