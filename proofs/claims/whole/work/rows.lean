section
-- ===== PART A: goes FIRST, ahead of the names: the tables' words, and 'selects' of the private methods out of them =====
/-- a private method of a class that the tables say can be made, by its rows of tables_1 -/
def lw_okq (q : MethodName × Nat) : Prop := (q.1.cls ≠ "java/lang/invoke/MethodHandle" ∧ q.1.cls ≠ "java/lang/invoke/VarHandle") ∧ Cond.instantiable q.1.cls q.2 ∈ tables_1 ∧ Cond.privateMethod q.1 ∈ tables_1 ∧ Cond.instanceMethod q.1 ∈ tables_1
theorem lw_p0 : lw_okq (⟨"CodeRules$Rules", "takeSentence", "(LCodeRules$Text;)Z"⟩, 3) := ⟨⟨by decide +kernel, by decide +kernel⟩, List.mem_of_getElem? (i := 108) (by decide +kernel), List.mem_of_getElem? (i := 282) (by decide +kernel), List.mem_of_getElem? (i := 283) (by decide +kernel)⟩
theorem lw_p1 : lw_okq (⟨"CodeRules$Rules", "takeBranch", "(LCodeRules$Text;)Z"⟩, 3) := ⟨⟨by decide +kernel, by decide +kernel⟩, List.mem_of_getElem? (i := 108) (by decide +kernel), List.mem_of_getElem? (i := 347) (by decide +kernel), List.mem_of_getElem? (i := 348) (by decide +kernel)⟩
theorem lw_p2 : lw_okq (⟨"CodeRules$Rules", "takeCondition", "(LCodeRules$Text;)Z"⟩, 3) := ⟨⟨by decide +kernel, by decide +kernel⟩, List.mem_of_getElem? (i := 108) (by decide +kernel), List.mem_of_getElem? (i := 367) (by decide +kernel), List.mem_of_getElem? (i := 368) (by decide +kernel)⟩
theorem lw_p3 : lw_okq (⟨"CodeRules$Rules", "takeGeneral", "(LCodeRules$Text;)Z"⟩, 3) := ⟨⟨by decide +kernel, by decide +kernel⟩, List.mem_of_getElem? (i := 108) (by decide +kernel), List.mem_of_getElem? (i := 385) (by decide +kernel), List.mem_of_getElem? (i := 386) (by decide +kernel)⟩
theorem lw_p4 : lw_okq (⟨"CodeRules$Rules", "takeMirror", "(LCodeRules$Text;)Z"⟩, 3) := ⟨⟨by decide +kernel, by decide +kernel⟩, List.mem_of_getElem? (i := 108) (by decide +kernel), List.mem_of_getElem? (i := 399) (by decide +kernel), List.mem_of_getElem? (i := 400) (by decide +kernel)⟩
theorem lw_p5 : lw_okq (⟨"CodeRules$Rules", "takeMap", "(LCodeRules$Text;)Z"⟩, 3) := ⟨⟨by decide +kernel, by decide +kernel⟩, List.mem_of_getElem? (i := 108) (by decide +kernel), List.mem_of_getElem? (i := 421) (by decide +kernel), List.mem_of_getElem? (i := 422) (by decide +kernel)⟩
theorem lw_p6 : lw_okq (⟨"CodeRules$Rules", "takeName", "(LCodeRules$Text;)Z"⟩, 3) := ⟨⟨by decide +kernel, by decide +kernel⟩, List.mem_of_getElem? (i := 108) (by decide +kernel), List.mem_of_getElem? (i := 435) (by decide +kernel), List.mem_of_getElem? (i := 436) (by decide +kernel)⟩
theorem lw_p7 : lw_okq (⟨"CodeRules$Names", "isSame", "(ILCodeRules$Text;)Z"⟩, 6) := ⟨⟨by decide +kernel, by decide +kernel⟩, List.mem_of_getElem? (i := 182) (by decide +kernel), List.mem_of_getElem? (i := 451) (by decide +kernel), List.mem_of_getElem? (i := 452) (by decide +kernel)⟩
theorem lw_p8 : lw_okq (⟨"CodeRules$Names", "letterAt", "(II)I"⟩, 6) := ⟨⟨by decide +kernel, by decide +kernel⟩, List.mem_of_getElem? (i := 182) (by decide +kernel), List.mem_of_getElem? (i := 456) (by decide +kernel), List.mem_of_getElem? (i := 457) (by decide +kernel)⟩
theorem lw_p9 : lw_okq (⟨"CodeRules$Rules", "firstFit", "(IILCodeRules$Facts;)I"⟩, 3) := ⟨⟨by decide +kernel, by decide +kernel⟩, List.mem_of_getElem? (i := 108) (by decide +kernel), List.mem_of_getElem? (i := 506) (by decide +kernel), List.mem_of_getElem? (i := 507) (by decide +kernel)⟩
theorem lw_p10 : lw_okq (⟨"CodeRules$Rules", "isSpecial", "(II)Z"⟩, 3) := ⟨⟨by decide +kernel, by decide +kernel⟩, List.mem_of_getElem? (i := 108) (by decide +kernel), List.mem_of_getElem? (i := 514) (by decide +kernel), List.mem_of_getElem? (i := 515) (by decide +kernel)⟩
theorem lw_p11 : lw_okq (⟨"CodeRules", "nearest", "(I)I"⟩, 7) := ⟨⟨by decide +kernel, by decide +kernel⟩, List.mem_of_getElem? (i := 18) (by decide +kernel), List.mem_of_getElem? (i := 582) (by decide +kernel), List.mem_of_getElem? (i := 583) (by decide +kernel)⟩
theorem lw_p12 : lw_okq (⟨"CodeRules$Names", "distance", "(ILCodeRules$Text;)I"⟩, 6) := ⟨⟨by decide +kernel, by decide +kernel⟩, List.mem_of_getElem? (i := 182) (by decide +kernel), List.mem_of_getElem? (i := 592) (by decide +kernel), List.mem_of_getElem? (i := 593) (by decide +kernel)⟩
theorem lw_p13 : lw_okq (⟨"CodeRules$Names", "rank", "(I)I"⟩, 6) := ⟨⟨by decide +kernel, by decide +kernel⟩, List.mem_of_getElem? (i := 182) (by decide +kernel), List.mem_of_getElem? (i := 599) (by decide +kernel), List.mem_of_getElem? (i := 600) (by decide +kernel)⟩
theorem lw_p14 : lw_okq (⟨"CodeRules$Papers", "lacking", "(I)I"⟩, 2) := ⟨⟨by decide +kernel, by decide +kernel⟩, List.mem_of_getElem? (i := 63) (by decide +kernel), List.mem_of_getElem? (i := 636) (by decide +kernel), List.mem_of_getElem? (i := 637) (by decide +kernel)⟩
theorem lw_p15 : lw_okq (⟨"CodeRulesModel", "next", "()Z"⟩, 29) := ⟨⟨by decide +kernel, by decide +kernel⟩, List.mem_of_getElem? (i := 697) (by decide +kernel), List.mem_of_getElem? (i := 804) (by decide +kernel), List.mem_of_getElem? (i := 805) (by decide +kernel)⟩
def lw_privs_1 : List (MethodName × Nat) := [(⟨"CodeRules$Rules", "takeSentence", "(LCodeRules$Text;)Z"⟩, 3), (⟨"CodeRules$Rules", "takeBranch", "(LCodeRules$Text;)Z"⟩, 3), (⟨"CodeRules$Rules", "takeCondition", "(LCodeRules$Text;)Z"⟩, 3), (⟨"CodeRules$Rules", "takeGeneral", "(LCodeRules$Text;)Z"⟩, 3), (⟨"CodeRules$Rules", "takeMirror", "(LCodeRules$Text;)Z"⟩, 3), (⟨"CodeRules$Rules", "takeMap", "(LCodeRules$Text;)Z"⟩, 3), (⟨"CodeRules$Rules", "takeName", "(LCodeRules$Text;)Z"⟩, 3), (⟨"CodeRules$Names", "isSame", "(ILCodeRules$Text;)Z"⟩, 6), (⟨"CodeRules$Names", "letterAt", "(II)I"⟩, 6), (⟨"CodeRules$Rules", "firstFit", "(IILCodeRules$Facts;)I"⟩, 3), (⟨"CodeRules$Rules", "isSpecial", "(II)Z"⟩, 3), (⟨"CodeRules", "nearest", "(I)I"⟩, 7), (⟨"CodeRules$Names", "distance", "(ILCodeRules$Text;)I"⟩, 6), (⟨"CodeRules$Names", "rank", "(I)I"⟩, 6), (⟨"CodeRules$Papers", "lacking", "(I)I"⟩, 2), (⟨"CodeRulesModel", "next", "()Z"⟩, 29)]
theorem lw_r1 : ∀ q ∈ lw_privs_1, lw_okq q := List.forall_mem_cons.mpr ⟨lw_p0, List.forall_mem_cons.mpr ⟨lw_p1, List.forall_mem_cons.mpr ⟨lw_p2, List.forall_mem_cons.mpr ⟨lw_p3, List.forall_mem_cons.mpr ⟨lw_p4, List.forall_mem_cons.mpr ⟨lw_p5, List.forall_mem_cons.mpr ⟨lw_p6, List.forall_mem_cons.mpr ⟨lw_p7, List.forall_mem_cons.mpr ⟨lw_p8, List.forall_mem_cons.mpr ⟨lw_p9, List.forall_mem_cons.mpr ⟨lw_p10, List.forall_mem_cons.mpr ⟨lw_p11, List.forall_mem_cons.mpr ⟨lw_p12, List.forall_mem_cons.mpr ⟨lw_p13, List.forall_mem_cons.mpr ⟨lw_p14, List.forall_mem_cons.mpr ⟨lw_p15, fun _ h => absurd h List.not_mem_nil⟩⟩⟩⟩⟩⟩⟩⟩⟩⟩⟩⟩⟩⟩⟩⟩
theorem lw_p16 : lw_okq (⟨"CodeRulesModel", "take", "()Z"⟩, 29) := ⟨⟨by decide +kernel, by decide +kernel⟩, List.mem_of_getElem? (i := 697) (by decide +kernel), List.mem_of_getElem? (i := 811) (by decide +kernel), List.mem_of_getElem? (i := 812) (by decide +kernel)⟩
theorem lw_p17 : lw_okq (⟨"CodeRulesModel", "is", "(J)Z"⟩, 29) := ⟨⟨by decide +kernel, by decide +kernel⟩, List.mem_of_getElem? (i := 697) (by decide +kernel), List.mem_of_getElem? (i := 816) (by decide +kernel), List.mem_of_getElem? (i := 817) (by decide +kernel)⟩
theorem lw_p18 : lw_okq (⟨"CodeRulesModel", "begins", "()Z"⟩, 29) := ⟨⟨by decide +kernel, by decide +kernel⟩, List.mem_of_getElem? (i := 697) (by decide +kernel), List.mem_of_getElem? (i := 821) (by decide +kernel), List.mem_of_getElem? (i := 822) (by decide +kernel)⟩
theorem lw_p19 : lw_okq (⟨"CodeRulesModel", "numberAt", "()I"⟩, 29) := ⟨⟨by decide +kernel, by decide +kernel⟩, List.mem_of_getElem? (i := 697) (by decide +kernel), List.mem_of_getElem? (i := 830) (by decide +kernel), List.mem_of_getElem? (i := 831) (by decide +kernel)⟩
theorem lw_p20 : lw_okq (⟨"CodeRulesModel", "takeOfBranch", "(I)Z"⟩, 29) := ⟨⟨by decide +kernel, by decide +kernel⟩, List.mem_of_getElem? (i := 697) (by decide +kernel), List.mem_of_getElem? (i := 834) (by decide +kernel), List.mem_of_getElem? (i := 835) (by decide +kernel)⟩
theorem lw_p21 : lw_okq (⟨"CodeRulesModel", "takeOfOther", "(I)Z"⟩, 29) := ⟨⟨by decide +kernel, by decide +kernel⟩, List.mem_of_getElem? (i := 697) (by decide +kernel), List.mem_of_getElem? (i := 839) (by decide +kernel), List.mem_of_getElem? (i := 840) (by decide +kernel)⟩
theorem lw_p22 : lw_okq (⟨"CodeRulesModel", "isMirrored", "(I)Z"⟩, 29) := ⟨⟨by decide +kernel, by decide +kernel⟩, List.mem_of_getElem? (i := 697) (by decide +kernel), List.mem_of_getElem? (i := 843) (by decide +kernel), List.mem_of_getElem? (i := 844) (by decide +kernel)⟩
theorem lw_p23 : lw_okq (⟨"CodeRulesModel", "nameAt", "()J"⟩, 29) := ⟨⟨by decide +kernel, by decide +kernel⟩, List.mem_of_getElem? (i := 697) (by decide +kernel), List.mem_of_getElem? (i := 847) (by decide +kernel), List.mem_of_getElem? (i := 848) (by decide +kernel)⟩
theorem lw_p24 : lw_okq (⟨"CodeRulesModel", "isName", "(J)Z"⟩, 29) := ⟨⟨by decide +kernel, by decide +kernel⟩, List.mem_of_getElem? (i := 697) (by decide +kernel), List.mem_of_getElem? (i := 852) (by decide +kernel), List.mem_of_getElem? (i := 853) (by decide +kernel)⟩
theorem lw_p25 : lw_okq (⟨"CodeRulesModel", "takeOfMap", "(I)Z"⟩, 29) := ⟨⟨by decide +kernel, by decide +kernel⟩, List.mem_of_getElem? (i := 697) (by decide +kernel), List.mem_of_getElem? (i := 856) (by decide +kernel), List.mem_of_getElem? (i := 857) (by decide +kernel)⟩
theorem lw_p26 : lw_okq (⟨"CodeRulesModel", "hold", "()V"⟩, 29) := ⟨⟨by decide +kernel, by decide +kernel⟩, List.mem_of_getElem? (i := 697) (by decide +kernel), List.mem_of_getElem? (i := 860) (by decide +kernel), List.mem_of_getElem? (i := 861) (by decide +kernel)⟩
theorem lw_p27 : lw_okq (⟨"CodeRulesModel", "trial", "()I"⟩, 29) := ⟨⟨by decide +kernel, by decide +kernel⟩, List.mem_of_getElem? (i := 697) (by decide +kernel), List.mem_of_getElem? (i := 880) (by decide +kernel), List.mem_of_getElem? (i := 881) (by decide +kernel)⟩
theorem lw_p28 : lw_okq (⟨"CodeRulesModel", "fits", "(I)Z"⟩, 29) := ⟨⟨by decide +kernel, by decide +kernel⟩, List.mem_of_getElem? (i := 697) (by decide +kernel), List.mem_of_getElem? (i := 884) (by decide +kernel), List.mem_of_getElem? (i := 885) (by decide +kernel)⟩
theorem lw_p29 : lw_okq (⟨"CodeRulesModel", "holds", "(I)Z"⟩, 29) := ⟨⟨by decide +kernel, by decide +kernel⟩, List.mem_of_getElem? (i := 697) (by decide +kernel), List.mem_of_getElem? (i := 888) (by decide +kernel), List.mem_of_getElem? (i := 889) (by decide +kernel)⟩
theorem lw_p30 : lw_okq (⟨"CodeRulesModel", "nearest", "(I)I"⟩, 29) := ⟨⟨by decide +kernel, by decide +kernel⟩, List.mem_of_getElem? (i := 697) (by decide +kernel), List.mem_of_getElem? (i := 914) (by decide +kernel), List.mem_of_getElem? (i := 915) (by decide +kernel)⟩
theorem lw_p31 : lw_okq (⟨"CodeRulesModel", "editsOf", "(JJ)I"⟩, 29) := ⟨⟨by decide +kernel, by decide +kernel⟩, List.mem_of_getElem? (i := 697) (by decide +kernel), List.mem_of_getElem? (i := 918) (by decide +kernel), List.mem_of_getElem? (i := 919) (by decide +kernel)⟩
def lw_privs_2 : List (MethodName × Nat) := [(⟨"CodeRulesModel", "take", "()Z"⟩, 29), (⟨"CodeRulesModel", "is", "(J)Z"⟩, 29), (⟨"CodeRulesModel", "begins", "()Z"⟩, 29), (⟨"CodeRulesModel", "numberAt", "()I"⟩, 29), (⟨"CodeRulesModel", "takeOfBranch", "(I)Z"⟩, 29), (⟨"CodeRulesModel", "takeOfOther", "(I)Z"⟩, 29), (⟨"CodeRulesModel", "isMirrored", "(I)Z"⟩, 29), (⟨"CodeRulesModel", "nameAt", "()J"⟩, 29), (⟨"CodeRulesModel", "isName", "(J)Z"⟩, 29), (⟨"CodeRulesModel", "takeOfMap", "(I)Z"⟩, 29), (⟨"CodeRulesModel", "hold", "()V"⟩, 29), (⟨"CodeRulesModel", "trial", "()I"⟩, 29), (⟨"CodeRulesModel", "fits", "(I)Z"⟩, 29), (⟨"CodeRulesModel", "holds", "(I)Z"⟩, 29), (⟨"CodeRulesModel", "nearest", "(I)I"⟩, 29), (⟨"CodeRulesModel", "editsOf", "(JJ)I"⟩, 29)]
theorem lw_r2 : ∀ q ∈ lw_privs_2, lw_okq q := List.forall_mem_cons.mpr ⟨lw_p16, List.forall_mem_cons.mpr ⟨lw_p17, List.forall_mem_cons.mpr ⟨lw_p18, List.forall_mem_cons.mpr ⟨lw_p19, List.forall_mem_cons.mpr ⟨lw_p20, List.forall_mem_cons.mpr ⟨lw_p21, List.forall_mem_cons.mpr ⟨lw_p22, List.forall_mem_cons.mpr ⟨lw_p23, List.forall_mem_cons.mpr ⟨lw_p24, List.forall_mem_cons.mpr ⟨lw_p25, List.forall_mem_cons.mpr ⟨lw_p26, List.forall_mem_cons.mpr ⟨lw_p27, List.forall_mem_cons.mpr ⟨lw_p28, List.forall_mem_cons.mpr ⟨lw_p29, List.forall_mem_cons.mpr ⟨lw_p30, List.forall_mem_cons.mpr ⟨lw_p31, fun _ h => absurd h List.not_mem_nil⟩⟩⟩⟩⟩⟩⟩⟩⟩⟩⟩⟩⟩⟩⟩⟩
def lw_privs : List (MethodName × Nat) := lw_privs_1 ++ (lw_privs_2)
def lw_tbl : List Cond := k2_sels lw_privs ++ tables_1
theorem lw_privs_ok : ∀ q ∈ lw_privs, lw_okq q := by
  show ∀ q ∈ lw_privs_1 ++ (lw_privs_2), lw_okq q
  exact List.forall_mem_append.mpr ⟨lw_r1, lw_r2⟩
end
section
/-! lengths of instructions, and what a table's row must keep -/
def am_len : Instr → Nat
  | .iconst _ => 1
  | .bipush _ => 2
  | .sipush _ => 3
  | .lconst _ => 1
  | .ldc _ => 2
  | .ldc2_w _ => 3
  | .iload _ => 2
  | .iload_n _ => 1
  | .lload _ => 2
  | .lload_n _ => 1
  | .aload _ => 2
  | .aload_n _ => 1
  | .istore _ => 2
  | .istore_n _ => 1
  | .lstore _ => 2
  | .lstore_n _ => 1
  | .astore _ => 2
  | .astore_n _ => 1
  | .iinc _ _ => 3
  | .iadd => 1
  | .isub => 1
  | .imul => 1
  | .iand => 1
  | .ior => 1
  | .ixor => 1
  | .ishl => 1
  | .ishr => 1
  | .idiv => 1
  | .irem => 1
  | .ladd => 1
  | .lsub => 1
  | .lmul => 1
  | .ldiv => 1
  | .lrem => 1
  | .lcmp => 1
  | .i2l => 1
  | .l2i => 1
  | .i2c => 1
  | .dup => 1
  | .pop => 1
  | .dup_x1 => 1
  | .dup2 => 1
  | .goto _ => 3
  | .ifCond _ _ => 3
  | .if_icmp _ _ => 3
  | .getstatic _ => 3
  | .getfield _ => 3
  | .putfield _ => 3
  | .iaload => 1
  | .baload => 1
  | .laload => 1
  | .iastore => 1
  | .bastore => 1
  | .lastore => 1
  | .arraylength => 1
  | .newarray _ => 2
  | .new _ => 3
  | .invokespecial _ => 3
  | .invokestatic _ => 3
  | .invokevirtual _ => 3
  | .ireturn => 1
  | .lreturn => 1
  | .return_ => 1
  | _ => 0
/-- small constants as they are pushed -/
def am_ki (n : Int) : Int32 := match n with
  | .ofNat k => Int32.ofNat k
  | .negSucc k => -(Int32.ofNat (k + 1))
/-- a table's row for the instruction i at pc, n bytes long, in a method of mL locals: nx is what lies behind it, t where a jump goes -/
def am_ck (mL pc nx t n : Nat) (i : Instr) : Bool := match i with
  | .tableswitch _ _ _ _ => true
  | .goto o => n == 3 && nx == pc + 3 && decide ((pc : Int) + o = (t : Int))
  | .ifCond _ o => n == 3 && nx == pc + 3 && decide ((pc : Int) + o = (t : Int))
  | .if_icmp _ o => n == 3 && nx == pc + 3 && decide ((pc : Int) + o = (t : Int))
  | .iconst v => n == 1 && nx == pc + 1 && decide (Int32.ofInt v = am_ki v)
  | .bipush v => n == 2 && nx == pc + 2 && decide ((Int8.ofInt v).toInt32 = am_ki v)
  | .sipush v => n == 3 && nx == pc + 3 && decide ((Int16.ofInt v).toInt32 = am_ki v)
  | .iinc j v => n == 3 && nx == pc + 3 && decide (Int32.ofInt v = am_ki v) && Nat.blt j mL
  | .istore j => n == 2 && nx == pc + 2 && Nat.blt j mL
  | .astore j => n == 2 && nx == pc + 2 && Nat.blt j mL
  | .lstore j => n == 2 && nx == pc + 2 && Nat.blt (j + 1) mL
  | .istore_n j => n == 1 && nx == pc + 1 && Nat.blt j.val mL
  | .astore_n j => n == 1 && nx == pc + 1 && Nat.blt j.val mL
  | .lstore_n j => n == 1 && nx == pc + 1 && Nat.blt (j.val + 1) mL
  | i => n == am_len i && nx == pc + n && Nat.blt 0 n
end
section
/-! tables with two keys; words by their places -/
def am_b2 {α : Type} (P J : Nat) (f : Nat → Nat → Option α) (p j : Nat) : Option α := bif Nat.blt p P && Nat.blt j J then f p j else none
def am_oq {α : Type} (o : Option α) (g : α → Bool) : Bool := match o with
  | none => true
  | some v => g v
theorem am_b2_all {α : Type} {P J : Nat} {f : Nat → Nat → Option α} {q : Nat → Nat → α → Bool} (h : ∀ p, p < P → ∀ j, j < J → am_oq (f p j) (q p j) = true) {p j : Nat} {v : α} (hv : am_b2 P J f p j = some v) : q p j v = true := by
  unfold am_b2 at hv
  cases hc : (Nat.blt p P && Nat.blt j J) with
  | false => rw [hc] at hv; cases hv
  | true =>
    rw [hc] at hv
    rw [Bool.and_eq_true] at hc
    have := h p (Nat.le_of_ble_eq_true hc.1) j (Nat.le_of_ble_eq_true hc.2)
    replace hv : f p j = some v := hv
    rw [hv] at this
    exact this
def am_in {α : Type} (N : Nat) (f : Nat → Option α) (j : Nat) : Option α := bif Nat.blt j N then f j else none
theorem am_in_of {α : Type} {N : Nat} {f : Nat → Option α} {j : Nat} {v : α} (hv : am_in N f j = some v) : j < N ∧ f j = some v := by
  unfold am_in at hv
  cases hc : Nat.blt j N with
  | false => rw [hc] at hv; cases hv
  | true =>
    rw [hc] at hv
    exact ⟨Nat.le_of_ble_eq_true hc, hv⟩
/-- what a value is in the machine: bs is the heap's size at the law's entry, ad k where the k-th cell from before lies -/
def am_cv (bs : Nat) (ad : Nat → Nat) : Value → Value
  | .ref i => .ref (bs + i)
  | .retAddr (k + 1) => bif Nat.beq k 99 then (match ad 99 with
    | 0 => .null
    | a + 1 => .ref a) else .ref (ad k)
  | v => v
/-- methods by number: all tables of methods are read at the number's last eight bits -/
def am_sm (mi : Nat) : Nat := Nat.land mi 255
theorem am_mall (f : Nat → Bool) (h : ∀ j, j < 256 → f j = true) (mi : Nat) : f (am_sm mi) = true := h _ (Nat.and_lt_two_pow mi (show 255 < 2 ^ 8 by decide))
end
section
/-! TABLES, laid by a program out of the Statement -/
noncomputable def am_F0 : u_T := fun k => match k with
  | 0 => ("CodeRules", "text", "LCodeRules$Text;", true)
  | 1 => ("CodeRules", "facts", "LCodeRules$Facts;", true)
  | 2 => ("CodeRules", "papers", "LCodeRules$Papers;", true)
  | 3 => ("CodeRules", "permits", "LCodeRules$Permits;", true)
  | 4 => ("CodeRules", "histories", "LCodeRules$Histories;", true)
  | 5 => ("CodeRules", "rules", "LCodeRules$Rules;", false)
  | _ => ("CodeRules", "draft", "LCodeRules$Rules;", false)
noncomputable def am_F1 : u_T := fun k => match k with
  | 0 => ("CodeRules$Text", "units", "[I", true)
  | 1 => ("CodeRules$Text", "size", "I", false)
  | 2 => ("CodeRules$Text", "start", "I", false)
  | 3 => ("CodeRules$Text", "end", "I", false)
  | _ => ("CodeRules$Text", "wordNumber", "I", false)
noncomputable def am_F2 : u_T := fun k => match k with
  | 0 => ("CodeRules$Facts", "known", "[Z", true)
  | _ => ("CodeRules$Facts", "values", "[I", true)
noncomputable def am_F3 : u_T := fun k => match k with
  | 0 => ("CodeRules$Papers", "needed", "[I", true)
  | _ => ("CodeRules$Papers", "there", "[I", true)
noncomputable def am_F4 : u_T := fun k => match k with
  | 0 => ("CodeRules$Permits", "spanCounts", "[I", true)
  | 1 => ("CodeRules$Permits", "firsts", "[I", true)
  | 2 => ("CodeRules$Permits", "lasts", "[I", true)
  | _ => ("CodeRules$Permits", "count", "I", false)
noncomputable def am_F5 : u_T := fun k => match k with
  | 0 => ("CodeRules$Histories", "counts", "[I", true)
  | _ => ("CodeRules$Histories", "had", "[I", true)
noncomputable def am_F6 : u_T := fun k => match k with
  | 0 => ("CodeRules$Rules", "branches", "LCodeRules$Branches;", true)
  | 1 => ("CodeRules$Rules", "codes", "LCodeRules$Codes;", true)
  | _ => ("CodeRules$Rules", "names", "LCodeRules$Names;", true)
noncomputable def am_F7 : u_T := fun k => match k with
  | 0 => ("CodeRules$Branches", "targets", "[I", true)
  | 1 => ("CodeRules$Branches", "groups", "[I", true)
  | 2 => ("CodeRules$Branches", "ends", "[I", true)
  | 3 => ("CodeRules$Branches", "asked", "[I", true)
  | 4 => ("CodeRules$Branches", "operators", "[I", true)
  | 5 => ("CodeRules$Branches", "values", "[I", true)
  | 6 => ("CodeRules$Branches", "count", "I", false)
  | _ => ("CodeRules$Branches", "conditions", "I", false)
noncomputable def am_F8 : u_T := fun k => match k with
  | 0 => ("CodeRules$Codes", "generals", "[I", true)
  | 1 => ("CodeRules$Codes", "harmless", "[I", true)
  | 2 => ("CodeRules$Codes", "hazardous", "[I", true)
  | 3 => ("CodeRules$Codes", "mapped", "[I", true)
  | 4 => ("CodeRules$Codes", "countries", "[I", true)
  | 5 => ("CodeRules$Codes", "days", "[I", true)
  | 6 => ("CodeRules$Codes", "nationals", "[I", true)
  | 7 => ("CodeRules$Codes", "generalCount", "I", false)
  | 8 => ("CodeRules$Codes", "mirrorCount", "I", false)
  | _ => ("CodeRules$Codes", "mapCount", "I", false)
noncomputable def am_F9 : u_T := fun k => match k with
  | 0 => ("CodeRules$Names", "targets", "[I", true)
  | 1 => ("CodeRules$Names", "lengths", "[I", true)
  | 2 => ("CodeRules$Names", "letters", "[I", true)
  | 3 => ("CodeRules$Names", "distances", "[I", true)
  | 4 => ("CodeRules$Names", "steps", "[I", true)
  | _ => ("CodeRules$Names", "count", "I", false)
noncomputable def am_F10 : u_T := fun k => match k with
  | 0 => ("CodeRulesModel", "text", "[I", true)
  | 1 => ("CodeRulesModel", "size", "I", false)
  | 2 => ("CodeRulesModel", "from", "I", false)
  | 3 => ("CodeRulesModel", "end", "I", false)
  | 4 => ("CodeRulesModel", "counts", "[I", true)
  | 5 => ("CodeRulesModel", "codes", "[I", true)
  | 6 => ("CodeRulesModel", "groups", "[I", true)
  | 7 => ("CodeRulesModel", "starts", "[I", true)
  | 8 => ("CodeRulesModel", "conditions", "[I", true)
  | 9 => ("CodeRulesModel", "generals", "[I", true)
  | 10 => ("CodeRulesModel", "mirrors", "[I", true)
  | 11 => ("CodeRulesModel", "maps", "[I", true)
  | 12 => ("CodeRulesModel", "named", "[I", true)
  | 13 => ("CodeRulesModel", "names", "[J", true)
  | 14 => ("CodeRulesModel", "isKnown", "[Z", true)
  | 15 => ("CodeRulesModel", "values", "[I", true)
  | 16 => ("CodeRulesModel", "isNeeded", "[Z", true)
  | 17 => ("CodeRulesModel", "isThere", "[Z", true)
  | 18 => ("CodeRulesModel", "permits", "I", false)
  | 19 => ("CodeRulesModel", "spanCounts", "[I", true)
  | 20 => ("CodeRulesModel", "spans", "[I", true)
  | 21 => ("CodeRulesModel", "historyCounts", "[I", true)
  | 22 => ("CodeRulesModel", "histories", "[I", true)
  | 23 => ("CodeRulesModel", "asked", "I", false)
  | 24 => ("CodeRulesModel", "row", "[I", true)
  | 25 => ("CodeRulesModel", "distances", "[I", true)
  | 26 => ("CodeRulesModel", "read", "I", false)
  | 27 => ("CodeRulesModel", "wanted", "I", false)
  | _ => ("CodeRulesModel", "first", "I", false)
noncomputable abbrev am_cl : List vw_C := [("CodeRules", am_F0, 7), ("CodeRules$Text", am_F1, 5), ("CodeRules$Facts", am_F2, 2), ("CodeRules$Papers", am_F3, 2), ("CodeRules$Permits", am_F4, 4), ("CodeRules$Histories", am_F5, 2), ("CodeRules$Rules", am_F6, 3), ("CodeRules$Branches", am_F7, 8), ("CodeRules$Codes", am_F8, 10), ("CodeRules$Names", am_F9, 6), ("CodeRulesModel", am_F10, 29)]
noncomputable def am_nP : Nat := 16
noncomputable def am_nJ : Nat := 1088
noncomputable def am_pN (p : Nat) : String := (bif Nat.blt p 7 then (bif Nat.blt p 3 then (bif Nat.blt p 1 then "CodeRules" else (bif Nat.blt p 2 then "CodeRules$Text" else "CodeRules$Facts")) else (bif Nat.blt p 5 then (bif Nat.blt p 4 then "CodeRules$Papers" else "CodeRules$Permits") else (bif Nat.blt p 6 then "CodeRules$Histories" else "CodeRules$Rules"))) else (bif Nat.blt p 11 then (bif Nat.blt p 9 then (bif Nat.blt p 8 then "CodeRules$Branches" else "CodeRules$Codes") else (bif Nat.blt p 10 then "CodeRules$Names" else "CodeRulesModel")) else (bif Nat.blt p 13 then (bif Nat.blt p 12 then "java/lang/String" else "java/lang/StringLatin1") else (bif Nat.blt p 14 then "jdk/internal/util/Preconditions" else "CodeRulesLaw"))))
noncomputable def am_cN (c : Nat) : String := (bif Nat.blt c 7 then (bif Nat.blt c 3 then (bif Nat.blt c 1 then "CodeRules" else (bif Nat.blt c 2 then "CodeRules$Text" else "CodeRules$Facts")) else (bif Nat.blt c 5 then (bif Nat.blt c 4 then "CodeRules$Papers" else "CodeRules$Permits") else (bif Nat.blt c 6 then "CodeRules$Histories" else "CodeRules$Rules"))) else (bif Nat.blt c 100 then (bif Nat.blt c 9 then (bif Nat.blt c 8 then "CodeRules$Branches" else "CodeRules$Codes") else (bif Nat.blt c 10 then "CodeRules$Names" else "CodeRulesModel")) else (bif Nat.blt c 102 then (bif Nat.blt c 101 then "java/lang/String" else "java/lang/StringLatin1") else (bif Nat.blt c 103 then "jdk/internal/util/Preconditions" else "CodeRulesLaw"))))
noncomputable def am_df (c : Nat) : List Value := (bif Nat.blt c 5 then (bif Nat.blt c 2 then (bif Nat.blt c 1 then [.null, .null, .null, .null, .null, .null, .null] else [.null, .int 0, .int 0, .int 0, .int 0]) else (bif Nat.blt c 3 then [.null, .null] else (bif Nat.blt c 4 then [.null, .null] else [.null, .null, .null, .int 0]))) else (bif Nat.blt c 8 then (bif Nat.blt c 6 then [.null, .null] else (bif Nat.blt c 7 then [.null, .null, .null] else [.null, .null, .null, .null, .null, .null, .int 0, .int 0])) else (bif Nat.blt c 9 then [.null, .null, .null, .null, .null, .null, .null, .int 0, .int 0, .int 0] else (bif Nat.blt c 10 then [.null, .null, .null, .null, .null, .int 0] else [.null, .int 0, .int 0, .int 0, .null, .null, .null, .null, .null, .null, .null, .null, .null, .null, .null, .null, .null, .null, .int 0, .null, .null, .null, .null, .int 0, .null, .null, .int 0, .int 0, .int 0]))))
noncomputable def am_mNt (j : Nat) : MethodName := (bif Nat.blt j 77 then (bif Nat.blt j 38 then (bif Nat.blt j 19 then (bif Nat.blt j 9 then (bif Nat.blt j 4 then (bif Nat.blt j 2 then (bif Nat.blt j 1 then ⟨"CodeRules", "<init>", "()V"⟩ else ⟨"CodeRules", "unit", "(I)Z"⟩) else (bif Nat.blt j 3 then ⟨"CodeRules", "read", "()I"⟩ else ⟨"CodeRules", "fact", "(II)Z"⟩)) else (bif Nat.blt j 6 then (bif Nat.blt j 5 then ⟨"CodeRules", "isBelow", "(II)Z"⟩ else ⟨"CodeRules", "clearFacts", "()I"⟩) else (bif Nat.blt j 7 then ⟨"CodeRules", "code", "()I"⟩ else (bif Nat.blt j 8 then ⟨"CodeRules", "taken", "()I"⟩ else ⟨"CodeRules", "asks", "()I"⟩)))) else (bif Nat.blt j 14 then (bif Nat.blt j 11 then (bif Nat.blt j 10 then ⟨"CodeRules", "general", "(I)Z"⟩ else ⟨"CodeRules", "mirror", "(IZ)I"⟩) else (bif Nat.blt j 12 then ⟨"CodeRules", "map", "(III)I"⟩ else (bif Nat.blt j 13 then ⟨"CodeRules", "isNumber", "(I)Z"⟩ else ⟨"CodeRules", "near", "(I)I"⟩))) else (bif Nat.blt j 16 then (bif Nat.blt j 15 then ⟨"CodeRules", "nearest", "(I)I"⟩ else ⟨"CodeRules", "edits", "(I)I"⟩) else (bif Nat.blt j 17 then ⟨"CodeRules", "needs", "(II)Z"⟩ else (bif Nat.blt j 18 then ⟨"CodeRules", "paper", "(II)Z"⟩ else ⟨"CodeRules", "lacks", "(II)I"⟩))))) else (bif Nat.blt j 28 then (bif Nat.blt j 23 then (bif Nat.blt j 21 then (bif Nat.blt j 20 then ⟨"CodeRules", "permit", "()I"⟩ else ⟨"CodeRules", "allows", "(III)Z"⟩) else (bif Nat.blt j 22 then ⟨"CodeRules", "check", "(II)I"⟩ else ⟨"CodeRules", "put", "(I)I"⟩)) else (bif Nat.blt j 25 then (bif Nat.blt j 24 then ⟨"CodeRules", "history", "(II)I"⟩ else ⟨"CodeRules$Text", "<init>", "()V"⟩) else (bif Nat.blt j 26 then ⟨"CodeRules$Text", "append", "(I)Z"⟩ else (bif Nat.blt j 27 then ⟨"CodeRules$Text", "toFirstWord", "()V"⟩ else ⟨"CodeRules$Text", "toNextWord", "()V"⟩)))) else (bif Nat.blt j 33 then (bif Nat.blt j 30 then (bif Nat.blt j 29 then ⟨"CodeRules$Text", "isOver", "()Z"⟩ else ⟨"CodeRules$Text", "says", "(Ljava/lang/String;)Z"⟩) else (bif Nat.blt j 31 then ⟨"CodeRules$Text", "length", "()I"⟩ else (bif Nat.blt j 32 then ⟨"CodeRules$Text", "byteAt", "(I)I"⟩ else ⟨"CodeRules$Text", "nextNumber", "(I)I"⟩))) else (bif Nat.blt j 35 then (bif Nat.blt j 34 then ⟨"CodeRules$Text", "isName", "()Z"⟩ else ⟨"CodeRules$Text", "wordNumber", "()I"⟩) else (bif Nat.blt j 36 then ⟨"CodeRules$Text", "empty", "()V"⟩ else (bif Nat.blt j 37 then ⟨"CodeRules$Facts", "<init>", "()V"⟩ else ⟨"CodeRules$Facts", "learn", "(II)Z"⟩)))))) else (bif Nat.blt j 57 then (bif Nat.blt j 47 then (bif Nat.blt j 42 then (bif Nat.blt j 40 then (bif Nat.blt j 39 then ⟨"CodeRules$Facts", "forget", "()I"⟩ else ⟨"CodeRules$Facts", "isKnown", "(I)Z"⟩) else (bif Nat.blt j 41 then ⟨"CodeRules$Facts", "valueOf", "(I)I"⟩ else ⟨"CodeRules$Papers", "<init>", "()V"⟩)) else (bif Nat.blt j 44 then (bif Nat.blt j 43 then ⟨"CodeRules$Papers", "forget", "()V"⟩ else ⟨"CodeRules$Papers", "demand", "(II)Z"⟩) else (bif Nat.blt j 45 then ⟨"CodeRules$Papers", "isIn", "(II)Z"⟩ else (bif Nat.blt j 46 then ⟨"CodeRules$Papers", "bring", "(II)Z"⟩ else ⟨"CodeRules$Papers", "lacking", "(I)I"⟩)))) else (bif Nat.blt j 52 then (bif Nat.blt j 49 then (bif Nat.blt j 48 then ⟨"CodeRules$Papers", "missing", "(II)I"⟩ else ⟨"CodeRules$Permits", "<init>", "()V"⟩) else (bif Nat.blt j 50 then ⟨"CodeRules$Permits", "grant", "()I"⟩ else (bif Nat.blt j 51 then ⟨"CodeRules$Permits", "addSpan", "(III)Z"⟩ else ⟨"CodeRules$Permits", "covers", "(II)I"⟩))) else (bif Nat.blt j 54 then (bif Nat.blt j 53 then ⟨"CodeRules$Histories", "<init>", "()V"⟩ else ⟨"CodeRules$Histories", "hasRoom", "(I)Z"⟩) else (bif Nat.blt j 55 then ⟨"CodeRules$Histories", "append", "(II)V"⟩ else (bif Nat.blt j 56 then ⟨"CodeRules$Histories", "recall", "(II)I"⟩ else ⟨"CodeRules$Rules", "<init>", "()V"⟩))))) else (bif Nat.blt j 67 then (bif Nat.blt j 62 then (bif Nat.blt j 59 then (bif Nat.blt j 58 then ⟨"CodeRules$Rules", "tell", "(LCodeRules$Text;)I"⟩ else ⟨"CodeRules$Rules", "takeSentence", "(LCodeRules$Text;)Z"⟩) else (bif Nat.blt j 60 then ⟨"CodeRules$Rules", "takeBranch", "(LCodeRules$Text;)Z"⟩ else (bif Nat.blt j 61 then ⟨"CodeRules$Rules", "takeCondition", "(LCodeRules$Text;)Z"⟩ else ⟨"CodeRules$Rules", "takeGeneral", "(LCodeRules$Text;)Z"⟩))) else (bif Nat.blt j 64 then (bif Nat.blt j 63 then ⟨"CodeRules$Rules", "takeMirror", "(LCodeRules$Text;)Z"⟩ else ⟨"CodeRules$Rules", "takeMap", "(LCodeRules$Text;)Z"⟩) else (bif Nat.blt j 65 then ⟨"CodeRules$Rules", "takeName", "(LCodeRules$Text;)Z"⟩ else (bif Nat.blt j 66 then ⟨"CodeRules$Rules", "outcome", "(LCodeRules$Facts;)I"⟩ else ⟨"CodeRules$Rules", "firstFit", "(IILCodeRules$Facts;)I"⟩)))) else (bif Nat.blt j 72 then (bif Nat.blt j 69 then (bif Nat.blt j 68 then ⟨"CodeRules$Rules", "isSpecial", "(II)Z"⟩ else ⟨"CodeRules$Branches", "<init>", "()V"⟩) else (bif Nat.blt j 70 then ⟨"CodeRules$Branches", "forget", "()V"⟩ else (bif Nat.blt j 71 then ⟨"CodeRules$Branches", "isFull", "()Z"⟩ else ⟨"CodeRules$Branches", "add", "(II)V"⟩))) else (bif Nat.blt j 74 then (bif Nat.blt j 73 then ⟨"CodeRules$Branches", "hasAllConditions", "()Z"⟩ else ⟨"CodeRules$Branches", "addCondition", "(III)V"⟩) else (bif Nat.blt j 75 then ⟨"CodeRules$Branches", "count", "()I"⟩ else (bif Nat.blt j 76 then ⟨"CodeRules$Branches", "groupAt", "(I)I"⟩ else ⟨"CodeRules$Branches", "codeAt", "(I)I"⟩))))))) else (bif Nat.blt j 116 then (bif Nat.blt j 96 then (bif Nat.blt j 86 then (bif Nat.blt j 81 then (bif Nat.blt j 79 then (bif Nat.blt j 78 then ⟨"CodeRules$Branches", "meet", "(ILCodeRules$Facts;)I"⟩ else ⟨"CodeRules$Branches", "compare", "(III)Z"⟩) else (bif Nat.blt j 80 then ⟨"CodeRules$Codes", "<init>", "()V"⟩ else ⟨"CodeRules$Codes", "forget", "()V"⟩)) else (bif Nat.blt j 83 then (bif Nat.blt j 82 then ⟨"CodeRules$Codes", "hasAllGenerals", "()Z"⟩ else ⟨"CodeRules$Codes", "addGeneral", "(I)V"⟩) else (bif Nat.blt j 84 then ⟨"CodeRules$Codes", "hasAllMirrors", "()Z"⟩ else (bif Nat.blt j 85 then ⟨"CodeRules$Codes", "isMirrored", "(I)Z"⟩ else ⟨"CodeRules$Codes", "mirrorOf", "(IZ)I"⟩)))) else (bif Nat.blt j 91 then (bif Nat.blt j 88 then (bif Nat.blt j 87 then ⟨"CodeRules$Codes", "addMirror", "(II)V"⟩ else ⟨"CodeRules$Codes", "hasAllMaps", "()Z"⟩) else (bif Nat.blt j 89 then ⟨"CodeRules$Codes", "addMap", "(IIII)V"⟩ else (bif Nat.blt j 90 then ⟨"CodeRules$Codes", "isGeneral", "(I)Z"⟩ else ⟨"CodeRules$Codes", "nationalCode", "(III)I"⟩))) else (bif Nat.blt j 93 then (bif Nat.blt j 92 then ⟨"CodeRules$Names", "<init>", "()V"⟩ else ⟨"CodeRules$Names", "forget", "()V"⟩) else (bif Nat.blt j 94 then ⟨"CodeRules$Names", "isFull", "()Z"⟩ else (bif Nat.blt j 95 then ⟨"CodeRules$Names", "has", "(LCodeRules$Text;)Z"⟩ else ⟨"CodeRules$Names", "isSame", "(ILCodeRules$Text;)Z"⟩))))) else (bif Nat.blt j 106 then (bif Nat.blt j 101 then (bif Nat.blt j 98 then (bif Nat.blt j 97 then ⟨"CodeRules$Names", "letterAt", "(II)I"⟩ else ⟨"CodeRules$Names", "add", "(ILCodeRules$Text;)V"⟩) else (bif Nat.blt j 99 then ⟨"CodeRules$Names", "nearestTo", "(LCodeRules$Text;I)I"⟩ else (bif Nat.blt j 100 then ⟨"CodeRules$Names", "distance", "(ILCodeRules$Text;)I"⟩ else ⟨"CodeRules$Names", "rank", "(I)I"⟩))) else (bif Nat.blt j 103 then (bif Nat.blt j 102 then ⟨"CodeRules$Names", "codeAt", "(I)I"⟩ else ⟨"CodeRules$Names", "distanceAt", "(I)I"⟩) else (bif Nat.blt j 104 then ⟨"CodeRulesModel", "<init>", "()V"⟩ else (bif Nat.blt j 105 then ⟨"CodeRulesModel", "unit", "(I)Z"⟩ else ⟨"CodeRulesModel", "isIn", "(JJJ)Z"⟩)))) else (bif Nat.blt j 111 then (bif Nat.blt j 108 then (bif Nat.blt j 107 then ⟨"CodeRulesModel", "read", "()I"⟩ else ⟨"CodeRulesModel", "next", "()Z"⟩) else (bif Nat.blt j 109 then ⟨"CodeRulesModel", "isBlank", "(I)Z"⟩ else (bif Nat.blt j 110 then ⟨"CodeRulesModel", "take", "()Z"⟩ else ⟨"CodeRulesModel", "is", "(J)Z"⟩))) else (bif Nat.blt j 113 then (bif Nat.blt j 112 then ⟨"CodeRulesModel", "begins", "()Z"⟩ else ⟨"CodeRulesModel", "numberAt", "()I"⟩) else (bif Nat.blt j 114 then ⟨"CodeRulesModel", "takeOfBranch", "(I)Z"⟩ else (bif Nat.blt j 115 then ⟨"CodeRulesModel", "takeOfOther", "(I)Z"⟩ else ⟨"CodeRulesModel", "isMirrored", "(I)Z"⟩)))))) else (bif Nat.blt j 135 then (bif Nat.blt j 125 then (bif Nat.blt j 120 then (bif Nat.blt j 118 then (bif Nat.blt j 117 then ⟨"CodeRulesModel", "nameAt", "()J"⟩ else ⟨"CodeRulesModel", "isName", "(J)Z"⟩) else (bif Nat.blt j 119 then ⟨"CodeRulesModel", "takeOfMap", "(I)Z"⟩ else ⟨"CodeRulesModel", "hold", "()V"⟩)) else (bif Nat.blt j 122 then (bif Nat.blt j 121 then ⟨"CodeRulesModel", "fact", "(II)Z"⟩ else ⟨"CodeRulesModel", "clearFacts", "()I"⟩) else (bif Nat.blt j 123 then ⟨"CodeRulesModel", "general", "(I)Z"⟩ else (bif Nat.blt j 124 then ⟨"CodeRulesModel", "code", "()I"⟩ else ⟨"CodeRulesModel", "trial", "()I"⟩)))) else (bif Nat.blt j 130 then (bif Nat.blt j 127 then (bif Nat.blt j 126 then ⟨"CodeRulesModel", "fits", "(I)Z"⟩ else ⟨"CodeRulesModel", "holds", "(I)Z"⟩) else (bif Nat.blt j 128 then ⟨"CodeRulesModel", "taken", "()I"⟩ else (bif Nat.blt j 129 then ⟨"CodeRulesModel", "asks", "()I"⟩ else ⟨"CodeRulesModel", "mirror", "(IZ)I"⟩))) else (bif Nat.blt j 132 then (bif Nat.blt j 131 then ⟨"CodeRulesModel", "map", "(III)I"⟩ else ⟨"CodeRulesModel", "near", "(I)I"⟩) else (bif Nat.blt j 133 then ⟨"CodeRulesModel", "nearest", "(I)I"⟩ else (bif Nat.blt j 134 then ⟨"CodeRulesModel", "editsOf", "(JJ)I"⟩ else ⟨"CodeRulesModel", "lettersOf", "(J)I"⟩))))) else (bif Nat.blt j 145 then (bif Nat.blt j 140 then (bif Nat.blt j 137 then (bif Nat.blt j 136 then ⟨"CodeRulesModel", "letter", "(JII)I"⟩ else ⟨"CodeRulesModel", "least", "(II)I"⟩) else (bif Nat.blt j 138 then ⟨"CodeRulesModel", "edits", "(I)I"⟩ else (bif Nat.blt j 139 then ⟨"CodeRulesModel", "needs", "(II)Z"⟩ else ⟨"CodeRulesModel", "isPaper", "(II)Z"⟩))) else (bif Nat.blt j 142 then (bif Nat.blt j 141 then ⟨"CodeRulesModel", "paper", "(II)Z"⟩ else ⟨"CodeRulesModel", "lacks", "(II)I"⟩) else (bif Nat.blt j 143 then ⟨"CodeRulesModel", "permit", "()I"⟩ else (bif Nat.blt j 144 then ⟨"CodeRulesModel", "allows", "(III)Z"⟩ else ⟨"CodeRulesModel", "check", "(II)I"⟩)))) else (bif Nat.blt j 150 then (bif Nat.blt j 147 then (bif Nat.blt j 146 then ⟨"CodeRulesModel", "put", "(I)I"⟩ else ⟨"CodeRulesModel", "history", "(II)I"⟩) else (bif Nat.blt j 148 then ⟨"java/lang/String", "length", "()I"⟩ else (bif Nat.blt j 149 then ⟨"java/lang/String", "coder", "()B"⟩ else ⟨"java/lang/String", "charAt", "(I)C"⟩))) else (bif Nat.blt j 152 then (bif Nat.blt j 151 then ⟨"java/lang/String", "isLatin1", "()Z"⟩ else ⟨"java/lang/StringLatin1", "charAt", "([BI)C"⟩) else (bif Nat.blt j 153 then ⟨"java/lang/String", "checkIndex", "(II)V"⟩ else (bif Nat.blt j 154 then ⟨"jdk/internal/util/Preconditions", "checkIndex", "(IILjava/util/function/BiFunction;)I"⟩ else ⟨"CodeRulesLaw", "law", "([I)Z"⟩))))))))
noncomputable def am_mN (mi : Nat) : MethodName := am_mNt (am_sm mi)
noncomputable def am_mBt (j : Nat) : ByteArray := (bif Nat.blt j 77 then (bif Nat.blt j 38 then (bif Nat.blt j 19 then (bif Nat.blt j 9 then (bif Nat.blt j 4 then (bif Nat.blt j 2 then (bif Nat.blt j 1 then prog_1_method_1_code else prog_1_method_2_code) else (bif Nat.blt j 3 then prog_1_method_3_code else prog_1_method_4_code)) else (bif Nat.blt j 6 then (bif Nat.blt j 5 then prog_1_method_23_code else prog_1_method_5_code) else (bif Nat.blt j 7 then prog_1_method_6_code else (bif Nat.blt j 8 then prog_1_method_7_code else prog_1_method_8_code)))) else (bif Nat.blt j 14 then (bif Nat.blt j 11 then (bif Nat.blt j 10 then prog_1_method_9_code else prog_1_method_10_code) else (bif Nat.blt j 12 then prog_1_method_11_code else (bif Nat.blt j 13 then prog_1_method_24_code else prog_1_method_12_code))) else (bif Nat.blt j 16 then (bif Nat.blt j 15 then prog_1_method_22_code else prog_1_method_13_code) else (bif Nat.blt j 17 then prog_1_method_14_code else (bif Nat.blt j 18 then prog_1_method_15_code else prog_1_method_16_code))))) else (bif Nat.blt j 28 then (bif Nat.blt j 23 then (bif Nat.blt j 21 then (bif Nat.blt j 20 then prog_1_method_17_code else prog_1_method_18_code) else (bif Nat.blt j 22 then prog_1_method_19_code else prog_1_method_20_code)) else (bif Nat.blt j 25 then (bif Nat.blt j 24 then prog_1_method_21_code else prog_10_method_1_code) else (bif Nat.blt j 26 then prog_10_method_2_code else (bif Nat.blt j 27 then prog_10_method_4_code else prog_10_method_5_code)))) else (bif Nat.blt j 33 then (bif Nat.blt j 30 then (bif Nat.blt j 29 then prog_10_method_6_code else prog_10_method_10_code) else (bif Nat.blt j 31 then prog_10_method_8_code else (bif Nat.blt j 32 then prog_10_method_9_code else prog_10_method_12_code))) else (bif Nat.blt j 35 then (bif Nat.blt j 34 then prog_10_method_11_code else prog_10_method_7_code) else (bif Nat.blt j 36 then prog_10_method_3_code else (bif Nat.blt j 37 then prog_4_method_1_code else prog_4_method_2_code)))))) else (bif Nat.blt j 57 then (bif Nat.blt j 47 then (bif Nat.blt j 42 then (bif Nat.blt j 40 then (bif Nat.blt j 39 then prog_4_method_3_code else prog_4_method_4_code) else (bif Nat.blt j 41 then prog_4_method_5_code else prog_7_method_1_code)) else (bif Nat.blt j 44 then (bif Nat.blt j 43 then prog_7_method_2_code else prog_7_method_3_code) else (bif Nat.blt j 45 then prog_7_method_7_code else (bif Nat.blt j 46 then prog_7_method_4_code else prog_7_method_6_code)))) else (bif Nat.blt j 52 then (bif Nat.blt j 49 then (bif Nat.blt j 48 then prog_7_method_5_code else prog_8_method_1_code) else (bif Nat.blt j 50 then prog_8_method_2_code else (bif Nat.blt j 51 then prog_8_method_3_code else prog_8_method_4_code))) else (bif Nat.blt j 54 then (bif Nat.blt j 53 then prog_5_method_1_code else prog_5_method_2_code) else (bif Nat.blt j 55 then prog_5_method_3_code else (bif Nat.blt j 56 then prog_5_method_4_code else prog_9_method_1_code))))) else (bif Nat.blt j 67 then (bif Nat.blt j 62 then (bif Nat.blt j 59 then (bif Nat.blt j 58 then prog_9_method_2_code else prog_9_method_3_code) else (bif Nat.blt j 60 then prog_9_method_4_code else (bif Nat.blt j 61 then prog_9_method_5_code else prog_9_method_6_code))) else (bif Nat.blt j 64 then (bif Nat.blt j 63 then prog_9_method_7_code else prog_9_method_8_code) else (bif Nat.blt j 65 then prog_9_method_9_code else (bif Nat.blt j 66 then prog_9_method_10_code else prog_9_method_11_code)))) else (bif Nat.blt j 72 then (bif Nat.blt j 69 then (bif Nat.blt j 68 then prog_9_method_12_code else prog_2_method_1_code) else (bif Nat.blt j 70 then prog_2_method_2_code else (bif Nat.blt j 71 then prog_2_method_4_code else prog_2_method_6_code))) else (bif Nat.blt j 74 then (bif Nat.blt j 73 then prog_2_method_5_code else prog_2_method_7_code) else (bif Nat.blt j 75 then prog_2_method_3_code else (bif Nat.blt j 76 then prog_2_method_9_code else prog_2_method_8_code))))))) else (bif Nat.blt j 116 then (bif Nat.blt j 96 then (bif Nat.blt j 86 then (bif Nat.blt j 81 then (bif Nat.blt j 79 then (bif Nat.blt j 78 then prog_2_method_10_code else prog_2_method_11_code) else (bif Nat.blt j 80 then prog_3_method_1_code else prog_3_method_2_code)) else (bif Nat.blt j 83 then (bif Nat.blt j 82 then prog_3_method_3_code else prog_3_method_6_code) else (bif Nat.blt j 84 then prog_3_method_4_code else (bif Nat.blt j 85 then prog_3_method_10_code else prog_3_method_11_code)))) else (bif Nat.blt j 91 then (bif Nat.blt j 88 then (bif Nat.blt j 87 then prog_3_method_7_code else prog_3_method_5_code) else (bif Nat.blt j 89 then prog_3_method_8_code else (bif Nat.blt j 90 then prog_3_method_9_code else prog_3_method_12_code))) else (bif Nat.blt j 93 then (bif Nat.blt j 92 then prog_6_method_1_code else prog_6_method_2_code) else (bif Nat.blt j 94 then prog_6_method_3_code else (bif Nat.blt j 95 then prog_6_method_5_code else prog_6_method_10_code))))) else (bif Nat.blt j 106 then (bif Nat.blt j 101 then (bif Nat.blt j 98 then (bif Nat.blt j 97 then prog_6_method_12_code else prog_6_method_4_code) else (bif Nat.blt j 99 then prog_6_method_8_code else (bif Nat.blt j 100 then prog_6_method_11_code else prog_6_method_9_code))) else (bif Nat.blt j 103 then (bif Nat.blt j 102 then prog_6_method_6_code else prog_6_method_7_code) else (bif Nat.blt j 104 then prog_12_method_1_code else (bif Nat.blt j 105 then prog_12_method_4_code else prog_12_method_3_code)))) else (bif Nat.blt j 111 then (bif Nat.blt j 108 then (bif Nat.blt j 107 then prog_12_method_17_code else prog_12_method_6_code) else (bif Nat.blt j 109 then prog_12_method_5_code else (bif Nat.blt j 110 then prog_12_method_16_code else prog_12_method_7_code))) else (bif Nat.blt j 113 then (bif Nat.blt j 112 then prog_12_method_10_code else prog_12_method_8_code) else (bif Nat.blt j 114 then prog_12_method_13_code else (bif Nat.blt j 115 then prog_12_method_14_code else prog_12_method_11_code)))))) else (bif Nat.blt j 135 then (bif Nat.blt j 125 then (bif Nat.blt j 120 then (bif Nat.blt j 118 then (bif Nat.blt j 117 then prog_12_method_9_code else prog_12_method_12_code) else (bif Nat.blt j 119 then prog_12_method_15_code else prog_12_method_18_code)) else (bif Nat.blt j 122 then (bif Nat.blt j 121 then prog_12_method_19_code else prog_12_method_20_code) else (bif Nat.blt j 123 then prog_12_method_23_code else (bif Nat.blt j 124 then prog_12_method_25_code else prog_12_method_24_code)))) else (bif Nat.blt j 130 then (bif Nat.blt j 127 then (bif Nat.blt j 126 then prog_12_method_22_code else prog_12_method_21_code) else (bif Nat.blt j 128 then prog_12_method_26_code else (bif Nat.blt j 129 then prog_12_method_27_code else prog_12_method_28_code))) else (bif Nat.blt j 132 then (bif Nat.blt j 131 then prog_12_method_29_code else prog_12_method_35_code) else (bif Nat.blt j 133 then prog_12_method_34_code else (bif Nat.blt j 134 then prog_12_method_33_code else prog_12_method_32_code))))) else (bif Nat.blt j 145 then (bif Nat.blt j 140 then (bif Nat.blt j 137 then (bif Nat.blt j 136 then prog_12_method_31_code else prog_12_method_30_code) else (bif Nat.blt j 138 then prog_12_method_36_code else (bif Nat.blt j 139 then prog_12_method_38_code else prog_12_method_37_code))) else (bif Nat.blt j 142 then (bif Nat.blt j 141 then prog_12_method_39_code else prog_12_method_40_code) else (bif Nat.blt j 143 then prog_12_method_41_code else (bif Nat.blt j 144 then prog_12_method_42_code else prog_12_method_43_code)))) else (bif Nat.blt j 150 then (bif Nat.blt j 147 then (bif Nat.blt j 146 then prog_12_method_44_code else prog_12_method_45_code) else (bif Nat.blt j 148 then prog_14_method_54_code else (bif Nat.blt j 149 then prog_14_method_152_code else prog_14_method_56_code))) else (bif Nat.blt j 152 then (bif Nat.blt j 151 then prog_14_method_154_code else prog_15_method_2_code) else (bif Nat.blt j 153 then prog_14_method_155_code else (bif Nat.blt j 154 then prog_17_method_11_code else code))))))))
noncomputable def am_mB (mi : Nat) : ByteArray := am_mBt (am_sm mi)
noncomputable def am_mLt (j : Nat) : Nat := (bif Nat.blt j 77 then (bif Nat.blt j 38 then (bif Nat.blt j 19 then (bif Nat.blt j 9 then (bif Nat.blt j 4 then (bif Nat.blt j 2 then (bif Nat.blt j 1 then 1 else 2) else (bif Nat.blt j 3 then 3 else 3)) else (bif Nat.blt j 6 then (bif Nat.blt j 5 then 2 else 1) else (bif Nat.blt j 7 then 2 else (bif Nat.blt j 8 then 2 else 2)))) else (bif Nat.blt j 14 then (bif Nat.blt j 11 then (bif Nat.blt j 10 then 2 else 3) else (bif Nat.blt j 12 then 4 else (bif Nat.blt j 13 then 1 else 2))) else (bif Nat.blt j 16 then (bif Nat.blt j 15 then 2 else 2) else (bif Nat.blt j 17 then 3 else (bif Nat.blt j 18 then 3 else 3))))) else (bif Nat.blt j 28 then (bif Nat.blt j 23 then (bif Nat.blt j 21 then (bif Nat.blt j 20 then 1 else 4) else (bif Nat.blt j 22 then 3 else 3)) else (bif Nat.blt j 25 then (bif Nat.blt j 24 then 3 else 1) else (bif Nat.blt j 26 then 2 else (bif Nat.blt j 27 then 1 else 1)))) else (bif Nat.blt j 33 then (bif Nat.blt j 30 then (bif Nat.blt j 29 then 1 else 3) else (bif Nat.blt j 31 then 1 else (bif Nat.blt j 32 then 2 else 5))) else (bif Nat.blt j 35 then (bif Nat.blt j 34 then 2 else 1) else (bif Nat.blt j 36 then 1 else (bif Nat.blt j 37 then 1 else 3)))))) else (bif Nat.blt j 57 then (bif Nat.blt j 47 then (bif Nat.blt j 42 then (bif Nat.blt j 40 then (bif Nat.blt j 39 then 3 else 2) else (bif Nat.blt j 41 then 2 else 1)) else (bif Nat.blt j 44 then (bif Nat.blt j 43 then 2 else 3) else (bif Nat.blt j 45 then 2 else (bif Nat.blt j 46 then 3 else 2)))) else (bif Nat.blt j 52 then (bif Nat.blt j 49 then (bif Nat.blt j 48 then 5 else 1) else (bif Nat.blt j 50 then 1 else (bif Nat.blt j 51 then 5 else 5))) else (bif Nat.blt j 54 then (bif Nat.blt j 53 then 1 else 2) else (bif Nat.blt j 55 then 3 else (bif Nat.blt j 56 then 3 else 1))))) else (bif Nat.blt j 67 then (bif Nat.blt j 62 then (bif Nat.blt j 59 then (bif Nat.blt j 58 then 3 else 2) else (bif Nat.blt j 60 then 5 else (bif Nat.blt j 61 then 5 else 3))) else (bif Nat.blt j 64 then (bif Nat.blt j 63 then 4 else 6) else (bif Nat.blt j 65 then 3 else (bif Nat.blt j 66 then 4 else 6)))) else (bif Nat.blt j 72 then (bif Nat.blt j 69 then (bif Nat.blt j 68 then 3 else 1) else (bif Nat.blt j 70 then 1 else (bif Nat.blt j 71 then 1 else 3))) else (bif Nat.blt j 74 then (bif Nat.blt j 73 then 1 else 4) else (bif Nat.blt j 75 then 1 else (bif Nat.blt j 76 then 2 else 2))))))) else (bif Nat.blt j 116 then (bif Nat.blt j 96 then (bif Nat.blt j 86 then (bif Nat.blt j 81 then (bif Nat.blt j 79 then (bif Nat.blt j 78 then 5 else 3) else (bif Nat.blt j 80 then 1 else 1)) else (bif Nat.blt j 83 then (bif Nat.blt j 82 then 1 else 2) else (bif Nat.blt j 84 then 1 else (bif Nat.blt j 85 then 2 else 4)))) else (bif Nat.blt j 91 then (bif Nat.blt j 88 then (bif Nat.blt j 87 then 3 else 1) else (bif Nat.blt j 89 then 5 else (bif Nat.blt j 90 then 3 else 8))) else (bif Nat.blt j 93 then (bif Nat.blt j 92 then 1 else 1) else (bif Nat.blt j 94 then 1 else (bif Nat.blt j 95 then 3 else 4))))) else (bif Nat.blt j 106 then (bif Nat.blt j 101 then (bif Nat.blt j 98 then (bif Nat.blt j 97 then 3 else 4) else (bif Nat.blt j 99 then 4 else (bif Nat.blt j 100 then 9 else 6))) else (bif Nat.blt j 103 then (bif Nat.blt j 102 then 2 else 2) else (bif Nat.blt j 104 then 1 else (bif Nat.blt j 105 then 2 else 6)))) else (bif Nat.blt j 111 then (bif Nat.blt j 108 then (bif Nat.blt j 107 then 3 else 1) else (bif Nat.blt j 109 then 1 else (bif Nat.blt j 110 then 2 else 7))) else (bif Nat.blt j 113 then (bif Nat.blt j 112 then 2 else 3) else (bif Nat.blt j 114 then 4 else (bif Nat.blt j 115 then 4 else 4)))))) else (bif Nat.blt j 135 then (bif Nat.blt j 125 then (bif Nat.blt j 120 then (bif Nat.blt j 118 then (bif Nat.blt j 117 then 5 else 5) else (bif Nat.blt j 119 then 2 else 2)) else (bif Nat.blt j 122 then (bif Nat.blt j 121 then 3 else 3) else (bif Nat.blt j 123 then 4 else (bif Nat.blt j 124 then 2 else 5)))) else (bif Nat.blt j 130 then (bif Nat.blt j 127 then (bif Nat.blt j 126 then 5 else 5) else (bif Nat.blt j 128 then 1 else (bif Nat.blt j 129 then 2 else 4))) else (bif Nat.blt j 132 then (bif Nat.blt j 131 then 8 else 3) else (bif Nat.blt j 133 then 8 else (bif Nat.blt j 134 then 11 else 5))))) else (bif Nat.blt j 145 then (bif Nat.blt j 140 then (bif Nat.blt j 137 then (bif Nat.blt j 136 then 7 else 2) else (bif Nat.blt j 138 then 3 else (bif Nat.blt j 139 then 3 else 2))) else (bif Nat.blt j 142 then (bif Nat.blt j 141 then 3 else 5) else (bif Nat.blt j 143 then 1 else (bif Nat.blt j 144 then 5 else 6)))) else (bif Nat.blt j 150 then (bif Nat.blt j 147 then (bif Nat.blt j 146 then 3 else 3) else (bif Nat.blt j 148 then 1 else (bif Nat.blt j 149 then 1 else 2))) else (bif Nat.blt j 152 then (bif Nat.blt j 151 then 1 else 2) else (bif Nat.blt j 153 then 2 else (bif Nat.blt j 154 then 3 else 4))))))))
noncomputable def am_mL (mi : Nat) : Nat := am_mLt (am_sm mi)
noncomputable def am_mRt (j : Nat) : Option FieldType := (bif Nat.blt j 77 then (bif Nat.blt j 38 then (bif Nat.blt j 19 then (bif Nat.blt j 9 then (bif Nat.blt j 4 then (bif Nat.blt j 2 then (bif Nat.blt j 1 then (Option.none : Option Jvm.ClassFile.FieldType) else (Option.some Jvm.ClassFile.FieldType.boolean)) else (bif Nat.blt j 3 then (Option.some Jvm.ClassFile.FieldType.int) else (Option.some Jvm.ClassFile.FieldType.boolean))) else (bif Nat.blt j 6 then (bif Nat.blt j 5 then (Option.some Jvm.ClassFile.FieldType.boolean) else (Option.some Jvm.ClassFile.FieldType.int)) else (bif Nat.blt j 7 then (Option.some Jvm.ClassFile.FieldType.int) else (bif Nat.blt j 8 then (Option.some Jvm.ClassFile.FieldType.int) else (Option.some Jvm.ClassFile.FieldType.int))))) else (bif Nat.blt j 14 then (bif Nat.blt j 11 then (bif Nat.blt j 10 then (Option.some Jvm.ClassFile.FieldType.boolean) else (Option.some Jvm.ClassFile.FieldType.int)) else (bif Nat.blt j 12 then (Option.some Jvm.ClassFile.FieldType.int) else (bif Nat.blt j 13 then (Option.some Jvm.ClassFile.FieldType.boolean) else (Option.some Jvm.ClassFile.FieldType.int)))) else (bif Nat.blt j 16 then (bif Nat.blt j 15 then (Option.some Jvm.ClassFile.FieldType.int) else (Option.some Jvm.ClassFile.FieldType.int)) else (bif Nat.blt j 17 then (Option.some Jvm.ClassFile.FieldType.boolean) else (bif Nat.blt j 18 then (Option.some Jvm.ClassFile.FieldType.boolean) else (Option.some Jvm.ClassFile.FieldType.int)))))) else (bif Nat.blt j 28 then (bif Nat.blt j 23 then (bif Nat.blt j 21 then (bif Nat.blt j 20 then (Option.some Jvm.ClassFile.FieldType.int) else (Option.some Jvm.ClassFile.FieldType.boolean)) else (bif Nat.blt j 22 then (Option.some Jvm.ClassFile.FieldType.int) else (Option.some Jvm.ClassFile.FieldType.int))) else (bif Nat.blt j 25 then (bif Nat.blt j 24 then (Option.some Jvm.ClassFile.FieldType.int) else (Option.none : Option Jvm.ClassFile.FieldType)) else (bif Nat.blt j 26 then (Option.some Jvm.ClassFile.FieldType.boolean) else (bif Nat.blt j 27 then (Option.none : Option Jvm.ClassFile.FieldType) else (Option.none : Option Jvm.ClassFile.FieldType))))) else (bif Nat.blt j 33 then (bif Nat.blt j 30 then (bif Nat.blt j 29 then (Option.some Jvm.ClassFile.FieldType.boolean) else (Option.some Jvm.ClassFile.FieldType.boolean)) else (bif Nat.blt j 31 then (Option.some Jvm.ClassFile.FieldType.int) else (bif Nat.blt j 32 then (Option.some Jvm.ClassFile.FieldType.int) else (Option.some Jvm.ClassFile.FieldType.int)))) else (bif Nat.blt j 35 then (bif Nat.blt j 34 then (Option.some Jvm.ClassFile.FieldType.boolean) else (Option.some Jvm.ClassFile.FieldType.int)) else (bif Nat.blt j 36 then (Option.none : Option Jvm.ClassFile.FieldType) else (bif Nat.blt j 37 then (Option.none : Option Jvm.ClassFile.FieldType) else (Option.some Jvm.ClassFile.FieldType.boolean))))))) else (bif Nat.blt j 57 then (bif Nat.blt j 47 then (bif Nat.blt j 42 then (bif Nat.blt j 40 then (bif Nat.blt j 39 then (Option.some Jvm.ClassFile.FieldType.int) else (Option.some Jvm.ClassFile.FieldType.boolean)) else (bif Nat.blt j 41 then (Option.some Jvm.ClassFile.FieldType.int) else (Option.none : Option Jvm.ClassFile.FieldType))) else (bif Nat.blt j 44 then (bif Nat.blt j 43 then (Option.none : Option Jvm.ClassFile.FieldType) else (Option.some Jvm.ClassFile.FieldType.boolean)) else (bif Nat.blt j 45 then (Option.some Jvm.ClassFile.FieldType.boolean) else (bif Nat.blt j 46 then (Option.some Jvm.ClassFile.FieldType.boolean) else (Option.some Jvm.ClassFile.FieldType.int))))) else (bif Nat.blt j 52 then (bif Nat.blt j 49 then (bif Nat.blt j 48 then (Option.some Jvm.ClassFile.FieldType.int) else (Option.none : Option Jvm.ClassFile.FieldType)) else (bif Nat.blt j 50 then (Option.some Jvm.ClassFile.FieldType.int) else (bif Nat.blt j 51 then (Option.some Jvm.ClassFile.FieldType.boolean) else (Option.some Jvm.ClassFile.FieldType.int)))) else (bif Nat.blt j 54 then (bif Nat.blt j 53 then (Option.none : Option Jvm.ClassFile.FieldType) else (Option.some Jvm.ClassFile.FieldType.boolean)) else (bif Nat.blt j 55 then (Option.none : Option Jvm.ClassFile.FieldType) else (bif Nat.blt j 56 then (Option.some Jvm.ClassFile.FieldType.int) else (Option.none : Option Jvm.ClassFile.FieldType)))))) else (bif Nat.blt j 67 then (bif Nat.blt j 62 then (bif Nat.blt j 59 then (bif Nat.blt j 58 then (Option.some Jvm.ClassFile.FieldType.int) else (Option.some Jvm.ClassFile.FieldType.boolean)) else (bif Nat.blt j 60 then (Option.some Jvm.ClassFile.FieldType.boolean) else (bif Nat.blt j 61 then (Option.some Jvm.ClassFile.FieldType.boolean) else (Option.some Jvm.ClassFile.FieldType.boolean)))) else (bif Nat.blt j 64 then (bif Nat.blt j 63 then (Option.some Jvm.ClassFile.FieldType.boolean) else (Option.some Jvm.ClassFile.FieldType.boolean)) else (bif Nat.blt j 65 then (Option.some Jvm.ClassFile.FieldType.boolean) else (bif Nat.blt j 66 then (Option.some Jvm.ClassFile.FieldType.int) else (Option.some Jvm.ClassFile.FieldType.int))))) else (bif Nat.blt j 72 then (bif Nat.blt j 69 then (bif Nat.blt j 68 then (Option.some Jvm.ClassFile.FieldType.boolean) else (Option.none : Option Jvm.ClassFile.FieldType)) else (bif Nat.blt j 70 then (Option.none : Option Jvm.ClassFile.FieldType) else (bif Nat.blt j 71 then (Option.some Jvm.ClassFile.FieldType.boolean) else (Option.none : Option Jvm.ClassFile.FieldType)))) else (bif Nat.blt j 74 then (bif Nat.blt j 73 then (Option.some Jvm.ClassFile.FieldType.boolean) else (Option.none : Option Jvm.ClassFile.FieldType)) else (bif Nat.blt j 75 then (Option.some Jvm.ClassFile.FieldType.int) else (bif Nat.blt j 76 then (Option.some Jvm.ClassFile.FieldType.int) else (Option.some Jvm.ClassFile.FieldType.int)))))))) else (bif Nat.blt j 116 then (bif Nat.blt j 96 then (bif Nat.blt j 86 then (bif Nat.blt j 81 then (bif Nat.blt j 79 then (bif Nat.blt j 78 then (Option.some Jvm.ClassFile.FieldType.int) else (Option.some Jvm.ClassFile.FieldType.boolean)) else (bif Nat.blt j 80 then (Option.none : Option Jvm.ClassFile.FieldType) else (Option.none : Option Jvm.ClassFile.FieldType))) else (bif Nat.blt j 83 then (bif Nat.blt j 82 then (Option.some Jvm.ClassFile.FieldType.boolean) else (Option.none : Option Jvm.ClassFile.FieldType)) else (bif Nat.blt j 84 then (Option.some Jvm.ClassFile.FieldType.boolean) else (bif Nat.blt j 85 then (Option.some Jvm.ClassFile.FieldType.boolean) else (Option.some Jvm.ClassFile.FieldType.int))))) else (bif Nat.blt j 91 then (bif Nat.blt j 88 then (bif Nat.blt j 87 then (Option.none : Option Jvm.ClassFile.FieldType) else (Option.some Jvm.ClassFile.FieldType.boolean)) else (bif Nat.blt j 89 then (Option.none : Option Jvm.ClassFile.FieldType) else (bif Nat.blt j 90 then (Option.some Jvm.ClassFile.FieldType.boolean) else (Option.some Jvm.ClassFile.FieldType.int)))) else (bif Nat.blt j 93 then (bif Nat.blt j 92 then (Option.none : Option Jvm.ClassFile.FieldType) else (Option.none : Option Jvm.ClassFile.FieldType)) else (bif Nat.blt j 94 then (Option.some Jvm.ClassFile.FieldType.boolean) else (bif Nat.blt j 95 then (Option.some Jvm.ClassFile.FieldType.boolean) else (Option.some Jvm.ClassFile.FieldType.boolean)))))) else (bif Nat.blt j 106 then (bif Nat.blt j 101 then (bif Nat.blt j 98 then (bif Nat.blt j 97 then (Option.some Jvm.ClassFile.FieldType.int) else (Option.none : Option Jvm.ClassFile.FieldType)) else (bif Nat.blt j 99 then (Option.some Jvm.ClassFile.FieldType.int) else (bif Nat.blt j 100 then (Option.some Jvm.ClassFile.FieldType.int) else (Option.some Jvm.ClassFile.FieldType.int)))) else (bif Nat.blt j 103 then (bif Nat.blt j 102 then (Option.some Jvm.ClassFile.FieldType.int) else (Option.some Jvm.ClassFile.FieldType.int)) else (bif Nat.blt j 104 then (Option.none : Option Jvm.ClassFile.FieldType) else (bif Nat.blt j 105 then (Option.some Jvm.ClassFile.FieldType.boolean) else (Option.some Jvm.ClassFile.FieldType.boolean))))) else (bif Nat.blt j 111 then (bif Nat.blt j 108 then (bif Nat.blt j 107 then (Option.some Jvm.ClassFile.FieldType.int) else (Option.some Jvm.ClassFile.FieldType.boolean)) else (bif Nat.blt j 109 then (Option.some Jvm.ClassFile.FieldType.boolean) else (bif Nat.blt j 110 then (Option.some Jvm.ClassFile.FieldType.boolean) else (Option.some Jvm.ClassFile.FieldType.boolean)))) else (bif Nat.blt j 113 then (bif Nat.blt j 112 then (Option.some Jvm.ClassFile.FieldType.boolean) else (Option.some Jvm.ClassFile.FieldType.int)) else (bif Nat.blt j 114 then (Option.some Jvm.ClassFile.FieldType.boolean) else (bif Nat.blt j 115 then (Option.some Jvm.ClassFile.FieldType.boolean) else (Option.some Jvm.ClassFile.FieldType.boolean))))))) else (bif Nat.blt j 135 then (bif Nat.blt j 125 then (bif Nat.blt j 120 then (bif Nat.blt j 118 then (bif Nat.blt j 117 then (Option.some Jvm.ClassFile.FieldType.long) else (Option.some Jvm.ClassFile.FieldType.boolean)) else (bif Nat.blt j 119 then (Option.some Jvm.ClassFile.FieldType.boolean) else (Option.none : Option Jvm.ClassFile.FieldType))) else (bif Nat.blt j 122 then (bif Nat.blt j 121 then (Option.some Jvm.ClassFile.FieldType.boolean) else (Option.some Jvm.ClassFile.FieldType.int)) else (bif Nat.blt j 123 then (Option.some Jvm.ClassFile.FieldType.boolean) else (bif Nat.blt j 124 then (Option.some Jvm.ClassFile.FieldType.int) else (Option.some Jvm.ClassFile.FieldType.int))))) else (bif Nat.blt j 130 then (bif Nat.blt j 127 then (bif Nat.blt j 126 then (Option.some Jvm.ClassFile.FieldType.boolean) else (Option.some Jvm.ClassFile.FieldType.boolean)) else (bif Nat.blt j 128 then (Option.some Jvm.ClassFile.FieldType.int) else (bif Nat.blt j 129 then (Option.some Jvm.ClassFile.FieldType.int) else (Option.some Jvm.ClassFile.FieldType.int)))) else (bif Nat.blt j 132 then (bif Nat.blt j 131 then (Option.some Jvm.ClassFile.FieldType.int) else (Option.some Jvm.ClassFile.FieldType.int)) else (bif Nat.blt j 133 then (Option.some Jvm.ClassFile.FieldType.int) else (bif Nat.blt j 134 then (Option.some Jvm.ClassFile.FieldType.int) else (Option.some Jvm.ClassFile.FieldType.int)))))) else (bif Nat.blt j 145 then (bif Nat.blt j 140 then (bif Nat.blt j 137 then (bif Nat.blt j 136 then (Option.some Jvm.ClassFile.FieldType.int) else (Option.some Jvm.ClassFile.FieldType.int)) else (bif Nat.blt j 138 then (Option.some Jvm.ClassFile.FieldType.int) else (bif Nat.blt j 139 then (Option.some Jvm.ClassFile.FieldType.boolean) else (Option.some Jvm.ClassFile.FieldType.boolean)))) else (bif Nat.blt j 142 then (bif Nat.blt j 141 then (Option.some Jvm.ClassFile.FieldType.boolean) else (Option.some Jvm.ClassFile.FieldType.int)) else (bif Nat.blt j 143 then (Option.some Jvm.ClassFile.FieldType.int) else (bif Nat.blt j 144 then (Option.some Jvm.ClassFile.FieldType.boolean) else (Option.some Jvm.ClassFile.FieldType.int))))) else (bif Nat.blt j 150 then (bif Nat.blt j 147 then (bif Nat.blt j 146 then (Option.some Jvm.ClassFile.FieldType.int) else (Option.some Jvm.ClassFile.FieldType.int)) else (bif Nat.blt j 148 then (Option.some Jvm.ClassFile.FieldType.int) else (bif Nat.blt j 149 then (Option.some Jvm.ClassFile.FieldType.byte) else (Option.some Jvm.ClassFile.FieldType.char)))) else (bif Nat.blt j 152 then (bif Nat.blt j 151 then (Option.some Jvm.ClassFile.FieldType.boolean) else (Option.some Jvm.ClassFile.FieldType.char)) else (bif Nat.blt j 153 then (Option.none : Option Jvm.ClassFile.FieldType) else (bif Nat.blt j 154 then (Option.some Jvm.ClassFile.FieldType.int) else ret))))))))
noncomputable def am_mR (mi : Nat) : Option FieldType := am_mRt (am_sm mi)
noncomputable def am_mPt (j : Nat) : Nat := (bif Nat.blt j 77 then (bif Nat.blt j 38 then (bif Nat.blt j 19 then (bif Nat.blt j 9 then (bif Nat.blt j 4 then (bif Nat.blt j 2 then (bif Nat.blt j 1 then 0 else 0) else (bif Nat.blt j 3 then 0 else 0)) else (bif Nat.blt j 6 then (bif Nat.blt j 5 then 0 else 0) else (bif Nat.blt j 7 then 0 else (bif Nat.blt j 8 then 0 else 0)))) else (bif Nat.blt j 14 then (bif Nat.blt j 11 then (bif Nat.blt j 10 then 0 else 0) else (bif Nat.blt j 12 then 0 else (bif Nat.blt j 13 then 0 else 0))) else (bif Nat.blt j 16 then (bif Nat.blt j 15 then 0 else 0) else (bif Nat.blt j 17 then 0 else (bif Nat.blt j 18 then 0 else 0))))) else (bif Nat.blt j 28 then (bif Nat.blt j 23 then (bif Nat.blt j 21 then (bif Nat.blt j 20 then 0 else 0) else (bif Nat.blt j 22 then 0 else 0)) else (bif Nat.blt j 25 then (bif Nat.blt j 24 then 0 else 1) else (bif Nat.blt j 26 then 1 else (bif Nat.blt j 27 then 1 else 1)))) else (bif Nat.blt j 33 then (bif Nat.blt j 30 then (bif Nat.blt j 29 then 1 else 1) else (bif Nat.blt j 31 then 1 else (bif Nat.blt j 32 then 1 else 1))) else (bif Nat.blt j 35 then (bif Nat.blt j 34 then 1 else 1) else (bif Nat.blt j 36 then 1 else (bif Nat.blt j 37 then 2 else 2)))))) else (bif Nat.blt j 57 then (bif Nat.blt j 47 then (bif Nat.blt j 42 then (bif Nat.blt j 40 then (bif Nat.blt j 39 then 2 else 2) else (bif Nat.blt j 41 then 2 else 3)) else (bif Nat.blt j 44 then (bif Nat.blt j 43 then 3 else 3) else (bif Nat.blt j 45 then 3 else (bif Nat.blt j 46 then 3 else 3)))) else (bif Nat.blt j 52 then (bif Nat.blt j 49 then (bif Nat.blt j 48 then 3 else 4) else (bif Nat.blt j 50 then 4 else (bif Nat.blt j 51 then 4 else 4))) else (bif Nat.blt j 54 then (bif Nat.blt j 53 then 5 else 5) else (bif Nat.blt j 55 then 5 else (bif Nat.blt j 56 then 5 else 6))))) else (bif Nat.blt j 67 then (bif Nat.blt j 62 then (bif Nat.blt j 59 then (bif Nat.blt j 58 then 6 else 6) else (bif Nat.blt j 60 then 6 else (bif Nat.blt j 61 then 6 else 6))) else (bif Nat.blt j 64 then (bif Nat.blt j 63 then 6 else 6) else (bif Nat.blt j 65 then 6 else (bif Nat.blt j 66 then 6 else 6)))) else (bif Nat.blt j 72 then (bif Nat.blt j 69 then (bif Nat.blt j 68 then 6 else 7) else (bif Nat.blt j 70 then 7 else (bif Nat.blt j 71 then 7 else 7))) else (bif Nat.blt j 74 then (bif Nat.blt j 73 then 7 else 7) else (bif Nat.blt j 75 then 7 else (bif Nat.blt j 76 then 7 else 7))))))) else (bif Nat.blt j 116 then (bif Nat.blt j 96 then (bif Nat.blt j 86 then (bif Nat.blt j 81 then (bif Nat.blt j 79 then (bif Nat.blt j 78 then 7 else 7) else (bif Nat.blt j 80 then 8 else 8)) else (bif Nat.blt j 83 then (bif Nat.blt j 82 then 8 else 8) else (bif Nat.blt j 84 then 8 else (bif Nat.blt j 85 then 8 else 8)))) else (bif Nat.blt j 91 then (bif Nat.blt j 88 then (bif Nat.blt j 87 then 8 else 8) else (bif Nat.blt j 89 then 8 else (bif Nat.blt j 90 then 8 else 8))) else (bif Nat.blt j 93 then (bif Nat.blt j 92 then 9 else 9) else (bif Nat.blt j 94 then 9 else (bif Nat.blt j 95 then 9 else 9))))) else (bif Nat.blt j 106 then (bif Nat.blt j 101 then (bif Nat.blt j 98 then (bif Nat.blt j 97 then 9 else 9) else (bif Nat.blt j 99 then 9 else (bif Nat.blt j 100 then 9 else 9))) else (bif Nat.blt j 103 then (bif Nat.blt j 102 then 9 else 9) else (bif Nat.blt j 104 then 10 else (bif Nat.blt j 105 then 10 else 10)))) else (bif Nat.blt j 111 then (bif Nat.blt j 108 then (bif Nat.blt j 107 then 10 else 10) else (bif Nat.blt j 109 then 10 else (bif Nat.blt j 110 then 10 else 10))) else (bif Nat.blt j 113 then (bif Nat.blt j 112 then 10 else 10) else (bif Nat.blt j 114 then 10 else (bif Nat.blt j 115 then 10 else 10)))))) else (bif Nat.blt j 135 then (bif Nat.blt j 125 then (bif Nat.blt j 120 then (bif Nat.blt j 118 then (bif Nat.blt j 117 then 10 else 10) else (bif Nat.blt j 119 then 10 else 10)) else (bif Nat.blt j 122 then (bif Nat.blt j 121 then 10 else 10) else (bif Nat.blt j 123 then 10 else (bif Nat.blt j 124 then 10 else 10)))) else (bif Nat.blt j 130 then (bif Nat.blt j 127 then (bif Nat.blt j 126 then 10 else 10) else (bif Nat.blt j 128 then 10 else (bif Nat.blt j 129 then 10 else 10))) else (bif Nat.blt j 132 then (bif Nat.blt j 131 then 10 else 10) else (bif Nat.blt j 133 then 10 else (bif Nat.blt j 134 then 10 else 10))))) else (bif Nat.blt j 145 then (bif Nat.blt j 140 then (bif Nat.blt j 137 then (bif Nat.blt j 136 then 10 else 10) else (bif Nat.blt j 138 then 10 else (bif Nat.blt j 139 then 10 else 10))) else (bif Nat.blt j 142 then (bif Nat.blt j 141 then 10 else 10) else (bif Nat.blt j 143 then 10 else (bif Nat.blt j 144 then 10 else 10)))) else (bif Nat.blt j 150 then (bif Nat.blt j 147 then (bif Nat.blt j 146 then 10 else 10) else (bif Nat.blt j 148 then 11 else (bif Nat.blt j 149 then 11 else 11))) else (bif Nat.blt j 152 then (bif Nat.blt j 151 then 11 else 12) else (bif Nat.blt j 153 then 11 else (bif Nat.blt j 154 then 13 else 14))))))))
noncomputable def am_mP (mi : Nat) : Nat := am_mPt (am_sm mi)
noncomputable def am_mIt (j : Nat) : Bool := (bif Nat.blt j 77 then (bif Nat.blt j 38 then (bif Nat.blt j 19 then (bif Nat.blt j 9 then (bif Nat.blt j 4 then (bif Nat.blt j 2 then (bif Nat.blt j 1 then true else false) else (bif Nat.blt j 3 then false else false)) else (bif Nat.blt j 6 then (bif Nat.blt j 5 then false else false) else (bif Nat.blt j 7 then false else (bif Nat.blt j 8 then false else false)))) else (bif Nat.blt j 14 then (bif Nat.blt j 11 then (bif Nat.blt j 10 then false else false) else (bif Nat.blt j 12 then false else (bif Nat.blt j 13 then false else false))) else (bif Nat.blt j 16 then (bif Nat.blt j 15 then false else false) else (bif Nat.blt j 17 then false else (bif Nat.blt j 18 then false else false))))) else (bif Nat.blt j 28 then (bif Nat.blt j 23 then (bif Nat.blt j 21 then (bif Nat.blt j 20 then false else false) else (bif Nat.blt j 22 then false else false)) else (bif Nat.blt j 25 then (bif Nat.blt j 24 then false else true) else (bif Nat.blt j 26 then false else (bif Nat.blt j 27 then false else false)))) else (bif Nat.blt j 33 then (bif Nat.blt j 30 then (bif Nat.blt j 29 then false else false) else (bif Nat.blt j 31 then false else (bif Nat.blt j 32 then false else false))) else (bif Nat.blt j 35 then (bif Nat.blt j 34 then false else false) else (bif Nat.blt j 36 then false else (bif Nat.blt j 37 then true else false)))))) else (bif Nat.blt j 57 then (bif Nat.blt j 47 then (bif Nat.blt j 42 then (bif Nat.blt j 40 then (bif Nat.blt j 39 then false else false) else (bif Nat.blt j 41 then false else true)) else (bif Nat.blt j 44 then (bif Nat.blt j 43 then false else false) else (bif Nat.blt j 45 then false else (bif Nat.blt j 46 then false else false)))) else (bif Nat.blt j 52 then (bif Nat.blt j 49 then (bif Nat.blt j 48 then false else true) else (bif Nat.blt j 50 then false else (bif Nat.blt j 51 then false else false))) else (bif Nat.blt j 54 then (bif Nat.blt j 53 then true else false) else (bif Nat.blt j 55 then false else (bif Nat.blt j 56 then false else true))))) else (bif Nat.blt j 67 then (bif Nat.blt j 62 then (bif Nat.blt j 59 then (bif Nat.blt j 58 then false else false) else (bif Nat.blt j 60 then false else (bif Nat.blt j 61 then false else false))) else (bif Nat.blt j 64 then (bif Nat.blt j 63 then false else false) else (bif Nat.blt j 65 then false else (bif Nat.blt j 66 then false else false)))) else (bif Nat.blt j 72 then (bif Nat.blt j 69 then (bif Nat.blt j 68 then false else true) else (bif Nat.blt j 70 then false else (bif Nat.blt j 71 then false else false))) else (bif Nat.blt j 74 then (bif Nat.blt j 73 then false else false) else (bif Nat.blt j 75 then false else (bif Nat.blt j 76 then false else false))))))) else (bif Nat.blt j 116 then (bif Nat.blt j 96 then (bif Nat.blt j 86 then (bif Nat.blt j 81 then (bif Nat.blt j 79 then (bif Nat.blt j 78 then false else false) else (bif Nat.blt j 80 then true else false)) else (bif Nat.blt j 83 then (bif Nat.blt j 82 then false else false) else (bif Nat.blt j 84 then false else (bif Nat.blt j 85 then false else false)))) else (bif Nat.blt j 91 then (bif Nat.blt j 88 then (bif Nat.blt j 87 then false else false) else (bif Nat.blt j 89 then false else (bif Nat.blt j 90 then false else false))) else (bif Nat.blt j 93 then (bif Nat.blt j 92 then true else false) else (bif Nat.blt j 94 then false else (bif Nat.blt j 95 then false else false))))) else (bif Nat.blt j 106 then (bif Nat.blt j 101 then (bif Nat.blt j 98 then (bif Nat.blt j 97 then false else false) else (bif Nat.blt j 99 then false else (bif Nat.blt j 100 then false else false))) else (bif Nat.blt j 103 then (bif Nat.blt j 102 then false else false) else (bif Nat.blt j 104 then true else (bif Nat.blt j 105 then false else false)))) else (bif Nat.blt j 111 then (bif Nat.blt j 108 then (bif Nat.blt j 107 then false else false) else (bif Nat.blt j 109 then false else (bif Nat.blt j 110 then false else false))) else (bif Nat.blt j 113 then (bif Nat.blt j 112 then false else false) else (bif Nat.blt j 114 then false else (bif Nat.blt j 115 then false else false)))))) else (bif Nat.blt j 135 then (bif Nat.blt j 125 then (bif Nat.blt j 120 then (bif Nat.blt j 118 then (bif Nat.blt j 117 then false else false) else (bif Nat.blt j 119 then false else false)) else (bif Nat.blt j 122 then (bif Nat.blt j 121 then false else false) else (bif Nat.blt j 123 then false else (bif Nat.blt j 124 then false else false)))) else (bif Nat.blt j 130 then (bif Nat.blt j 127 then (bif Nat.blt j 126 then false else false) else (bif Nat.blt j 128 then false else (bif Nat.blt j 129 then false else false))) else (bif Nat.blt j 132 then (bif Nat.blt j 131 then false else false) else (bif Nat.blt j 133 then false else (bif Nat.blt j 134 then false else false))))) else (bif Nat.blt j 145 then (bif Nat.blt j 140 then (bif Nat.blt j 137 then (bif Nat.blt j 136 then false else false) else (bif Nat.blt j 138 then false else (bif Nat.blt j 139 then false else false))) else (bif Nat.blt j 142 then (bif Nat.blt j 141 then false else false) else (bif Nat.blt j 143 then false else (bif Nat.blt j 144 then false else false)))) else (bif Nat.blt j 150 then (bif Nat.blt j 147 then (bif Nat.blt j 146 then false else false) else (bif Nat.blt j 148 then false else (bif Nat.blt j 149 then false else false))) else (bif Nat.blt j 152 then (bif Nat.blt j 151 then false else false) else (bif Nat.blt j 153 then false else (bif Nat.blt j 154 then false else false))))))))
noncomputable def am_mI (mi : Nat) : Bool := am_mIt (am_sm mi)
noncomputable def am_mCt (j : Nat) : Nat := (bif Nat.blt j 77 then (bif Nat.blt j 38 then (bif Nat.blt j 19 then (bif Nat.blt j 9 then (bif Nat.blt j 4 then (bif Nat.blt j 2 then (bif Nat.blt j 1 then 0 else 0) else (bif Nat.blt j 3 then 0 else 0)) else (bif Nat.blt j 6 then (bif Nat.blt j 5 then 0 else 0) else (bif Nat.blt j 7 then 0 else (bif Nat.blt j 8 then 0 else 0)))) else (bif Nat.blt j 14 then (bif Nat.blt j 11 then (bif Nat.blt j 10 then 0 else 0) else (bif Nat.blt j 12 then 0 else (bif Nat.blt j 13 then 0 else 0))) else (bif Nat.blt j 16 then (bif Nat.blt j 15 then 0 else 0) else (bif Nat.blt j 17 then 0 else (bif Nat.blt j 18 then 0 else 0))))) else (bif Nat.blt j 28 then (bif Nat.blt j 23 then (bif Nat.blt j 21 then (bif Nat.blt j 20 then 0 else 0) else (bif Nat.blt j 22 then 0 else 0)) else (bif Nat.blt j 25 then (bif Nat.blt j 24 then 0 else 1) else (bif Nat.blt j 26 then 1 else (bif Nat.blt j 27 then 1 else 1)))) else (bif Nat.blt j 33 then (bif Nat.blt j 30 then (bif Nat.blt j 29 then 1 else 1) else (bif Nat.blt j 31 then 1 else (bif Nat.blt j 32 then 1 else 1))) else (bif Nat.blt j 35 then (bif Nat.blt j 34 then 1 else 1) else (bif Nat.blt j 36 then 1 else (bif Nat.blt j 37 then 2 else 2)))))) else (bif Nat.blt j 57 then (bif Nat.blt j 47 then (bif Nat.blt j 42 then (bif Nat.blt j 40 then (bif Nat.blt j 39 then 2 else 2) else (bif Nat.blt j 41 then 2 else 3)) else (bif Nat.blt j 44 then (bif Nat.blt j 43 then 3 else 3) else (bif Nat.blt j 45 then 3 else (bif Nat.blt j 46 then 3 else 3)))) else (bif Nat.blt j 52 then (bif Nat.blt j 49 then (bif Nat.blt j 48 then 3 else 4) else (bif Nat.blt j 50 then 4 else (bif Nat.blt j 51 then 4 else 4))) else (bif Nat.blt j 54 then (bif Nat.blt j 53 then 5 else 5) else (bif Nat.blt j 55 then 5 else (bif Nat.blt j 56 then 5 else 6))))) else (bif Nat.blt j 67 then (bif Nat.blt j 62 then (bif Nat.blt j 59 then (bif Nat.blt j 58 then 6 else 6) else (bif Nat.blt j 60 then 6 else (bif Nat.blt j 61 then 6 else 6))) else (bif Nat.blt j 64 then (bif Nat.blt j 63 then 6 else 6) else (bif Nat.blt j 65 then 6 else (bif Nat.blt j 66 then 6 else 6)))) else (bif Nat.blt j 72 then (bif Nat.blt j 69 then (bif Nat.blt j 68 then 6 else 7) else (bif Nat.blt j 70 then 7 else (bif Nat.blt j 71 then 7 else 7))) else (bif Nat.blt j 74 then (bif Nat.blt j 73 then 7 else 7) else (bif Nat.blt j 75 then 7 else (bif Nat.blt j 76 then 7 else 7))))))) else (bif Nat.blt j 116 then (bif Nat.blt j 96 then (bif Nat.blt j 86 then (bif Nat.blt j 81 then (bif Nat.blt j 79 then (bif Nat.blt j 78 then 7 else 7) else (bif Nat.blt j 80 then 8 else 8)) else (bif Nat.blt j 83 then (bif Nat.blt j 82 then 8 else 8) else (bif Nat.blt j 84 then 8 else (bif Nat.blt j 85 then 8 else 8)))) else (bif Nat.blt j 91 then (bif Nat.blt j 88 then (bif Nat.blt j 87 then 8 else 8) else (bif Nat.blt j 89 then 8 else (bif Nat.blt j 90 then 8 else 8))) else (bif Nat.blt j 93 then (bif Nat.blt j 92 then 9 else 9) else (bif Nat.blt j 94 then 9 else (bif Nat.blt j 95 then 9 else 9))))) else (bif Nat.blt j 106 then (bif Nat.blt j 101 then (bif Nat.blt j 98 then (bif Nat.blt j 97 then 9 else 9) else (bif Nat.blt j 99 then 9 else (bif Nat.blt j 100 then 9 else 9))) else (bif Nat.blt j 103 then (bif Nat.blt j 102 then 9 else 9) else (bif Nat.blt j 104 then 10 else (bif Nat.blt j 105 then 10 else 10)))) else (bif Nat.blt j 111 then (bif Nat.blt j 108 then (bif Nat.blt j 107 then 10 else 10) else (bif Nat.blt j 109 then 10 else (bif Nat.blt j 110 then 10 else 10))) else (bif Nat.blt j 113 then (bif Nat.blt j 112 then 10 else 10) else (bif Nat.blt j 114 then 10 else (bif Nat.blt j 115 then 10 else 10)))))) else (bif Nat.blt j 135 then (bif Nat.blt j 125 then (bif Nat.blt j 120 then (bif Nat.blt j 118 then (bif Nat.blt j 117 then 10 else 10) else (bif Nat.blt j 119 then 10 else 10)) else (bif Nat.blt j 122 then (bif Nat.blt j 121 then 10 else 10) else (bif Nat.blt j 123 then 10 else (bif Nat.blt j 124 then 10 else 10)))) else (bif Nat.blt j 130 then (bif Nat.blt j 127 then (bif Nat.blt j 126 then 10 else 10) else (bif Nat.blt j 128 then 10 else (bif Nat.blt j 129 then 10 else 10))) else (bif Nat.blt j 132 then (bif Nat.blt j 131 then 10 else 10) else (bif Nat.blt j 133 then 10 else (bif Nat.blt j 134 then 10 else 10))))) else (bif Nat.blt j 145 then (bif Nat.blt j 140 then (bif Nat.blt j 137 then (bif Nat.blt j 136 then 10 else 10) else (bif Nat.blt j 138 then 10 else (bif Nat.blt j 139 then 10 else 10))) else (bif Nat.blt j 142 then (bif Nat.blt j 141 then 10 else 10) else (bif Nat.blt j 143 then 10 else (bif Nat.blt j 144 then 10 else 10)))) else (bif Nat.blt j 150 then (bif Nat.blt j 147 then (bif Nat.blt j 146 then 10 else 10) else (bif Nat.blt j 148 then 100 else (bif Nat.blt j 149 then 100 else 100))) else (bif Nat.blt j 152 then (bif Nat.blt j 151 then 100 else 101) else (bif Nat.blt j 153 then 100 else (bif Nat.blt j 154 then 102 else 103))))))))
noncomputable def am_mC (mi : Nat) : Nat := am_mCt (am_sm mi)
noncomputable def am_kF0_0 (j : Nat) : Option (Nat × Nat) := (bif Nat.blt j 47 then (bif Nat.blt j 26 then (bif Nat.blt j 19 then (bif Nat.beq j 10 then some (0, 0) else none) else (bif Nat.beq j 19 then some (0, 1) else none)) else (bif Nat.blt j 33 then (bif Nat.beq j 26 then some (0, 2) else none) else (bif Nat.blt j 40 then (bif Nat.beq j 33 then some (0, 3) else none) else (bif Nat.beq j 40 then some (0, 4) else none)))) else (bif Nat.blt j 79 then (bif Nat.blt j 51 then (bif Nat.beq j 47 then some (0, 5) else none) else (bif Nat.beq j 51 then some (0, 6) else none)) else (bif Nat.blt j 89 then (bif Nat.beq j 79 then some (6, 0) else none) else (bif Nat.blt j 112 then (bif Nat.beq j 89 then some (6, 1) else none) else (bif Nat.beq j 112 then some (6, 2) else none)))))
noncomputable def am_kF0_1 (j : Nat) : Option (Nat × Nat) := (bif Nat.blt j 19 then (bif Nat.blt j 15 then (bif Nat.beq j 9 then some (1, 0) else none) else (bif Nat.beq j 15 then some (1, 1) else none)) else (bif Nat.blt j 22 then (bif Nat.beq j 19 then some (1, 3) else none) else (bif Nat.blt j 28 then (bif Nat.beq j 22 then some (1, 4) else none) else (bif Nat.beq j 28 then some (1, 2) else none))))
noncomputable def am_kF0_2 (j : Nat) : Option (Nat × Nat) := (bif Nat.blt j 15 then (bif Nat.beq j 9 then some (2, 0) else none) else (bif Nat.beq j 15 then some (2, 1) else none))
noncomputable def am_kF0_3 (j : Nat) : Option (Nat × Nat) := (bif Nat.blt j 15 then (bif Nat.beq j 9 then some (3, 0) else none) else (bif Nat.beq j 15 then some (3, 1) else none))
noncomputable def am_kF0_4 (j : Nat) : Option (Nat × Nat) := (bif Nat.blt j 18 then (bif Nat.blt j 15 then (bif Nat.beq j 9 then some (4, 0) else none) else (bif Nat.beq j 15 then some (4, 1) else none)) else (bif Nat.blt j 21 then (bif Nat.beq j 18 then some (4, 2) else none) else (bif Nat.beq j 21 then some (4, 3) else none)))
noncomputable def am_kF0_5 (j : Nat) : Option (Nat × Nat) := (bif Nat.blt j 15 then (bif Nat.beq j 9 then some (5, 0) else none) else (bif Nat.beq j 15 then some (5, 1) else none))
noncomputable def am_kF0_6 (j : Nat) : Option (Nat × Nat) := (bif Nat.blt j 21 then (bif Nat.beq j 12 then some (6, 0) else none) else (bif Nat.blt j 28 then (bif Nat.beq j 21 then some (6, 1) else none) else (bif Nat.beq j 28 then some (6, 2) else none)))
noncomputable def am_kF0_7 (j : Nat) : Option (Nat × Nat) := (bif Nat.blt j 24 then (bif Nat.blt j 18 then (bif Nat.blt j 15 then (bif Nat.beq j 9 then some (7, 0) else none) else (bif Nat.beq j 15 then some (7, 1) else none)) else (bif Nat.blt j 21 then (bif Nat.beq j 18 then some (7, 2) else none) else (bif Nat.beq j 21 then some (7, 3) else none))) else (bif Nat.blt j 30 then (bif Nat.blt j 27 then (bif Nat.beq j 24 then some (7, 4) else none) else (bif Nat.beq j 27 then some (7, 5) else none)) else (bif Nat.blt j 34 then (bif Nat.beq j 30 then some (7, 6) else none) else (bif Nat.beq j 34 then some (7, 7) else none))))
noncomputable def am_kF0_8 (j : Nat) : Option (Nat × Nat) := (bif Nat.blt j 27 then (bif Nat.blt j 18 then (bif Nat.blt j 15 then (bif Nat.beq j 9 then some (8, 0) else none) else (bif Nat.beq j 15 then some (8, 1) else none)) else (bif Nat.blt j 21 then (bif Nat.beq j 18 then some (8, 2) else none) else (bif Nat.blt j 24 then (bif Nat.beq j 21 then some (8, 3) else none) else (bif Nat.beq j 24 then some (8, 4) else none)))) else (bif Nat.blt j 33 then (bif Nat.blt j 30 then (bif Nat.beq j 27 then some (8, 5) else none) else (bif Nat.beq j 30 then some (8, 6) else none)) else (bif Nat.blt j 37 then (bif Nat.beq j 33 then some (8, 7) else none) else (bif Nat.blt j 40 then (bif Nat.beq j 37 then some (8, 8) else none) else (bif Nat.beq j 40 then some (8, 9) else none)))))
noncomputable def am_kF0_9 (j : Nat) : Option (Nat × Nat) := (bif Nat.blt j 21 then (bif Nat.blt j 15 then (bif Nat.beq j 9 then some (9, 0) else none) else (bif Nat.blt j 18 then (bif Nat.beq j 15 then some (9, 1) else none) else (bif Nat.beq j 18 then some (9, 2) else none))) else (bif Nat.blt j 24 then (bif Nat.beq j 21 then some (9, 3) else none) else (bif Nat.blt j 27 then (bif Nat.beq j 24 then some (9, 4) else none) else (bif Nat.beq j 27 then some (9, 5) else none))))
noncomputable def am_kF0_10 (j : Nat) : Option (Nat × Nat) := (bif Nat.blt j 54 then (bif Nat.blt j 31 then (bif Nat.blt j 19 then (bif Nat.blt j 13 then (bif Nat.beq j 7 then some (10, 0) else none) else (bif Nat.blt j 16 then (bif Nat.beq j 13 then some (10, 4) else none) else (bif Nat.beq j 16 then some (10, 5) else none))) else (bif Nat.blt j 25 then (bif Nat.blt j 22 then (bif Nat.beq j 19 then some (10, 6) else none) else (bif Nat.beq j 22 then some (10, 7) else none)) else (bif Nat.blt j 28 then (bif Nat.beq j 25 then some (10, 8) else none) else (bif Nat.beq j 28 then some (10, 9) else none)))) else (bif Nat.blt j 40 then (bif Nat.blt j 34 then (bif Nat.beq j 31 then some (10, 10) else none) else (bif Nat.blt j 37 then (bif Nat.beq j 34 then some (10, 11) else none) else (bif Nat.beq j 37 then some (10, 12) else none))) else (bif Nat.blt j 48 then (bif Nat.blt j 44 then (bif Nat.beq j 40 then some (10, 13) else none) else (bif Nat.beq j 44 then some (10, 14) else none)) else (bif Nat.blt j 51 then (bif Nat.beq j 48 then some (10, 15) else none) else (bif Nat.beq j 51 then some (10, 16) else none))))) else (bif Nat.blt j 81 then (bif Nat.blt j 63 then (bif Nat.blt j 57 then (bif Nat.beq j 54 then some (10, 17) else none) else (bif Nat.blt j 60 then (bif Nat.beq j 57 then some (10, 19) else none) else (bif Nat.beq j 60 then some (10, 20) else none))) else (bif Nat.blt j 69 then (bif Nat.blt j 66 then (bif Nat.beq j 63 then some (10, 21) else none) else (bif Nat.beq j 66 then some (10, 22) else none)) else (bif Nat.blt j 72 then (bif Nat.beq j 69 then some (10, 24) else none) else (bif Nat.beq j 72 then some (10, 25) else none)))) else (bif Nat.blt j 116 then (bif Nat.blt j 88 then (bif Nat.blt j 85 then (bif Nat.beq j 81 then some (10, 1) else none) else (bif Nat.beq j 85 then some (10, 3) else none)) else (bif Nat.blt j 105 then (bif Nat.beq j 88 then some (10, 2) else none) else (bif Nat.beq j 105 then some (10, 27) else none))) else (bif Nat.blt j 165 then (bif Nat.blt j 121 then (bif Nat.beq j 116 then some (10, 26) else none) else (bif Nat.beq j 121 then some (10, 28) else none)) else (bif Nat.blt j 208 then (bif Nat.beq j 165 then some (10, 23) else none) else (bif Nat.beq j 208 then some (10, 18) else none))))))
noncomputable def am_kF0 (p j : Nat) : Option (Nat × Nat) := (bif Nat.blt p 5 then (bif Nat.blt p 2 then (bif Nat.blt p 1 then (bif Nat.beq p 0 then am_kF0_0 j else none) else (bif Nat.beq p 1 then am_kF0_1 j else none)) else (bif Nat.blt p 3 then (bif Nat.beq p 2 then am_kF0_2 j else none) else (bif Nat.blt p 4 then (bif Nat.beq p 3 then am_kF0_3 j else none) else (bif Nat.beq p 4 then am_kF0_4 j else none)))) else (bif Nat.blt p 8 then (bif Nat.blt p 6 then (bif Nat.beq p 5 then am_kF0_5 j else none) else (bif Nat.blt p 7 then (bif Nat.beq p 6 then am_kF0_6 j else none) else (bif Nat.beq p 7 then am_kF0_7 j else none))) else (bif Nat.blt p 9 then (bif Nat.beq p 8 then am_kF0_8 j else none) else (bif Nat.blt p 10 then (bif Nat.beq p 9 then am_kF0_9 j else none) else (bif Nat.beq p 10 then am_kF0_10 j else none)))))
noncomputable def am_kF (p j : Nat) : Option (Nat × Nat) := am_b2 am_nP am_nJ am_kF0 p j
noncomputable def am_kP0_0 (j : Nat) : Option (Nat × Nat × FieldType) := (bif Nat.blt j 33 then (bif Nat.blt j 19 then (bif Nat.beq j 10 then some (0, 0, .object "CodeRules$Text") else none) else (bif Nat.blt j 26 then (bif Nat.beq j 19 then some (0, 1, .object "CodeRules$Facts") else none) else (bif Nat.beq j 26 then some (0, 2, .object "CodeRules$Papers") else none))) else (bif Nat.blt j 47 then (bif Nat.blt j 40 then (bif Nat.beq j 33 then some (0, 3, .object "CodeRules$Permits") else none) else (bif Nat.beq j 40 then some (0, 4, .object "CodeRules$Histories") else none)) else (bif Nat.blt j 51 then (bif Nat.beq j 47 then some (0, 5, .object "CodeRules$Rules") else none) else (bif Nat.beq j 51 then some (0, 6, .object "CodeRules$Rules") else none))))
noncomputable def am_kP0_1 (j : Nat) : Option (Nat × Nat × FieldType) := (bif Nat.blt j 19 then (bif Nat.blt j 15 then (bif Nat.beq j 9 then some (1, 0, .array .int) else none) else (bif Nat.beq j 15 then some (1, 1, .int) else none)) else (bif Nat.blt j 22 then (bif Nat.beq j 19 then some (1, 3, .int) else none) else (bif Nat.blt j 28 then (bif Nat.beq j 22 then some (1, 4, .int) else none) else (bif Nat.beq j 28 then some (1, 2, .int) else none))))
noncomputable def am_kP0_2 (j : Nat) : Option (Nat × Nat × FieldType) := (bif Nat.blt j 15 then (bif Nat.beq j 9 then some (2, 0, .array .boolean) else none) else (bif Nat.beq j 15 then some (2, 1, .array .int) else none))
noncomputable def am_kP0_3 (j : Nat) : Option (Nat × Nat × FieldType) := (bif Nat.blt j 15 then (bif Nat.beq j 9 then some (3, 0, .array .int) else none) else (bif Nat.beq j 15 then some (3, 1, .array .int) else none))
noncomputable def am_kP0_4 (j : Nat) : Option (Nat × Nat × FieldType) := (bif Nat.blt j 18 then (bif Nat.blt j 15 then (bif Nat.beq j 9 then some (4, 0, .array .int) else none) else (bif Nat.beq j 15 then some (4, 1, .array .int) else none)) else (bif Nat.blt j 21 then (bif Nat.beq j 18 then some (4, 2, .array .int) else none) else (bif Nat.beq j 21 then some (4, 3, .int) else none)))
noncomputable def am_kP0_5 (j : Nat) : Option (Nat × Nat × FieldType) := (bif Nat.blt j 15 then (bif Nat.beq j 9 then some (5, 0, .array .int) else none) else (bif Nat.beq j 15 then some (5, 1, .array .int) else none))
noncomputable def am_kP0_6 (j : Nat) : Option (Nat × Nat × FieldType) := (bif Nat.blt j 21 then (bif Nat.beq j 12 then some (6, 0, .object "CodeRules$Branches") else none) else (bif Nat.blt j 28 then (bif Nat.beq j 21 then some (6, 1, .object "CodeRules$Codes") else none) else (bif Nat.beq j 28 then some (6, 2, .object "CodeRules$Names") else none)))
noncomputable def am_kP0_7 (j : Nat) : Option (Nat × Nat × FieldType) := (bif Nat.blt j 24 then (bif Nat.blt j 18 then (bif Nat.blt j 15 then (bif Nat.beq j 9 then some (7, 0, .array .int) else none) else (bif Nat.beq j 15 then some (7, 1, .array .int) else none)) else (bif Nat.blt j 21 then (bif Nat.beq j 18 then some (7, 2, .array .int) else none) else (bif Nat.beq j 21 then some (7, 3, .array .int) else none))) else (bif Nat.blt j 30 then (bif Nat.blt j 27 then (bif Nat.beq j 24 then some (7, 4, .array .int) else none) else (bif Nat.beq j 27 then some (7, 5, .array .int) else none)) else (bif Nat.blt j 34 then (bif Nat.beq j 30 then some (7, 6, .int) else none) else (bif Nat.beq j 34 then some (7, 7, .int) else none))))
noncomputable def am_kP0_8 (j : Nat) : Option (Nat × Nat × FieldType) := (bif Nat.blt j 27 then (bif Nat.blt j 18 then (bif Nat.blt j 15 then (bif Nat.beq j 9 then some (8, 0, .array .int) else none) else (bif Nat.beq j 15 then some (8, 1, .array .int) else none)) else (bif Nat.blt j 21 then (bif Nat.beq j 18 then some (8, 2, .array .int) else none) else (bif Nat.blt j 24 then (bif Nat.beq j 21 then some (8, 3, .array .int) else none) else (bif Nat.beq j 24 then some (8, 4, .array .int) else none)))) else (bif Nat.blt j 33 then (bif Nat.blt j 30 then (bif Nat.beq j 27 then some (8, 5, .array .int) else none) else (bif Nat.beq j 30 then some (8, 6, .array .int) else none)) else (bif Nat.blt j 37 then (bif Nat.beq j 33 then some (8, 7, .int) else none) else (bif Nat.blt j 40 then (bif Nat.beq j 37 then some (8, 8, .int) else none) else (bif Nat.beq j 40 then some (8, 9, .int) else none)))))
noncomputable def am_kP0_9 (j : Nat) : Option (Nat × Nat × FieldType) := (bif Nat.blt j 21 then (bif Nat.blt j 15 then (bif Nat.beq j 9 then some (9, 0, .array .int) else none) else (bif Nat.blt j 18 then (bif Nat.beq j 15 then some (9, 1, .array .int) else none) else (bif Nat.beq j 18 then some (9, 2, .array .int) else none))) else (bif Nat.blt j 24 then (bif Nat.beq j 21 then some (9, 3, .array .int) else none) else (bif Nat.blt j 27 then (bif Nat.beq j 24 then some (9, 4, .array .int) else none) else (bif Nat.beq j 27 then some (9, 5, .int) else none))))
noncomputable def am_kP0_10 (j : Nat) : Option (Nat × Nat × FieldType) := (bif Nat.blt j 54 then (bif Nat.blt j 31 then (bif Nat.blt j 19 then (bif Nat.blt j 13 then (bif Nat.beq j 7 then some (10, 0, .array .int) else none) else (bif Nat.blt j 16 then (bif Nat.beq j 13 then some (10, 4, .array .int) else none) else (bif Nat.beq j 16 then some (10, 5, .array .int) else none))) else (bif Nat.blt j 25 then (bif Nat.blt j 22 then (bif Nat.beq j 19 then some (10, 6, .array .int) else none) else (bif Nat.beq j 22 then some (10, 7, .array .int) else none)) else (bif Nat.blt j 28 then (bif Nat.beq j 25 then some (10, 8, .array .int) else none) else (bif Nat.beq j 28 then some (10, 9, .array .int) else none)))) else (bif Nat.blt j 40 then (bif Nat.blt j 34 then (bif Nat.beq j 31 then some (10, 10, .array .int) else none) else (bif Nat.blt j 37 then (bif Nat.beq j 34 then some (10, 11, .array .int) else none) else (bif Nat.beq j 37 then some (10, 12, .array .int) else none))) else (bif Nat.blt j 48 then (bif Nat.blt j 44 then (bif Nat.beq j 40 then some (10, 13, .array .long) else none) else (bif Nat.beq j 44 then some (10, 14, .array .boolean) else none)) else (bif Nat.blt j 51 then (bif Nat.beq j 48 then some (10, 15, .array .int) else none) else (bif Nat.beq j 51 then some (10, 16, .array .boolean) else none))))) else (bif Nat.blt j 81 then (bif Nat.blt j 63 then (bif Nat.blt j 57 then (bif Nat.beq j 54 then some (10, 17, .array .boolean) else none) else (bif Nat.blt j 60 then (bif Nat.beq j 57 then some (10, 19, .array .int) else none) else (bif Nat.beq j 60 then some (10, 20, .array .int) else none))) else (bif Nat.blt j 69 then (bif Nat.blt j 66 then (bif Nat.beq j 63 then some (10, 21, .array .int) else none) else (bif Nat.beq j 66 then some (10, 22, .array .int) else none)) else (bif Nat.blt j 72 then (bif Nat.beq j 69 then some (10, 24, .array .int) else none) else (bif Nat.beq j 72 then some (10, 25, .array .int) else none)))) else (bif Nat.blt j 116 then (bif Nat.blt j 88 then (bif Nat.blt j 85 then (bif Nat.beq j 81 then some (10, 1, .int) else none) else (bif Nat.beq j 85 then some (10, 3, .int) else none)) else (bif Nat.blt j 105 then (bif Nat.beq j 88 then some (10, 2, .int) else none) else (bif Nat.beq j 105 then some (10, 27, .int) else none))) else (bif Nat.blt j 165 then (bif Nat.blt j 121 then (bif Nat.beq j 116 then some (10, 26, .int) else none) else (bif Nat.beq j 121 then some (10, 28, .int) else none)) else (bif Nat.blt j 208 then (bif Nat.beq j 165 then some (10, 23, .int) else none) else (bif Nat.beq j 208 then some (10, 18, .int) else none))))))
noncomputable def am_kP0 (p j : Nat) : Option (Nat × Nat × FieldType) := (bif Nat.blt p 5 then (bif Nat.blt p 2 then (bif Nat.blt p 1 then (bif Nat.beq p 0 then am_kP0_0 j else none) else (bif Nat.beq p 1 then am_kP0_1 j else none)) else (bif Nat.blt p 3 then (bif Nat.beq p 2 then am_kP0_2 j else none) else (bif Nat.blt p 4 then (bif Nat.beq p 3 then am_kP0_3 j else none) else (bif Nat.beq p 4 then am_kP0_4 j else none)))) else (bif Nat.blt p 8 then (bif Nat.blt p 6 then (bif Nat.beq p 5 then am_kP0_5 j else none) else (bif Nat.blt p 7 then (bif Nat.beq p 6 then am_kP0_6 j else none) else (bif Nat.beq p 7 then am_kP0_7 j else none))) else (bif Nat.blt p 9 then (bif Nat.beq p 8 then am_kP0_8 j else none) else (bif Nat.blt p 10 then (bif Nat.beq p 9 then am_kP0_9 j else none) else (bif Nat.beq p 10 then am_kP0_10 j else none)))))
noncomputable def am_kP (p j : Nat) : Option (Nat × Nat × FieldType) := am_b2 am_nP am_nJ am_kP0 p j
noncomputable def am_kQ0_11 (j : Nat) : Option (Nat × Nat) := (bif Nat.blt j 15 then (bif Nat.beq j 9 then some (100, 0) else none) else (bif Nat.beq j 15 then some (100, 1) else none))
noncomputable def am_kQ0 (p j : Nat) : Option (Nat × Nat) := (bif Nat.beq p 11 then am_kQ0_11 j else none)
noncomputable def am_kQ (p j : Nat) : Option (Nat × Nat) := am_b2 am_nP am_nJ am_kQ0 p j
noncomputable def am_kC0_0 (j : Nat) : Option (Nat) := (bif Nat.blt j 30 then (bif Nat.blt j 16 then (bif Nat.beq j 7 then some 1 else none) else (bif Nat.blt j 23 then (bif Nat.beq j 16 then some 2 else none) else (bif Nat.beq j 23 then some 3 else none))) else (bif Nat.blt j 37 then (bif Nat.beq j 30 then some 4 else none) else (bif Nat.blt j 44 then (bif Nat.beq j 37 then some 5 else none) else (bif Nat.beq j 44 then some 6 else none))))
noncomputable def am_kC0_6 (j : Nat) : Option (Nat) := (bif Nat.blt j 18 then (bif Nat.beq j 9 then some 7 else none) else (bif Nat.blt j 25 then (bif Nat.beq j 18 then some 8 else none) else (bif Nat.beq j 25 then some 9 else none)))
noncomputable def am_kC0_14 (j : Nat) : Option (Nat) := (bif Nat.blt j 10 then (bif Nat.beq j 7 then some 0 else none) else (bif Nat.beq j 10 then some 10 else none))
noncomputable def am_kC0 (p j : Nat) : Option (Nat) := (bif Nat.blt p 6 then (bif Nat.beq p 0 then am_kC0_0 j else none) else (bif Nat.blt p 14 then (bif Nat.beq p 6 then am_kC0_6 j else none) else (bif Nat.beq p 14 then am_kC0_14 j else none)))
noncomputable def am_kC (p j : Nat) : Option (Nat) := am_b2 am_nP am_nJ am_kC0 p j
noncomputable def am_kI0_0 (j : Nat) : Option (Value) := (bif Nat.beq j 168 then some (.int 1000000) else none)
noncomputable def am_kI0_6 (j : Nat) : Option (Value) := (bif Nat.blt j 86 then (bif Nat.blt j 68 then (bif Nat.blt j 63 then (bif Nat.beq j 54 then some (.retAddr 2) else none) else (bif Nat.beq j 63 then some (.retAddr 12) else none)) else (bif Nat.blt j 73 then (bif Nat.beq j 68 then some (.retAddr 14) else none) else (bif Nat.blt j 78 then (bif Nat.beq j 73 then some (.retAddr 16) else none) else (bif Nat.beq j 78 then some (.retAddr 18) else none)))) else (bif Nat.blt j 106 then (bif Nat.blt j 98 then (bif Nat.beq j 86 then some (.int 1000000) else none) else (bif Nat.beq j 98 then some (.retAddr 4) else none)) else (bif Nat.blt j 108 then (bif Nat.beq j 106 then some (.retAddr 6) else none) else (bif Nat.blt j 110 then (bif Nat.beq j 108 then some (.retAddr 8) else none) else (bif Nat.beq j 110 then some (.retAddr 10) else none)))))
noncomputable def am_kI0 (p j : Nat) : Option (Value) := (bif Nat.blt p 6 then (bif Nat.beq p 0 then am_kI0_0 j else none) else (bif Nat.beq p 6 then am_kI0_6 j else none))
noncomputable def am_kI (p j : Nat) : Option (Value) := am_b2 am_nP am_nJ am_kI0 p j
noncomputable def am_kL0_10 (j : Nat) : Option (Int64) := (bif Nat.blt j 112 then (bif Nat.blt j 99 then (bif Nat.blt j 95 then (bif Nat.beq j 75 then some 255 else none) else (bif Nat.blt j 97 then (bif Nat.beq j 95 then some 256 else none) else (bif Nat.beq j 97 then some 27 else none))) else (bif Nat.blt j 108 then (bif Nat.beq j 99 then some 1668244581 else none) else (bif Nat.blt j 110 then (bif Nat.beq j 108 then some 29103447424000364 else none) else (bif Nat.beq j 110 then some 120299659095922 else none)))) else (bif Nat.blt j 137 then (bif Nat.blt j 114 then (bif Nat.beq j 112 then some 7168368 else none) else (bif Nat.blt j 119 then (bif Nat.beq j 114 then some 1851878757 else none) else (bif Nat.beq j 119 then some 9 else none))) else (bif Nat.blt j 199 then (bif Nat.blt j 177 then (bif Nat.beq j 137 then some 2003330414 else none) else (bif Nat.beq j 177 then some 999999 else none)) else (bif Nat.blt j 211 then (bif Nat.beq j 199 then some 5 else none) else (bif Nat.beq j 211 then some 7 else none)))))
noncomputable def am_kL0 (p j : Nat) : Option (Int64) := (bif Nat.beq p 10 then am_kL0_10 j else none)
noncomputable def am_kL (p j : Nat) : Option (Int64) := am_b2 am_nP am_nJ am_kL0 p j
noncomputable def am_kG0_11 (j : Nat) : Option (Value) := (bif Nat.blt j 1053 then (bif Nat.beq j 38 then some (.int 1) else none) else (bif Nat.beq j 1053 then some (.retAddr 100) else none))
noncomputable def am_kG0 (p j : Nat) : Option (Value) := (bif Nat.beq p 11 then am_kG0_11 j else none)
noncomputable def am_kG (p j : Nat) : Option (Value) := am_b2 am_nP am_nJ am_kG0 p j
noncomputable def am_kO0_0 (j : Nat) : Option (Unit) := (bif Nat.beq j 1 then some () else none)
noncomputable def am_kO0_1 (j : Nat) : Option (Unit) := (bif Nat.beq j 3 then some () else none)
noncomputable def am_kO0_2 (j : Nat) : Option (Unit) := (bif Nat.beq j 3 then some () else none)
noncomputable def am_kO0_3 (j : Nat) : Option (Unit) := (bif Nat.beq j 3 then some () else none)
noncomputable def am_kO0_4 (j : Nat) : Option (Unit) := (bif Nat.beq j 3 then some () else none)
noncomputable def am_kO0_5 (j : Nat) : Option (Unit) := (bif Nat.beq j 3 then some () else none)
noncomputable def am_kO0_6 (j : Nat) : Option (Unit) := (bif Nat.beq j 3 then some () else none)
noncomputable def am_kO0_7 (j : Nat) : Option (Unit) := (bif Nat.beq j 3 then some () else none)
noncomputable def am_kO0_8 (j : Nat) : Option (Unit) := (bif Nat.beq j 3 then some () else none)
noncomputable def am_kO0_9 (j : Nat) : Option (Unit) := (bif Nat.beq j 3 then some () else none)
noncomputable def am_kO0_10 (j : Nat) : Option (Unit) := (bif Nat.beq j 1 then some () else none)
noncomputable def am_kO0 (p j : Nat) : Option (Unit) := (bif Nat.blt p 5 then (bif Nat.blt p 2 then (bif Nat.blt p 1 then (bif Nat.beq p 0 then am_kO0_0 j else none) else (bif Nat.beq p 1 then am_kO0_1 j else none)) else (bif Nat.blt p 3 then (bif Nat.beq p 2 then am_kO0_2 j else none) else (bif Nat.blt p 4 then (bif Nat.beq p 3 then am_kO0_3 j else none) else (bif Nat.beq p 4 then am_kO0_4 j else none)))) else (bif Nat.blt p 8 then (bif Nat.blt p 6 then (bif Nat.beq p 5 then am_kO0_5 j else none) else (bif Nat.blt p 7 then (bif Nat.beq p 6 then am_kO0_6 j else none) else (bif Nat.beq p 7 then am_kO0_7 j else none))) else (bif Nat.blt p 9 then (bif Nat.beq p 8 then am_kO0_8 j else none) else (bif Nat.blt p 10 then (bif Nat.beq p 9 then am_kO0_9 j else none) else (bif Nat.beq p 10 then am_kO0_10 j else none)))))
noncomputable def am_kOo (p j : Nat) : Option (Unit) := am_b2 am_nP am_nJ am_kO0 p j
noncomputable def am_kO (p j : Nat) : Bool := (am_kOo p j).isSome
noncomputable def am_kN0_9 (j : Nat) : Option (Unit) := (bif Nat.beq j 64 then some () else none)
noncomputable def am_kN0 (p j : Nat) : Option (Unit) := (bif Nat.beq p 9 then am_kN0_9 j else none)
noncomputable def am_kNo (p j : Nat) : Option (Unit) := am_b2 am_nP am_nJ am_kN0 p j
noncomputable def am_kN (p j : Nat) : Bool := (am_kNo p j).isSome
noncomputable def am_kV0_0 (j : Nat) : Option (Nat × Nat) := (bif Nat.blt j 122 then (bif Nat.blt j 75 then (bif Nat.blt j 65 then (bif Nat.blt j 58 then (bif Nat.beq j 54 then some (25, 1) else none) else (bif Nat.blt j 62 then (bif Nat.beq j 58 then some (57, 1) else none) else (bif Nat.beq j 62 then some (35, 0) else none))) else (bif Nat.blt j 68 then (bif Nat.beq j 65 then some (42, 0) else none) else (bif Nat.blt j 72 then (bif Nat.beq j 68 then some (37, 2) else none) else (bif Nat.beq j 72 then some (38, 0) else none)))) else (bif Nat.blt j 98 then (bif Nat.blt j 83 then (bif Nat.beq j 75 then some (65, 1) else none) else (bif Nat.blt j 93 then (bif Nat.beq j 83 then some (76, 1) else none) else (bif Nat.beq j 93 then some (89, 1) else none))) else (bif Nat.blt j 116 then (bif Nat.blt j 108 then (bif Nat.beq j 98 then some (85, 2) else none) else (bif Nat.beq j 108 then some (90, 3) else none)) else (bif Nat.blt j 119 then (bif Nat.beq j 116 then some (14, 1) else none) else (bif Nat.beq j 119 then some (101, 1) else none))))) else (bif Nat.blt j 145 then (bif Nat.blt j 131 then (bif Nat.blt j 125 then (bif Nat.beq j 122 then some (102, 1) else none) else (bif Nat.blt j 128 then (bif Nat.beq j 125 then some (43, 2) else none) else (bif Nat.beq j 128 then some (45, 2) else none))) else (bif Nat.blt j 138 then (bif Nat.blt j 135 then (bif Nat.beq j 131 then some (47, 2) else none) else (bif Nat.beq j 135 then some (49, 0) else none)) else (bif Nat.blt j 142 then (bif Nat.beq j 138 then some (50, 3) else none) else (bif Nat.beq j 142 then some (51, 2) else none)))) else (bif Nat.blt j 154 then (bif Nat.blt j 148 then (bif Nat.beq j 145 then some (53, 1) else none) else (bif Nat.blt j 151 then (bif Nat.beq j 148 then some (6, 0) else none) else (bif Nat.beq j 151 then some (54, 2) else none))) else (bif Nat.blt j 160 then (bif Nat.blt j 157 then (bif Nat.beq j 154 then some (55, 2) else none) else (bif Nat.beq j 157 then some (26, 0) else none)) else (bif Nat.blt j 164 then (bif Nat.beq j 160 then some (33, 0) else none) else (bif Nat.beq j 164 then some (98, 2) else none))))))
noncomputable def am_kV0_1 (j : Nat) : Option (Nat × Nat) := (bif Nat.blt j 37 then (bif Nat.blt j 31 then (bif Nat.beq j 25 then some (27, 0) else none) else (bif Nat.beq j 31 then some (147, 0) else none)) else (bif Nat.blt j 38 then (bif Nat.beq j 37 then some (30, 0) else none) else (bif Nat.blt j 42 then (bif Nat.beq j 38 then some (149, 1) else none) else (bif Nat.beq j 42 then some (31, 1) else none))))
noncomputable def am_kV0_3 (j : Nat) : Option (Nat × Nat) := (bif Nat.beq j 25 then some (46, 1) else none)
noncomputable def am_kV0_5 (j : Nat) : Option (Nat × Nat) := (bif Nat.beq j 22 then some (53, 1) else none)
noncomputable def am_kV0_6 (j : Nat) : Option (Nat × Nat) := (bif Nat.blt j 112 then (bif Nat.blt j 65 then (bif Nat.blt j 42 then (bif Nat.blt j 36 then (bif Nat.blt j 35 then (bif Nat.beq j 32 then some (69, 0) else none) else (bif Nat.beq j 35 then some (80, 0) else none)) else (bif Nat.blt j 37 then (bif Nat.beq j 36 then some (92, 0) else none) else (bif Nat.beq j 37 then some (26, 0) else none))) else (bif Nat.blt j 50 then (bif Nat.blt j 46 then (bif Nat.beq j 42 then some (28, 0) else none) else (bif Nat.beq j 46 then some (58, 1) else none)) else (bif Nat.blt j 56 then (bif Nat.beq j 50 then some (34, 0) else none) else (bif Nat.blt j 60 then (bif Nat.beq j 56 then some (29, 1) else none) else (bif Nat.beq j 60 then some (59, 1) else none))))) else (bif Nat.blt j 87 then (bif Nat.blt j 75 then (bif Nat.blt j 70 then (bif Nat.beq j 65 then some (61, 1) else none) else (bif Nat.beq j 70 then some (62, 1) else none)) else (bif Nat.blt j 80 then (bif Nat.beq j 75 then some (63, 1) else none) else (bif Nat.blt j 83 then (bif Nat.beq j 80 then some (64, 1) else none) else (bif Nat.beq j 83 then some (70, 0) else none)))) else (bif Nat.blt j 95 then (bif Nat.blt j 91 then (bif Nat.beq j 87 then some (32, 1) else none) else (bif Nat.beq j 91 then some (71, 2) else none)) else (bif Nat.blt j 100 then (bif Nat.beq j 95 then some (27, 0) else none) else (bif Nat.blt j 103 then (bif Nat.beq j 100 then some (60, 1) else none) else (bif Nat.beq j 103 then some (72, 0) else none)))))) else (bif Nat.blt j 144 then (bif Nat.blt j 129 then (bif Nat.blt j 119 then (bif Nat.blt j 115 then (bif Nat.beq j 112 then some (31, 1) else none) else (bif Nat.beq j 115 then some (73, 3) else none)) else (bif Nat.blt j 122 then (bif Nat.beq j 119 then some (81, 0) else none) else (bif Nat.blt j 126 then (bif Nat.beq j 122 then some (82, 1) else none) else (bif Nat.beq j 126 then some (83, 0) else none)))) else (bif Nat.blt j 136 then (bif Nat.blt j 133 then (bif Nat.beq j 129 then some (84, 1) else none) else (bif Nat.beq j 133 then some (86, 2) else none)) else (bif Nat.blt j 139 then (bif Nat.beq j 136 then some (87, 0) else none) else (bif Nat.blt j 143 then (bif Nat.beq j 139 then some (88, 4) else none) else (bif Nat.beq j 143 then some (93, 0) else none))))) else (bif Nat.blt j 160 then (bif Nat.blt j 150 then (bif Nat.blt j 147 then (bif Nat.beq j 144 then some (33, 0) else none) else (bif Nat.beq j 147 then some (94, 1) else none)) else (bif Nat.blt j 153 then (bif Nat.beq j 150 then some (97, 2) else none) else (bif Nat.blt j 157 then (bif Nat.beq j 153 then some (66, 3) else none) else (bif Nat.beq j 157 then some (76, 1) else none)))) else (bif Nat.blt j 166 then (bif Nat.blt j 163 then (bif Nat.beq j 160 then some (89, 1) else none) else (bif Nat.beq j 163 then some (75, 1) else none)) else (bif Nat.blt j 169 then (bif Nat.beq j 166 then some (74, 0) else none) else (bif Nat.blt j 173 then (bif Nat.beq j 169 then some (67, 2) else none) else (bif Nat.beq j 173 then some (77, 2) else none)))))))
noncomputable def am_kV0_7 (j : Nat) : Option (Nat × Nat) := (bif Nat.blt j 48 then (bif Nat.blt j 41 then (bif Nat.beq j 37 then some (70, 0) else none) else (bif Nat.beq j 41 then some (72, 0) else none)) else (bif Nat.blt j 54 then (bif Nat.beq j 48 then some (39, 1) else none) else (bif Nat.beq j 54 then some (40, 1) else none)))
noncomputable def am_kV0_8 (j : Nat) : Option (Nat × Nat) := (bif Nat.blt j 50 then (bif Nat.blt j 47 then (bif Nat.beq j 43 then some (81, 0) else none) else (bif Nat.beq j 47 then some (83, 0) else none)) else (bif Nat.blt j 53 then (bif Nat.beq j 50 then some (87, 0) else none) else (bif Nat.beq j 53 then some (85, 2) else none)))
noncomputable def am_kV0_9 (j : Nat) : Option (Nat × Nat) := (bif Nat.blt j 45 then (bif Nat.blt j 35 then (bif Nat.beq j 31 then some (93, 0) else none) else (bif Nat.blt j 41 then (bif Nat.beq j 35 then some (30, 0) else none) else (bif Nat.beq j 41 then some (31, 1) else none))) else (bif Nat.blt j 57 then (bif Nat.blt j 53 then (bif Nat.beq j 45 then some (95, 2) else none) else (bif Nat.beq j 53 then some (99, 2) else none)) else (bif Nat.blt j 60 then (bif Nat.beq j 57 then some (100, 1) else none) else (bif Nat.beq j 60 then some (96, 2) else none))))
noncomputable def am_kV0_10 (j : Nat) : Option (Nat × Nat) := (bif Nat.blt j 156 then (bif Nat.blt j 139 then (bif Nat.blt j 127 then (bif Nat.blt j 124 then (bif Nat.beq j 101 then some (110, 1) else none) else (bif Nat.beq j 124 then some (115, 1) else none)) else (bif Nat.blt j 131 then (bif Nat.beq j 127 then some (116, 0) else none) else (bif Nat.blt j 134 then (bif Nat.beq j 131 then some (117, 1) else none) else (bif Nat.beq j 134 then some (118, 1) else none)))) else (bif Nat.blt j 147 then (bif Nat.blt j 143 then (bif Nat.beq j 139 then some (111, 0) else none) else (bif Nat.beq j 143 then some (112, 0) else none)) else (bif Nat.blt j 150 then (bif Nat.beq j 147 then some (113, 1) else none) else (bif Nat.blt j 153 then (bif Nat.beq j 150 then some (114, 1) else none) else (bif Nat.beq j 153 then some (107, 0) else none))))) else (bif Nat.blt j 174 then (bif Nat.blt j 162 then (bif Nat.blt j 159 then (bif Nat.beq j 156 then some (109, 0) else none) else (bif Nat.beq j 159 then some (119, 0) else none)) else (bif Nat.blt j 168 then (bif Nat.beq j 162 then some (126, 1) else none) else (bif Nat.blt j 171 then (bif Nat.beq j 168 then some (125, 1) else none) else (bif Nat.beq j 171 then some (122, 1) else none)))) else (bif Nat.blt j 195 then (bif Nat.blt j 191 then (bif Nat.beq j 174 then some (124, 0) else none) else (bif Nat.beq j 191 then some (133, 2) else none)) else (bif Nat.blt j 205 then (bif Nat.beq j 195 then some (132, 1) else none) else (bif Nat.blt j 213 then (bif Nat.beq j 205 then some (141, 2) else none) else (bif Nat.beq j 213 then some (123, 0) else none))))))
noncomputable def am_kV0_11 (j : Nat) : Option (Nat × Nat) := (bif Nat.blt j 492 then (bif Nat.beq j 335 then some (148, 0) else none) else (bif Nat.beq j 492 then some (150, 0) else none))
noncomputable def am_kV0_14 (j : Nat) : Option (Nat × Nat) := (bif Nat.blt j 58 then (bif Nat.blt j 36 then (bif Nat.blt j 27 then (bif Nat.blt j 18 then (bif Nat.blt j 17 then (bif Nat.beq j 13 then some (1, 1) else none) else (bif Nat.beq j 17 then some (104, 1) else none)) else (bif Nat.blt j 22 then (bif Nat.beq j 18 then some (2, 0) else none) else (bif Nat.blt j 23 then (bif Nat.beq j 22 then some (106, 0) else none) else (bif Nat.beq j 23 then some (3, 2) else none)))) else (bif Nat.blt j 31 then (bif Nat.blt j 28 then (bif Nat.beq j 27 then some (120, 2) else none) else (bif Nat.beq j 28 then some (5, 0) else none)) else (bif Nat.blt j 32 then (bif Nat.beq j 31 then some (121, 0) else none) else (bif Nat.blt j 35 then (bif Nat.beq j 32 then some (6, 0) else none) else (bif Nat.beq j 35 then some (123, 0) else none))))) else (bif Nat.blt j 47 then (bif Nat.blt j 40 then (bif Nat.blt j 39 then (bif Nat.beq j 36 then some (7, 0) else none) else (bif Nat.beq j 39 then some (127, 0) else none)) else (bif Nat.blt j 43 then (bif Nat.beq j 40 then some (8, 0) else none) else (bif Nat.blt j 44 then (bif Nat.beq j 43 then some (128, 0) else none) else (bif Nat.beq j 44 then some (9, 1) else none)))) else (bif Nat.blt j 52 then (bif Nat.blt j 48 then (bif Nat.beq j 47 then some (122, 1) else none) else (bif Nat.beq j 48 then some (10, 2) else none)) else (bif Nat.blt j 53 then (bif Nat.beq j 52 then some (129, 2) else none) else (bif Nat.blt j 57 then (bif Nat.beq j 53 then some (11, 3) else none) else (bif Nat.beq j 57 then some (130, 3) else none)))))) else (bif Nat.blt j 80 then (bif Nat.blt j 70 then (bif Nat.blt j 63 then (bif Nat.blt j 62 then (bif Nat.beq j 58 then some (13, 1) else none) else (bif Nat.beq j 62 then some (131, 1) else none)) else (bif Nat.blt j 66 then (bif Nat.beq j 63 then some (15, 1) else none) else (bif Nat.blt j 67 then (bif Nat.beq j 66 then some (137, 1) else none) else (bif Nat.beq j 67 then some (16, 2) else none)))) else (bif Nat.blt j 74 then (bif Nat.blt j 71 then (bif Nat.beq j 70 then some (138, 2) else none) else (bif Nat.beq j 71 then some (17, 2) else none)) else (bif Nat.blt j 75 then (bif Nat.beq j 74 then some (140, 2) else none) else (bif Nat.blt j 79 then (bif Nat.beq j 75 then some (18, 2) else none) else (bif Nat.beq j 79 then some (141, 2) else none))))) else (bif Nat.blt j 92 then (bif Nat.blt j 84 then (bif Nat.blt j 83 then (bif Nat.beq j 80 then some (19, 0) else none) else (bif Nat.beq j 83 then some (142, 0) else none)) else (bif Nat.blt j 88 then (bif Nat.beq j 84 then some (20, 3) else none) else (bif Nat.blt j 89 then (bif Nat.beq j 88 then some (143, 3) else none) else (bif Nat.beq j 89 then some (21, 2) else none)))) else (bif Nat.blt j 96 then (bif Nat.blt j 93 then (bif Nat.beq j 92 then some (144, 2) else none) else (bif Nat.beq j 93 then some (22, 1) else none)) else (bif Nat.blt j 97 then (bif Nat.beq j 96 then some (145, 1) else none) else (bif Nat.blt j 100 then (bif Nat.beq j 97 then some (23, 2) else none) else (bif Nat.beq j 100 then some (146, 2) else none)))))))
noncomputable def am_kV0 (p j : Nat) : Option (Nat × Nat) := (bif Nat.blt p 7 then (bif Nat.blt p 3 then (bif Nat.blt p 1 then (bif Nat.beq p 0 then am_kV0_0 j else none) else (bif Nat.beq p 1 then am_kV0_1 j else none)) else (bif Nat.blt p 5 then (bif Nat.beq p 3 then am_kV0_3 j else none) else (bif Nat.blt p 6 then (bif Nat.beq p 5 then am_kV0_5 j else none) else (bif Nat.beq p 6 then am_kV0_6 j else none)))) else (bif Nat.blt p 10 then (bif Nat.blt p 8 then (bif Nat.beq p 7 then am_kV0_7 j else none) else (bif Nat.blt p 9 then (bif Nat.beq p 8 then am_kV0_8 j else none) else (bif Nat.beq p 9 then am_kV0_9 j else none))) else (bif Nat.blt p 11 then (bif Nat.beq p 10 then am_kV0_10 j else none) else (bif Nat.blt p 14 then (bif Nat.beq p 11 then am_kV0_11 j else none) else (bif Nat.beq p 14 then am_kV0_14 j else none)))))
noncomputable def am_kV (p j : Nat) : Option (Nat × Nat) := am_b2 am_nP am_nJ am_kV0 p j
noncomputable def am_kT0_0 (j : Nat) : Option (Nat × Nat) := (bif Nat.blt j 105 then (bif Nat.beq j 102 then some (12, 1) else none) else (bif Nat.beq j 105 then some (4, 2) else none))
noncomputable def am_kT0_2 (j : Nat) : Option (Nat × Nat) := (bif Nat.beq j 19 then some (4, 2) else none)
noncomputable def am_kT0_3 (j : Nat) : Option (Nat × Nat) := (bif Nat.blt j 22 then (bif Nat.beq j 18 then some (4, 2) else none) else (bif Nat.beq j 22 then some (44, 2) else none))
noncomputable def am_kT0_4 (j : Nat) : Option (Nat × Nat) := (bif Nat.blt j 29 then (bif Nat.beq j 25 then some (4, 2) else none) else (bif Nat.beq j 29 then some (12, 1) else none))
noncomputable def am_kT0_5 (j : Nat) : Option (Nat × Nat) := (bif Nat.beq j 18 then some (4, 2) else none)
noncomputable def am_kT0_7 (j : Nat) : Option (Nat × Nat) := (bif Nat.blt j 58 then (bif Nat.beq j 44 then some (4, 2) else none) else (bif Nat.beq j 58 then some (78, 3) else none))
noncomputable def am_kT0_9 (j : Nat) : Option (Nat × Nat) := (bif Nat.beq j 49 then some (4, 2) else none)
noncomputable def am_kT0_10 (j : Nat) : Option (Nat × Nat) := (bif Nat.blt j 183 then (bif Nat.blt j 91 then (bif Nat.beq j 77 then some (105, 3) else none) else (bif Nat.blt j 179 then (bif Nat.beq j 91 then some (108, 1) else none) else (bif Nat.beq j 179 then some (134, 1) else none))) else (bif Nat.blt j 187 then (bif Nat.beq j 183 then some (135, 3) else none) else (bif Nat.blt j 201 then (bif Nat.beq j 187 then some (136, 2) else none) else (bif Nat.beq j 201 then some (139, 2) else none))))
noncomputable def am_kT0_11 (j : Nat) : Option (Nat × Nat) := (bif Nat.blt j 1059 then (bif Nat.beq j 495 then some (151, 2) else none) else (bif Nat.beq j 1059 then some (153, 3) else none))
noncomputable def am_kT0_12 (j : Nat) : Option (Nat × Nat) := (bif Nat.beq j 9 then some (152, 2) else none)
noncomputable def am_kT0 (p j : Nat) : Option (Nat × Nat) := (bif Nat.blt p 7 then (bif Nat.blt p 3 then (bif Nat.blt p 2 then (bif Nat.beq p 0 then am_kT0_0 j else none) else (bif Nat.beq p 2 then am_kT0_2 j else none)) else (bif Nat.blt p 4 then (bif Nat.beq p 3 then am_kT0_3 j else none) else (bif Nat.blt p 5 then (bif Nat.beq p 4 then am_kT0_4 j else none) else (bif Nat.beq p 5 then am_kT0_5 j else none)))) else (bif Nat.blt p 10 then (bif Nat.blt p 9 then (bif Nat.beq p 7 then am_kT0_7 j else none) else (bif Nat.beq p 9 then am_kT0_9 j else none)) else (bif Nat.blt p 11 then (bif Nat.beq p 10 then am_kT0_10 j else none) else (bif Nat.blt p 12 then (bif Nat.beq p 11 then am_kT0_11 j else none) else (bif Nat.beq p 12 then am_kT0_12 j else none)))))
noncomputable def am_kT (p j : Nat) : Option (Nat × Nat) := am_b2 am_nP am_nJ am_kT0 p j
noncomputable def am_kX0_0 (j : Nat) : Option (Nat × Nat) := (bif Nat.blt j 32 then (bif Nat.blt j 18 then (bif Nat.beq j 9 then some (24, 0) else none) else (bif Nat.blt j 25 then (bif Nat.beq j 18 then some (36, 0) else none) else (bif Nat.beq j 25 then some (41, 0) else none))) else (bif Nat.blt j 39 then (bif Nat.beq j 32 then some (48, 0) else none) else (bif Nat.blt j 46 then (bif Nat.beq j 39 then some (52, 0) else none) else (bif Nat.beq j 46 then some (56, 0) else none))))
noncomputable def am_kX0_6 (j : Nat) : Option (Nat × Nat) := (bif Nat.blt j 20 then (bif Nat.beq j 11 then some (68, 0) else none) else (bif Nat.blt j 27 then (bif Nat.beq j 20 then some (79, 0) else none) else (bif Nat.beq j 27 then some (91, 0) else none)))
noncomputable def am_kX0_14 (j : Nat) : Option (Nat × Nat) := (bif Nat.blt j 12 then (bif Nat.beq j 9 then some (0, 0) else none) else (bif Nat.beq j 12 then some (103, 0) else none))
noncomputable def am_kX0 (p j : Nat) : Option (Nat × Nat) := (bif Nat.blt p 6 then (bif Nat.beq p 0 then am_kX0_0 j else none) else (bif Nat.blt p 14 then (bif Nat.beq p 6 then am_kX0_6 j else none) else (bif Nat.beq p 14 then am_kX0_14 j else none)))
noncomputable def am_kX (p j : Nat) : Option (Nat × Nat) := am_b2 am_nP am_nJ am_kX0 p j
noncomputable def am_gs : List (String × String × String × Value) := [("java/lang/String", "COMPACT_STRINGS", "Z", .int 1), ("jdk/internal/util/Preconditions", "SIOOBE_FORMATTER", "Ljava/util/function/BiFunction;", .retAddr 100)]
/-- CodeRules.<init>()V -/
noncomputable def am_cd_0 (pc : Nat) : Option (Instr × Nat × Nat) := (bif Nat.blt pc 41 then (bif Nat.blt pc 19 then (bif Nat.blt pc 8 then (bif Nat.blt pc 4 then (bif Nat.blt pc 1 then (bif Nat.beq pc 0 then some (.aload_n 0, 1, 0) else none) else (bif Nat.beq pc 1 then some (.invokespecial 1, 4, 0) else none)) else (bif Nat.blt pc 5 then (bif Nat.beq pc 4 then some (.aload_n 0, 5, 0) else none) else (bif Nat.beq pc 5 then some (.new 7, 8, 0) else none))) else (bif Nat.blt pc 12 then (bif Nat.blt pc 9 then (bif Nat.beq pc 8 then some (.dup, 9, 0) else none) else (bif Nat.beq pc 9 then some (.invokespecial 9, 12, 0) else none)) else (bif Nat.blt pc 15 then (bif Nat.beq pc 12 then some (.putfield 10, 15, 0) else none) else (bif Nat.blt pc 16 then (bif Nat.beq pc 15 then some (.aload_n 0, 16, 0) else none) else (bif Nat.beq pc 16 then some (.new 16, 19, 0) else none))))) else (bif Nat.blt pc 30 then (bif Nat.blt pc 23 then (bif Nat.blt pc 20 then (bif Nat.beq pc 19 then some (.dup, 20, 0) else none) else (bif Nat.beq pc 20 then some (.invokespecial 18, 23, 0) else none)) else (bif Nat.blt pc 26 then (bif Nat.beq pc 23 then some (.putfield 19, 26, 0) else none) else (bif Nat.blt pc 27 then (bif Nat.beq pc 26 then some (.aload_n 0, 27, 0) else none) else (bif Nat.beq pc 27 then some (.new 23, 30, 0) else none)))) else (bif Nat.blt pc 34 then (bif Nat.blt pc 31 then (bif Nat.beq pc 30 then some (.dup, 31, 0) else none) else (bif Nat.beq pc 31 then some (.invokespecial 25, 34, 0) else none)) else (bif Nat.blt pc 37 then (bif Nat.beq pc 34 then some (.putfield 26, 37, 0) else none) else (bif Nat.blt pc 38 then (bif Nat.beq pc 37 then some (.aload_n 0, 38, 0) else none) else (bif Nat.beq pc 38 then some (.new 30, 41, 0) else none)))))) else (bif Nat.blt pc 60 then (bif Nat.blt pc 49 then (bif Nat.blt pc 45 then (bif Nat.blt pc 42 then (bif Nat.beq pc 41 then some (.dup, 42, 0) else none) else (bif Nat.beq pc 42 then some (.invokespecial 32, 45, 0) else none)) else (bif Nat.blt pc 48 then (bif Nat.beq pc 45 then some (.putfield 33, 48, 0) else none) else (bif Nat.beq pc 48 then some (.aload_n 0, 49, 0) else none))) else (bif Nat.blt pc 53 then (bif Nat.blt pc 52 then (bif Nat.beq pc 49 then some (.new 37, 52, 0) else none) else (bif Nat.beq pc 52 then some (.dup, 53, 0) else none)) else (bif Nat.blt pc 56 then (bif Nat.beq pc 53 then some (.invokespecial 39, 56, 0) else none) else (bif Nat.blt pc 59 then (bif Nat.beq pc 56 then some (.putfield 40, 59, 0) else none) else (bif Nat.beq pc 59 then some (.aload_n 0, 60, 0) else none))))) else (bif Nat.blt pc 71 then (bif Nat.blt pc 64 then (bif Nat.blt pc 63 then (bif Nat.beq pc 60 then some (.new 44, 63, 0) else none) else (bif Nat.beq pc 63 then some (.dup, 64, 0) else none)) else (bif Nat.blt pc 67 then (bif Nat.beq pc 64 then some (.invokespecial 46, 67, 0) else none) else (bif Nat.blt pc 70 then (bif Nat.beq pc 67 then some (.putfield 47, 70, 0) else none) else (bif Nat.beq pc 70 then some (.aload_n 0, 71, 0) else none)))) else (bif Nat.blt pc 75 then (bif Nat.blt pc 74 then (bif Nat.beq pc 71 then some (.new 44, 74, 0) else none) else (bif Nat.beq pc 74 then some (.dup, 75, 0) else none)) else (bif Nat.blt pc 78 then (bif Nat.beq pc 75 then some (.invokespecial 46, 78, 0) else none) else (bif Nat.blt pc 81 then (bif Nat.beq pc 78 then some (.putfield 51, 81, 0) else none) else (bif Nat.beq pc 81 then some (.return_, 82, 0) else none)))))))
/-- CodeRules.unit(I)Z -/
noncomputable def am_cd_1 (pc : Nat) : Option (Instr × Nat × Nat) := (bif Nat.blt pc 4 then (bif Nat.blt pc 1 then (bif Nat.beq pc 0 then some (.aload_n 0, 1, 0) else none) else (bif Nat.beq pc 1 then some (.getfield 10, 4, 0) else none)) else (bif Nat.blt pc 5 then (bif Nat.beq pc 4 then some (.iload_n 1, 5, 0) else none) else (bif Nat.blt pc 8 then (bif Nat.beq pc 5 then some (.invokevirtual 54, 8, 0) else none) else (bif Nat.beq pc 8 then some (.ireturn, 9, 0) else none))))
/-- CodeRules.read()I -/
noncomputable def am_cd_2 (pc : Nat) : Option (Instr × Nat × Nat) := (bif Nat.blt pc 26 then (bif Nat.blt pc 13 then (bif Nat.blt pc 5 then (bif Nat.blt pc 1 then (bif Nat.beq pc 0 then some (.aload_n 0, 1, 0) else none) else (bif Nat.blt pc 4 then (bif Nat.beq pc 1 then some (.getfield 51, 4, 0) else none) else (bif Nat.beq pc 4 then some (.aload_n 0, 5, 0) else none))) else (bif Nat.blt pc 11 then (bif Nat.blt pc 8 then (bif Nat.beq pc 5 then some (.getfield 10, 8, 0) else none) else (bif Nat.beq pc 8 then some (.invokevirtual 58, 11, 0) else none)) else (bif Nat.blt pc 12 then (bif Nat.beq pc 11 then some (.istore_n 1, 12, 0) else none) else (bif Nat.beq pc 12 then some (.aload_n 0, 13, 0) else none)))) else (bif Nat.blt pc 20 then (bif Nat.blt pc 16 then (bif Nat.beq pc 13 then some (.getfield 10, 16, 0) else none) else (bif Nat.blt pc 19 then (bif Nat.beq pc 16 then some (.invokevirtual 62, 19, 0) else none) else (bif Nat.beq pc 19 then some (.iload_n 1, 20, 0) else none))) else (bif Nat.blt pc 24 then (bif Nat.blt pc 23 then (bif Nat.beq pc 20 then some (.ifCond .ge 5, 23, 25) else none) else (bif Nat.beq pc 23 then some (.iload_n 1, 24, 0) else none)) else (bif Nat.blt pc 25 then (bif Nat.beq pc 24 then some (.ireturn, 25, 0) else none) else (bif Nat.beq pc 25 then some (.aload_n 0, 26, 0) else none))))) else (bif Nat.blt pc 39 then (bif Nat.blt pc 31 then (bif Nat.blt pc 29 then (bif Nat.beq pc 26 then some (.getfield 47, 29, 0) else none) else (bif Nat.blt pc 30 then (bif Nat.beq pc 29 then some (.astore_n 2, 30, 0) else none) else (bif Nat.beq pc 30 then some (.aload_n 0, 31, 0) else none))) else (bif Nat.blt pc 35 then (bif Nat.blt pc 32 then (bif Nat.beq pc 31 then some (.aload_n 0, 32, 0) else none) else (bif Nat.beq pc 32 then some (.getfield 51, 35, 0) else none)) else (bif Nat.blt pc 38 then (bif Nat.beq pc 35 then some (.putfield 47, 38, 0) else none) else (bif Nat.beq pc 38 then some (.aload_n 0, 39, 0) else none)))) else (bif Nat.blt pc 44 then (bif Nat.blt pc 40 then (bif Nat.beq pc 39 then some (.aload_n 2, 40, 0) else none) else (bif Nat.blt pc 43 then (bif Nat.beq pc 40 then some (.putfield 51, 43, 0) else none) else (bif Nat.beq pc 43 then some (.aload_n 0, 44, 0) else none))) else (bif Nat.blt pc 50 then (bif Nat.blt pc 47 then (bif Nat.beq pc 44 then some (.getfield 26, 47, 0) else none) else (bif Nat.beq pc 47 then some (.invokevirtual 65, 50, 0) else none)) else (bif Nat.blt pc 51 then (bif Nat.beq pc 50 then some (.iload_n 1, 51, 0) else none) else (bif Nat.beq pc 51 then some (.ireturn, 52, 0) else none))))))
/-- CodeRules.fact(II)Z -/
noncomputable def am_cd_3 (pc : Nat) : Option (Instr × Nat × Nat) := (bif Nat.blt pc 5 then (bif Nat.blt pc 1 then (bif Nat.beq pc 0 then some (.aload_n 0, 1, 0) else none) else (bif Nat.blt pc 4 then (bif Nat.beq pc 1 then some (.getfield 19, 4, 0) else none) else (bif Nat.beq pc 4 then some (.iload_n 1, 5, 0) else none))) else (bif Nat.blt pc 6 then (bif Nat.beq pc 5 then some (.iload_n 2, 6, 0) else none) else (bif Nat.blt pc 9 then (bif Nat.beq pc 6 then some (.invokevirtual 68, 9, 0) else none) else (bif Nat.beq pc 9 then some (.ireturn, 10, 0) else none))))
/-- CodeRules.isBelow(II)Z -/
noncomputable def am_cd_4 (pc : Nat) : Option (Instr × Nat × Nat) := (bif Nat.blt pc 6 then (bif Nat.blt pc 4 then (bif Nat.blt pc 1 then (bif Nat.beq pc 0 then some (.iload_n 0, 1, 0) else none) else (bif Nat.beq pc 1 then some (.ifCond .lt 12, 4, 13) else none)) else (bif Nat.blt pc 5 then (bif Nat.beq pc 4 then some (.iload_n 0, 5, 0) else none) else (bif Nat.beq pc 5 then some (.iload_n 1, 6, 0) else none))) else (bif Nat.blt pc 10 then (bif Nat.blt pc 9 then (bif Nat.beq pc 6 then some (.if_icmp .ge 7, 9, 13) else none) else (bif Nat.beq pc 9 then some (.iconst 1, 10, 0) else none)) else (bif Nat.blt pc 13 then (bif Nat.beq pc 10 then some (.goto 4, 13, 14) else none) else (bif Nat.blt pc 14 then (bif Nat.beq pc 13 then some (.iconst 0, 14, 0) else none) else (bif Nat.beq pc 14 then some (.ireturn, 15, 0) else none)))))
/-- CodeRules.clearFacts()I -/
noncomputable def am_cd_5 (pc : Nat) : Option (Instr × Nat × Nat) := (bif Nat.blt pc 4 then (bif Nat.blt pc 1 then (bif Nat.beq pc 0 then some (.aload_n 0, 1, 0) else none) else (bif Nat.beq pc 1 then some (.getfield 19, 4, 0) else none)) else (bif Nat.blt pc 7 then (bif Nat.beq pc 4 then some (.invokevirtual 72, 7, 0) else none) else (bif Nat.beq pc 7 then some (.ireturn, 8, 0) else none)))
/-- CodeRules.code()I -/
noncomputable def am_cd_6 (pc : Nat) : Option (Instr × Nat × Nat) := (bif Nat.blt pc 15 then (bif Nat.blt pc 8 then (bif Nat.blt pc 4 then (bif Nat.blt pc 1 then (bif Nat.beq pc 0 then some (.aload_n 0, 1, 0) else none) else (bif Nat.beq pc 1 then some (.getfield 47, 4, 0) else none)) else (bif Nat.blt pc 5 then (bif Nat.beq pc 4 then some (.aload_n 0, 5, 0) else none) else (bif Nat.beq pc 5 then some (.getfield 19, 8, 0) else none))) else (bif Nat.blt pc 12 then (bif Nat.blt pc 11 then (bif Nat.beq pc 8 then some (.invokevirtual 75, 11, 0) else none) else (bif Nat.beq pc 11 then some (.istore_n 1, 12, 0) else none)) else (bif Nat.blt pc 13 then (bif Nat.beq pc 12 then some (.iload_n 1, 13, 0) else none) else (bif Nat.beq pc 13 then some (.bipush (-2), 15, 0) else none)))) else (bif Nat.blt pc 24 then (bif Nat.blt pc 20 then (bif Nat.blt pc 18 then (bif Nat.beq pc 15 then some (.if_icmp .gt 8, 18, 23) else none) else (bif Nat.beq pc 18 then some (.bipush (-2), 20, 0) else none)) else (bif Nat.blt pc 23 then (bif Nat.beq pc 20 then some (.goto 14, 23, 34) else none) else (bif Nat.beq pc 23 then some (.aload_n 0, 24, 0) else none))) else (bif Nat.blt pc 30 then (bif Nat.blt pc 27 then (bif Nat.beq pc 24 then some (.getfield 47, 27, 0) else none) else (bif Nat.beq pc 27 then some (.getfield 79, 30, 0) else none)) else (bif Nat.blt pc 31 then (bif Nat.beq pc 30 then some (.iload_n 1, 31, 0) else none) else (bif Nat.blt pc 34 then (bif Nat.beq pc 31 then some (.invokevirtual 83, 34, 0) else none) else (bif Nat.beq pc 34 then some (.ireturn, 35, 0) else none))))))
/-- CodeRules.taken()I -/
noncomputable def am_cd_7 (pc : Nat) : Option (Instr × Nat × Nat) := (bif Nat.blt pc 12 then (bif Nat.blt pc 5 then (bif Nat.blt pc 1 then (bif Nat.beq pc 0 then some (.aload_n 0, 1, 0) else none) else (bif Nat.blt pc 4 then (bif Nat.beq pc 1 then some (.getfield 47, 4, 0) else none) else (bif Nat.beq pc 4 then some (.aload_n 0, 5, 0) else none))) else (bif Nat.blt pc 8 then (bif Nat.beq pc 5 then some (.getfield 19, 8, 0) else none) else (bif Nat.blt pc 11 then (bif Nat.beq pc 8 then some (.invokevirtual 75, 11, 0) else none) else (bif Nat.beq pc 11 then some (.istore_n 1, 12, 0) else none)))) else (bif Nat.blt pc 18 then (bif Nat.blt pc 13 then (bif Nat.beq pc 12 then some (.iload_n 1, 13, 0) else none) else (bif Nat.blt pc 15 then (bif Nat.beq pc 13 then some (.bipush (-2), 15, 0) else none) else (bif Nat.beq pc 15 then some (.if_icmp .gt 8, 18, 23) else none))) else (bif Nat.blt pc 23 then (bif Nat.blt pc 20 then (bif Nat.beq pc 18 then some (.bipush (-2), 20, 0) else none) else (bif Nat.beq pc 20 then some (.goto 4, 23, 24) else none)) else (bif Nat.blt pc 24 then (bif Nat.beq pc 23 then some (.iload_n 1, 24, 0) else none) else (bif Nat.beq pc 24 then some (.ireturn, 25, 0) else none)))))
/-- CodeRules.asks()I -/
noncomputable def am_cd_8 (pc : Nat) : Option (Instr × Nat × Nat) := (bif Nat.blt pc 13 then (bif Nat.blt pc 5 then (bif Nat.blt pc 1 then (bif Nat.beq pc 0 then some (.aload_n 0, 1, 0) else none) else (bif Nat.blt pc 4 then (bif Nat.beq pc 1 then some (.getfield 47, 4, 0) else none) else (bif Nat.beq pc 4 then some (.aload_n 0, 5, 0) else none))) else (bif Nat.blt pc 11 then (bif Nat.blt pc 8 then (bif Nat.beq pc 5 then some (.getfield 19, 8, 0) else none) else (bif Nat.beq pc 8 then some (.invokevirtual 75, 11, 0) else none)) else (bif Nat.blt pc 12 then (bif Nat.beq pc 11 then some (.istore_n 1, 12, 0) else none) else (bif Nat.beq pc 12 then some (.iload_n 1, 13, 0) else none)))) else (bif Nat.blt pc 21 then (bif Nat.blt pc 18 then (bif Nat.blt pc 15 then (bif Nat.beq pc 13 then some (.bipush (-2), 15, 0) else none) else (bif Nat.beq pc 15 then some (.if_icmp .gt 10, 18, 25) else none)) else (bif Nat.blt pc 20 then (bif Nat.beq pc 18 then some (.bipush (-2), 20, 0) else none) else (bif Nat.beq pc 20 then some (.iload_n 1, 21, 0) else none))) else (bif Nat.blt pc 25 then (bif Nat.blt pc 22 then (bif Nat.beq pc 21 then some (.isub, 22, 0) else none) else (bif Nat.beq pc 22 then some (.goto 4, 25, 26) else none)) else (bif Nat.blt pc 26 then (bif Nat.beq pc 25 then some (.iconst (-1), 26, 0) else none) else (bif Nat.beq pc 26 then some (.ireturn, 27, 0) else none)))))
/-- CodeRules.general(I)Z -/
noncomputable def am_cd_9 (pc : Nat) : Option (Instr × Nat × Nat) := (bif Nat.blt pc 7 then (bif Nat.blt pc 1 then (bif Nat.beq pc 0 then some (.aload_n 0, 1, 0) else none) else (bif Nat.blt pc 4 then (bif Nat.beq pc 1 then some (.getfield 47, 4, 0) else none) else (bif Nat.beq pc 4 then some (.getfield 89, 7, 0) else none))) else (bif Nat.blt pc 8 then (bif Nat.beq pc 7 then some (.iload_n 1, 8, 0) else none) else (bif Nat.blt pc 11 then (bif Nat.beq pc 8 then some (.invokevirtual 93, 11, 0) else none) else (bif Nat.beq pc 11 then some (.ireturn, 12, 0) else none))))
/-- CodeRules.mirror(IZ)I -/
noncomputable def am_cd_10 (pc : Nat) : Option (Instr × Nat × Nat) := (bif Nat.blt pc 7 then (bif Nat.blt pc 1 then (bif Nat.beq pc 0 then some (.aload_n 0, 1, 0) else none) else (bif Nat.blt pc 4 then (bif Nat.beq pc 1 then some (.getfield 47, 4, 0) else none) else (bif Nat.beq pc 4 then some (.getfield 89, 7, 0) else none))) else (bif Nat.blt pc 9 then (bif Nat.blt pc 8 then (bif Nat.beq pc 7 then some (.iload_n 1, 8, 0) else none) else (bif Nat.beq pc 8 then some (.iload_n 2, 9, 0) else none)) else (bif Nat.blt pc 12 then (bif Nat.beq pc 9 then some (.invokevirtual 98, 12, 0) else none) else (bif Nat.beq pc 12 then some (.ireturn, 13, 0) else none))))
/-- CodeRules.map(III)I -/
noncomputable def am_cd_11 (pc : Nat) : Option (Instr × Nat × Nat) := (bif Nat.blt pc 23 then (bif Nat.blt pc 10 then (bif Nat.blt pc 4 then (bif Nat.blt pc 1 then (bif Nat.beq pc 0 then some (.iload_n 1, 1, 0) else none) else (bif Nat.beq pc 1 then some (.invokestatic 102, 4, 0) else none)) else (bif Nat.blt pc 7 then (bif Nat.beq pc 4 then some (.ifCond .eq 19, 7, 23) else none) else (bif Nat.blt pc 8 then (bif Nat.beq pc 7 then some (.iload_n 2, 8, 0) else none) else (bif Nat.beq pc 8 then some (.bipush 10, 10, 0) else none)))) else (bif Nat.blt pc 16 then (bif Nat.blt pc 13 then (bif Nat.beq pc 10 then some (.invokestatic 105, 13, 0) else none) else (bif Nat.beq pc 13 then some (.ifCond .eq 10, 16, 23) else none)) else (bif Nat.blt pc 17 then (bif Nat.beq pc 16 then some (.iload_n 3, 17, 0) else none) else (bif Nat.blt pc 20 then (bif Nat.beq pc 17 then some (.invokestatic 102, 20, 0) else none) else (bif Nat.beq pc 20 then some (.ifCond .ne 5, 23, 25) else none))))) else (bif Nat.blt pc 32 then (bif Nat.blt pc 25 then (bif Nat.blt pc 24 then (bif Nat.beq pc 23 then some (.iconst (-1), 24, 0) else none) else (bif Nat.beq pc 24 then some (.ireturn, 25, 0) else none)) else (bif Nat.blt pc 26 then (bif Nat.beq pc 25 then some (.aload_n 0, 26, 0) else none) else (bif Nat.blt pc 29 then (bif Nat.beq pc 26 then some (.getfield 47, 29, 0) else none) else (bif Nat.beq pc 29 then some (.getfield 89, 32, 0) else none)))) else (bif Nat.blt pc 34 then (bif Nat.blt pc 33 then (bif Nat.beq pc 32 then some (.iload_n 1, 33, 0) else none) else (bif Nat.beq pc 33 then some (.iload_n 2, 34, 0) else none)) else (bif Nat.blt pc 35 then (bif Nat.beq pc 34 then some (.iload_n 3, 35, 0) else none) else (bif Nat.blt pc 38 then (bif Nat.beq pc 35 then some (.invokevirtual 108, 38, 0) else none) else (bif Nat.beq pc 38 then some (.ireturn, 39, 0) else none))))))
/-- CodeRules.isNumber(I)Z -/
noncomputable def am_cd_12 (pc : Nat) : Option (Instr × Nat × Nat) := (bif Nat.blt pc 3 then (bif Nat.blt pc 1 then (bif Nat.beq pc 0 then some (.iload_n 0, 1, 0) else none) else (bif Nat.beq pc 1 then some (.ldc 168, 3, 0) else none)) else (bif Nat.blt pc 6 then (bif Nat.beq pc 3 then some (.invokestatic 105, 6, 0) else none) else (bif Nat.beq pc 6 then some (.ireturn, 7, 0) else none)))
/-- CodeRules.near(I)I -/
noncomputable def am_cd_13 (pc : Nat) : Option (Instr × Nat × Nat) := (bif Nat.blt pc 8 then (bif Nat.blt pc 4 then (bif Nat.blt pc 1 then (bif Nat.beq pc 0 then some (.aload_n 0, 1, 0) else none) else (bif Nat.beq pc 1 then some (.getfield 47, 4, 0) else none)) else (bif Nat.blt pc 7 then (bif Nat.beq pc 4 then some (.getfield 112, 7, 0) else none) else (bif Nat.beq pc 7 then some (.aload_n 0, 8, 0) else none))) else (bif Nat.blt pc 12 then (bif Nat.blt pc 9 then (bif Nat.beq pc 8 then some (.iload_n 1, 9, 0) else none) else (bif Nat.beq pc 9 then some (.invokevirtual 116, 12, 0) else none)) else (bif Nat.blt pc 15 then (bif Nat.beq pc 12 then some (.invokevirtual 119, 15, 0) else none) else (bif Nat.beq pc 15 then some (.ireturn, 16, 0) else none))))
/-- CodeRules.nearest(I)I -/
noncomputable def am_cd_14 (pc : Nat) : Option (Instr × Nat × Nat) := (bif Nat.blt pc 18 then (bif Nat.blt pc 8 then (bif Nat.blt pc 4 then (bif Nat.blt pc 1 then (bif Nat.beq pc 0 then some (.aload_n 0, 1, 0) else none) else (bif Nat.beq pc 1 then some (.getfield 10, 4, 0) else none)) else (bif Nat.blt pc 7 then (bif Nat.beq pc 4 then some (.invokevirtual 157, 7, 0) else none) else (bif Nat.beq pc 7 then some (.aload_n 0, 8, 0) else none))) else (bif Nat.blt pc 14 then (bif Nat.blt pc 11 then (bif Nat.beq pc 8 then some (.getfield 10, 11, 0) else none) else (bif Nat.beq pc 11 then some (.invokevirtual 160, 14, 0) else none)) else (bif Nat.blt pc 17 then (bif Nat.beq pc 14 then some (.ifCond .ne 5, 17, 19) else none) else (bif Nat.beq pc 17 then some (.iconst (-1), 18, 0) else none)))) else (bif Nat.blt pc 26 then (bif Nat.blt pc 20 then (bif Nat.blt pc 19 then (bif Nat.beq pc 18 then some (.ireturn, 19, 0) else none) else (bif Nat.beq pc 19 then some (.aload_n 0, 20, 0) else none)) else (bif Nat.blt pc 23 then (bif Nat.beq pc 20 then some (.getfield 47, 23, 0) else none) else (bif Nat.beq pc 23 then some (.getfield 112, 26, 0) else none))) else (bif Nat.blt pc 30 then (bif Nat.blt pc 27 then (bif Nat.beq pc 26 then some (.aload_n 0, 27, 0) else none) else (bif Nat.beq pc 27 then some (.getfield 10, 30, 0) else none)) else (bif Nat.blt pc 31 then (bif Nat.beq pc 30 then some (.iload_n 1, 31, 0) else none) else (bif Nat.blt pc 34 then (bif Nat.beq pc 31 then some (.invokevirtual 164, 34, 0) else none) else (bif Nat.beq pc 34 then some (.ireturn, 35, 0) else none))))))
/-- CodeRules.edits(I)I -/
noncomputable def am_cd_15 (pc : Nat) : Option (Instr × Nat × Nat) := (bif Nat.blt pc 8 then (bif Nat.blt pc 4 then (bif Nat.blt pc 1 then (bif Nat.beq pc 0 then some (.aload_n 0, 1, 0) else none) else (bif Nat.beq pc 1 then some (.getfield 47, 4, 0) else none)) else (bif Nat.blt pc 7 then (bif Nat.beq pc 4 then some (.getfield 112, 7, 0) else none) else (bif Nat.beq pc 7 then some (.aload_n 0, 8, 0) else none))) else (bif Nat.blt pc 12 then (bif Nat.blt pc 9 then (bif Nat.beq pc 8 then some (.iload_n 1, 9, 0) else none) else (bif Nat.beq pc 9 then some (.invokevirtual 116, 12, 0) else none)) else (bif Nat.blt pc 15 then (bif Nat.beq pc 12 then some (.invokevirtual 122, 15, 0) else none) else (bif Nat.beq pc 15 then some (.ireturn, 16, 0) else none))))
/-- CodeRules.needs(II)Z -/
noncomputable def am_cd_16 (pc : Nat) : Option (Instr × Nat × Nat) := (bif Nat.blt pc 5 then (bif Nat.blt pc 1 then (bif Nat.beq pc 0 then some (.aload_n 0, 1, 0) else none) else (bif Nat.blt pc 4 then (bif Nat.beq pc 1 then some (.getfield 26, 4, 0) else none) else (bif Nat.beq pc 4 then some (.iload_n 1, 5, 0) else none))) else (bif Nat.blt pc 6 then (bif Nat.beq pc 5 then some (.iload_n 2, 6, 0) else none) else (bif Nat.blt pc 9 then (bif Nat.beq pc 6 then some (.invokevirtual 125, 9, 0) else none) else (bif Nat.beq pc 9 then some (.ireturn, 10, 0) else none))))
/-- CodeRules.paper(II)Z -/
noncomputable def am_cd_17 (pc : Nat) : Option (Instr × Nat × Nat) := (bif Nat.blt pc 5 then (bif Nat.blt pc 1 then (bif Nat.beq pc 0 then some (.aload_n 0, 1, 0) else none) else (bif Nat.blt pc 4 then (bif Nat.beq pc 1 then some (.getfield 26, 4, 0) else none) else (bif Nat.beq pc 4 then some (.iload_n 1, 5, 0) else none))) else (bif Nat.blt pc 6 then (bif Nat.beq pc 5 then some (.iload_n 2, 6, 0) else none) else (bif Nat.blt pc 9 then (bif Nat.beq pc 6 then some (.invokevirtual 128, 9, 0) else none) else (bif Nat.beq pc 9 then some (.ireturn, 10, 0) else none))))
/-- CodeRules.lacks(II)I -/
noncomputable def am_cd_18 (pc : Nat) : Option (Instr × Nat × Nat) := (bif Nat.blt pc 5 then (bif Nat.blt pc 1 then (bif Nat.beq pc 0 then some (.aload_n 0, 1, 0) else none) else (bif Nat.blt pc 4 then (bif Nat.beq pc 1 then some (.getfield 26, 4, 0) else none) else (bif Nat.beq pc 4 then some (.iload_n 1, 5, 0) else none))) else (bif Nat.blt pc 6 then (bif Nat.beq pc 5 then some (.iload_n 2, 6, 0) else none) else (bif Nat.blt pc 9 then (bif Nat.beq pc 6 then some (.invokevirtual 131, 9, 0) else none) else (bif Nat.beq pc 9 then some (.ireturn, 10, 0) else none))))
/-- CodeRules.permit()I -/
noncomputable def am_cd_19 (pc : Nat) : Option (Instr × Nat × Nat) := (bif Nat.blt pc 4 then (bif Nat.blt pc 1 then (bif Nat.beq pc 0 then some (.aload_n 0, 1, 0) else none) else (bif Nat.beq pc 1 then some (.getfield 33, 4, 0) else none)) else (bif Nat.blt pc 7 then (bif Nat.beq pc 4 then some (.invokevirtual 135, 7, 0) else none) else (bif Nat.beq pc 7 then some (.ireturn, 8, 0) else none)))
/-- CodeRules.allows(III)Z -/
noncomputable def am_cd_20 (pc : Nat) : Option (Instr × Nat × Nat) := (bif Nat.blt pc 5 then (bif Nat.blt pc 1 then (bif Nat.beq pc 0 then some (.aload_n 0, 1, 0) else none) else (bif Nat.blt pc 4 then (bif Nat.beq pc 1 then some (.getfield 33, 4, 0) else none) else (bif Nat.beq pc 4 then some (.iload_n 1, 5, 0) else none))) else (bif Nat.blt pc 7 then (bif Nat.blt pc 6 then (bif Nat.beq pc 5 then some (.iload_n 2, 6, 0) else none) else (bif Nat.beq pc 6 then some (.iload_n 3, 7, 0) else none)) else (bif Nat.blt pc 10 then (bif Nat.beq pc 7 then some (.invokevirtual 138, 10, 0) else none) else (bif Nat.beq pc 10 then some (.ireturn, 11, 0) else none))))
/-- CodeRules.check(II)I -/
noncomputable def am_cd_21 (pc : Nat) : Option (Instr × Nat × Nat) := (bif Nat.blt pc 5 then (bif Nat.blt pc 1 then (bif Nat.beq pc 0 then some (.aload_n 0, 1, 0) else none) else (bif Nat.blt pc 4 then (bif Nat.beq pc 1 then some (.getfield 33, 4, 0) else none) else (bif Nat.beq pc 4 then some (.iload_n 1, 5, 0) else none))) else (bif Nat.blt pc 6 then (bif Nat.beq pc 5 then some (.iload_n 2, 6, 0) else none) else (bif Nat.blt pc 9 then (bif Nat.beq pc 6 then some (.invokevirtual 142, 9, 0) else none) else (bif Nat.beq pc 9 then some (.ireturn, 10, 0) else none))))
/-- CodeRules.put(I)I -/
noncomputable def am_cd_22 (pc : Nat) : Option (Instr × Nat × Nat) := (bif Nat.blt pc 17 then (bif Nat.blt pc 8 then (bif Nat.blt pc 4 then (bif Nat.blt pc 1 then (bif Nat.beq pc 0 then some (.aload_n 0, 1, 0) else none) else (bif Nat.beq pc 1 then some (.getfield 40, 4, 0) else none)) else (bif Nat.blt pc 5 then (bif Nat.beq pc 4 then some (.iload_n 1, 5, 0) else none) else (bif Nat.beq pc 5 then some (.invokevirtual 145, 8, 0) else none))) else (bif Nat.blt pc 12 then (bif Nat.blt pc 11 then (bif Nat.beq pc 8 then some (.ifCond .ne 5, 11, 13) else none) else (bif Nat.beq pc 11 then some (.iconst (-1), 12, 0) else none)) else (bif Nat.blt pc 13 then (bif Nat.beq pc 12 then some (.ireturn, 13, 0) else none) else (bif Nat.blt pc 14 then (bif Nat.beq pc 13 then some (.aload_n 0, 14, 0) else none) else (bif Nat.beq pc 14 then some (.invokevirtual 148, 17, 0) else none))))) else (bif Nat.blt pc 26 then (bif Nat.blt pc 19 then (bif Nat.blt pc 18 then (bif Nat.beq pc 17 then some (.istore_n 2, 18, 0) else none) else (bif Nat.beq pc 18 then some (.iload_n 2, 19, 0) else none)) else (bif Nat.blt pc 22 then (bif Nat.beq pc 19 then some (.ifCond .lt 12, 22, 31) else none) else (bif Nat.blt pc 23 then (bif Nat.beq pc 22 then some (.aload_n 0, 23, 0) else none) else (bif Nat.beq pc 23 then some (.getfield 40, 26, 0) else none)))) else (bif Nat.blt pc 28 then (bif Nat.blt pc 27 then (bif Nat.beq pc 26 then some (.iload_n 1, 27, 0) else none) else (bif Nat.beq pc 27 then some (.iload_n 2, 28, 0) else none)) else (bif Nat.blt pc 31 then (bif Nat.beq pc 28 then some (.invokevirtual 151, 31, 0) else none) else (bif Nat.blt pc 32 then (bif Nat.beq pc 31 then some (.iload_n 2, 32, 0) else none) else (bif Nat.beq pc 32 then some (.ireturn, 33, 0) else none))))))
/-- CodeRules.history(II)I -/
noncomputable def am_cd_23 (pc : Nat) : Option (Instr × Nat × Nat) := (bif Nat.blt pc 5 then (bif Nat.blt pc 1 then (bif Nat.beq pc 0 then some (.aload_n 0, 1, 0) else none) else (bif Nat.blt pc 4 then (bif Nat.beq pc 1 then some (.getfield 40, 4, 0) else none) else (bif Nat.beq pc 4 then some (.iload_n 1, 5, 0) else none))) else (bif Nat.blt pc 6 then (bif Nat.beq pc 5 then some (.iload_n 2, 6, 0) else none) else (bif Nat.blt pc 9 then (bif Nat.beq pc 6 then some (.invokevirtual 154, 9, 0) else none) else (bif Nat.beq pc 9 then some (.ireturn, 10, 0) else none))))
/-- CodeRules$Text.<init>()V -/
noncomputable def am_cd_24 (pc : Nat) : Option (Instr × Nat × Nat) := (bif Nat.blt pc 5 then (bif Nat.blt pc 1 then (bif Nat.beq pc 0 then some (.aload_n 0, 1, 0) else none) else (bif Nat.blt pc 4 then (bif Nat.beq pc 1 then some (.invokespecial 3, 4, 0) else none) else (bif Nat.beq pc 4 then some (.aload_n 0, 5, 0) else none))) else (bif Nat.blt pc 10 then (bif Nat.blt pc 8 then (bif Nat.beq pc 5 then some (.sipush 900, 8, 0) else none) else (bif Nat.beq pc 8 then some (.newarray .int, 10, 0) else none)) else (bif Nat.blt pc 13 then (bif Nat.beq pc 10 then some (.putfield 9, 13, 0) else none) else (bif Nat.beq pc 13 then some (.return_, 14, 0) else none))))
/-- CodeRules$Text.append(I)Z -/
noncomputable def am_cd_25 (pc : Nat) : Option (Instr × Nat × Nat) := (bif Nat.blt pc 30 then (bif Nat.blt pc 16 then (bif Nat.blt pc 8 then (bif Nat.blt pc 4 then (bif Nat.blt pc 1 then (bif Nat.beq pc 0 then some (.iload_n 1, 1, 0) else none) else (bif Nat.beq pc 1 then some (.ifCond .lt 22, 4, 23) else none)) else (bif Nat.blt pc 5 then (bif Nat.beq pc 4 then some (.iload_n 1, 5, 0) else none) else (bif Nat.beq pc 5 then some (.sipush 255, 8, 0) else none))) else (bif Nat.blt pc 12 then (bif Nat.blt pc 11 then (bif Nat.beq pc 8 then some (.if_icmp .gt 15, 11, 23) else none) else (bif Nat.beq pc 11 then some (.aload_n 0, 12, 0) else none)) else (bif Nat.blt pc 15 then (bif Nat.beq pc 12 then some (.getfield 15, 15, 0) else none) else (bif Nat.beq pc 15 then some (.aload_n 0, 16, 0) else none)))) else (bif Nat.blt pc 24 then (bif Nat.blt pc 20 then (bif Nat.blt pc 19 then (bif Nat.beq pc 16 then some (.getfield 9, 19, 0) else none) else (bif Nat.beq pc 19 then some (.arraylength, 20, 0) else none)) else (bif Nat.blt pc 23 then (bif Nat.beq pc 20 then some (.if_icmp .lt 5, 23, 25) else none) else (bif Nat.beq pc 23 then some (.iconst 0, 24, 0) else none))) else (bif Nat.blt pc 26 then (bif Nat.blt pc 25 then (bif Nat.beq pc 24 then some (.ireturn, 25, 0) else none) else (bif Nat.beq pc 25 then some (.aload_n 0, 26, 0) else none)) else (bif Nat.blt pc 29 then (bif Nat.beq pc 26 then some (.getfield 9, 29, 0) else none) else (bif Nat.beq pc 29 then some (.aload_n 0, 30, 0) else none))))) else (bif Nat.blt pc 46 then (bif Nat.blt pc 39 then (bif Nat.blt pc 34 then (bif Nat.blt pc 33 then (bif Nat.beq pc 30 then some (.getfield 15, 33, 0) else none) else (bif Nat.beq pc 33 then some (.iload_n 1, 34, 0) else none)) else (bif Nat.blt pc 36 then (bif Nat.beq pc 34 then some (.bipush 10, 36, 0) else none) else (bif Nat.beq pc 36 then some (.if_icmp .ne 8, 39, 44) else none))) else (bif Nat.blt pc 44 then (bif Nat.blt pc 41 then (bif Nat.beq pc 39 then some (.bipush 32, 41, 0) else none) else (bif Nat.beq pc 41 then some (.goto 4, 44, 45) else none)) else (bif Nat.blt pc 45 then (bif Nat.beq pc 44 then some (.iload_n 1, 45, 0) else none) else (bif Nat.beq pc 45 then some (.iastore, 46, 0) else none)))) else (bif Nat.blt pc 52 then (bif Nat.blt pc 48 then (bif Nat.blt pc 47 then (bif Nat.beq pc 46 then some (.aload_n 0, 47, 0) else none) else (bif Nat.beq pc 47 then some (.dup, 48, 0) else none)) else (bif Nat.blt pc 51 then (bif Nat.beq pc 48 then some (.getfield 15, 51, 0) else none) else (bif Nat.beq pc 51 then some (.iconst 1, 52, 0) else none))) else (bif Nat.blt pc 56 then (bif Nat.blt pc 53 then (bif Nat.beq pc 52 then some (.iadd, 53, 0) else none) else (bif Nat.beq pc 53 then some (.putfield 15, 56, 0) else none)) else (bif Nat.blt pc 57 then (bif Nat.beq pc 56 then some (.iconst 1, 57, 0) else none) else (bif Nat.beq pc 57 then some (.ireturn, 58, 0) else none))))))
/-- CodeRules$Text.toFirstWord()V -/
noncomputable def am_cd_26 (pc : Nat) : Option (Instr × Nat × Nat) := (bif Nat.blt pc 6 then (bif Nat.blt pc 2 then (bif Nat.blt pc 1 then (bif Nat.beq pc 0 then some (.aload_n 0, 1, 0) else none) else (bif Nat.beq pc 1 then some (.iconst 0, 2, 0) else none)) else (bif Nat.blt pc 5 then (bif Nat.beq pc 2 then some (.putfield 19, 5, 0) else none) else (bif Nat.beq pc 5 then some (.aload_n 0, 6, 0) else none))) else (bif Nat.blt pc 10 then (bif Nat.blt pc 7 then (bif Nat.beq pc 6 then some (.iconst (-1), 7, 0) else none) else (bif Nat.beq pc 7 then some (.putfield 22, 10, 0) else none)) else (bif Nat.blt pc 11 then (bif Nat.beq pc 10 then some (.aload_n 0, 11, 0) else none) else (bif Nat.blt pc 14 then (bif Nat.beq pc 11 then some (.invokevirtual 25, 14, 0) else none) else (bif Nat.beq pc 14 then some (.return_, 15, 0) else none)))))
/-- CodeRules$Text.toNextWord()V -/
noncomputable def am_cd_27 (pc : Nat) : Option (Instr × Nat × Nat) := (bif Nat.blt pc 51 then (bif Nat.blt pc 27 then (bif Nat.blt pc 12 then (bif Nat.blt pc 5 then (bif Nat.blt pc 1 then (bif Nat.beq pc 0 then some (.aload_n 0, 1, 0) else none) else (bif Nat.blt pc 2 then (bif Nat.beq pc 1 then some (.aload_n 0, 2, 0) else none) else (bif Nat.beq pc 2 then some (.getfield 19, 5, 0) else none))) else (bif Nat.blt pc 8 then (bif Nat.beq pc 5 then some (.putfield 28, 8, 0) else none) else (bif Nat.blt pc 9 then (bif Nat.beq pc 8 then some (.aload_n 0, 9, 0) else none) else (bif Nat.beq pc 9 then some (.getfield 28, 12, 0) else none)))) else (bif Nat.blt pc 19 then (bif Nat.blt pc 13 then (bif Nat.beq pc 12 then some (.aload_n 0, 13, 0) else none) else (bif Nat.blt pc 16 then (bif Nat.beq pc 13 then some (.getfield 15, 16, 0) else none) else (bif Nat.beq pc 16 then some (.if_icmp .ge 30, 19, 46) else none))) else (bif Nat.blt pc 23 then (bif Nat.blt pc 20 then (bif Nat.beq pc 19 then some (.aload_n 0, 20, 0) else none) else (bif Nat.beq pc 20 then some (.getfield 9, 23, 0) else none)) else (bif Nat.blt pc 24 then (bif Nat.beq pc 23 then some (.aload_n 0, 24, 0) else none) else (bif Nat.beq pc 24 then some (.getfield 28, 27, 0) else none))))) else (bif Nat.blt pc 38 then (bif Nat.blt pc 33 then (bif Nat.blt pc 28 then (bif Nat.beq pc 27 then some (.iaload, 28, 0) else none) else (bif Nat.blt pc 30 then (bif Nat.beq pc 28 then some (.bipush 32, 30, 0) else none) else (bif Nat.beq pc 30 then some (.if_icmp .ne 16, 33, 46) else none))) else (bif Nat.blt pc 34 then (bif Nat.beq pc 33 then some (.aload_n 0, 34, 0) else none) else (bif Nat.blt pc 35 then (bif Nat.beq pc 34 then some (.dup, 35, 0) else none) else (bif Nat.beq pc 35 then some (.getfield 28, 38, 0) else none)))) else (bif Nat.blt pc 43 then (bif Nat.blt pc 39 then (bif Nat.beq pc 38 then some (.iconst 1, 39, 0) else none) else (bif Nat.blt pc 40 then (bif Nat.beq pc 39 then some (.iadd, 40, 0) else none) else (bif Nat.beq pc 40 then some (.putfield 28, 43, 0) else none))) else (bif Nat.blt pc 47 then (bif Nat.blt pc 46 then (bif Nat.beq pc 43 then some (.goto (-35), 46, 8) else none) else (bif Nat.beq pc 46 then some (.aload_n 0, 47, 0) else none)) else (bif Nat.blt pc 48 then (bif Nat.beq pc 47 then some (.aload_n 0, 48, 0) else none) else (bif Nat.beq pc 48 then some (.getfield 28, 51, 0) else none)))))) else (bif Nat.blt pc 79 then (bif Nat.blt pc 65 then (bif Nat.blt pc 58 then (bif Nat.blt pc 54 then (bif Nat.beq pc 51 then some (.putfield 19, 54, 0) else none) else (bif Nat.blt pc 55 then (bif Nat.beq pc 54 then some (.aload_n 0, 55, 0) else none) else (bif Nat.beq pc 55 then some (.getfield 19, 58, 0) else none))) else (bif Nat.blt pc 59 then (bif Nat.beq pc 58 then some (.aload_n 0, 59, 0) else none) else (bif Nat.blt pc 62 then (bif Nat.beq pc 59 then some (.getfield 15, 62, 0) else none) else (bif Nat.beq pc 62 then some (.if_icmp .ge 30, 65, 92) else none)))) else (bif Nat.blt pc 70 then (bif Nat.blt pc 66 then (bif Nat.beq pc 65 then some (.aload_n 0, 66, 0) else none) else (bif Nat.blt pc 69 then (bif Nat.beq pc 66 then some (.getfield 9, 69, 0) else none) else (bif Nat.beq pc 69 then some (.aload_n 0, 70, 0) else none))) else (bif Nat.blt pc 74 then (bif Nat.blt pc 73 then (bif Nat.beq pc 70 then some (.getfield 19, 73, 0) else none) else (bif Nat.beq pc 73 then some (.iaload, 74, 0) else none)) else (bif Nat.blt pc 76 then (bif Nat.beq pc 74 then some (.bipush 32, 76, 0) else none) else (bif Nat.beq pc 76 then some (.if_icmp .eq 16, 79, 92) else none))))) else (bif Nat.blt pc 92 then (bif Nat.blt pc 84 then (bif Nat.blt pc 80 then (bif Nat.beq pc 79 then some (.aload_n 0, 80, 0) else none) else (bif Nat.blt pc 81 then (bif Nat.beq pc 80 then some (.dup, 81, 0) else none) else (bif Nat.beq pc 81 then some (.getfield 19, 84, 0) else none))) else (bif Nat.blt pc 86 then (bif Nat.blt pc 85 then (bif Nat.beq pc 84 then some (.iconst 1, 85, 0) else none) else (bif Nat.beq pc 85 then some (.iadd, 86, 0) else none)) else (bif Nat.blt pc 89 then (bif Nat.beq pc 86 then some (.putfield 19, 89, 0) else none) else (bif Nat.beq pc 89 then some (.goto (-35), 92, 54) else none)))) else (bif Nat.blt pc 97 then (bif Nat.blt pc 93 then (bif Nat.beq pc 92 then some (.aload_n 0, 93, 0) else none) else (bif Nat.blt pc 94 then (bif Nat.beq pc 93 then some (.dup, 94, 0) else none) else (bif Nat.beq pc 94 then some (.getfield 22, 97, 0) else none))) else (bif Nat.blt pc 99 then (bif Nat.blt pc 98 then (bif Nat.beq pc 97 then some (.iconst 1, 98, 0) else none) else (bif Nat.beq pc 98 then some (.iadd, 99, 0) else none)) else (bif Nat.blt pc 102 then (bif Nat.beq pc 99 then some (.putfield 22, 102, 0) else none) else (bif Nat.beq pc 102 then some (.return_, 103, 0) else none)))))))
/-- CodeRules$Text.isOver()Z -/
noncomputable def am_cd_28 (pc : Nat) : Option (Instr × Nat × Nat) := (bif Nat.blt pc 8 then (bif Nat.blt pc 4 then (bif Nat.blt pc 1 then (bif Nat.beq pc 0 then some (.aload_n 0, 1, 0) else none) else (bif Nat.beq pc 1 then some (.getfield 28, 4, 0) else none)) else (bif Nat.blt pc 5 then (bif Nat.beq pc 4 then some (.aload_n 0, 5, 0) else none) else (bif Nat.beq pc 5 then some (.getfield 15, 8, 0) else none))) else (bif Nat.blt pc 12 then (bif Nat.blt pc 11 then (bif Nat.beq pc 8 then some (.if_icmp .lt 7, 11, 15) else none) else (bif Nat.beq pc 11 then some (.iconst 1, 12, 0) else none)) else (bif Nat.blt pc 15 then (bif Nat.beq pc 12 then some (.goto 4, 15, 16) else none) else (bif Nat.blt pc 16 then (bif Nat.beq pc 15 then some (.iconst 0, 16, 0) else none) else (bif Nat.beq pc 16 then some (.ireturn, 17, 0) else none)))))
/-- CodeRules$Text.says(Ljava/lang/String;)Z -/
noncomputable def am_cd_29 (pc : Nat) : Option (Instr × Nat × Nat) := (bif Nat.blt pc 23 then (bif Nat.blt pc 12 then (bif Nat.blt pc 5 then (bif Nat.blt pc 1 then (bif Nat.beq pc 0 then some (.aload_n 1, 1, 0) else none) else (bif Nat.blt pc 4 then (bif Nat.beq pc 1 then some (.invokevirtual 31, 4, 0) else none) else (bif Nat.beq pc 4 then some (.aload_n 0, 5, 0) else none))) else (bif Nat.blt pc 8 then (bif Nat.beq pc 5 then some (.invokevirtual 37, 8, 0) else none) else (bif Nat.blt pc 11 then (bif Nat.beq pc 8 then some (.if_icmp .eq 5, 11, 13) else none) else (bif Nat.beq pc 11 then some (.iconst 0, 12, 0) else none)))) else (bif Nat.blt pc 15 then (bif Nat.blt pc 13 then (bif Nat.beq pc 12 then some (.ireturn, 13, 0) else none) else (bif Nat.blt pc 14 then (bif Nat.beq pc 13 then some (.iconst 0, 14, 0) else none) else (bif Nat.beq pc 14 then some (.istore_n 2, 15, 0) else none))) else (bif Nat.blt pc 17 then (bif Nat.blt pc 16 then (bif Nat.beq pc 15 then some (.iload_n 2, 16, 0) else none) else (bif Nat.beq pc 16 then some (.aload_n 1, 17, 0) else none)) else (bif Nat.blt pc 20 then (bif Nat.beq pc 17 then some (.invokevirtual 31, 20, 0) else none) else (bif Nat.beq pc 20 then some (.if_icmp .ge 24, 23, 44) else none))))) else (bif Nat.blt pc 33 then (bif Nat.blt pc 28 then (bif Nat.blt pc 24 then (bif Nat.beq pc 23 then some (.aload_n 1, 24, 0) else none) else (bif Nat.blt pc 25 then (bif Nat.beq pc 24 then some (.iload_n 2, 25, 0) else none) else (bif Nat.beq pc 25 then some (.invokevirtual 38, 28, 0) else none))) else (bif Nat.blt pc 29 then (bif Nat.beq pc 28 then some (.aload_n 0, 29, 0) else none) else (bif Nat.blt pc 30 then (bif Nat.beq pc 29 then some (.iload_n 2, 30, 0) else none) else (bif Nat.beq pc 30 then some (.invokevirtual 42, 33, 0) else none)))) else (bif Nat.blt pc 38 then (bif Nat.blt pc 36 then (bif Nat.beq pc 33 then some (.if_icmp .eq 5, 36, 38) else none) else (bif Nat.blt pc 37 then (bif Nat.beq pc 36 then some (.iconst 0, 37, 0) else none) else (bif Nat.beq pc 37 then some (.ireturn, 38, 0) else none))) else (bif Nat.blt pc 44 then (bif Nat.blt pc 41 then (bif Nat.beq pc 38 then some (.iinc 2 1, 41, 0) else none) else (bif Nat.beq pc 41 then some (.goto (-26), 44, 15) else none)) else (bif Nat.blt pc 45 then (bif Nat.beq pc 44 then some (.iconst 1, 45, 0) else none) else (bif Nat.beq pc 45 then some (.ireturn, 46, 0) else none))))))
/-- CodeRules$Text.length()I -/
noncomputable def am_cd_30 (pc : Nat) : Option (Instr × Nat × Nat) := (bif Nat.blt pc 5 then (bif Nat.blt pc 1 then (bif Nat.beq pc 0 then some (.aload_n 0, 1, 0) else none) else (bif Nat.blt pc 4 then (bif Nat.beq pc 1 then some (.getfield 19, 4, 0) else none) else (bif Nat.beq pc 4 then some (.aload_n 0, 5, 0) else none))) else (bif Nat.blt pc 8 then (bif Nat.beq pc 5 then some (.getfield 28, 8, 0) else none) else (bif Nat.blt pc 9 then (bif Nat.beq pc 8 then some (.isub, 9, 0) else none) else (bif Nat.beq pc 9 then some (.ireturn, 10, 0) else none))))
/-- CodeRules$Text.byteAt(I)I -/
noncomputable def am_cd_31 (pc : Nat) : Option (Instr × Nat × Nat) := (bif Nat.blt pc 17 then (bif Nat.blt pc 6 then (bif Nat.blt pc 4 then (bif Nat.blt pc 1 then (bif Nat.beq pc 0 then some (.iload_n 1, 1, 0) else none) else (bif Nat.beq pc 1 then some (.ifCond .lt 16, 4, 17) else none)) else (bif Nat.blt pc 5 then (bif Nat.beq pc 4 then some (.iload_n 1, 5, 0) else none) else (bif Nat.beq pc 5 then some (.aload_n 0, 6, 0) else none))) else (bif Nat.blt pc 10 then (bif Nat.blt pc 9 then (bif Nat.beq pc 6 then some (.getfield 19, 9, 0) else none) else (bif Nat.beq pc 9 then some (.aload_n 0, 10, 0) else none)) else (bif Nat.blt pc 13 then (bif Nat.beq pc 10 then some (.getfield 28, 13, 0) else none) else (bif Nat.blt pc 14 then (bif Nat.beq pc 13 then some (.isub, 14, 0) else none) else (bif Nat.beq pc 14 then some (.if_icmp .lt 5, 17, 19) else none))))) else (bif Nat.blt pc 24 then (bif Nat.blt pc 19 then (bif Nat.blt pc 18 then (bif Nat.beq pc 17 then some (.iconst (-1), 18, 0) else none) else (bif Nat.beq pc 18 then some (.ireturn, 19, 0) else none)) else (bif Nat.blt pc 20 then (bif Nat.beq pc 19 then some (.aload_n 0, 20, 0) else none) else (bif Nat.blt pc 23 then (bif Nat.beq pc 20 then some (.getfield 9, 23, 0) else none) else (bif Nat.beq pc 23 then some (.aload_n 0, 24, 0) else none)))) else (bif Nat.blt pc 28 then (bif Nat.blt pc 27 then (bif Nat.beq pc 24 then some (.getfield 28, 27, 0) else none) else (bif Nat.beq pc 27 then some (.iload_n 1, 28, 0) else none)) else (bif Nat.blt pc 29 then (bif Nat.beq pc 28 then some (.iadd, 29, 0) else none) else (bif Nat.blt pc 30 then (bif Nat.beq pc 29 then some (.iaload, 30, 0) else none) else (bif Nat.beq pc 30 then some (.ireturn, 31, 0) else none))))))
/-- CodeRules$Text.nextNumber(I)I -/
noncomputable def am_cd_32 (pc : Nat) : Option (Instr × Nat × Nat) := (bif Nat.blt pc 42 then (bif Nat.blt pc 23 then (bif Nat.blt pc 12 then (bif Nat.blt pc 5 then (bif Nat.blt pc 1 then (bif Nat.beq pc 0 then some (.aload_n 0, 1, 0) else none) else (bif Nat.blt pc 4 then (bif Nat.beq pc 1 then some (.invokevirtual 25, 4, 0) else none) else (bif Nat.beq pc 4 then some (.aload_n 0, 5, 0) else none))) else (bif Nat.blt pc 8 then (bif Nat.beq pc 5 then some (.invokevirtual 37, 8, 0) else none) else (bif Nat.blt pc 9 then (bif Nat.beq pc 8 then some (.iconst 1, 9, 0) else none) else (bif Nat.beq pc 9 then some (.if_icmp .lt 12, 12, 21) else none)))) else (bif Nat.blt pc 18 then (bif Nat.blt pc 13 then (bif Nat.beq pc 12 then some (.aload_n 0, 13, 0) else none) else (bif Nat.blt pc 16 then (bif Nat.beq pc 13 then some (.invokevirtual 37, 16, 0) else none) else (bif Nat.beq pc 16 then some (.bipush 6, 18, 0) else none))) else (bif Nat.blt pc 21 then (bif Nat.beq pc 18 then some (.if_icmp .le 5, 21, 23) else none) else (bif Nat.blt pc 22 then (bif Nat.beq pc 21 then some (.iconst (-1), 22, 0) else none) else (bif Nat.beq pc 22 then some (.ireturn, 23, 0) else none))))) else (bif Nat.blt pc 29 then (bif Nat.blt pc 26 then (bif Nat.blt pc 24 then (bif Nat.beq pc 23 then some (.iconst 0, 24, 0) else none) else (bif Nat.blt pc 25 then (bif Nat.beq pc 24 then some (.istore_n 2, 25, 0) else none) else (bif Nat.beq pc 25 then some (.iconst 0, 26, 0) else none))) else (bif Nat.blt pc 27 then (bif Nat.beq pc 26 then some (.istore_n 3, 27, 0) else none) else (bif Nat.blt pc 28 then (bif Nat.beq pc 27 then some (.iload_n 3, 28, 0) else none) else (bif Nat.beq pc 28 then some (.aload_n 0, 29, 0) else none)))) else (bif Nat.blt pc 36 then (bif Nat.blt pc 32 then (bif Nat.beq pc 29 then some (.invokevirtual 37, 32, 0) else none) else (bif Nat.blt pc 35 then (bif Nat.beq pc 32 then some (.if_icmp .ge 41, 35, 73) else none) else (bif Nat.beq pc 35 then some (.aload_n 0, 36, 0) else none))) else (bif Nat.blt pc 37 then (bif Nat.beq pc 36 then some (.iload_n 3, 37, 0) else none) else (bif Nat.blt pc 40 then (bif Nat.beq pc 37 then some (.invokevirtual 42, 40, 0) else none) else (bif Nat.beq pc 40 then some (.bipush 48, 42, 0) else none)))))) else (bif Nat.blt pc 63 then (bif Nat.blt pc 54 then (bif Nat.blt pc 47 then (bif Nat.blt pc 43 then (bif Nat.beq pc 42 then some (.isub, 43, 0) else none) else (bif Nat.blt pc 45 then (bif Nat.beq pc 43 then some (.istore 4, 45, 0) else none) else (bif Nat.beq pc 45 then some (.iload 4, 47, 0) else none))) else (bif Nat.blt pc 50 then (bif Nat.beq pc 47 then some (.ifCond .lt 10, 50, 57) else none) else (bif Nat.blt pc 52 then (bif Nat.beq pc 50 then some (.iload 4, 52, 0) else none) else (bif Nat.beq pc 52 then some (.bipush 9, 54, 0) else none)))) else (bif Nat.blt pc 59 then (bif Nat.blt pc 57 then (bif Nat.beq pc 54 then some (.if_icmp .le 5, 57, 59) else none) else (bif Nat.blt pc 58 then (bif Nat.beq pc 57 then some (.iconst (-1), 58, 0) else none) else (bif Nat.beq pc 58 then some (.ireturn, 59, 0) else none))) else (bif Nat.blt pc 60 then (bif Nat.beq pc 59 then some (.iload_n 2, 60, 0) else none) else (bif Nat.blt pc 62 then (bif Nat.beq pc 60 then some (.bipush 10, 62, 0) else none) else (bif Nat.beq pc 62 then some (.imul, 63, 0) else none))))) else (bif Nat.blt pc 74 then (bif Nat.blt pc 67 then (bif Nat.blt pc 65 then (bif Nat.beq pc 63 then some (.iload 4, 65, 0) else none) else (bif Nat.blt pc 66 then (bif Nat.beq pc 65 then some (.iadd, 66, 0) else none) else (bif Nat.beq pc 66 then some (.istore_n 2, 67, 0) else none))) else (bif Nat.blt pc 70 then (bif Nat.beq pc 67 then some (.iinc 3 1, 70, 0) else none) else (bif Nat.blt pc 73 then (bif Nat.beq pc 70 then some (.goto (-43), 73, 27) else none) else (bif Nat.beq pc 73 then some (.iload_n 2, 74, 0) else none)))) else (bif Nat.blt pc 79 then (bif Nat.blt pc 75 then (bif Nat.beq pc 74 then some (.iload_n 1, 75, 0) else none) else (bif Nat.blt pc 78 then (bif Nat.beq pc 75 then some (.if_icmp .ge 7, 78, 82) else none) else (bif Nat.beq pc 78 then some (.iload_n 2, 79, 0) else none))) else (bif Nat.blt pc 82 then (bif Nat.beq pc 79 then some (.goto 4, 82, 83) else none) else (bif Nat.blt pc 83 then (bif Nat.beq pc 82 then some (.iconst (-1), 83, 0) else none) else (bif Nat.beq pc 83 then some (.ireturn, 84, 0) else none)))))))
/-- CodeRules$Text.isName()Z -/
noncomputable def am_cd_33 (pc : Nat) : Option (Instr × Nat × Nat) := (bif Nat.blt pc 29 then (bif Nat.blt pc 17 then (bif Nat.blt pc 8 then (bif Nat.blt pc 4 then (bif Nat.blt pc 1 then (bif Nat.beq pc 0 then some (.aload_n 0, 1, 0) else none) else (bif Nat.beq pc 1 then some (.invokevirtual 37, 4, 0) else none)) else (bif Nat.blt pc 5 then (bif Nat.beq pc 4 then some (.iconst 1, 5, 0) else none) else (bif Nat.beq pc 5 then some (.if_icmp .lt 12, 8, 17) else none))) else (bif Nat.blt pc 12 then (bif Nat.blt pc 9 then (bif Nat.beq pc 8 then some (.aload_n 0, 9, 0) else none) else (bif Nat.beq pc 9 then some (.invokevirtual 37, 12, 0) else none)) else (bif Nat.blt pc 14 then (bif Nat.beq pc 12 then some (.bipush 8, 14, 0) else none) else (bif Nat.beq pc 14 then some (.if_icmp .le 5, 17, 19) else none)))) else (bif Nat.blt pc 21 then (bif Nat.blt pc 19 then (bif Nat.blt pc 18 then (bif Nat.beq pc 17 then some (.iconst 0, 18, 0) else none) else (bif Nat.beq pc 18 then some (.ireturn, 19, 0) else none)) else (bif Nat.blt pc 20 then (bif Nat.beq pc 19 then some (.iconst 0, 20, 0) else none) else (bif Nat.beq pc 20 then some (.istore_n 1, 21, 0) else none))) else (bif Nat.blt pc 23 then (bif Nat.blt pc 22 then (bif Nat.beq pc 21 then some (.iload_n 1, 22, 0) else none) else (bif Nat.beq pc 22 then some (.aload_n 0, 23, 0) else none)) else (bif Nat.blt pc 26 then (bif Nat.beq pc 23 then some (.invokevirtual 37, 26, 0) else none) else (bif Nat.beq pc 26 then some (.if_icmp .ge 31, 29, 57) else none))))) else (bif Nat.blt pc 44 then (bif Nat.blt pc 36 then (bif Nat.blt pc 31 then (bif Nat.blt pc 30 then (bif Nat.beq pc 29 then some (.aload_n 0, 30, 0) else none) else (bif Nat.beq pc 30 then some (.iload_n 1, 31, 0) else none)) else (bif Nat.blt pc 34 then (bif Nat.beq pc 31 then some (.invokevirtual 42, 34, 0) else none) else (bif Nat.beq pc 34 then some (.bipush 97, 36, 0) else none))) else (bif Nat.blt pc 40 then (bif Nat.blt pc 39 then (bif Nat.beq pc 36 then some (.if_icmp .lt 13, 39, 49) else none) else (bif Nat.beq pc 39 then some (.aload_n 0, 40, 0) else none)) else (bif Nat.blt pc 41 then (bif Nat.beq pc 40 then some (.iload_n 1, 41, 0) else none) else (bif Nat.beq pc 41 then some (.invokevirtual 42, 44, 0) else none)))) else (bif Nat.blt pc 51 then (bif Nat.blt pc 49 then (bif Nat.blt pc 46 then (bif Nat.beq pc 44 then some (.bipush 122, 46, 0) else none) else (bif Nat.beq pc 46 then some (.if_icmp .le 5, 49, 51) else none)) else (bif Nat.blt pc 50 then (bif Nat.beq pc 49 then some (.iconst 0, 50, 0) else none) else (bif Nat.beq pc 50 then some (.ireturn, 51, 0) else none))) else (bif Nat.blt pc 57 then (bif Nat.blt pc 54 then (bif Nat.beq pc 51 then some (.iinc 1 1, 54, 0) else none) else (bif Nat.beq pc 54 then some (.goto (-33), 57, 21) else none)) else (bif Nat.blt pc 58 then (bif Nat.beq pc 57 then some (.iconst 1, 58, 0) else none) else (bif Nat.beq pc 58 then some (.ireturn, 59, 0) else none))))))
/-- CodeRules$Text.wordNumber()I -/
noncomputable def am_cd_34 (pc : Nat) : Option (Instr × Nat × Nat) := (bif Nat.blt pc 1 then (bif Nat.beq pc 0 then some (.aload_n 0, 1, 0) else none) else (bif Nat.blt pc 4 then (bif Nat.beq pc 1 then some (.getfield 22, 4, 0) else none) else (bif Nat.beq pc 4 then some (.ireturn, 5, 0) else none)))
/-- CodeRules$Text.empty()V -/
noncomputable def am_cd_35 (pc : Nat) : Option (Instr × Nat × Nat) := (bif Nat.blt pc 2 then (bif Nat.blt pc 1 then (bif Nat.beq pc 0 then some (.aload_n 0, 1, 0) else none) else (bif Nat.beq pc 1 then some (.iconst 0, 2, 0) else none)) else (bif Nat.blt pc 5 then (bif Nat.beq pc 2 then some (.putfield 15, 5, 0) else none) else (bif Nat.beq pc 5 then some (.return_, 6, 0) else none)))
/-- CodeRules$Facts.<init>()V -/
noncomputable def am_cd_36 (pc : Nat) : Option (Instr × Nat × Nat) := (bif Nat.blt pc 9 then (bif Nat.blt pc 4 then (bif Nat.blt pc 1 then (bif Nat.beq pc 0 then some (.aload_n 0, 1, 0) else none) else (bif Nat.beq pc 1 then some (.invokespecial 3, 4, 0) else none)) else (bif Nat.blt pc 5 then (bif Nat.beq pc 4 then some (.aload_n 0, 5, 0) else none) else (bif Nat.blt pc 7 then (bif Nat.beq pc 5 then some (.bipush 10, 7, 0) else none) else (bif Nat.beq pc 7 then some (.newarray .boolean, 9, 0) else none)))) else (bif Nat.blt pc 15 then (bif Nat.blt pc 12 then (bif Nat.beq pc 9 then some (.putfield 9, 12, 0) else none) else (bif Nat.blt pc 13 then (bif Nat.beq pc 12 then some (.aload_n 0, 13, 0) else none) else (bif Nat.beq pc 13 then some (.bipush 10, 15, 0) else none))) else (bif Nat.blt pc 17 then (bif Nat.beq pc 15 then some (.newarray .int, 17, 0) else none) else (bif Nat.blt pc 20 then (bif Nat.beq pc 17 then some (.putfield 15, 20, 0) else none) else (bif Nat.beq pc 20 then some (.return_, 21, 0) else none)))))
/-- CodeRules$Facts.learn(II)Z -/
noncomputable def am_cd_37 (pc : Nat) : Option (Instr × Nat × Nat) := (bif Nat.blt pc 16 then (bif Nat.blt pc 9 then (bif Nat.blt pc 3 then (bif Nat.blt pc 1 then (bif Nat.beq pc 0 then some (.iload_n 1, 1, 0) else none) else (bif Nat.beq pc 1 then some (.bipush 10, 3, 0) else none)) else (bif Nat.blt pc 6 then (bif Nat.beq pc 3 then some (.invokestatic 19, 6, 0) else none) else (bif Nat.beq pc 6 then some (.ifCond .ne 5, 9, 11) else none))) else (bif Nat.blt pc 11 then (bif Nat.blt pc 10 then (bif Nat.beq pc 9 then some (.iconst 0, 10, 0) else none) else (bif Nat.beq pc 10 then some (.ireturn, 11, 0) else none)) else (bif Nat.blt pc 12 then (bif Nat.beq pc 11 then some (.aload_n 0, 12, 0) else none) else (bif Nat.blt pc 15 then (bif Nat.beq pc 12 then some (.getfield 9, 15, 0) else none) else (bif Nat.beq pc 15 then some (.iload_n 1, 16, 0) else none))))) else (bif Nat.blt pc 22 then (bif Nat.blt pc 18 then (bif Nat.blt pc 17 then (bif Nat.beq pc 16 then some (.iconst 1, 17, 0) else none) else (bif Nat.beq pc 17 then some (.bastore, 18, 0) else none)) else (bif Nat.blt pc 19 then (bif Nat.beq pc 18 then some (.aload_n 0, 19, 0) else none) else (bif Nat.beq pc 19 then some (.getfield 15, 22, 0) else none))) else (bif Nat.blt pc 24 then (bif Nat.blt pc 23 then (bif Nat.beq pc 22 then some (.iload_n 1, 23, 0) else none) else (bif Nat.beq pc 23 then some (.iload_n 2, 24, 0) else none)) else (bif Nat.blt pc 25 then (bif Nat.beq pc 24 then some (.iastore, 25, 0) else none) else (bif Nat.blt pc 26 then (bif Nat.beq pc 25 then some (.iconst 1, 26, 0) else none) else (bif Nat.beq pc 26 then some (.ireturn, 27, 0) else none))))))
/-- CodeRules$Facts.forget()I -/
noncomputable def am_cd_38 (pc : Nat) : Option (Instr × Nat × Nat) := (bif Nat.blt pc 16 then (bif Nat.blt pc 5 then (bif Nat.blt pc 2 then (bif Nat.blt pc 1 then (bif Nat.beq pc 0 then some (.iconst 0, 1, 0) else none) else (bif Nat.beq pc 1 then some (.istore_n 1, 2, 0) else none)) else (bif Nat.blt pc 3 then (bif Nat.beq pc 2 then some (.iconst 0, 3, 0) else none) else (bif Nat.blt pc 4 then (bif Nat.beq pc 3 then some (.istore_n 2, 4, 0) else none) else (bif Nat.beq pc 4 then some (.iload_n 2, 5, 0) else none)))) else (bif Nat.blt pc 11 then (bif Nat.blt pc 7 then (bif Nat.beq pc 5 then some (.bipush 10, 7, 0) else none) else (bif Nat.blt pc 10 then (bif Nat.beq pc 7 then some (.if_icmp .ge 28, 10, 35) else none) else (bif Nat.beq pc 10 then some (.aload_n 0, 11, 0) else none))) else (bif Nat.blt pc 14 then (bif Nat.beq pc 11 then some (.getfield 9, 14, 0) else none) else (bif Nat.blt pc 15 then (bif Nat.beq pc 14 then some (.iload_n 2, 15, 0) else none) else (bif Nat.beq pc 15 then some (.baload, 16, 0) else none))))) else (bif Nat.blt pc 27 then (bif Nat.blt pc 22 then (bif Nat.blt pc 19 then (bif Nat.beq pc 16 then some (.ifCond .eq 6, 19, 22) else none) else (bif Nat.beq pc 19 then some (.iinc 1 1, 22, 0) else none)) else (bif Nat.blt pc 23 then (bif Nat.beq pc 22 then some (.aload_n 0, 23, 0) else none) else (bif Nat.blt pc 26 then (bif Nat.beq pc 23 then some (.getfield 9, 26, 0) else none) else (bif Nat.beq pc 26 then some (.iload_n 2, 27, 0) else none)))) else (bif Nat.blt pc 32 then (bif Nat.blt pc 28 then (bif Nat.beq pc 27 then some (.iconst 0, 28, 0) else none) else (bif Nat.blt pc 29 then (bif Nat.beq pc 28 then some (.bastore, 29, 0) else none) else (bif Nat.beq pc 29 then some (.iinc 2 1, 32, 0) else none))) else (bif Nat.blt pc 35 then (bif Nat.beq pc 32 then some (.goto (-28), 35, 4) else none) else (bif Nat.blt pc 36 then (bif Nat.beq pc 35 then some (.iload_n 1, 36, 0) else none) else (bif Nat.beq pc 36 then some (.ireturn, 37, 0) else none))))))
/-- CodeRules$Facts.isKnown(I)Z -/
noncomputable def am_cd_39 (pc : Nat) : Option (Instr × Nat × Nat) := (bif Nat.blt pc 13 then (bif Nat.blt pc 6 then (bif Nat.blt pc 1 then (bif Nat.beq pc 0 then some (.iload_n 1, 1, 0) else none) else (bif Nat.blt pc 3 then (bif Nat.beq pc 1 then some (.bipush 10, 3, 0) else none) else (bif Nat.beq pc 3 then some (.invokestatic 19, 6, 0) else none))) else (bif Nat.blt pc 9 then (bif Nat.beq pc 6 then some (.ifCond .eq 16, 9, 22) else none) else (bif Nat.blt pc 10 then (bif Nat.beq pc 9 then some (.aload_n 0, 10, 0) else none) else (bif Nat.beq pc 10 then some (.getfield 9, 13, 0) else none)))) else (bif Nat.blt pc 18 then (bif Nat.blt pc 14 then (bif Nat.beq pc 13 then some (.iload_n 1, 14, 0) else none) else (bif Nat.blt pc 15 then (bif Nat.beq pc 14 then some (.baload, 15, 0) else none) else (bif Nat.beq pc 15 then some (.ifCond .eq 7, 18, 22) else none))) else (bif Nat.blt pc 22 then (bif Nat.blt pc 19 then (bif Nat.beq pc 18 then some (.iconst 1, 19, 0) else none) else (bif Nat.beq pc 19 then some (.goto 4, 22, 23) else none)) else (bif Nat.blt pc 23 then (bif Nat.beq pc 22 then some (.iconst 0, 23, 0) else none) else (bif Nat.beq pc 23 then some (.ireturn, 24, 0) else none)))))
/-- CodeRules$Facts.valueOf(I)I -/
noncomputable def am_cd_40 (pc : Nat) : Option (Instr × Nat × Nat) := (bif Nat.blt pc 10 then (bif Nat.blt pc 3 then (bif Nat.blt pc 1 then (bif Nat.beq pc 0 then some (.iload_n 1, 1, 0) else none) else (bif Nat.beq pc 1 then some (.bipush 10, 3, 0) else none)) else (bif Nat.blt pc 6 then (bif Nat.beq pc 3 then some (.invokestatic 19, 6, 0) else none) else (bif Nat.blt pc 9 then (bif Nat.beq pc 6 then some (.ifCond .eq 12, 9, 18) else none) else (bif Nat.beq pc 9 then some (.aload_n 0, 10, 0) else none)))) else (bif Nat.blt pc 15 then (bif Nat.blt pc 13 then (bif Nat.beq pc 10 then some (.getfield 15, 13, 0) else none) else (bif Nat.blt pc 14 then (bif Nat.beq pc 13 then some (.iload_n 1, 14, 0) else none) else (bif Nat.beq pc 14 then some (.iaload, 15, 0) else none))) else (bif Nat.blt pc 18 then (bif Nat.beq pc 15 then some (.goto 4, 18, 19) else none) else (bif Nat.blt pc 19 then (bif Nat.beq pc 18 then some (.iconst 0, 19, 0) else none) else (bif Nat.beq pc 19 then some (.ireturn, 20, 0) else none)))))
/-- CodeRules$Papers.<init>()V -/
noncomputable def am_cd_41 (pc : Nat) : Option (Instr × Nat × Nat) := (bif Nat.blt pc 9 then (bif Nat.blt pc 4 then (bif Nat.blt pc 1 then (bif Nat.beq pc 0 then some (.aload_n 0, 1, 0) else none) else (bif Nat.beq pc 1 then some (.invokespecial 3, 4, 0) else none)) else (bif Nat.blt pc 5 then (bif Nat.beq pc 4 then some (.aload_n 0, 5, 0) else none) else (bif Nat.blt pc 7 then (bif Nat.beq pc 5 then some (.bipush 6, 7, 0) else none) else (bif Nat.beq pc 7 then some (.newarray .int, 9, 0) else none)))) else (bif Nat.blt pc 15 then (bif Nat.blt pc 12 then (bif Nat.beq pc 9 then some (.putfield 9, 12, 0) else none) else (bif Nat.blt pc 13 then (bif Nat.beq pc 12 then some (.aload_n 0, 13, 0) else none) else (bif Nat.beq pc 13 then some (.bipush 6, 15, 0) else none))) else (bif Nat.blt pc 17 then (bif Nat.beq pc 15 then some (.newarray .int, 17, 0) else none) else (bif Nat.blt pc 20 then (bif Nat.beq pc 17 then some (.putfield 15, 20, 0) else none) else (bif Nat.beq pc 20 then some (.return_, 21, 0) else none)))))
/-- CodeRules$Papers.forget()V -/
noncomputable def am_cd_42 (pc : Nat) : Option (Instr × Nat × Nat) := (bif Nat.blt pc 14 then (bif Nat.blt pc 5 then (bif Nat.blt pc 2 then (bif Nat.blt pc 1 then (bif Nat.beq pc 0 then some (.iconst 0, 1, 0) else none) else (bif Nat.beq pc 1 then some (.istore_n 1, 2, 0) else none)) else (bif Nat.blt pc 3 then (bif Nat.beq pc 2 then some (.iload_n 1, 3, 0) else none) else (bif Nat.beq pc 3 then some (.bipush 6, 5, 0) else none))) else (bif Nat.blt pc 9 then (bif Nat.blt pc 8 then (bif Nat.beq pc 5 then some (.if_icmp .ge 23, 8, 28) else none) else (bif Nat.beq pc 8 then some (.aload_n 0, 9, 0) else none)) else (bif Nat.blt pc 12 then (bif Nat.beq pc 9 then some (.getfield 9, 12, 0) else none) else (bif Nat.blt pc 13 then (bif Nat.beq pc 12 then some (.iload_n 1, 13, 0) else none) else (bif Nat.beq pc 13 then some (.iconst 0, 14, 0) else none))))) else (bif Nat.blt pc 20 then (bif Nat.blt pc 16 then (bif Nat.blt pc 15 then (bif Nat.beq pc 14 then some (.iastore, 15, 0) else none) else (bif Nat.beq pc 15 then some (.aload_n 0, 16, 0) else none)) else (bif Nat.blt pc 19 then (bif Nat.beq pc 16 then some (.getfield 15, 19, 0) else none) else (bif Nat.beq pc 19 then some (.iload_n 1, 20, 0) else none))) else (bif Nat.blt pc 22 then (bif Nat.blt pc 21 then (bif Nat.beq pc 20 then some (.iconst 0, 21, 0) else none) else (bif Nat.beq pc 21 then some (.iastore, 22, 0) else none)) else (bif Nat.blt pc 25 then (bif Nat.beq pc 22 then some (.iinc 1 1, 25, 0) else none) else (bif Nat.blt pc 28 then (bif Nat.beq pc 25 then some (.goto (-23), 28, 2) else none) else (bif Nat.beq pc 28 then some (.return_, 29, 0) else none))))))
/-- CodeRules$Papers.demand(II)Z -/
noncomputable def am_cd_43 (pc : Nat) : Option (Instr × Nat × Nat) := (bif Nat.blt pc 28 then (bif Nat.blt pc 15 then (bif Nat.blt pc 6 then (bif Nat.blt pc 1 then (bif Nat.beq pc 0 then some (.iload_n 1, 1, 0) else none) else (bif Nat.blt pc 3 then (bif Nat.beq pc 1 then some (.bipush 6, 3, 0) else none) else (bif Nat.beq pc 3 then some (.invokestatic 18, 6, 0) else none))) else (bif Nat.blt pc 10 then (bif Nat.blt pc 9 then (bif Nat.beq pc 6 then some (.ifCond .eq 25, 9, 31) else none) else (bif Nat.beq pc 9 then some (.iload_n 2, 10, 0) else none)) else (bif Nat.blt pc 12 then (bif Nat.beq pc 10 then some (.bipush 10, 12, 0) else none) else (bif Nat.beq pc 12 then some (.invokestatic 18, 15, 0) else none)))) else (bif Nat.blt pc 22 then (bif Nat.blt pc 18 then (bif Nat.beq pc 15 then some (.ifCond .eq 16, 18, 31) else none) else (bif Nat.blt pc 19 then (bif Nat.beq pc 18 then some (.aload_n 0, 19, 0) else none) else (bif Nat.beq pc 19 then some (.getfield 9, 22, 0) else none))) else (bif Nat.blt pc 24 then (bif Nat.blt pc 23 then (bif Nat.beq pc 22 then some (.iload_n 1, 23, 0) else none) else (bif Nat.beq pc 23 then some (.iaload, 24, 0) else none)) else (bif Nat.blt pc 25 then (bif Nat.beq pc 24 then some (.iload_n 2, 25, 0) else none) else (bif Nat.beq pc 25 then some (.invokestatic 22, 28, 0) else none))))) else (bif Nat.blt pc 39 then (bif Nat.blt pc 33 then (bif Nat.blt pc 31 then (bif Nat.beq pc 28 then some (.ifCond .eq 5, 31, 33) else none) else (bif Nat.blt pc 32 then (bif Nat.beq pc 31 then some (.iconst 0, 32, 0) else none) else (bif Nat.beq pc 32 then some (.ireturn, 33, 0) else none))) else (bif Nat.blt pc 37 then (bif Nat.blt pc 34 then (bif Nat.beq pc 33 then some (.aload_n 0, 34, 0) else none) else (bif Nat.beq pc 34 then some (.getfield 9, 37, 0) else none)) else (bif Nat.blt pc 38 then (bif Nat.beq pc 37 then some (.iload_n 1, 38, 0) else none) else (bif Nat.beq pc 38 then some (.dup2, 39, 0) else none)))) else (bif Nat.blt pc 43 then (bif Nat.blt pc 41 then (bif Nat.blt pc 40 then (bif Nat.beq pc 39 then some (.iaload, 40, 0) else none) else (bif Nat.beq pc 40 then some (.iconst 1, 41, 0) else none)) else (bif Nat.blt pc 42 then (bif Nat.beq pc 41 then some (.iload_n 2, 42, 0) else none) else (bif Nat.beq pc 42 then some (.ishl, 43, 0) else none))) else (bif Nat.blt pc 45 then (bif Nat.blt pc 44 then (bif Nat.beq pc 43 then some (.ior, 44, 0) else none) else (bif Nat.beq pc 44 then some (.iastore, 45, 0) else none)) else (bif Nat.blt pc 46 then (bif Nat.beq pc 45 then some (.iconst 1, 46, 0) else none) else (bif Nat.beq pc 46 then some (.ireturn, 47, 0) else none))))))
/-- CodeRules$Papers.isIn(II)Z -/
noncomputable def am_cd_44 (pc : Nat) : Option (Instr × Nat × Nat) := (bif Nat.blt pc 5 then (bif Nat.blt pc 2 then (bif Nat.blt pc 1 then (bif Nat.beq pc 0 then some (.iload_n 0, 1, 0) else none) else (bif Nat.beq pc 1 then some (.iload_n 1, 2, 0) else none)) else (bif Nat.blt pc 3 then (bif Nat.beq pc 2 then some (.ishr, 3, 0) else none) else (bif Nat.blt pc 4 then (bif Nat.beq pc 3 then some (.iconst 1, 4, 0) else none) else (bif Nat.beq pc 4 then some (.iand, 5, 0) else none)))) else (bif Nat.blt pc 10 then (bif Nat.blt pc 6 then (bif Nat.beq pc 5 then some (.iconst 1, 6, 0) else none) else (bif Nat.blt pc 9 then (bif Nat.beq pc 6 then some (.if_icmp .ne 7, 9, 13) else none) else (bif Nat.beq pc 9 then some (.iconst 1, 10, 0) else none))) else (bif Nat.blt pc 13 then (bif Nat.beq pc 10 then some (.goto 4, 13, 14) else none) else (bif Nat.blt pc 14 then (bif Nat.beq pc 13 then some (.iconst 0, 14, 0) else none) else (bif Nat.beq pc 14 then some (.ireturn, 15, 0) else none)))))
/-- CodeRules$Papers.bring(II)Z -/
noncomputable def am_cd_45 (pc : Nat) : Option (Instr × Nat × Nat) := (bif Nat.blt pc 26 then (bif Nat.blt pc 15 then (bif Nat.blt pc 6 then (bif Nat.blt pc 1 then (bif Nat.beq pc 0 then some (.iload_n 1, 1, 0) else none) else (bif Nat.blt pc 3 then (bif Nat.beq pc 1 then some (.bipush 6, 3, 0) else none) else (bif Nat.beq pc 3 then some (.invokestatic 18, 6, 0) else none))) else (bif Nat.blt pc 10 then (bif Nat.blt pc 9 then (bif Nat.beq pc 6 then some (.ifCond .eq 12, 9, 18) else none) else (bif Nat.beq pc 9 then some (.iload_n 2, 10, 0) else none)) else (bif Nat.blt pc 12 then (bif Nat.beq pc 10 then some (.bipush 10, 12, 0) else none) else (bif Nat.beq pc 12 then some (.invokestatic 18, 15, 0) else none)))) else (bif Nat.blt pc 20 then (bif Nat.blt pc 18 then (bif Nat.beq pc 15 then some (.ifCond .ne 5, 18, 20) else none) else (bif Nat.blt pc 19 then (bif Nat.beq pc 18 then some (.iconst 0, 19, 0) else none) else (bif Nat.beq pc 19 then some (.ireturn, 20, 0) else none))) else (bif Nat.blt pc 24 then (bif Nat.blt pc 21 then (bif Nat.beq pc 20 then some (.aload_n 0, 21, 0) else none) else (bif Nat.beq pc 21 then some (.getfield 15, 24, 0) else none)) else (bif Nat.blt pc 25 then (bif Nat.beq pc 24 then some (.iload_n 1, 25, 0) else none) else (bif Nat.beq pc 25 then some (.dup2, 26, 0) else none))))) else (bif Nat.blt pc 33 then (bif Nat.blt pc 29 then (bif Nat.blt pc 27 then (bif Nat.beq pc 26 then some (.iaload, 27, 0) else none) else (bif Nat.blt pc 28 then (bif Nat.beq pc 27 then some (.iconst 1, 28, 0) else none) else (bif Nat.beq pc 28 then some (.iload_n 2, 29, 0) else none))) else (bif Nat.blt pc 31 then (bif Nat.blt pc 30 then (bif Nat.beq pc 29 then some (.ishl, 30, 0) else none) else (bif Nat.beq pc 30 then some (.ior, 31, 0) else none)) else (bif Nat.blt pc 32 then (bif Nat.beq pc 31 then some (.iastore, 32, 0) else none) else (bif Nat.beq pc 32 then some (.aload_n 0, 33, 0) else none)))) else (bif Nat.blt pc 40 then (bif Nat.blt pc 34 then (bif Nat.beq pc 33 then some (.iload_n 1, 34, 0) else none) else (bif Nat.blt pc 37 then (bif Nat.beq pc 34 then some (.invokevirtual 25, 37, 0) else none) else (bif Nat.beq pc 37 then some (.ifCond .ne 7, 40, 44) else none))) else (bif Nat.blt pc 44 then (bif Nat.blt pc 41 then (bif Nat.beq pc 40 then some (.iconst 1, 41, 0) else none) else (bif Nat.beq pc 41 then some (.goto 4, 44, 45) else none)) else (bif Nat.blt pc 45 then (bif Nat.beq pc 44 then some (.iconst 0, 45, 0) else none) else (bif Nat.beq pc 45 then some (.ireturn, 46, 0) else none))))))
/-- CodeRules$Papers.lacking(I)I -/
noncomputable def am_cd_46 (pc : Nat) : Option (Instr × Nat × Nat) := (bif Nat.blt pc 10 then (bif Nat.blt pc 5 then (bif Nat.blt pc 1 then (bif Nat.beq pc 0 then some (.aload_n 0, 1, 0) else none) else (bif Nat.blt pc 4 then (bif Nat.beq pc 1 then some (.getfield 9, 4, 0) else none) else (bif Nat.beq pc 4 then some (.iload_n 1, 5, 0) else none))) else (bif Nat.blt pc 6 then (bif Nat.beq pc 5 then some (.iaload, 6, 0) else none) else (bif Nat.blt pc 7 then (bif Nat.beq pc 6 then some (.aload_n 0, 7, 0) else none) else (bif Nat.beq pc 7 then some (.getfield 15, 10, 0) else none)))) else (bif Nat.blt pc 13 then (bif Nat.blt pc 11 then (bif Nat.beq pc 10 then some (.iload_n 1, 11, 0) else none) else (bif Nat.blt pc 12 then (bif Nat.beq pc 11 then some (.iaload, 12, 0) else none) else (bif Nat.beq pc 12 then some (.iconst (-1), 13, 0) else none))) else (bif Nat.blt pc 14 then (bif Nat.beq pc 13 then some (.ixor, 14, 0) else none) else (bif Nat.blt pc 15 then (bif Nat.beq pc 14 then some (.iand, 15, 0) else none) else (bif Nat.beq pc 15 then some (.ireturn, 16, 0) else none)))))
/-- CodeRules$Papers.missing(II)I -/
noncomputable def am_cd_47 (pc : Nat) : Option (Instr × Nat × Nat) := (bif Nat.blt pc 24 then (bif Nat.blt pc 12 then (bif Nat.blt pc 6 then (bif Nat.blt pc 1 then (bif Nat.beq pc 0 then some (.iload_n 1, 1, 0) else none) else (bif Nat.blt pc 3 then (bif Nat.beq pc 1 then some (.bipush 6, 3, 0) else none) else (bif Nat.beq pc 3 then some (.invokestatic 18, 6, 0) else none))) else (bif Nat.blt pc 10 then (bif Nat.blt pc 9 then (bif Nat.beq pc 6 then some (.ifCond .ne 5, 9, 11) else none) else (bif Nat.beq pc 9 then some (.iconst (-1), 10, 0) else none)) else (bif Nat.blt pc 11 then (bif Nat.beq pc 10 then some (.ireturn, 11, 0) else none) else (bif Nat.beq pc 11 then some (.iconst 0, 12, 0) else none)))) else (bif Nat.blt pc 16 then (bif Nat.blt pc 13 then (bif Nat.beq pc 12 then some (.istore_n 3, 13, 0) else none) else (bif Nat.blt pc 14 then (bif Nat.beq pc 13 then some (.iconst 0, 14, 0) else none) else (bif Nat.beq pc 14 then some (.istore 4, 16, 0) else none))) else (bif Nat.blt pc 20 then (bif Nat.blt pc 18 then (bif Nat.beq pc 16 then some (.iload 4, 18, 0) else none) else (bif Nat.beq pc 18 then some (.bipush 10, 20, 0) else none)) else (bif Nat.blt pc 23 then (bif Nat.beq pc 20 then some (.if_icmp .ge 33, 23, 53) else none) else (bif Nat.beq pc 23 then some (.aload_n 0, 24, 0) else none))))) else (bif Nat.blt pc 38 then (bif Nat.blt pc 30 then (bif Nat.blt pc 25 then (bif Nat.beq pc 24 then some (.iload_n 1, 25, 0) else none) else (bif Nat.blt pc 28 then (bif Nat.beq pc 25 then some (.invokevirtual 25, 28, 0) else none) else (bif Nat.beq pc 28 then some (.iload 4, 30, 0) else none))) else (bif Nat.blt pc 36 then (bif Nat.blt pc 33 then (bif Nat.beq pc 30 then some (.invokestatic 22, 33, 0) else none) else (bif Nat.beq pc 33 then some (.ifCond .eq 14, 36, 47) else none)) else (bif Nat.blt pc 37 then (bif Nat.beq pc 36 then some (.iload_n 3, 37, 0) else none) else (bif Nat.beq pc 37 then some (.iload_n 2, 38, 0) else none)))) else (bif Nat.blt pc 47 then (bif Nat.blt pc 43 then (bif Nat.blt pc 41 then (bif Nat.beq pc 38 then some (.if_icmp .ne 6, 41, 44) else none) else (bif Nat.beq pc 41 then some (.iload 4, 43, 0) else none)) else (bif Nat.blt pc 44 then (bif Nat.beq pc 43 then some (.ireturn, 44, 0) else none) else (bif Nat.beq pc 44 then some (.iinc 3 1, 47, 0) else none))) else (bif Nat.blt pc 53 then (bif Nat.blt pc 50 then (bif Nat.beq pc 47 then some (.iinc 4 1, 50, 0) else none) else (bif Nat.beq pc 50 then some (.goto (-34), 53, 16) else none)) else (bif Nat.blt pc 54 then (bif Nat.beq pc 53 then some (.iconst (-1), 54, 0) else none) else (bif Nat.beq pc 54 then some (.ireturn, 55, 0) else none))))))
/-- CodeRules$Permits.<init>()V -/
noncomputable def am_cd_48 (pc : Nat) : Option (Instr × Nat × Nat) := (bif Nat.blt pc 13 then (bif Nat.blt pc 5 then (bif Nat.blt pc 1 then (bif Nat.beq pc 0 then some (.aload_n 0, 1, 0) else none) else (bif Nat.blt pc 4 then (bif Nat.beq pc 1 then some (.invokespecial 3, 4, 0) else none) else (bif Nat.beq pc 4 then some (.aload_n 0, 5, 0) else none))) else (bif Nat.blt pc 9 then (bif Nat.blt pc 7 then (bif Nat.beq pc 5 then some (.bipush 6, 7, 0) else none) else (bif Nat.beq pc 7 then some (.newarray .int, 9, 0) else none)) else (bif Nat.blt pc 12 then (bif Nat.beq pc 9 then some (.putfield 9, 12, 0) else none) else (bif Nat.beq pc 12 then some (.aload_n 0, 13, 0) else none)))) else (bif Nat.blt pc 21 then (bif Nat.blt pc 17 then (bif Nat.blt pc 15 then (bif Nat.beq pc 13 then some (.bipush 30, 15, 0) else none) else (bif Nat.beq pc 15 then some (.newarray .int, 17, 0) else none)) else (bif Nat.blt pc 20 then (bif Nat.beq pc 17 then some (.putfield 15, 20, 0) else none) else (bif Nat.beq pc 20 then some (.aload_n 0, 21, 0) else none))) else (bif Nat.blt pc 25 then (bif Nat.blt pc 23 then (bif Nat.beq pc 21 then some (.bipush 30, 23, 0) else none) else (bif Nat.beq pc 23 then some (.newarray .int, 25, 0) else none)) else (bif Nat.blt pc 28 then (bif Nat.beq pc 25 then some (.putfield 18, 28, 0) else none) else (bif Nat.beq pc 28 then some (.return_, 29, 0) else none)))))
/-- CodeRules$Permits.grant()I -/
noncomputable def am_cd_49 (pc : Nat) : Option (Instr × Nat × Nat) := (bif Nat.blt pc 13 then (bif Nat.blt pc 9 then (bif Nat.blt pc 4 then (bif Nat.blt pc 1 then (bif Nat.beq pc 0 then some (.aload_n 0, 1, 0) else none) else (bif Nat.beq pc 1 then some (.getfield 21, 4, 0) else none)) else (bif Nat.blt pc 6 then (bif Nat.beq pc 4 then some (.bipush 6, 6, 0) else none) else (bif Nat.beq pc 6 then some (.if_icmp .lt 5, 9, 11) else none))) else (bif Nat.blt pc 11 then (bif Nat.blt pc 10 then (bif Nat.beq pc 9 then some (.iconst (-1), 10, 0) else none) else (bif Nat.beq pc 10 then some (.ireturn, 11, 0) else none)) else (bif Nat.blt pc 12 then (bif Nat.beq pc 11 then some (.aload_n 0, 12, 0) else none) else (bif Nat.beq pc 12 then some (.dup, 13, 0) else none)))) else (bif Nat.blt pc 21 then (bif Nat.blt pc 17 then (bif Nat.blt pc 16 then (bif Nat.beq pc 13 then some (.getfield 21, 16, 0) else none) else (bif Nat.beq pc 16 then some (.iconst 1, 17, 0) else none)) else (bif Nat.blt pc 18 then (bif Nat.beq pc 17 then some (.iadd, 18, 0) else none) else (bif Nat.beq pc 18 then some (.putfield 21, 21, 0) else none))) else (bif Nat.blt pc 25 then (bif Nat.blt pc 22 then (bif Nat.beq pc 21 then some (.aload_n 0, 22, 0) else none) else (bif Nat.beq pc 22 then some (.getfield 21, 25, 0) else none)) else (bif Nat.blt pc 26 then (bif Nat.beq pc 25 then some (.iconst 1, 26, 0) else none) else (bif Nat.blt pc 27 then (bif Nat.beq pc 26 then some (.isub, 27, 0) else none) else (bif Nat.beq pc 27 then some (.ireturn, 28, 0) else none))))))
/-- CodeRules$Permits.addSpan(III)Z -/
noncomputable def am_cd_50 (pc : Nat) : Option (Instr × Nat × Nat) := (bif Nat.blt pc 46 then (bif Nat.blt pc 27 then (bif Nat.blt pc 12 then (bif Nat.blt pc 5 then (bif Nat.blt pc 1 then (bif Nat.beq pc 0 then some (.iload_n 1, 1, 0) else none) else (bif Nat.blt pc 2 then (bif Nat.beq pc 1 then some (.aload_n 0, 2, 0) else none) else (bif Nat.beq pc 2 then some (.getfield 21, 5, 0) else none))) else (bif Nat.blt pc 8 then (bif Nat.beq pc 5 then some (.invokestatic 25, 8, 0) else none) else (bif Nat.blt pc 11 then (bif Nat.beq pc 8 then some (.ifCond .eq 22, 11, 30) else none) else (bif Nat.beq pc 11 then some (.iload_n 2, 12, 0) else none)))) else (bif Nat.blt pc 19 then (bif Nat.blt pc 15 then (bif Nat.beq pc 12 then some (.invokestatic 29, 15, 0) else none) else (bif Nat.blt pc 18 then (bif Nat.beq pc 15 then some (.ifCond .eq 15, 18, 30) else none) else (bif Nat.beq pc 18 then some (.iload_n 3, 19, 0) else none))) else (bif Nat.blt pc 25 then (bif Nat.blt pc 22 then (bif Nat.beq pc 19 then some (.invokestatic 29, 22, 0) else none) else (bif Nat.beq pc 22 then some (.ifCond .eq 8, 25, 30) else none)) else (bif Nat.blt pc 26 then (bif Nat.beq pc 25 then some (.iload_n 2, 26, 0) else none) else (bif Nat.beq pc 26 then some (.iload_n 3, 27, 0) else none))))) else (bif Nat.blt pc 37 then (bif Nat.blt pc 32 then (bif Nat.blt pc 30 then (bif Nat.beq pc 27 then some (.if_icmp .le 5, 30, 32) else none) else (bif Nat.blt pc 31 then (bif Nat.beq pc 30 then some (.iconst 0, 31, 0) else none) else (bif Nat.beq pc 31 then some (.ireturn, 32, 0) else none))) else (bif Nat.blt pc 33 then (bif Nat.beq pc 32 then some (.aload_n 0, 33, 0) else none) else (bif Nat.blt pc 36 then (bif Nat.beq pc 33 then some (.getfield 9, 36, 0) else none) else (bif Nat.beq pc 36 then some (.iload_n 1, 37, 0) else none)))) else (bif Nat.blt pc 42 then (bif Nat.blt pc 38 then (bif Nat.beq pc 37 then some (.iaload, 38, 0) else none) else (bif Nat.blt pc 39 then (bif Nat.beq pc 38 then some (.iconst 5, 39, 0) else none) else (bif Nat.beq pc 39 then some (.if_icmp .lt 5, 42, 44) else none))) else (bif Nat.blt pc 44 then (bif Nat.blt pc 43 then (bif Nat.beq pc 42 then some (.iconst 0, 43, 0) else none) else (bif Nat.beq pc 43 then some (.ireturn, 44, 0) else none)) else (bif Nat.blt pc 45 then (bif Nat.beq pc 44 then some (.iload_n 1, 45, 0) else none) else (bif Nat.beq pc 45 then some (.iconst 5, 46, 0) else none)))))) else (bif Nat.blt pc 65 then (bif Nat.blt pc 54 then (bif Nat.blt pc 51 then (bif Nat.blt pc 47 then (bif Nat.beq pc 46 then some (.imul, 47, 0) else none) else (bif Nat.blt pc 48 then (bif Nat.beq pc 47 then some (.aload_n 0, 48, 0) else none) else (bif Nat.beq pc 48 then some (.getfield 9, 51, 0) else none))) else (bif Nat.blt pc 52 then (bif Nat.beq pc 51 then some (.iload_n 1, 52, 0) else none) else (bif Nat.blt pc 53 then (bif Nat.beq pc 52 then some (.iaload, 53, 0) else none) else (bif Nat.beq pc 53 then some (.iadd, 54, 0) else none)))) else (bif Nat.blt pc 60 then (bif Nat.blt pc 56 then (bif Nat.beq pc 54 then some (.istore 4, 56, 0) else none) else (bif Nat.blt pc 57 then (bif Nat.beq pc 56 then some (.aload_n 0, 57, 0) else none) else (bif Nat.beq pc 57 then some (.getfield 15, 60, 0) else none))) else (bif Nat.blt pc 63 then (bif Nat.blt pc 62 then (bif Nat.beq pc 60 then some (.iload 4, 62, 0) else none) else (bif Nat.beq pc 62 then some (.iload_n 2, 63, 0) else none)) else (bif Nat.blt pc 64 then (bif Nat.beq pc 63 then some (.iastore, 64, 0) else none) else (bif Nat.beq pc 64 then some (.aload_n 0, 65, 0) else none))))) else (bif Nat.blt pc 77 then (bif Nat.blt pc 71 then (bif Nat.blt pc 68 then (bif Nat.beq pc 65 then some (.getfield 18, 68, 0) else none) else (bif Nat.blt pc 70 then (bif Nat.beq pc 68 then some (.iload 4, 70, 0) else none) else (bif Nat.beq pc 70 then some (.iload_n 3, 71, 0) else none))) else (bif Nat.blt pc 73 then (bif Nat.blt pc 72 then (bif Nat.beq pc 71 then some (.iastore, 72, 0) else none) else (bif Nat.beq pc 72 then some (.aload_n 0, 73, 0) else none)) else (bif Nat.blt pc 76 then (bif Nat.beq pc 73 then some (.getfield 9, 76, 0) else none) else (bif Nat.beq pc 76 then some (.iload_n 1, 77, 0) else none)))) else (bif Nat.blt pc 80 then (bif Nat.blt pc 78 then (bif Nat.beq pc 77 then some (.dup2, 78, 0) else none) else (bif Nat.blt pc 79 then (bif Nat.beq pc 78 then some (.iaload, 79, 0) else none) else (bif Nat.beq pc 79 then some (.iconst 1, 80, 0) else none))) else (bif Nat.blt pc 82 then (bif Nat.blt pc 81 then (bif Nat.beq pc 80 then some (.iadd, 81, 0) else none) else (bif Nat.beq pc 81 then some (.iastore, 82, 0) else none)) else (bif Nat.blt pc 83 then (bif Nat.beq pc 82 then some (.iconst 1, 83, 0) else none) else (bif Nat.beq pc 83 then some (.ireturn, 84, 0) else none)))))))
/-- CodeRules$Permits.covers(II)I -/
noncomputable def am_cd_51 (pc : Nat) : Option (Instr × Nat × Nat) := (bif Nat.blt pc 29 then (bif Nat.blt pc 15 then (bif Nat.blt pc 8 then (bif Nat.blt pc 2 then (bif Nat.blt pc 1 then (bif Nat.beq pc 0 then some (.iload_n 1, 1, 0) else none) else (bif Nat.beq pc 1 then some (.aload_n 0, 2, 0) else none)) else (bif Nat.blt pc 5 then (bif Nat.beq pc 2 then some (.getfield 21, 5, 0) else none) else (bif Nat.beq pc 5 then some (.invokestatic 25, 8, 0) else none))) else (bif Nat.blt pc 12 then (bif Nat.blt pc 11 then (bif Nat.beq pc 8 then some (.ifCond .ne 5, 11, 13) else none) else (bif Nat.beq pc 11 then some (.iconst (-1), 12, 0) else none)) else (bif Nat.blt pc 13 then (bif Nat.beq pc 12 then some (.ireturn, 13, 0) else none) else (bif Nat.blt pc 14 then (bif Nat.beq pc 13 then some (.iconst 0, 14, 0) else none) else (bif Nat.beq pc 14 then some (.istore_n 3, 15, 0) else none))))) else (bif Nat.blt pc 22 then (bif Nat.blt pc 17 then (bif Nat.blt pc 16 then (bif Nat.beq pc 15 then some (.iload_n 3, 16, 0) else none) else (bif Nat.beq pc 16 then some (.aload_n 0, 17, 0) else none)) else (bif Nat.blt pc 20 then (bif Nat.beq pc 17 then some (.getfield 9, 20, 0) else none) else (bif Nat.blt pc 21 then (bif Nat.beq pc 20 then some (.iload_n 1, 21, 0) else none) else (bif Nat.beq pc 21 then some (.iaload, 22, 0) else none)))) else (bif Nat.blt pc 26 then (bif Nat.blt pc 25 then (bif Nat.beq pc 22 then some (.if_icmp .ge 40, 25, 62) else none) else (bif Nat.beq pc 25 then some (.iload_n 1, 26, 0) else none)) else (bif Nat.blt pc 27 then (bif Nat.beq pc 26 then some (.iconst 5, 27, 0) else none) else (bif Nat.blt pc 28 then (bif Nat.beq pc 27 then some (.imul, 28, 0) else none) else (bif Nat.beq pc 28 then some (.iload_n 3, 29, 0) else none)))))) else (bif Nat.blt pc 45 then (bif Nat.blt pc 38 then (bif Nat.blt pc 32 then (bif Nat.blt pc 30 then (bif Nat.beq pc 29 then some (.iadd, 30, 0) else none) else (bif Nat.beq pc 30 then some (.istore 4, 32, 0) else none)) else (bif Nat.blt pc 33 then (bif Nat.beq pc 32 then some (.aload_n 0, 33, 0) else none) else (bif Nat.blt pc 36 then (bif Nat.beq pc 33 then some (.getfield 15, 36, 0) else none) else (bif Nat.beq pc 36 then some (.iload 4, 38, 0) else none)))) else (bif Nat.blt pc 40 then (bif Nat.blt pc 39 then (bif Nat.beq pc 38 then some (.iaload, 39, 0) else none) else (bif Nat.beq pc 39 then some (.iload_n 2, 40, 0) else none)) else (bif Nat.blt pc 43 then (bif Nat.beq pc 40 then some (.if_icmp .gt 16, 43, 56) else none) else (bif Nat.blt pc 44 then (bif Nat.beq pc 43 then some (.iload_n 2, 44, 0) else none) else (bif Nat.beq pc 44 then some (.aload_n 0, 45, 0) else none))))) else (bif Nat.blt pc 55 then (bif Nat.blt pc 50 then (bif Nat.blt pc 48 then (bif Nat.beq pc 45 then some (.getfield 18, 48, 0) else none) else (bif Nat.beq pc 48 then some (.iload 4, 50, 0) else none)) else (bif Nat.blt pc 51 then (bif Nat.beq pc 50 then some (.iaload, 51, 0) else none) else (bif Nat.blt pc 54 then (bif Nat.beq pc 51 then some (.if_icmp .gt 5, 54, 56) else none) else (bif Nat.beq pc 54 then some (.iconst 1, 55, 0) else none)))) else (bif Nat.blt pc 59 then (bif Nat.blt pc 56 then (bif Nat.beq pc 55 then some (.ireturn, 56, 0) else none) else (bif Nat.beq pc 56 then some (.iinc 3 1, 59, 0) else none)) else (bif Nat.blt pc 62 then (bif Nat.beq pc 59 then some (.goto (-44), 62, 15) else none) else (bif Nat.blt pc 63 then (bif Nat.beq pc 62 then some (.iconst 0, 63, 0) else none) else (bif Nat.beq pc 63 then some (.ireturn, 64, 0) else none)))))))
/-- CodeRules$Histories.<init>()V -/
noncomputable def am_cd_52 (pc : Nat) : Option (Instr × Nat × Nat) := (bif Nat.blt pc 9 then (bif Nat.blt pc 4 then (bif Nat.blt pc 1 then (bif Nat.beq pc 0 then some (.aload_n 0, 1, 0) else none) else (bif Nat.beq pc 1 then some (.invokespecial 3, 4, 0) else none)) else (bif Nat.blt pc 5 then (bif Nat.beq pc 4 then some (.aload_n 0, 5, 0) else none) else (bif Nat.blt pc 7 then (bif Nat.beq pc 5 then some (.bipush 8, 7, 0) else none) else (bif Nat.beq pc 7 then some (.newarray .int, 9, 0) else none)))) else (bif Nat.blt pc 15 then (bif Nat.blt pc 12 then (bif Nat.beq pc 9 then some (.putfield 9, 12, 0) else none) else (bif Nat.blt pc 13 then (bif Nat.beq pc 12 then some (.aload_n 0, 13, 0) else none) else (bif Nat.beq pc 13 then some (.bipush 96, 15, 0) else none))) else (bif Nat.blt pc 17 then (bif Nat.beq pc 15 then some (.newarray .int, 17, 0) else none) else (bif Nat.blt pc 20 then (bif Nat.beq pc 17 then some (.putfield 15, 20, 0) else none) else (bif Nat.beq pc 20 then some (.return_, 21, 0) else none)))))
/-- CodeRules$Histories.hasRoom(I)Z -/
noncomputable def am_cd_53 (pc : Nat) : Option (Instr × Nat × Nat) := (bif Nat.blt pc 14 then (bif Nat.blt pc 6 then (bif Nat.blt pc 1 then (bif Nat.beq pc 0 then some (.iload_n 1, 1, 0) else none) else (bif Nat.blt pc 3 then (bif Nat.beq pc 1 then some (.bipush 8, 3, 0) else none) else (bif Nat.beq pc 3 then some (.invokestatic 18, 6, 0) else none))) else (bif Nat.blt pc 10 then (bif Nat.blt pc 9 then (bif Nat.beq pc 6 then some (.ifCond .eq 18, 9, 24) else none) else (bif Nat.beq pc 9 then some (.aload_n 0, 10, 0) else none)) else (bif Nat.blt pc 13 then (bif Nat.beq pc 10 then some (.getfield 9, 13, 0) else none) else (bif Nat.beq pc 13 then some (.iload_n 1, 14, 0) else none)))) else (bif Nat.blt pc 20 then (bif Nat.blt pc 15 then (bif Nat.beq pc 14 then some (.iaload, 15, 0) else none) else (bif Nat.blt pc 17 then (bif Nat.beq pc 15 then some (.bipush 12, 17, 0) else none) else (bif Nat.beq pc 17 then some (.if_icmp .ge 7, 20, 24) else none))) else (bif Nat.blt pc 24 then (bif Nat.blt pc 21 then (bif Nat.beq pc 20 then some (.iconst 1, 21, 0) else none) else (bif Nat.beq pc 21 then some (.goto 4, 24, 25) else none)) else (bif Nat.blt pc 25 then (bif Nat.beq pc 24 then some (.iconst 0, 25, 0) else none) else (bif Nat.beq pc 25 then some (.ireturn, 26, 0) else none)))))
/-- CodeRules$Histories.append(II)V -/
noncomputable def am_cd_54 (pc : Nat) : Option (Instr × Nat × Nat) := (bif Nat.blt pc 22 then (bif Nat.blt pc 10 then (bif Nat.blt pc 5 then (bif Nat.blt pc 1 then (bif Nat.beq pc 0 then some (.aload_n 0, 1, 0) else none) else (bif Nat.blt pc 2 then (bif Nat.beq pc 1 then some (.iload_n 1, 2, 0) else none) else (bif Nat.beq pc 2 then some (.invokevirtual 22, 5, 0) else none))) else (bif Nat.blt pc 8 then (bif Nat.beq pc 5 then some (.ifCond .ne 4, 8, 9) else none) else (bif Nat.blt pc 9 then (bif Nat.beq pc 8 then some (.return_, 9, 0) else none) else (bif Nat.beq pc 9 then some (.aload_n 0, 10, 0) else none)))) else (bif Nat.blt pc 16 then (bif Nat.blt pc 13 then (bif Nat.beq pc 10 then some (.getfield 15, 13, 0) else none) else (bif Nat.blt pc 14 then (bif Nat.beq pc 13 then some (.iload_n 1, 14, 0) else none) else (bif Nat.beq pc 14 then some (.bipush 12, 16, 0) else none))) else (bif Nat.blt pc 18 then (bif Nat.blt pc 17 then (bif Nat.beq pc 16 then some (.imul, 17, 0) else none) else (bif Nat.beq pc 17 then some (.aload_n 0, 18, 0) else none)) else (bif Nat.blt pc 21 then (bif Nat.beq pc 18 then some (.getfield 9, 21, 0) else none) else (bif Nat.beq pc 21 then some (.iload_n 1, 22, 0) else none))))) else (bif Nat.blt pc 30 then (bif Nat.blt pc 25 then (bif Nat.blt pc 23 then (bif Nat.beq pc 22 then some (.iaload, 23, 0) else none) else (bif Nat.blt pc 24 then (bif Nat.beq pc 23 then some (.iadd, 24, 0) else none) else (bif Nat.beq pc 24 then some (.iload_n 2, 25, 0) else none))) else (bif Nat.blt pc 26 then (bif Nat.beq pc 25 then some (.iastore, 26, 0) else none) else (bif Nat.blt pc 27 then (bif Nat.beq pc 26 then some (.aload_n 0, 27, 0) else none) else (bif Nat.beq pc 27 then some (.getfield 9, 30, 0) else none)))) else (bif Nat.blt pc 33 then (bif Nat.blt pc 31 then (bif Nat.beq pc 30 then some (.iload_n 1, 31, 0) else none) else (bif Nat.blt pc 32 then (bif Nat.beq pc 31 then some (.dup2, 32, 0) else none) else (bif Nat.beq pc 32 then some (.iaload, 33, 0) else none))) else (bif Nat.blt pc 35 then (bif Nat.blt pc 34 then (bif Nat.beq pc 33 then some (.iconst 1, 34, 0) else none) else (bif Nat.beq pc 34 then some (.iadd, 35, 0) else none)) else (bif Nat.blt pc 36 then (bif Nat.beq pc 35 then some (.iastore, 36, 0) else none) else (bif Nat.beq pc 36 then some (.return_, 37, 0) else none))))))
/-- CodeRules$Histories.recall(II)I -/
noncomputable def am_cd_55 (pc : Nat) : Option (Instr × Nat × Nat) := (bif Nat.blt pc 25 then (bif Nat.blt pc 14 then (bif Nat.blt pc 6 then (bif Nat.blt pc 1 then (bif Nat.beq pc 0 then some (.iload_n 1, 1, 0) else none) else (bif Nat.blt pc 3 then (bif Nat.beq pc 1 then some (.bipush 8, 3, 0) else none) else (bif Nat.beq pc 3 then some (.invokestatic 18, 6, 0) else none))) else (bif Nat.blt pc 10 then (bif Nat.blt pc 9 then (bif Nat.beq pc 6 then some (.ifCond .eq 16, 9, 22) else none) else (bif Nat.beq pc 9 then some (.iload_n 2, 10, 0) else none)) else (bif Nat.blt pc 11 then (bif Nat.beq pc 10 then some (.aload_n 0, 11, 0) else none) else (bif Nat.beq pc 11 then some (.getfield 9, 14, 0) else none)))) else (bif Nat.blt pc 19 then (bif Nat.blt pc 15 then (bif Nat.beq pc 14 then some (.iload_n 1, 15, 0) else none) else (bif Nat.blt pc 16 then (bif Nat.beq pc 15 then some (.iaload, 16, 0) else none) else (bif Nat.beq pc 16 then some (.invokestatic 18, 19, 0) else none))) else (bif Nat.blt pc 23 then (bif Nat.blt pc 22 then (bif Nat.beq pc 19 then some (.ifCond .ne 5, 22, 24) else none) else (bif Nat.beq pc 22 then some (.iconst (-1), 23, 0) else none)) else (bif Nat.blt pc 24 then (bif Nat.beq pc 23 then some (.ireturn, 24, 0) else none) else (bif Nat.beq pc 24 then some (.aload_n 0, 25, 0) else none))))) else (bif Nat.blt pc 37 then (bif Nat.blt pc 31 then (bif Nat.blt pc 28 then (bif Nat.beq pc 25 then some (.getfield 15, 28, 0) else none) else (bif Nat.blt pc 29 then (bif Nat.beq pc 28 then some (.iload_n 1, 29, 0) else none) else (bif Nat.beq pc 29 then some (.bipush 12, 31, 0) else none))) else (bif Nat.blt pc 33 then (bif Nat.blt pc 32 then (bif Nat.beq pc 31 then some (.imul, 32, 0) else none) else (bif Nat.beq pc 32 then some (.aload_n 0, 33, 0) else none)) else (bif Nat.blt pc 36 then (bif Nat.beq pc 33 then some (.getfield 9, 36, 0) else none) else (bif Nat.beq pc 36 then some (.iload_n 1, 37, 0) else none)))) else (bif Nat.blt pc 41 then (bif Nat.blt pc 39 then (bif Nat.blt pc 38 then (bif Nat.beq pc 37 then some (.iaload, 38, 0) else none) else (bif Nat.beq pc 38 then some (.iadd, 39, 0) else none)) else (bif Nat.blt pc 40 then (bif Nat.beq pc 39 then some (.iconst 1, 40, 0) else none) else (bif Nat.beq pc 40 then some (.isub, 41, 0) else none))) else (bif Nat.blt pc 43 then (bif Nat.blt pc 42 then (bif Nat.beq pc 41 then some (.iload_n 2, 42, 0) else none) else (bif Nat.beq pc 42 then some (.isub, 43, 0) else none)) else (bif Nat.blt pc 44 then (bif Nat.beq pc 43 then some (.iaload, 44, 0) else none) else (bif Nat.beq pc 44 then some (.ireturn, 45, 0) else none))))))
/-- CodeRules$Rules.<init>()V -/
noncomputable def am_cd_56 (pc : Nat) : Option (Instr × Nat × Nat) := (bif Nat.blt pc 19 then (bif Nat.blt pc 8 then (bif Nat.blt pc 4 then (bif Nat.blt pc 1 then (bif Nat.beq pc 0 then some (.aload_n 0, 1, 0) else none) else (bif Nat.beq pc 1 then some (.invokespecial 3, 4, 0) else none)) else (bif Nat.blt pc 5 then (bif Nat.beq pc 4 then some (.aload_n 0, 5, 0) else none) else (bif Nat.beq pc 5 then some (.new 9, 8, 0) else none))) else (bif Nat.blt pc 12 then (bif Nat.blt pc 9 then (bif Nat.beq pc 8 then some (.dup, 9, 0) else none) else (bif Nat.beq pc 9 then some (.invokespecial 11, 12, 0) else none)) else (bif Nat.blt pc 15 then (bif Nat.beq pc 12 then some (.putfield 12, 15, 0) else none) else (bif Nat.blt pc 16 then (bif Nat.beq pc 15 then some (.aload_n 0, 16, 0) else none) else (bif Nat.beq pc 16 then some (.new 18, 19, 0) else none))))) else (bif Nat.blt pc 27 then (bif Nat.blt pc 23 then (bif Nat.blt pc 20 then (bif Nat.beq pc 19 then some (.dup, 20, 0) else none) else (bif Nat.beq pc 20 then some (.invokespecial 20, 23, 0) else none)) else (bif Nat.blt pc 26 then (bif Nat.beq pc 23 then some (.putfield 21, 26, 0) else none) else (bif Nat.beq pc 26 then some (.aload_n 0, 27, 0) else none))) else (bif Nat.blt pc 31 then (bif Nat.blt pc 30 then (bif Nat.beq pc 27 then some (.new 25, 30, 0) else none) else (bif Nat.beq pc 30 then some (.dup, 31, 0) else none)) else (bif Nat.blt pc 34 then (bif Nat.beq pc 31 then some (.invokespecial 27, 34, 0) else none) else (bif Nat.blt pc 37 then (bif Nat.beq pc 34 then some (.putfield 28, 37, 0) else none) else (bif Nat.beq pc 37 then some (.return_, 38, 0) else none))))))
/-- CodeRules$Rules.tell(LCodeRules$Text;)I -/
noncomputable def am_cd_57 (pc : Nat) : Option (Instr × Nat × Nat) := (bif Nat.blt pc 34 then (bif Nat.blt pc 18 then (bif Nat.blt pc 8 then (bif Nat.blt pc 4 then (bif Nat.blt pc 1 then (bif Nat.beq pc 0 then some (.aload_n 0, 1, 0) else none) else (bif Nat.beq pc 1 then some (.getfield 12, 4, 0) else none)) else (bif Nat.blt pc 7 then (bif Nat.beq pc 4 then some (.invokevirtual 32, 7, 0) else none) else (bif Nat.beq pc 7 then some (.aload_n 0, 8, 0) else none))) else (bif Nat.blt pc 14 then (bif Nat.blt pc 11 then (bif Nat.beq pc 8 then some (.getfield 21, 11, 0) else none) else (bif Nat.beq pc 11 then some (.invokevirtual 35, 14, 0) else none)) else (bif Nat.blt pc 15 then (bif Nat.beq pc 14 then some (.aload_n 0, 15, 0) else none) else (bif Nat.beq pc 15 then some (.getfield 28, 18, 0) else none)))) else (bif Nat.blt pc 26 then (bif Nat.blt pc 22 then (bif Nat.blt pc 21 then (bif Nat.beq pc 18 then some (.invokevirtual 36, 21, 0) else none) else (bif Nat.beq pc 21 then some (.aload_n 1, 22, 0) else none)) else (bif Nat.blt pc 25 then (bif Nat.beq pc 22 then some (.invokevirtual 37, 25, 0) else none) else (bif Nat.beq pc 25 then some (.iconst 0, 26, 0) else none))) else (bif Nat.blt pc 28 then (bif Nat.blt pc 27 then (bif Nat.beq pc 26 then some (.istore_n 2, 27, 0) else none) else (bif Nat.beq pc 27 then some (.iload_n 2, 28, 0) else none)) else (bif Nat.blt pc 31 then (bif Nat.beq pc 28 then some (.sipush 900, 31, 0) else none) else (bif Nat.beq pc 31 then some (.if_icmp .ge 31, 34, 62) else none))))) else (bif Nat.blt pc 50 then (bif Nat.blt pc 42 then (bif Nat.blt pc 38 then (bif Nat.blt pc 35 then (bif Nat.beq pc 34 then some (.aload_n 1, 35, 0) else none) else (bif Nat.beq pc 35 then some (.invokevirtual 42, 38, 0) else none)) else (bif Nat.blt pc 41 then (bif Nat.beq pc 38 then some (.ifCond .ne 24, 41, 62) else none) else (bif Nat.beq pc 41 then some (.aload_n 0, 42, 0) else none))) else (bif Nat.blt pc 46 then (bif Nat.blt pc 43 then (bif Nat.beq pc 42 then some (.aload_n 1, 43, 0) else none) else (bif Nat.beq pc 43 then some (.invokevirtual 46, 46, 0) else none)) else (bif Nat.blt pc 49 then (bif Nat.beq pc 46 then some (.ifCond .ne 10, 49, 56) else none) else (bif Nat.beq pc 49 then some (.iconst (-1), 50, 0) else none)))) else (bif Nat.blt pc 56 then (bif Nat.blt pc 54 then (bif Nat.blt pc 51 then (bif Nat.beq pc 50 then some (.aload_n 1, 51, 0) else none) else (bif Nat.beq pc 51 then some (.invokevirtual 50, 54, 0) else none)) else (bif Nat.blt pc 55 then (bif Nat.beq pc 54 then some (.isub, 55, 0) else none) else (bif Nat.beq pc 55 then some (.ireturn, 56, 0) else none))) else (bif Nat.blt pc 62 then (bif Nat.blt pc 59 then (bif Nat.beq pc 56 then some (.iinc 2 1, 59, 0) else none) else (bif Nat.beq pc 59 then some (.goto (-32), 62, 27) else none)) else (bif Nat.blt pc 63 then (bif Nat.beq pc 62 then some (.iload_n 2, 63, 0) else none) else (bif Nat.beq pc 63 then some (.ireturn, 64, 0) else none))))))
/-- CodeRules$Rules.takeSentence(LCodeRules$Text;)Z -/
noncomputable def am_cd_58 (pc : Nat) : Option (Instr × Nat × Nat) := (bif Nat.blt pc 41 then (bif Nat.blt pc 21 then (bif Nat.blt pc 10 then (bif Nat.blt pc 3 then (bif Nat.blt pc 1 then (bif Nat.beq pc 0 then some (.aload_n 1, 1, 0) else none) else (bif Nat.beq pc 1 then some (.ldc 54, 3, 0) else none)) else (bif Nat.blt pc 6 then (bif Nat.beq pc 3 then some (.invokevirtual 56, 6, 0) else none) else (bif Nat.blt pc 9 then (bif Nat.beq pc 6 then some (.ifCond .eq 9, 9, 15) else none) else (bif Nat.beq pc 9 then some (.aload_n 0, 10, 0) else none)))) else (bif Nat.blt pc 15 then (bif Nat.blt pc 11 then (bif Nat.beq pc 10 then some (.aload_n 1, 11, 0) else none) else (bif Nat.blt pc 14 then (bif Nat.beq pc 11 then some (.invokevirtual 60, 14, 0) else none) else (bif Nat.beq pc 14 then some (.ireturn, 15, 0) else none))) else (bif Nat.blt pc 16 then (bif Nat.beq pc 15 then some (.aload_n 1, 16, 0) else none) else (bif Nat.blt pc 18 then (bif Nat.beq pc 16 then some (.ldc 63, 18, 0) else none) else (bif Nat.beq pc 18 then some (.invokevirtual 56, 21, 0) else none))))) else (bif Nat.blt pc 30 then (bif Nat.blt pc 25 then (bif Nat.blt pc 24 then (bif Nat.beq pc 21 then some (.ifCond .eq 9, 24, 30) else none) else (bif Nat.beq pc 24 then some (.aload_n 0, 25, 0) else none)) else (bif Nat.blt pc 26 then (bif Nat.beq pc 25 then some (.aload_n 1, 26, 0) else none) else (bif Nat.blt pc 29 then (bif Nat.beq pc 26 then some (.invokevirtual 65, 29, 0) else none) else (bif Nat.beq pc 29 then some (.ireturn, 30, 0) else none)))) else (bif Nat.blt pc 36 then (bif Nat.blt pc 31 then (bif Nat.beq pc 30 then some (.aload_n 1, 31, 0) else none) else (bif Nat.blt pc 33 then (bif Nat.beq pc 31 then some (.ldc 68, 33, 0) else none) else (bif Nat.beq pc 33 then some (.invokevirtual 56, 36, 0) else none))) else (bif Nat.blt pc 39 then (bif Nat.beq pc 36 then some (.ifCond .eq 9, 39, 45) else none) else (bif Nat.blt pc 40 then (bif Nat.beq pc 39 then some (.aload_n 0, 40, 0) else none) else (bif Nat.beq pc 40 then some (.aload_n 1, 41, 0) else none)))))) else (bif Nat.blt pc 61 then (bif Nat.blt pc 51 then (bif Nat.blt pc 45 then (bif Nat.blt pc 44 then (bif Nat.beq pc 41 then some (.invokevirtual 70, 44, 0) else none) else (bif Nat.beq pc 44 then some (.ireturn, 45, 0) else none)) else (bif Nat.blt pc 46 then (bif Nat.beq pc 45 then some (.aload_n 1, 46, 0) else none) else (bif Nat.blt pc 48 then (bif Nat.beq pc 46 then some (.ldc 73, 48, 0) else none) else (bif Nat.beq pc 48 then some (.invokevirtual 56, 51, 0) else none)))) else (bif Nat.blt pc 56 then (bif Nat.blt pc 54 then (bif Nat.beq pc 51 then some (.ifCond .eq 9, 54, 60) else none) else (bif Nat.blt pc 55 then (bif Nat.beq pc 54 then some (.aload_n 0, 55, 0) else none) else (bif Nat.beq pc 55 then some (.aload_n 1, 56, 0) else none))) else (bif Nat.blt pc 59 then (bif Nat.beq pc 56 then some (.invokevirtual 75, 59, 0) else none) else (bif Nat.blt pc 60 then (bif Nat.beq pc 59 then some (.ireturn, 60, 0) else none) else (bif Nat.beq pc 60 then some (.aload_n 1, 61, 0) else none))))) else (bif Nat.blt pc 71 then (bif Nat.blt pc 66 then (bif Nat.blt pc 63 then (bif Nat.beq pc 61 then some (.ldc 78, 63, 0) else none) else (bif Nat.beq pc 63 then some (.invokevirtual 56, 66, 0) else none)) else (bif Nat.blt pc 69 then (bif Nat.beq pc 66 then some (.ifCond .eq 15, 69, 81) else none) else (bif Nat.blt pc 70 then (bif Nat.beq pc 69 then some (.aload_n 0, 70, 0) else none) else (bif Nat.beq pc 70 then some (.aload_n 1, 71, 0) else none)))) else (bif Nat.blt pc 78 then (bif Nat.blt pc 74 then (bif Nat.beq pc 71 then some (.invokevirtual 80, 74, 0) else none) else (bif Nat.blt pc 77 then (bif Nat.beq pc 74 then some (.ifCond .eq 7, 77, 81) else none) else (bif Nat.beq pc 77 then some (.iconst 1, 78, 0) else none))) else (bif Nat.blt pc 81 then (bif Nat.beq pc 78 then some (.goto 4, 81, 82) else none) else (bif Nat.blt pc 82 then (bif Nat.beq pc 81 then some (.iconst 0, 82, 0) else none) else (bif Nat.beq pc 82 then some (.ireturn, 83, 0) else none)))))))
/-- CodeRules$Rules.takeBranch(LCodeRules$Text;)Z -/
noncomputable def am_cd_59 (pc : Nat) : Option (Instr × Nat × Nat) := (bif Nat.blt pc 41 then (bif Nat.blt pc 21 then (bif Nat.blt pc 12 then (bif Nat.blt pc 7 then (bif Nat.blt pc 1 then (bif Nat.beq pc 0 then some (.aload_n 0, 1, 0) else none) else (bif Nat.blt pc 4 then (bif Nat.beq pc 1 then some (.getfield 12, 4, 0) else none) else (bif Nat.beq pc 4 then some (.invokevirtual 83, 7, 0) else none))) else (bif Nat.blt pc 10 then (bif Nat.beq pc 7 then some (.ifCond .eq 5, 10, 12) else none) else (bif Nat.blt pc 11 then (bif Nat.beq pc 10 then some (.iconst 0, 11, 0) else none) else (bif Nat.beq pc 11 then some (.ireturn, 12, 0) else none)))) else (bif Nat.blt pc 18 then (bif Nat.blt pc 13 then (bif Nat.beq pc 12 then some (.aload_n 1, 13, 0) else none) else (bif Nat.blt pc 15 then (bif Nat.beq pc 13 then some (.ldc 86, 15, 0) else none) else (bif Nat.beq pc 15 then some (.invokevirtual 87, 18, 0) else none))) else (bif Nat.blt pc 19 then (bif Nat.beq pc 18 then some (.istore_n 2, 19, 0) else none) else (bif Nat.blt pc 20 then (bif Nat.beq pc 19 then some (.iload_n 2, 20, 0) else none) else (bif Nat.beq pc 20 then some (.iconst (-1), 21, 0) else none))))) else (bif Nat.blt pc 32 then (bif Nat.blt pc 26 then (bif Nat.blt pc 24 then (bif Nat.beq pc 21 then some (.if_icmp .ne 5, 24, 26) else none) else (bif Nat.blt pc 25 then (bif Nat.beq pc 24 then some (.iconst 0, 25, 0) else none) else (bif Nat.beq pc 25 then some (.ireturn, 26, 0) else none))) else (bif Nat.blt pc 27 then (bif Nat.beq pc 26 then some (.aload_n 1, 27, 0) else none) else (bif Nat.blt pc 29 then (bif Nat.beq pc 27 then some (.bipush 10, 29, 0) else none) else (bif Nat.beq pc 29 then some (.invokevirtual 87, 32, 0) else none)))) else (bif Nat.blt pc 35 then (bif Nat.blt pc 33 then (bif Nat.beq pc 32 then some (.istore_n 3, 33, 0) else none) else (bif Nat.blt pc 34 then (bif Nat.beq pc 33 then some (.iload_n 3, 34, 0) else none) else (bif Nat.beq pc 34 then some (.iconst (-1), 35, 0) else none))) else (bif Nat.blt pc 39 then (bif Nat.blt pc 38 then (bif Nat.beq pc 35 then some (.if_icmp .ne 5, 38, 40) else none) else (bif Nat.beq pc 38 then some (.iconst 0, 39, 0) else none)) else (bif Nat.blt pc 40 then (bif Nat.beq pc 39 then some (.ireturn, 40, 0) else none) else (bif Nat.beq pc 40 then some (.aload_n 0, 41, 0) else none)))))) else (bif Nat.blt pc 64 then (bif Nat.blt pc 53 then (bif Nat.blt pc 46 then (bif Nat.blt pc 44 then (bif Nat.beq pc 41 then some (.getfield 12, 44, 0) else none) else (bif Nat.blt pc 45 then (bif Nat.beq pc 44 then some (.iload_n 2, 45, 0) else none) else (bif Nat.beq pc 45 then some (.iload_n 3, 46, 0) else none))) else (bif Nat.blt pc 49 then (bif Nat.beq pc 46 then some (.invokevirtual 91, 49, 0) else none) else (bif Nat.blt pc 50 then (bif Nat.beq pc 49 then some (.aload_n 1, 50, 0) else none) else (bif Nat.beq pc 50 then some (.invokevirtual 95, 53, 0) else none)))) else (bif Nat.blt pc 58 then (bif Nat.blt pc 54 then (bif Nat.beq pc 53 then some (.iconst 0, 54, 0) else none) else (bif Nat.blt pc 56 then (bif Nat.beq pc 54 then some (.istore 4, 56, 0) else none) else (bif Nat.beq pc 56 then some (.iload 4, 58, 0) else none))) else (bif Nat.blt pc 60 then (bif Nat.beq pc 58 then some (.bipush 60, 60, 0) else none) else (bif Nat.blt pc 63 then (bif Nat.beq pc 60 then some (.if_icmp .gt 28, 63, 88) else none) else (bif Nat.beq pc 63 then some (.aload_n 1, 64, 0) else none))))) else (bif Nat.blt pc 77 then (bif Nat.blt pc 72 then (bif Nat.blt pc 66 then (bif Nat.beq pc 64 then some (.ldc 98, 66, 0) else none) else (bif Nat.blt pc 69 then (bif Nat.beq pc 66 then some (.invokevirtual 56, 69, 0) else none) else (bif Nat.beq pc 69 then some (.ifCond .eq 19, 72, 88) else none))) else (bif Nat.blt pc 73 then (bif Nat.beq pc 72 then some (.aload_n 0, 73, 0) else none) else (bif Nat.blt pc 74 then (bif Nat.beq pc 73 then some (.aload_n 1, 74, 0) else none) else (bif Nat.beq pc 74 then some (.invokevirtual 100, 77, 0) else none)))) else (bif Nat.blt pc 82 then (bif Nat.blt pc 80 then (bif Nat.beq pc 77 then some (.ifCond .ne 5, 80, 82) else none) else (bif Nat.blt pc 81 then (bif Nat.beq pc 80 then some (.iconst 0, 81, 0) else none) else (bif Nat.beq pc 81 then some (.ireturn, 82, 0) else none))) else (bif Nat.blt pc 88 then (bif Nat.blt pc 85 then (bif Nat.beq pc 82 then some (.iinc 4 1, 85, 0) else none) else (bif Nat.beq pc 85 then some (.goto (-29), 88, 56) else none)) else (bif Nat.blt pc 89 then (bif Nat.beq pc 88 then some (.iconst 1, 89, 0) else none) else (bif Nat.beq pc 89 then some (.ireturn, 90, 0) else none)))))))
/-- CodeRules$Rules.takeCondition(LCodeRules$Text;)Z -/
noncomputable def am_cd_60 (pc : Nat) : Option (Instr × Nat × Nat) := (bif Nat.blt pc 51 then (bif Nat.blt pc 24 then (bif Nat.blt pc 12 then (bif Nat.blt pc 7 then (bif Nat.blt pc 1 then (bif Nat.beq pc 0 then some (.aload_n 0, 1, 0) else none) else (bif Nat.blt pc 4 then (bif Nat.beq pc 1 then some (.getfield 12, 4, 0) else none) else (bif Nat.beq pc 4 then some (.invokevirtual 103, 7, 0) else none))) else (bif Nat.blt pc 10 then (bif Nat.beq pc 7 then some (.ifCond .eq 5, 10, 12) else none) else (bif Nat.blt pc 11 then (bif Nat.beq pc 10 then some (.iconst 0, 11, 0) else none) else (bif Nat.beq pc 11 then some (.ireturn, 12, 0) else none)))) else (bif Nat.blt pc 18 then (bif Nat.blt pc 13 then (bif Nat.beq pc 12 then some (.aload_n 1, 13, 0) else none) else (bif Nat.blt pc 15 then (bif Nat.beq pc 13 then some (.bipush 10, 15, 0) else none) else (bif Nat.beq pc 15 then some (.invokevirtual 87, 18, 0) else none))) else (bif Nat.blt pc 20 then (bif Nat.blt pc 19 then (bif Nat.beq pc 18 then some (.istore_n 2, 19, 0) else none) else (bif Nat.beq pc 19 then some (.iload_n 2, 20, 0) else none)) else (bif Nat.blt pc 21 then (bif Nat.beq pc 20 then some (.iconst (-1), 21, 0) else none) else (bif Nat.beq pc 21 then some (.if_icmp .ne 5, 24, 26) else none))))) else (bif Nat.blt pc 36 then (bif Nat.blt pc 27 then (bif Nat.blt pc 25 then (bif Nat.beq pc 24 then some (.iconst 0, 25, 0) else none) else (bif Nat.blt pc 26 then (bif Nat.beq pc 25 then some (.ireturn, 26, 0) else none) else (bif Nat.beq pc 26 then some (.aload_n 1, 27, 0) else none))) else (bif Nat.blt pc 31 then (bif Nat.blt pc 30 then (bif Nat.beq pc 27 then some (.invokevirtual 95, 30, 0) else none) else (bif Nat.beq pc 30 then some (.aload_n 1, 31, 0) else none)) else (bif Nat.blt pc 33 then (bif Nat.beq pc 31 then some (.ldc 106, 33, 0) else none) else (bif Nat.beq pc 33 then some (.invokevirtual 56, 36, 0) else none)))) else (bif Nat.blt pc 42 then (bif Nat.blt pc 39 then (bif Nat.beq pc 36 then some (.ifCond .ne 23, 39, 59) else none) else (bif Nat.blt pc 40 then (bif Nat.beq pc 39 then some (.aload_n 1, 40, 0) else none) else (bif Nat.beq pc 40 then some (.ldc 108, 42, 0) else none))) else (bif Nat.blt pc 48 then (bif Nat.blt pc 45 then (bif Nat.beq pc 42 then some (.invokevirtual 56, 45, 0) else none) else (bif Nat.beq pc 45 then some (.ifCond .ne 14, 48, 59) else none)) else (bif Nat.blt pc 49 then (bif Nat.beq pc 48 then some (.aload_n 1, 49, 0) else none) else (bif Nat.beq pc 49 then some (.ldc 110, 51, 0) else none)))))) else (bif Nat.blt pc 75 then (bif Nat.blt pc 61 then (bif Nat.blt pc 58 then (bif Nat.blt pc 54 then (bif Nat.beq pc 51 then some (.invokevirtual 56, 54, 0) else none) else (bif Nat.blt pc 57 then (bif Nat.beq pc 54 then some (.ifCond .ne 5, 57, 59) else none) else (bif Nat.beq pc 57 then some (.iconst 0, 58, 0) else none))) else (bif Nat.blt pc 59 then (bif Nat.beq pc 58 then some (.ireturn, 59, 0) else none) else (bif Nat.blt pc 60 then (bif Nat.beq pc 59 then some (.aload_n 1, 60, 0) else none) else (bif Nat.beq pc 60 then some (.iconst 0, 61, 0) else none)))) else (bif Nat.blt pc 66 then (bif Nat.blt pc 64 then (bif Nat.beq pc 61 then some (.invokevirtual 112, 64, 0) else none) else (bif Nat.blt pc 65 then (bif Nat.beq pc 64 then some (.istore_n 3, 65, 0) else none) else (bif Nat.beq pc 65 then some (.aload_n 1, 66, 0) else none))) else (bif Nat.blt pc 71 then (bif Nat.blt pc 68 then (bif Nat.beq pc 66 then some (.ldc 86, 68, 0) else none) else (bif Nat.beq pc 68 then some (.invokevirtual 87, 71, 0) else none)) else (bif Nat.blt pc 73 then (bif Nat.beq pc 71 then some (.istore 4, 73, 0) else none) else (bif Nat.beq pc 73 then some (.iload 4, 75, 0) else none))))) else (bif Nat.blt pc 86 then (bif Nat.blt pc 80 then (bif Nat.blt pc 76 then (bif Nat.beq pc 75 then some (.iconst (-1), 76, 0) else none) else (bif Nat.blt pc 79 then (bif Nat.beq pc 76 then some (.if_icmp .ne 5, 79, 81) else none) else (bif Nat.beq pc 79 then some (.iconst 0, 80, 0) else none))) else (bif Nat.blt pc 82 then (bif Nat.blt pc 81 then (bif Nat.beq pc 80 then some (.ireturn, 81, 0) else none) else (bif Nat.beq pc 81 then some (.aload_n 0, 82, 0) else none)) else (bif Nat.blt pc 85 then (bif Nat.beq pc 82 then some (.getfield 12, 85, 0) else none) else (bif Nat.beq pc 85 then some (.iload_n 2, 86, 0) else none)))) else (bif Nat.blt pc 92 then (bif Nat.blt pc 87 then (bif Nat.beq pc 86 then some (.iload_n 3, 87, 0) else none) else (bif Nat.blt pc 89 then (bif Nat.beq pc 87 then some (.iload 4, 89, 0) else none) else (bif Nat.beq pc 89 then some (.invokevirtual 115, 92, 0) else none))) else (bif Nat.blt pc 96 then (bif Nat.blt pc 93 then (bif Nat.beq pc 92 then some (.aload_n 1, 93, 0) else none) else (bif Nat.beq pc 93 then some (.invokevirtual 95, 96, 0) else none)) else (bif Nat.blt pc 97 then (bif Nat.beq pc 96 then some (.iconst 1, 97, 0) else none) else (bif Nat.beq pc 97 then some (.ireturn, 98, 0) else none)))))))
/-- CodeRules$Rules.takeGeneral(LCodeRules$Text;)Z -/
noncomputable def am_cd_61 (pc : Nat) : Option (Instr × Nat × Nat) := (bif Nat.blt pc 20 then (bif Nat.blt pc 11 then (bif Nat.blt pc 4 then (bif Nat.blt pc 1 then (bif Nat.beq pc 0 then some (.aload_n 0, 1, 0) else none) else (bif Nat.beq pc 1 then some (.getfield 21, 4, 0) else none)) else (bif Nat.blt pc 7 then (bif Nat.beq pc 4 then some (.invokevirtual 119, 7, 0) else none) else (bif Nat.blt pc 10 then (bif Nat.beq pc 7 then some (.ifCond .eq 5, 10, 12) else none) else (bif Nat.beq pc 10 then some (.iconst 0, 11, 0) else none)))) else (bif Nat.blt pc 15 then (bif Nat.blt pc 12 then (bif Nat.beq pc 11 then some (.ireturn, 12, 0) else none) else (bif Nat.blt pc 13 then (bif Nat.beq pc 12 then some (.aload_n 1, 13, 0) else none) else (bif Nat.beq pc 13 then some (.ldc 86, 15, 0) else none))) else (bif Nat.blt pc 18 then (bif Nat.beq pc 15 then some (.invokevirtual 87, 18, 0) else none) else (bif Nat.blt pc 19 then (bif Nat.beq pc 18 then some (.istore_n 2, 19, 0) else none) else (bif Nat.beq pc 19 then some (.iload_n 2, 20, 0) else none))))) else (bif Nat.blt pc 30 then (bif Nat.blt pc 25 then (bif Nat.blt pc 21 then (bif Nat.beq pc 20 then some (.iconst (-1), 21, 0) else none) else (bif Nat.blt pc 24 then (bif Nat.beq pc 21 then some (.if_icmp .ne 5, 24, 26) else none) else (bif Nat.beq pc 24 then some (.iconst 0, 25, 0) else none))) else (bif Nat.blt pc 26 then (bif Nat.beq pc 25 then some (.ireturn, 26, 0) else none) else (bif Nat.blt pc 27 then (bif Nat.beq pc 26 then some (.aload_n 0, 27, 0) else none) else (bif Nat.beq pc 27 then some (.getfield 21, 30, 0) else none)))) else (bif Nat.blt pc 35 then (bif Nat.blt pc 31 then (bif Nat.beq pc 30 then some (.iload_n 2, 31, 0) else none) else (bif Nat.blt pc 34 then (bif Nat.beq pc 31 then some (.invokevirtual 122, 34, 0) else none) else (bif Nat.beq pc 34 then some (.aload_n 1, 35, 0) else none))) else (bif Nat.blt pc 38 then (bif Nat.beq pc 35 then some (.invokevirtual 95, 38, 0) else none) else (bif Nat.blt pc 39 then (bif Nat.beq pc 38 then some (.iconst 1, 39, 0) else none) else (bif Nat.beq pc 39 then some (.ireturn, 40, 0) else none))))))
/-- CodeRules$Rules.takeMirror(LCodeRules$Text;)Z -/
noncomputable def am_cd_62 (pc : Nat) : Option (Instr × Nat × Nat) := (bif Nat.blt pc 43 then (bif Nat.blt pc 20 then (bif Nat.blt pc 11 then (bif Nat.blt pc 4 then (bif Nat.blt pc 1 then (bif Nat.beq pc 0 then some (.aload_n 0, 1, 0) else none) else (bif Nat.beq pc 1 then some (.getfield 21, 4, 0) else none)) else (bif Nat.blt pc 7 then (bif Nat.beq pc 4 then some (.invokevirtual 126, 7, 0) else none) else (bif Nat.blt pc 10 then (bif Nat.beq pc 7 then some (.ifCond .eq 5, 10, 12) else none) else (bif Nat.beq pc 10 then some (.iconst 0, 11, 0) else none)))) else (bif Nat.blt pc 15 then (bif Nat.blt pc 12 then (bif Nat.beq pc 11 then some (.ireturn, 12, 0) else none) else (bif Nat.blt pc 13 then (bif Nat.beq pc 12 then some (.aload_n 1, 13, 0) else none) else (bif Nat.beq pc 13 then some (.ldc 86, 15, 0) else none))) else (bif Nat.blt pc 18 then (bif Nat.beq pc 15 then some (.invokevirtual 87, 18, 0) else none) else (bif Nat.blt pc 19 then (bif Nat.beq pc 18 then some (.istore_n 2, 19, 0) else none) else (bif Nat.beq pc 19 then some (.iload_n 2, 20, 0) else none))))) else (bif Nat.blt pc 32 then (bif Nat.blt pc 25 then (bif Nat.blt pc 21 then (bif Nat.beq pc 20 then some (.iconst (-1), 21, 0) else none) else (bif Nat.blt pc 24 then (bif Nat.beq pc 21 then some (.if_icmp .eq 14, 24, 35) else none) else (bif Nat.beq pc 24 then some (.aload_n 0, 25, 0) else none))) else (bif Nat.blt pc 28 then (bif Nat.beq pc 25 then some (.getfield 21, 28, 0) else none) else (bif Nat.blt pc 29 then (bif Nat.beq pc 28 then some (.iload_n 2, 29, 0) else none) else (bif Nat.beq pc 29 then some (.invokevirtual 129, 32, 0) else none)))) else (bif Nat.blt pc 37 then (bif Nat.blt pc 35 then (bif Nat.beq pc 32 then some (.ifCond .eq 5, 35, 37) else none) else (bif Nat.blt pc 36 then (bif Nat.beq pc 35 then some (.iconst 0, 36, 0) else none) else (bif Nat.beq pc 36 then some (.ireturn, 37, 0) else none))) else (bif Nat.blt pc 38 then (bif Nat.beq pc 37 then some (.aload_n 1, 38, 0) else none) else (bif Nat.blt pc 40 then (bif Nat.beq pc 38 then some (.ldc 86, 40, 0) else none) else (bif Nat.beq pc 40 then some (.invokevirtual 87, 43, 0) else none)))))) else (bif Nat.blt pc 62 then (bif Nat.blt pc 50 then (bif Nat.blt pc 45 then (bif Nat.blt pc 44 then (bif Nat.beq pc 43 then some (.istore_n 3, 44, 0) else none) else (bif Nat.beq pc 44 then some (.iload_n 3, 45, 0) else none)) else (bif Nat.blt pc 46 then (bif Nat.beq pc 45 then some (.iconst (-1), 46, 0) else none) else (bif Nat.blt pc 49 then (bif Nat.beq pc 46 then some (.if_icmp .eq 19, 49, 65) else none) else (bif Nat.beq pc 49 then some (.iload_n 3, 50, 0) else none)))) else (bif Nat.blt pc 55 then (bif Nat.blt pc 51 then (bif Nat.beq pc 50 then some (.iload_n 2, 51, 0) else none) else (bif Nat.blt pc 54 then (bif Nat.beq pc 51 then some (.if_icmp .eq 14, 54, 65) else none) else (bif Nat.beq pc 54 then some (.aload_n 0, 55, 0) else none))) else (bif Nat.blt pc 58 then (bif Nat.beq pc 55 then some (.getfield 21, 58, 0) else none) else (bif Nat.blt pc 59 then (bif Nat.beq pc 58 then some (.iload_n 3, 59, 0) else none) else (bif Nat.beq pc 59 then some (.invokevirtual 129, 62, 0) else none))))) else (bif Nat.blt pc 72 then (bif Nat.blt pc 67 then (bif Nat.blt pc 65 then (bif Nat.beq pc 62 then some (.ifCond .eq 5, 65, 67) else none) else (bif Nat.blt pc 66 then (bif Nat.beq pc 65 then some (.iconst 0, 66, 0) else none) else (bif Nat.beq pc 66 then some (.ireturn, 67, 0) else none))) else (bif Nat.blt pc 68 then (bif Nat.beq pc 67 then some (.aload_n 0, 68, 0) else none) else (bif Nat.blt pc 71 then (bif Nat.beq pc 68 then some (.getfield 21, 71, 0) else none) else (bif Nat.beq pc 71 then some (.iload_n 2, 72, 0) else none)))) else (bif Nat.blt pc 77 then (bif Nat.blt pc 73 then (bif Nat.beq pc 72 then some (.iload_n 3, 73, 0) else none) else (bif Nat.blt pc 76 then (bif Nat.beq pc 73 then some (.invokevirtual 133, 76, 0) else none) else (bif Nat.beq pc 76 then some (.aload_n 1, 77, 0) else none))) else (bif Nat.blt pc 80 then (bif Nat.beq pc 77 then some (.invokevirtual 95, 80, 0) else none) else (bif Nat.blt pc 81 then (bif Nat.beq pc 80 then some (.iconst 1, 81, 0) else none) else (bif Nat.beq pc 81 then some (.ireturn, 82, 0) else none)))))))
/-- CodeRules$Rules.takeMap(LCodeRules$Text;)Z -/
noncomputable def am_cd_63 (pc : Nat) : Option (Instr × Nat × Nat) := (bif Nat.blt pc 43 then (bif Nat.blt pc 24 then (bif Nat.blt pc 12 then (bif Nat.blt pc 7 then (bif Nat.blt pc 1 then (bif Nat.beq pc 0 then some (.aload_n 0, 1, 0) else none) else (bif Nat.blt pc 4 then (bif Nat.beq pc 1 then some (.getfield 21, 4, 0) else none) else (bif Nat.beq pc 4 then some (.invokevirtual 136, 7, 0) else none))) else (bif Nat.blt pc 10 then (bif Nat.beq pc 7 then some (.ifCond .eq 5, 10, 12) else none) else (bif Nat.blt pc 11 then (bif Nat.beq pc 10 then some (.iconst 0, 11, 0) else none) else (bif Nat.beq pc 11 then some (.ireturn, 12, 0) else none)))) else (bif Nat.blt pc 18 then (bif Nat.blt pc 13 then (bif Nat.beq pc 12 then some (.aload_n 1, 13, 0) else none) else (bif Nat.blt pc 15 then (bif Nat.beq pc 13 then some (.ldc 86, 15, 0) else none) else (bif Nat.beq pc 15 then some (.invokevirtual 87, 18, 0) else none))) else (bif Nat.blt pc 20 then (bif Nat.blt pc 19 then (bif Nat.beq pc 18 then some (.istore_n 2, 19, 0) else none) else (bif Nat.beq pc 19 then some (.iload_n 2, 20, 0) else none)) else (bif Nat.blt pc 21 then (bif Nat.beq pc 20 then some (.iconst (-1), 21, 0) else none) else (bif Nat.beq pc 21 then some (.if_icmp .ne 5, 24, 26) else none))))) else (bif Nat.blt pc 33 then (bif Nat.blt pc 27 then (bif Nat.blt pc 25 then (bif Nat.beq pc 24 then some (.iconst 0, 25, 0) else none) else (bif Nat.blt pc 26 then (bif Nat.beq pc 25 then some (.ireturn, 26, 0) else none) else (bif Nat.beq pc 26 then some (.aload_n 1, 27, 0) else none))) else (bif Nat.blt pc 29 then (bif Nat.beq pc 27 then some (.bipush 10, 29, 0) else none) else (bif Nat.blt pc 32 then (bif Nat.beq pc 29 then some (.invokevirtual 87, 32, 0) else none) else (bif Nat.beq pc 32 then some (.istore_n 3, 33, 0) else none)))) else (bif Nat.blt pc 38 then (bif Nat.blt pc 34 then (bif Nat.beq pc 33 then some (.iload_n 3, 34, 0) else none) else (bif Nat.blt pc 35 then (bif Nat.beq pc 34 then some (.iconst (-1), 35, 0) else none) else (bif Nat.beq pc 35 then some (.if_icmp .ne 5, 38, 40) else none))) else (bif Nat.blt pc 40 then (bif Nat.blt pc 39 then (bif Nat.beq pc 38 then some (.iconst 0, 39, 0) else none) else (bif Nat.beq pc 39 then some (.ireturn, 40, 0) else none)) else (bif Nat.blt pc 41 then (bif Nat.beq pc 40 then some (.aload_n 1, 41, 0) else none) else (bif Nat.beq pc 41 then some (.ldc 86, 43, 0) else none)))))) else (bif Nat.blt pc 67 then (bif Nat.blt pc 55 then (bif Nat.blt pc 50 then (bif Nat.blt pc 46 then (bif Nat.beq pc 43 then some (.invokevirtual 87, 46, 0) else none) else (bif Nat.blt pc 48 then (bif Nat.beq pc 46 then some (.istore 4, 48, 0) else none) else (bif Nat.beq pc 48 then some (.iload 4, 50, 0) else none))) else (bif Nat.blt pc 51 then (bif Nat.beq pc 50 then some (.iconst (-1), 51, 0) else none) else (bif Nat.blt pc 54 then (bif Nat.beq pc 51 then some (.if_icmp .ne 5, 54, 56) else none) else (bif Nat.beq pc 54 then some (.iconst 0, 55, 0) else none)))) else (bif Nat.blt pc 59 then (bif Nat.blt pc 56 then (bif Nat.beq pc 55 then some (.ireturn, 56, 0) else none) else (bif Nat.blt pc 57 then (bif Nat.beq pc 56 then some (.aload_n 1, 57, 0) else none) else (bif Nat.beq pc 57 then some (.ldc 86, 59, 0) else none))) else (bif Nat.blt pc 64 then (bif Nat.blt pc 62 then (bif Nat.beq pc 59 then some (.invokevirtual 87, 62, 0) else none) else (bif Nat.beq pc 62 then some (.istore 5, 64, 0) else none)) else (bif Nat.blt pc 66 then (bif Nat.beq pc 64 then some (.iload 5, 66, 0) else none) else (bif Nat.beq pc 66 then some (.iconst (-1), 67, 0) else none))))) else (bif Nat.blt pc 78 then (bif Nat.blt pc 72 then (bif Nat.blt pc 70 then (bif Nat.beq pc 67 then some (.if_icmp .ne 5, 70, 72) else none) else (bif Nat.blt pc 71 then (bif Nat.beq pc 70 then some (.iconst 0, 71, 0) else none) else (bif Nat.beq pc 71 then some (.ireturn, 72, 0) else none))) else (bif Nat.blt pc 76 then (bif Nat.blt pc 73 then (bif Nat.beq pc 72 then some (.aload_n 0, 73, 0) else none) else (bif Nat.beq pc 73 then some (.getfield 21, 76, 0) else none)) else (bif Nat.blt pc 77 then (bif Nat.beq pc 76 then some (.iload_n 2, 77, 0) else none) else (bif Nat.beq pc 77 then some (.iload_n 3, 78, 0) else none)))) else (bif Nat.blt pc 85 then (bif Nat.blt pc 80 then (bif Nat.beq pc 78 then some (.iload 4, 80, 0) else none) else (bif Nat.blt pc 82 then (bif Nat.beq pc 80 then some (.iload 5, 82, 0) else none) else (bif Nat.beq pc 82 then some (.invokevirtual 139, 85, 0) else none))) else (bif Nat.blt pc 89 then (bif Nat.blt pc 86 then (bif Nat.beq pc 85 then some (.aload_n 1, 86, 0) else none) else (bif Nat.beq pc 86 then some (.invokevirtual 95, 89, 0) else none)) else (bif Nat.blt pc 90 then (bif Nat.beq pc 89 then some (.iconst 1, 90, 0) else none) else (bif Nat.beq pc 90 then some (.ireturn, 91, 0) else none)))))))
/-- CodeRules$Rules.takeName(LCodeRules$Text;)Z -/
noncomputable def am_cd_64 (pc : Nat) : Option (Instr × Nat × Nat) := (bif Nat.blt pc 31 then (bif Nat.blt pc 18 then (bif Nat.blt pc 10 then (bif Nat.blt pc 4 then (bif Nat.blt pc 1 then (bif Nat.beq pc 0 then some (.aload_n 0, 1, 0) else none) else (bif Nat.beq pc 1 then some (.getfield 28, 4, 0) else none)) else (bif Nat.blt pc 7 then (bif Nat.beq pc 4 then some (.invokevirtual 143, 7, 0) else none) else (bif Nat.beq pc 7 then some (.ifCond .eq 5, 10, 12) else none))) else (bif Nat.blt pc 12 then (bif Nat.blt pc 11 then (bif Nat.beq pc 10 then some (.iconst 0, 11, 0) else none) else (bif Nat.beq pc 11 then some (.ireturn, 12, 0) else none)) else (bif Nat.blt pc 13 then (bif Nat.beq pc 12 then some (.aload_n 1, 13, 0) else none) else (bif Nat.blt pc 15 then (bif Nat.beq pc 13 then some (.ldc 86, 15, 0) else none) else (bif Nat.beq pc 15 then some (.invokevirtual 87, 18, 0) else none))))) else (bif Nat.blt pc 24 then (bif Nat.blt pc 20 then (bif Nat.blt pc 19 then (bif Nat.beq pc 18 then some (.istore_n 2, 19, 0) else none) else (bif Nat.beq pc 19 then some (.iload_n 2, 20, 0) else none)) else (bif Nat.blt pc 21 then (bif Nat.beq pc 20 then some (.iconst (-1), 21, 0) else none) else (bif Nat.beq pc 21 then some (.if_icmp .ne 5, 24, 26) else none))) else (bif Nat.blt pc 26 then (bif Nat.blt pc 25 then (bif Nat.beq pc 24 then some (.iconst 0, 25, 0) else none) else (bif Nat.beq pc 25 then some (.ireturn, 26, 0) else none)) else (bif Nat.blt pc 27 then (bif Nat.beq pc 26 then some (.aload_n 1, 27, 0) else none) else (bif Nat.blt pc 30 then (bif Nat.beq pc 27 then some (.invokevirtual 95, 30, 0) else none) else (bif Nat.beq pc 30 then some (.aload_n 1, 31, 0) else none)))))) else (bif Nat.blt pc 50 then (bif Nat.blt pc 41 then (bif Nat.blt pc 37 then (bif Nat.blt pc 34 then (bif Nat.beq pc 31 then some (.invokevirtual 144, 34, 0) else none) else (bif Nat.beq pc 34 then some (.ifCond .eq 14, 37, 48) else none)) else (bif Nat.blt pc 38 then (bif Nat.beq pc 37 then some (.aload_n 0, 38, 0) else none) else (bif Nat.beq pc 38 then some (.getfield 28, 41, 0) else none))) else (bif Nat.blt pc 45 then (bif Nat.blt pc 42 then (bif Nat.beq pc 41 then some (.aload_n 1, 42, 0) else none) else (bif Nat.beq pc 42 then some (.invokevirtual 147, 45, 0) else none)) else (bif Nat.blt pc 48 then (bif Nat.beq pc 45 then some (.ifCond .eq 5, 48, 50) else none) else (bif Nat.blt pc 49 then (bif Nat.beq pc 48 then some (.iconst 0, 49, 0) else none) else (bif Nat.beq pc 49 then some (.ireturn, 50, 0) else none))))) else (bif Nat.blt pc 56 then (bif Nat.blt pc 54 then (bif Nat.blt pc 51 then (bif Nat.beq pc 50 then some (.aload_n 0, 51, 0) else none) else (bif Nat.beq pc 51 then some (.getfield 28, 54, 0) else none)) else (bif Nat.blt pc 55 then (bif Nat.beq pc 54 then some (.iload_n 2, 55, 0) else none) else (bif Nat.beq pc 55 then some (.aload_n 1, 56, 0) else none))) else (bif Nat.blt pc 60 then (bif Nat.blt pc 59 then (bif Nat.beq pc 56 then some (.invokevirtual 150, 59, 0) else none) else (bif Nat.beq pc 59 then some (.aload_n 1, 60, 0) else none)) else (bif Nat.blt pc 63 then (bif Nat.beq pc 60 then some (.invokevirtual 95, 63, 0) else none) else (bif Nat.blt pc 64 then (bif Nat.beq pc 63 then some (.iconst 1, 64, 0) else none) else (bif Nat.beq pc 64 then some (.ireturn, 65, 0) else none)))))))
/-- CodeRules$Rules.outcome(LCodeRules$Facts;)I -/
noncomputable def am_cd_65 (pc : Nat) : Option (Instr × Nat × Nat) := (bif Nat.blt pc 32 then (bif Nat.blt pc 13 then (bif Nat.blt pc 4 then (bif Nat.blt pc 2 then (bif Nat.blt pc 1 then (bif Nat.beq pc 0 then some (.aload_n 0, 1, 0) else none) else (bif Nat.beq pc 1 then some (.iconst 0, 2, 0) else none)) else (bif Nat.blt pc 3 then (bif Nat.beq pc 2 then some (.iconst (-1), 3, 0) else none) else (bif Nat.beq pc 3 then some (.aload_n 1, 4, 0) else none))) else (bif Nat.blt pc 8 then (bif Nat.blt pc 7 then (bif Nat.beq pc 4 then some (.invokevirtual 153, 7, 0) else none) else (bif Nat.beq pc 7 then some (.istore_n 2, 8, 0) else none)) else (bif Nat.blt pc 9 then (bif Nat.beq pc 8 then some (.iload_n 2, 9, 0) else none) else (bif Nat.blt pc 12 then (bif Nat.beq pc 9 then some (.ifCond .lt 21, 12, 30) else none) else (bif Nat.beq pc 12 then some (.aload_n 0, 13, 0) else none))))) else (bif Nat.blt pc 21 then (bif Nat.blt pc 17 then (bif Nat.blt pc 16 then (bif Nat.beq pc 13 then some (.getfield 21, 16, 0) else none) else (bif Nat.beq pc 16 then some (.aload_n 0, 17, 0) else none)) else (bif Nat.blt pc 20 then (bif Nat.beq pc 17 then some (.getfield 12, 20, 0) else none) else (bif Nat.beq pc 20 then some (.iload_n 2, 21, 0) else none))) else (bif Nat.blt pc 27 then (bif Nat.blt pc 24 then (bif Nat.beq pc 21 then some (.invokevirtual 157, 24, 0) else none) else (bif Nat.beq pc 24 then some (.invokevirtual 160, 27, 0) else none)) else (bif Nat.blt pc 30 then (bif Nat.beq pc 27 then some (.ifCond .ne 5, 30, 32) else none) else (bif Nat.blt pc 31 then (bif Nat.beq pc 30 then some (.iload_n 2, 31, 0) else none) else (bif Nat.beq pc 31 then some (.ireturn, 32, 0) else none)))))) else (bif Nat.blt pc 45 then (bif Nat.blt pc 36 then (bif Nat.blt pc 34 then (bif Nat.blt pc 33 then (bif Nat.beq pc 32 then some (.aload_n 0, 33, 0) else none) else (bif Nat.beq pc 33 then some (.iload_n 2, 34, 0) else none)) else (bif Nat.blt pc 35 then (bif Nat.beq pc 34 then some (.iconst 1, 35, 0) else none) else (bif Nat.beq pc 35 then some (.iadd, 36, 0) else none))) else (bif Nat.blt pc 40 then (bif Nat.blt pc 37 then (bif Nat.beq pc 36 then some (.aload_n 0, 37, 0) else none) else (bif Nat.beq pc 37 then some (.getfield 12, 40, 0) else none)) else (bif Nat.blt pc 41 then (bif Nat.beq pc 40 then some (.iload_n 2, 41, 0) else none) else (bif Nat.blt pc 44 then (bif Nat.beq pc 41 then some (.invokevirtual 163, 44, 0) else none) else (bif Nat.beq pc 44 then some (.aload_n 1, 45, 0) else none))))) else (bif Nat.blt pc 51 then (bif Nat.blt pc 49 then (bif Nat.blt pc 48 then (bif Nat.beq pc 45 then some (.invokevirtual 153, 48, 0) else none) else (bif Nat.beq pc 48 then some (.istore_n 3, 49, 0) else none)) else (bif Nat.blt pc 50 then (bif Nat.beq pc 49 then some (.iload_n 3, 50, 0) else none) else (bif Nat.beq pc 50 then some (.iconst (-1), 51, 0) else none))) else (bif Nat.blt pc 55 then (bif Nat.blt pc 54 then (bif Nat.beq pc 51 then some (.if_icmp .ne 7, 54, 58) else none) else (bif Nat.beq pc 54 then some (.iload_n 2, 55, 0) else none)) else (bif Nat.blt pc 58 then (bif Nat.beq pc 55 then some (.goto 4, 58, 59) else none) else (bif Nat.blt pc 59 then (bif Nat.beq pc 58 then some (.iload_n 3, 59, 0) else none) else (bif Nat.beq pc 59 then some (.ireturn, 60, 0) else none)))))))
/-- CodeRules$Rules.firstFit(IILCodeRules$Facts;)I -/
noncomputable def am_cd_66 (pc : Nat) : Option (Instr × Nat × Nat) := (bif Nat.blt pc 34 then (bif Nat.blt pc 16 then (bif Nat.blt pc 6 then (bif Nat.blt pc 3 then (bif Nat.blt pc 1 then (bif Nat.beq pc 0 then some (.iload_n 1, 1, 0) else none) else (bif Nat.beq pc 1 then some (.istore 4, 3, 0) else none)) else (bif Nat.blt pc 5 then (bif Nat.beq pc 3 then some (.iload 4, 5, 0) else none) else (bif Nat.beq pc 5 then some (.aload_n 0, 6, 0) else none))) else (bif Nat.blt pc 12 then (bif Nat.blt pc 9 then (bif Nat.beq pc 6 then some (.getfield 12, 9, 0) else none) else (bif Nat.beq pc 9 then some (.invokevirtual 166, 12, 0) else none)) else (bif Nat.blt pc 15 then (bif Nat.beq pc 12 then some (.if_icmp .ge 55, 15, 67) else none) else (bif Nat.beq pc 15 then some (.iload_n 2, 16, 0) else none)))) else (bif Nat.blt pc 23 then (bif Nat.blt pc 20 then (bif Nat.blt pc 17 then (bif Nat.beq pc 16 then some (.iconst (-1), 17, 0) else none) else (bif Nat.beq pc 17 then some (.if_icmp .eq 13, 20, 30) else none)) else (bif Nat.blt pc 21 then (bif Nat.beq pc 20 then some (.aload_n 0, 21, 0) else none) else (bif Nat.beq pc 21 then some (.iload 4, 23, 0) else none))) else (bif Nat.blt pc 27 then (bif Nat.blt pc 24 then (bif Nat.beq pc 23 then some (.iload_n 2, 24, 0) else none) else (bif Nat.beq pc 24 then some (.invokevirtual 169, 27, 0) else none)) else (bif Nat.blt pc 30 then (bif Nat.beq pc 27 then some (.ifCond .eq 34, 30, 61) else none) else (bif Nat.blt pc 31 then (bif Nat.beq pc 30 then some (.aload_n 0, 31, 0) else none) else (bif Nat.beq pc 31 then some (.getfield 12, 34, 0) else none)))))) else (bif Nat.blt pc 50 then (bif Nat.blt pc 42 then (bif Nat.blt pc 37 then (bif Nat.blt pc 36 then (bif Nat.beq pc 34 then some (.iload 4, 36, 0) else none) else (bif Nat.beq pc 36 then some (.aload_n 3, 37, 0) else none)) else (bif Nat.blt pc 40 then (bif Nat.beq pc 37 then some (.invokevirtual 173, 40, 0) else none) else (bif Nat.beq pc 40 then some (.istore 5, 42, 0) else none))) else (bif Nat.blt pc 47 then (bif Nat.blt pc 44 then (bif Nat.beq pc 42 then some (.iload 5, 44, 0) else none) else (bif Nat.beq pc 44 then some (.ifCond .eq 17, 47, 61) else none)) else (bif Nat.blt pc 49 then (bif Nat.beq pc 47 then some (.iload 5, 49, 0) else none) else (bif Nat.beq pc 49 then some (.iconst 1, 50, 0) else none)))) else (bif Nat.blt pc 60 then (bif Nat.blt pc 55 then (bif Nat.blt pc 53 then (bif Nat.beq pc 50 then some (.if_icmp .ne 8, 53, 58) else none) else (bif Nat.beq pc 53 then some (.iload 4, 55, 0) else none)) else (bif Nat.blt pc 58 then (bif Nat.beq pc 55 then some (.goto 5, 58, 60) else none) else (bif Nat.beq pc 58 then some (.iload 5, 60, 0) else none))) else (bif Nat.blt pc 64 then (bif Nat.blt pc 61 then (bif Nat.beq pc 60 then some (.ireturn, 61, 0) else none) else (bif Nat.beq pc 61 then some (.iinc 4 1, 64, 0) else none)) else (bif Nat.blt pc 67 then (bif Nat.beq pc 64 then some (.goto (-61), 67, 3) else none) else (bif Nat.blt pc 68 then (bif Nat.beq pc 67 then some (.iconst (-1), 68, 0) else none) else (bif Nat.beq pc 68 then some (.ireturn, 69, 0) else none)))))))
/-- CodeRules$Rules.isSpecial(II)Z -/
noncomputable def am_cd_67 (pc : Nat) : Option (Instr × Nat × Nat) := (bif Nat.blt pc 17 then (bif Nat.blt pc 8 then (bif Nat.blt pc 4 then (bif Nat.blt pc 1 then (bif Nat.beq pc 0 then some (.aload_n 0, 1, 0) else none) else (bif Nat.beq pc 1 then some (.getfield 12, 4, 0) else none)) else (bif Nat.blt pc 5 then (bif Nat.beq pc 4 then some (.iload_n 1, 5, 0) else none) else (bif Nat.beq pc 5 then some (.invokevirtual 163, 8, 0) else none))) else (bif Nat.blt pc 12 then (bif Nat.blt pc 9 then (bif Nat.beq pc 8 then some (.iload_n 2, 9, 0) else none) else (bif Nat.beq pc 9 then some (.if_icmp .ne 25, 12, 34) else none)) else (bif Nat.blt pc 13 then (bif Nat.beq pc 12 then some (.aload_n 0, 13, 0) else none) else (bif Nat.blt pc 16 then (bif Nat.beq pc 13 then some (.getfield 21, 16, 0) else none) else (bif Nat.beq pc 16 then some (.aload_n 0, 17, 0) else none))))) else (bif Nat.blt pc 27 then (bif Nat.blt pc 21 then (bif Nat.blt pc 20 then (bif Nat.beq pc 17 then some (.getfield 12, 20, 0) else none) else (bif Nat.beq pc 20 then some (.iload_n 1, 21, 0) else none)) else (bif Nat.blt pc 24 then (bif Nat.beq pc 21 then some (.invokevirtual 157, 24, 0) else none) else (bif Nat.beq pc 24 then some (.invokevirtual 160, 27, 0) else none))) else (bif Nat.blt pc 31 then (bif Nat.blt pc 30 then (bif Nat.beq pc 27 then some (.ifCond .ne 7, 30, 34) else none) else (bif Nat.beq pc 30 then some (.iconst 1, 31, 0) else none)) else (bif Nat.blt pc 34 then (bif Nat.beq pc 31 then some (.goto 4, 34, 35) else none) else (bif Nat.blt pc 35 then (bif Nat.beq pc 34 then some (.iconst 0, 35, 0) else none) else (bif Nat.beq pc 35 then some (.ireturn, 36, 0) else none))))))
/-- CodeRules$Branches.<init>()V -/
noncomputable def am_cd_68 (pc : Nat) : Option (Instr × Nat × Nat) := (bif Nat.blt pc 25 then (bif Nat.blt pc 12 then (bif Nat.blt pc 5 then (bif Nat.blt pc 1 then (bif Nat.beq pc 0 then some (.aload_n 0, 1, 0) else none) else (bif Nat.blt pc 4 then (bif Nat.beq pc 1 then some (.invokespecial 3, 4, 0) else none) else (bif Nat.beq pc 4 then some (.aload_n 0, 5, 0) else none))) else (bif Nat.blt pc 7 then (bif Nat.beq pc 5 then some (.bipush 30, 7, 0) else none) else (bif Nat.blt pc 9 then (bif Nat.beq pc 7 then some (.newarray .int, 9, 0) else none) else (bif Nat.beq pc 9 then some (.putfield 9, 12, 0) else none)))) else (bif Nat.blt pc 17 then (bif Nat.blt pc 13 then (bif Nat.beq pc 12 then some (.aload_n 0, 13, 0) else none) else (bif Nat.blt pc 15 then (bif Nat.beq pc 13 then some (.bipush 30, 15, 0) else none) else (bif Nat.beq pc 15 then some (.newarray .int, 17, 0) else none))) else (bif Nat.blt pc 21 then (bif Nat.blt pc 20 then (bif Nat.beq pc 17 then some (.putfield 15, 20, 0) else none) else (bif Nat.beq pc 20 then some (.aload_n 0, 21, 0) else none)) else (bif Nat.blt pc 23 then (bif Nat.beq pc 21 then some (.bipush 30, 23, 0) else none) else (bif Nat.beq pc 23 then some (.newarray .int, 25, 0) else none))))) else (bif Nat.blt pc 39 then (bif Nat.blt pc 31 then (bif Nat.blt pc 28 then (bif Nat.beq pc 25 then some (.putfield 18, 28, 0) else none) else (bif Nat.blt pc 29 then (bif Nat.beq pc 28 then some (.aload_n 0, 29, 0) else none) else (bif Nat.beq pc 29 then some (.bipush 60, 31, 0) else none))) else (bif Nat.blt pc 36 then (bif Nat.blt pc 33 then (bif Nat.beq pc 31 then some (.newarray .int, 33, 0) else none) else (bif Nat.beq pc 33 then some (.putfield 21, 36, 0) else none)) else (bif Nat.blt pc 37 then (bif Nat.beq pc 36 then some (.aload_n 0, 37, 0) else none) else (bif Nat.beq pc 37 then some (.bipush 60, 39, 0) else none)))) else (bif Nat.blt pc 45 then (bif Nat.blt pc 41 then (bif Nat.beq pc 39 then some (.newarray .int, 41, 0) else none) else (bif Nat.blt pc 44 then (bif Nat.beq pc 41 then some (.putfield 24, 44, 0) else none) else (bif Nat.beq pc 44 then some (.aload_n 0, 45, 0) else none))) else (bif Nat.blt pc 49 then (bif Nat.blt pc 47 then (bif Nat.beq pc 45 then some (.bipush 60, 47, 0) else none) else (bif Nat.beq pc 47 then some (.newarray .int, 49, 0) else none)) else (bif Nat.blt pc 52 then (bif Nat.beq pc 49 then some (.putfield 27, 52, 0) else none) else (bif Nat.beq pc 52 then some (.return_, 53, 0) else none))))))
/-- CodeRules$Branches.forget()V -/
noncomputable def am_cd_69 (pc : Nat) : Option (Instr × Nat × Nat) := (bif Nat.blt pc 5 then (bif Nat.blt pc 1 then (bif Nat.beq pc 0 then some (.aload_n 0, 1, 0) else none) else (bif Nat.blt pc 2 then (bif Nat.beq pc 1 then some (.iconst 0, 2, 0) else none) else (bif Nat.beq pc 2 then some (.putfield 30, 5, 0) else none))) else (bif Nat.blt pc 7 then (bif Nat.blt pc 6 then (bif Nat.beq pc 5 then some (.aload_n 0, 6, 0) else none) else (bif Nat.beq pc 6 then some (.iconst 0, 7, 0) else none)) else (bif Nat.blt pc 10 then (bif Nat.beq pc 7 then some (.putfield 34, 10, 0) else none) else (bif Nat.beq pc 10 then some (.return_, 11, 0) else none))))
/-- CodeRules$Branches.isFull()Z -/
noncomputable def am_cd_70 (pc : Nat) : Option (Instr × Nat × Nat) := (bif Nat.blt pc 9 then (bif Nat.blt pc 4 then (bif Nat.blt pc 1 then (bif Nat.beq pc 0 then some (.aload_n 0, 1, 0) else none) else (bif Nat.beq pc 1 then some (.getfield 30, 4, 0) else none)) else (bif Nat.blt pc 6 then (bif Nat.beq pc 4 then some (.bipush 30, 6, 0) else none) else (bif Nat.beq pc 6 then some (.if_icmp .lt 7, 9, 13) else none))) else (bif Nat.blt pc 13 then (bif Nat.blt pc 10 then (bif Nat.beq pc 9 then some (.iconst 1, 10, 0) else none) else (bif Nat.beq pc 10 then some (.goto 4, 13, 14) else none)) else (bif Nat.blt pc 14 then (bif Nat.beq pc 13 then some (.iconst 0, 14, 0) else none) else (bif Nat.beq pc 14 then some (.ireturn, 15, 0) else none))))
/-- CodeRules$Branches.add(II)V -/
noncomputable def am_cd_71 (pc : Nat) : Option (Instr × Nat × Nat) := (bif Nat.blt pc 27 then (bif Nat.blt pc 13 then (bif Nat.blt pc 7 then (bif Nat.blt pc 1 then (bif Nat.beq pc 0 then some (.aload_n 0, 1, 0) else none) else (bif Nat.blt pc 4 then (bif Nat.beq pc 1 then some (.invokevirtual 37, 4, 0) else none) else (bif Nat.beq pc 4 then some (.ifCond .eq 4, 7, 8) else none))) else (bif Nat.blt pc 9 then (bif Nat.blt pc 8 then (bif Nat.beq pc 7 then some (.return_, 8, 0) else none) else (bif Nat.beq pc 8 then some (.aload_n 0, 9, 0) else none)) else (bif Nat.blt pc 12 then (bif Nat.beq pc 9 then some (.getfield 9, 12, 0) else none) else (bif Nat.beq pc 12 then some (.aload_n 0, 13, 0) else none)))) else (bif Nat.blt pc 19 then (bif Nat.blt pc 17 then (bif Nat.blt pc 16 then (bif Nat.beq pc 13 then some (.getfield 30, 16, 0) else none) else (bif Nat.beq pc 16 then some (.iload_n 1, 17, 0) else none)) else (bif Nat.blt pc 18 then (bif Nat.beq pc 17 then some (.iastore, 18, 0) else none) else (bif Nat.beq pc 18 then some (.aload_n 0, 19, 0) else none))) else (bif Nat.blt pc 23 then (bif Nat.blt pc 22 then (bif Nat.beq pc 19 then some (.getfield 15, 22, 0) else none) else (bif Nat.beq pc 22 then some (.aload_n 0, 23, 0) else none)) else (bif Nat.blt pc 26 then (bif Nat.beq pc 23 then some (.getfield 30, 26, 0) else none) else (bif Nat.beq pc 26 then some (.iload_n 2, 27, 0) else none))))) else (bif Nat.blt pc 40 then (bif Nat.blt pc 32 then (bif Nat.blt pc 28 then (bif Nat.beq pc 27 then some (.iastore, 28, 0) else none) else (bif Nat.blt pc 29 then (bif Nat.beq pc 28 then some (.aload_n 0, 29, 0) else none) else (bif Nat.beq pc 29 then some (.getfield 18, 32, 0) else none))) else (bif Nat.blt pc 36 then (bif Nat.blt pc 33 then (bif Nat.beq pc 32 then some (.aload_n 0, 33, 0) else none) else (bif Nat.beq pc 33 then some (.getfield 30, 36, 0) else none)) else (bif Nat.blt pc 37 then (bif Nat.beq pc 36 then some (.aload_n 0, 37, 0) else none) else (bif Nat.beq pc 37 then some (.getfield 34, 40, 0) else none)))) else (bif Nat.blt pc 46 then (bif Nat.blt pc 42 then (bif Nat.blt pc 41 then (bif Nat.beq pc 40 then some (.iastore, 41, 0) else none) else (bif Nat.beq pc 41 then some (.aload_n 0, 42, 0) else none)) else (bif Nat.blt pc 43 then (bif Nat.beq pc 42 then some (.dup, 43, 0) else none) else (bif Nat.beq pc 43 then some (.getfield 30, 46, 0) else none))) else (bif Nat.blt pc 48 then (bif Nat.blt pc 47 then (bif Nat.beq pc 46 then some (.iconst 1, 47, 0) else none) else (bif Nat.beq pc 47 then some (.iadd, 48, 0) else none)) else (bif Nat.blt pc 51 then (bif Nat.beq pc 48 then some (.putfield 30, 51, 0) else none) else (bif Nat.beq pc 51 then some (.return_, 52, 0) else none))))))
/-- CodeRules$Branches.hasAllConditions()Z -/
noncomputable def am_cd_72 (pc : Nat) : Option (Instr × Nat × Nat) := (bif Nat.blt pc 9 then (bif Nat.blt pc 4 then (bif Nat.blt pc 1 then (bif Nat.beq pc 0 then some (.aload_n 0, 1, 0) else none) else (bif Nat.beq pc 1 then some (.getfield 34, 4, 0) else none)) else (bif Nat.blt pc 6 then (bif Nat.beq pc 4 then some (.bipush 60, 6, 0) else none) else (bif Nat.beq pc 6 then some (.if_icmp .lt 7, 9, 13) else none))) else (bif Nat.blt pc 13 then (bif Nat.blt pc 10 then (bif Nat.beq pc 9 then some (.iconst 1, 10, 0) else none) else (bif Nat.beq pc 10 then some (.goto 4, 13, 14) else none)) else (bif Nat.blt pc 14 then (bif Nat.beq pc 13 then some (.iconst 0, 14, 0) else none) else (bif Nat.beq pc 14 then some (.ireturn, 15, 0) else none))))
/-- CodeRules$Branches.addCondition(III)V -/
noncomputable def am_cd_73 (pc : Nat) : Option (Instr × Nat × Nat) := (bif Nat.blt pc 44 then (bif Nat.blt pc 24 then (bif Nat.blt pc 11 then (bif Nat.blt pc 4 then (bif Nat.blt pc 1 then (bif Nat.beq pc 0 then some (.aload_n 0, 1, 0) else none) else (bif Nat.beq pc 1 then some (.invokevirtual 41, 4, 0) else none)) else (bif Nat.blt pc 7 then (bif Nat.beq pc 4 then some (.ifCond .ne 20, 7, 24) else none) else (bif Nat.blt pc 8 then (bif Nat.beq pc 7 then some (.aload_n 0, 8, 0) else none) else (bif Nat.beq pc 8 then some (.getfield 30, 11, 0) else none)))) else (bif Nat.blt pc 16 then (bif Nat.blt pc 12 then (bif Nat.beq pc 11 then some (.iconst 1, 12, 0) else none) else (bif Nat.blt pc 15 then (bif Nat.beq pc 12 then some (.if_icmp .lt 12, 15, 24) else none) else (bif Nat.beq pc 15 then some (.aload_n 0, 16, 0) else none))) else (bif Nat.blt pc 19 then (bif Nat.beq pc 16 then some (.getfield 30, 19, 0) else none) else (bif Nat.blt pc 21 then (bif Nat.beq pc 19 then some (.bipush 30, 21, 0) else none) else (bif Nat.beq pc 21 then some (.if_icmp .le 4, 24, 25) else none))))) else (bif Nat.blt pc 34 then (bif Nat.blt pc 29 then (bif Nat.blt pc 25 then (bif Nat.beq pc 24 then some (.return_, 25, 0) else none) else (bif Nat.blt pc 26 then (bif Nat.beq pc 25 then some (.aload_n 0, 26, 0) else none) else (bif Nat.beq pc 26 then some (.getfield 21, 29, 0) else none))) else (bif Nat.blt pc 30 then (bif Nat.beq pc 29 then some (.aload_n 0, 30, 0) else none) else (bif Nat.blt pc 33 then (bif Nat.beq pc 30 then some (.getfield 34, 33, 0) else none) else (bif Nat.beq pc 33 then some (.iload_n 1, 34, 0) else none)))) else (bif Nat.blt pc 39 then (bif Nat.blt pc 35 then (bif Nat.beq pc 34 then some (.iastore, 35, 0) else none) else (bif Nat.blt pc 36 then (bif Nat.beq pc 35 then some (.aload_n 0, 36, 0) else none) else (bif Nat.beq pc 36 then some (.getfield 24, 39, 0) else none))) else (bif Nat.blt pc 40 then (bif Nat.beq pc 39 then some (.aload_n 0, 40, 0) else none) else (bif Nat.blt pc 43 then (bif Nat.beq pc 40 then some (.getfield 34, 43, 0) else none) else (bif Nat.beq pc 43 then some (.iload_n 2, 44, 0) else none)))))) else (bif Nat.blt pc 61 then (bif Nat.blt pc 53 then (bif Nat.blt pc 46 then (bif Nat.blt pc 45 then (bif Nat.beq pc 44 then some (.iastore, 45, 0) else none) else (bif Nat.beq pc 45 then some (.aload_n 0, 46, 0) else none)) else (bif Nat.blt pc 49 then (bif Nat.beq pc 46 then some (.getfield 27, 49, 0) else none) else (bif Nat.blt pc 50 then (bif Nat.beq pc 49 then some (.aload_n 0, 50, 0) else none) else (bif Nat.beq pc 50 then some (.getfield 34, 53, 0) else none)))) else (bif Nat.blt pc 56 then (bif Nat.blt pc 54 then (bif Nat.beq pc 53 then some (.iload_n 3, 54, 0) else none) else (bif Nat.blt pc 55 then (bif Nat.beq pc 54 then some (.iastore, 55, 0) else none) else (bif Nat.beq pc 55 then some (.aload_n 0, 56, 0) else none))) else (bif Nat.blt pc 57 then (bif Nat.beq pc 56 then some (.dup, 57, 0) else none) else (bif Nat.blt pc 60 then (bif Nat.beq pc 57 then some (.getfield 34, 60, 0) else none) else (bif Nat.beq pc 60 then some (.iconst 1, 61, 0) else none))))) else (bif Nat.blt pc 73 then (bif Nat.blt pc 66 then (bif Nat.blt pc 62 then (bif Nat.beq pc 61 then some (.iadd, 62, 0) else none) else (bif Nat.blt pc 65 then (bif Nat.beq pc 62 then some (.putfield 34, 65, 0) else none) else (bif Nat.beq pc 65 then some (.aload_n 0, 66, 0) else none))) else (bif Nat.blt pc 69 then (bif Nat.beq pc 66 then some (.getfield 18, 69, 0) else none) else (bif Nat.blt pc 70 then (bif Nat.beq pc 69 then some (.aload_n 0, 70, 0) else none) else (bif Nat.beq pc 70 then some (.getfield 30, 73, 0) else none)))) else (bif Nat.blt pc 76 then (bif Nat.blt pc 74 then (bif Nat.beq pc 73 then some (.iconst 1, 74, 0) else none) else (bif Nat.blt pc 75 then (bif Nat.beq pc 74 then some (.isub, 75, 0) else none) else (bif Nat.beq pc 75 then some (.aload_n 0, 76, 0) else none))) else (bif Nat.blt pc 79 then (bif Nat.beq pc 76 then some (.getfield 34, 79, 0) else none) else (bif Nat.blt pc 80 then (bif Nat.beq pc 79 then some (.iastore, 80, 0) else none) else (bif Nat.beq pc 80 then some (.return_, 81, 0) else none)))))))
/-- CodeRules$Branches.count()I -/
noncomputable def am_cd_74 (pc : Nat) : Option (Instr × Nat × Nat) := (bif Nat.blt pc 1 then (bif Nat.beq pc 0 then some (.aload_n 0, 1, 0) else none) else (bif Nat.blt pc 4 then (bif Nat.beq pc 1 then some (.getfield 30, 4, 0) else none) else (bif Nat.beq pc 4 then some (.ireturn, 5, 0) else none)))
/-- CodeRules$Branches.groupAt(I)I -/
noncomputable def am_cd_75 (pc : Nat) : Option (Instr × Nat × Nat) := (bif Nat.blt pc 12 then (bif Nat.blt pc 5 then (bif Nat.blt pc 1 then (bif Nat.beq pc 0 then some (.iload_n 1, 1, 0) else none) else (bif Nat.blt pc 2 then (bif Nat.beq pc 1 then some (.aload_n 0, 2, 0) else none) else (bif Nat.beq pc 2 then some (.getfield 30, 5, 0) else none))) else (bif Nat.blt pc 8 then (bif Nat.beq pc 5 then some (.invokestatic 44, 8, 0) else none) else (bif Nat.blt pc 11 then (bif Nat.beq pc 8 then some (.ifCond .eq 12, 11, 20) else none) else (bif Nat.beq pc 11 then some (.aload_n 0, 12, 0) else none)))) else (bif Nat.blt pc 17 then (bif Nat.blt pc 15 then (bif Nat.beq pc 12 then some (.getfield 15, 15, 0) else none) else (bif Nat.blt pc 16 then (bif Nat.beq pc 15 then some (.iload_n 1, 16, 0) else none) else (bif Nat.beq pc 16 then some (.iaload, 17, 0) else none))) else (bif Nat.blt pc 20 then (bif Nat.beq pc 17 then some (.goto 4, 20, 21) else none) else (bif Nat.blt pc 21 then (bif Nat.beq pc 20 then some (.iconst (-1), 21, 0) else none) else (bif Nat.beq pc 21 then some (.ireturn, 22, 0) else none)))))
/-- CodeRules$Branches.codeAt(I)I -/
noncomputable def am_cd_76 (pc : Nat) : Option (Instr × Nat × Nat) := (bif Nat.blt pc 12 then (bif Nat.blt pc 5 then (bif Nat.blt pc 1 then (bif Nat.beq pc 0 then some (.iload_n 1, 1, 0) else none) else (bif Nat.blt pc 2 then (bif Nat.beq pc 1 then some (.aload_n 0, 2, 0) else none) else (bif Nat.beq pc 2 then some (.getfield 30, 5, 0) else none))) else (bif Nat.blt pc 8 then (bif Nat.beq pc 5 then some (.invokestatic 44, 8, 0) else none) else (bif Nat.blt pc 11 then (bif Nat.beq pc 8 then some (.ifCond .eq 12, 11, 20) else none) else (bif Nat.beq pc 11 then some (.aload_n 0, 12, 0) else none)))) else (bif Nat.blt pc 17 then (bif Nat.blt pc 15 then (bif Nat.beq pc 12 then some (.getfield 9, 15, 0) else none) else (bif Nat.blt pc 16 then (bif Nat.beq pc 15 then some (.iload_n 1, 16, 0) else none) else (bif Nat.beq pc 16 then some (.iaload, 17, 0) else none))) else (bif Nat.blt pc 20 then (bif Nat.beq pc 17 then some (.goto 4, 20, 21) else none) else (bif Nat.blt pc 21 then (bif Nat.beq pc 20 then some (.iconst (-1), 21, 0) else none) else (bif Nat.beq pc 21 then some (.ireturn, 22, 0) else none)))))
/-- CodeRules$Branches.meet(ILCodeRules$Facts;)I -/
noncomputable def am_cd_77 (pc : Nat) : Option (Instr × Nat × Nat) := (bif Nat.blt pc 58 then (bif Nat.blt pc 28 then (bif Nat.blt pc 14 then (bif Nat.blt pc 8 then (bif Nat.blt pc 2 then (bif Nat.blt pc 1 then (bif Nat.beq pc 0 then some (.iload_n 1, 1, 0) else none) else (bif Nat.beq pc 1 then some (.aload_n 0, 2, 0) else none)) else (bif Nat.blt pc 5 then (bif Nat.beq pc 2 then some (.getfield 30, 5, 0) else none) else (bif Nat.beq pc 5 then some (.invokestatic 44, 8, 0) else none))) else (bif Nat.blt pc 12 then (bif Nat.blt pc 11 then (bif Nat.beq pc 8 then some (.ifCond .ne 5, 11, 13) else none) else (bif Nat.beq pc 11 then some (.iconst 0, 12, 0) else none)) else (bif Nat.blt pc 13 then (bif Nat.beq pc 12 then some (.ireturn, 13, 0) else none) else (bif Nat.beq pc 13 then some (.iload_n 1, 14, 0) else none)))) else (bif Nat.blt pc 22 then (bif Nat.blt pc 18 then (bif Nat.blt pc 17 then (bif Nat.beq pc 14 then some (.ifCond .ne 7, 17, 21) else none) else (bif Nat.beq pc 17 then some (.iconst 0, 18, 0) else none)) else (bif Nat.blt pc 21 then (bif Nat.beq pc 18 then some (.goto 11, 21, 29) else none) else (bif Nat.beq pc 21 then some (.aload_n 0, 22, 0) else none))) else (bif Nat.blt pc 26 then (bif Nat.blt pc 25 then (bif Nat.beq pc 22 then some (.getfield 18, 25, 0) else none) else (bif Nat.beq pc 25 then some (.iload_n 1, 26, 0) else none)) else (bif Nat.blt pc 27 then (bif Nat.beq pc 26 then some (.iconst 1, 27, 0) else none) else (bif Nat.beq pc 27 then some (.isub, 28, 0) else none))))) else (bif Nat.blt pc 40 then (bif Nat.blt pc 33 then (bif Nat.blt pc 30 then (bif Nat.blt pc 29 then (bif Nat.beq pc 28 then some (.iaload, 29, 0) else none) else (bif Nat.beq pc 29 then some (.istore_n 3, 30, 0) else none)) else (bif Nat.blt pc 31 then (bif Nat.beq pc 30 then some (.iload_n 3, 31, 0) else none) else (bif Nat.beq pc 31 then some (.istore 4, 33, 0) else none))) else (bif Nat.blt pc 36 then (bif Nat.blt pc 35 then (bif Nat.beq pc 33 then some (.iload 4, 35, 0) else none) else (bif Nat.beq pc 35 then some (.aload_n 0, 36, 0) else none)) else (bif Nat.blt pc 39 then (bif Nat.beq pc 36 then some (.getfield 18, 39, 0) else none) else (bif Nat.beq pc 39 then some (.iload_n 1, 40, 0) else none)))) else (bif Nat.blt pc 47 then (bif Nat.blt pc 44 then (bif Nat.blt pc 41 then (bif Nat.beq pc 40 then some (.iaload, 41, 0) else none) else (bif Nat.beq pc 41 then some (.if_icmp .ge 76, 44, 117) else none)) else (bif Nat.blt pc 46 then (bif Nat.beq pc 44 then some (.iload 4, 46, 0) else none) else (bif Nat.beq pc 46 then some (.aload_n 0, 47, 0) else none))) else (bif Nat.blt pc 53 then (bif Nat.blt pc 50 then (bif Nat.beq pc 47 then some (.getfield 34, 50, 0) else none) else (bif Nat.beq pc 50 then some (.if_icmp .ge 67, 53, 117) else none)) else (bif Nat.blt pc 54 then (bif Nat.beq pc 53 then some (.aload_n 2, 54, 0) else none) else (bif Nat.blt pc 55 then (bif Nat.beq pc 54 then some (.aload_n 0, 55, 0) else none) else (bif Nat.beq pc 55 then some (.getfield 21, 58, 0) else none))))))) else (bif Nat.blt pc 86 then (bif Nat.blt pc 75 then (bif Nat.blt pc 67 then (bif Nat.blt pc 61 then (bif Nat.blt pc 60 then (bif Nat.beq pc 58 then some (.iload 4, 60, 0) else none) else (bif Nat.beq pc 60 then some (.iaload, 61, 0) else none)) else (bif Nat.blt pc 64 then (bif Nat.beq pc 61 then some (.invokevirtual 48, 64, 0) else none) else (bif Nat.beq pc 64 then some (.ifCond .ne 14, 67, 78) else none))) else (bif Nat.blt pc 70 then (bif Nat.blt pc 69 then (bif Nat.beq pc 67 then some (.bipush (-2), 69, 0) else none) else (bif Nat.beq pc 69 then some (.aload_n 0, 70, 0) else none)) else (bif Nat.blt pc 73 then (bif Nat.beq pc 70 then some (.getfield 21, 73, 0) else none) else (bif Nat.beq pc 73 then some (.iload 4, 75, 0) else none)))) else (bif Nat.blt pc 79 then (bif Nat.blt pc 77 then (bif Nat.blt pc 76 then (bif Nat.beq pc 75 then some (.iaload, 76, 0) else none) else (bif Nat.beq pc 76 then some (.isub, 77, 0) else none)) else (bif Nat.blt pc 78 then (bif Nat.beq pc 77 then some (.ireturn, 78, 0) else none) else (bif Nat.beq pc 78 then some (.aload_n 2, 79, 0) else none))) else (bif Nat.blt pc 83 then (bif Nat.blt pc 80 then (bif Nat.beq pc 79 then some (.aload_n 0, 80, 0) else none) else (bif Nat.beq pc 80 then some (.getfield 21, 83, 0) else none)) else (bif Nat.blt pc 85 then (bif Nat.beq pc 83 then some (.iload 4, 85, 0) else none) else (bif Nat.beq pc 85 then some (.iaload, 86, 0) else none))))) else (bif Nat.blt pc 102 then (bif Nat.blt pc 95 then (bif Nat.blt pc 90 then (bif Nat.blt pc 89 then (bif Nat.beq pc 86 then some (.invokevirtual 54, 89, 0) else none) else (bif Nat.beq pc 89 then some (.aload_n 0, 90, 0) else none)) else (bif Nat.blt pc 93 then (bif Nat.beq pc 90 then some (.getfield 24, 93, 0) else none) else (bif Nat.beq pc 93 then some (.iload 4, 95, 0) else none))) else (bif Nat.blt pc 97 then (bif Nat.blt pc 96 then (bif Nat.beq pc 95 then some (.iaload, 96, 0) else none) else (bif Nat.beq pc 96 then some (.aload_n 0, 97, 0) else none)) else (bif Nat.blt pc 100 then (bif Nat.beq pc 97 then some (.getfield 27, 100, 0) else none) else (bif Nat.beq pc 100 then some (.iload 4, 102, 0) else none)))) else (bif Nat.blt pc 110 then (bif Nat.blt pc 106 then (bif Nat.blt pc 103 then (bif Nat.beq pc 102 then some (.iaload, 103, 0) else none) else (bif Nat.beq pc 103 then some (.invokestatic 58, 106, 0) else none)) else (bif Nat.blt pc 109 then (bif Nat.beq pc 106 then some (.ifCond .ne 5, 109, 111) else none) else (bif Nat.beq pc 109 then some (.iconst 0, 110, 0) else none))) else (bif Nat.blt pc 114 then (bif Nat.blt pc 111 then (bif Nat.beq pc 110 then some (.ireturn, 111, 0) else none) else (bif Nat.beq pc 111 then some (.iinc 4 1, 114, 0) else none)) else (bif Nat.blt pc 117 then (bif Nat.beq pc 114 then some (.goto (-81), 117, 33) else none) else (bif Nat.blt pc 118 then (bif Nat.beq pc 117 then some (.iconst 1, 118, 0) else none) else (bif Nat.beq pc 118 then some (.ireturn, 119, 0) else none))))))))
/-- CodeRules$Branches.compare(III)Z -/
noncomputable def am_cd_78 (pc : Nat) : Option (Instr × Nat × Nat) := (bif Nat.blt pc 23 then (bif Nat.blt pc 11 then (bif Nat.blt pc 6 then (bif Nat.blt pc 1 then (bif Nat.beq pc 0 then some (.iload_n 1, 1, 0) else none) else (bif Nat.blt pc 3 then (bif Nat.beq pc 1 then some (.bipush 60, 3, 0) else none) else (bif Nat.beq pc 3 then some (.if_icmp .ne 14, 6, 17) else none))) else (bif Nat.blt pc 7 then (bif Nat.beq pc 6 then some (.iload_n 0, 7, 0) else none) else (bif Nat.blt pc 8 then (bif Nat.beq pc 7 then some (.iload_n 2, 8, 0) else none) else (bif Nat.beq pc 8 then some (.if_icmp .ge 7, 11, 15) else none)))) else (bif Nat.blt pc 16 then (bif Nat.blt pc 12 then (bif Nat.beq pc 11 then some (.iconst 1, 12, 0) else none) else (bif Nat.blt pc 15 then (bif Nat.beq pc 12 then some (.goto 4, 15, 16) else none) else (bif Nat.beq pc 15 then some (.iconst 0, 16, 0) else none))) else (bif Nat.blt pc 18 then (bif Nat.blt pc 17 then (bif Nat.beq pc 16 then some (.ireturn, 17, 0) else none) else (bif Nat.beq pc 17 then some (.iload_n 1, 18, 0) else none)) else (bif Nat.blt pc 20 then (bif Nat.beq pc 18 then some (.bipush 61, 20, 0) else none) else (bif Nat.beq pc 20 then some (.if_icmp .ne 16, 23, 36) else none))))) else (bif Nat.blt pc 36 then (bif Nat.blt pc 28 then (bif Nat.blt pc 24 then (bif Nat.beq pc 23 then some (.iload_n 0, 24, 0) else none) else (bif Nat.blt pc 25 then (bif Nat.beq pc 24 then some (.iload_n 2, 25, 0) else none) else (bif Nat.beq pc 25 then some (.if_icmp .ne 7, 28, 32) else none))) else (bif Nat.blt pc 32 then (bif Nat.blt pc 29 then (bif Nat.beq pc 28 then some (.iconst 1, 29, 0) else none) else (bif Nat.beq pc 29 then some (.goto 17, 32, 46) else none)) else (bif Nat.blt pc 33 then (bif Nat.beq pc 32 then some (.iconst 0, 33, 0) else none) else (bif Nat.beq pc 33 then some (.goto 13, 36, 46) else none)))) else (bif Nat.blt pc 41 then (bif Nat.blt pc 37 then (bif Nat.beq pc 36 then some (.iload_n 0, 37, 0) else none) else (bif Nat.blt pc 38 then (bif Nat.beq pc 37 then some (.iload_n 2, 38, 0) else none) else (bif Nat.beq pc 38 then some (.if_icmp .le 7, 41, 45) else none))) else (bif Nat.blt pc 45 then (bif Nat.blt pc 42 then (bif Nat.beq pc 41 then some (.iconst 1, 42, 0) else none) else (bif Nat.beq pc 42 then some (.goto 4, 45, 46) else none)) else (bif Nat.blt pc 46 then (bif Nat.beq pc 45 then some (.iconst 0, 46, 0) else none) else (bif Nat.beq pc 46 then some (.ireturn, 47, 0) else none))))))
/-- CodeRules$Codes.<init>()V -/
noncomputable def am_cd_79 (pc : Nat) : Option (Instr × Nat × Nat) := (bif Nat.blt pc 29 then (bif Nat.blt pc 13 then (bif Nat.blt pc 5 then (bif Nat.blt pc 1 then (bif Nat.beq pc 0 then some (.aload_n 0, 1, 0) else none) else (bif Nat.blt pc 4 then (bif Nat.beq pc 1 then some (.invokespecial 3, 4, 0) else none) else (bif Nat.beq pc 4 then some (.aload_n 0, 5, 0) else none))) else (bif Nat.blt pc 9 then (bif Nat.blt pc 7 then (bif Nat.beq pc 5 then some (.bipush 16, 7, 0) else none) else (bif Nat.beq pc 7 then some (.newarray .int, 9, 0) else none)) else (bif Nat.blt pc 12 then (bif Nat.beq pc 9 then some (.putfield 9, 12, 0) else none) else (bif Nat.beq pc 12 then some (.aload_n 0, 13, 0) else none)))) else (bif Nat.blt pc 21 then (bif Nat.blt pc 17 then (bif Nat.blt pc 15 then (bif Nat.beq pc 13 then some (.bipush 16, 15, 0) else none) else (bif Nat.beq pc 15 then some (.newarray .int, 17, 0) else none)) else (bif Nat.blt pc 20 then (bif Nat.beq pc 17 then some (.putfield 15, 20, 0) else none) else (bif Nat.beq pc 20 then some (.aload_n 0, 21, 0) else none))) else (bif Nat.blt pc 25 then (bif Nat.blt pc 23 then (bif Nat.beq pc 21 then some (.bipush 16, 23, 0) else none) else (bif Nat.beq pc 23 then some (.newarray .int, 25, 0) else none)) else (bif Nat.blt pc 28 then (bif Nat.beq pc 25 then some (.putfield 18, 28, 0) else none) else (bif Nat.beq pc 28 then some (.aload_n 0, 29, 0) else none))))) else (bif Nat.blt pc 45 then (bif Nat.blt pc 37 then (bif Nat.blt pc 33 then (bif Nat.blt pc 31 then (bif Nat.beq pc 29 then some (.bipush 20, 31, 0) else none) else (bif Nat.beq pc 31 then some (.newarray .int, 33, 0) else none)) else (bif Nat.blt pc 36 then (bif Nat.beq pc 33 then some (.putfield 21, 36, 0) else none) else (bif Nat.beq pc 36 then some (.aload_n 0, 37, 0) else none))) else (bif Nat.blt pc 41 then (bif Nat.blt pc 39 then (bif Nat.beq pc 37 then some (.bipush 20, 39, 0) else none) else (bif Nat.beq pc 39 then some (.newarray .int, 41, 0) else none)) else (bif Nat.blt pc 44 then (bif Nat.beq pc 41 then some (.putfield 24, 44, 0) else none) else (bif Nat.beq pc 44 then some (.aload_n 0, 45, 0) else none)))) else (bif Nat.blt pc 53 then (bif Nat.blt pc 49 then (bif Nat.blt pc 47 then (bif Nat.beq pc 45 then some (.bipush 20, 47, 0) else none) else (bif Nat.beq pc 47 then some (.newarray .int, 49, 0) else none)) else (bif Nat.blt pc 52 then (bif Nat.beq pc 49 then some (.putfield 27, 52, 0) else none) else (bif Nat.beq pc 52 then some (.aload_n 0, 53, 0) else none))) else (bif Nat.blt pc 57 then (bif Nat.blt pc 55 then (bif Nat.beq pc 53 then some (.bipush 20, 55, 0) else none) else (bif Nat.beq pc 55 then some (.newarray .int, 57, 0) else none)) else (bif Nat.blt pc 60 then (bif Nat.beq pc 57 then some (.putfield 30, 60, 0) else none) else (bif Nat.beq pc 60 then some (.return_, 61, 0) else none))))))
/-- CodeRules$Codes.forget()V -/
noncomputable def am_cd_80 (pc : Nat) : Option (Instr × Nat × Nat) := (bif Nat.blt pc 7 then (bif Nat.blt pc 2 then (bif Nat.blt pc 1 then (bif Nat.beq pc 0 then some (.aload_n 0, 1, 0) else none) else (bif Nat.beq pc 1 then some (.iconst 0, 2, 0) else none)) else (bif Nat.blt pc 5 then (bif Nat.beq pc 2 then some (.putfield 33, 5, 0) else none) else (bif Nat.blt pc 6 then (bif Nat.beq pc 5 then some (.aload_n 0, 6, 0) else none) else (bif Nat.beq pc 6 then some (.iconst 0, 7, 0) else none)))) else (bif Nat.blt pc 11 then (bif Nat.blt pc 10 then (bif Nat.beq pc 7 then some (.putfield 37, 10, 0) else none) else (bif Nat.beq pc 10 then some (.aload_n 0, 11, 0) else none)) else (bif Nat.blt pc 12 then (bif Nat.beq pc 11 then some (.iconst 0, 12, 0) else none) else (bif Nat.blt pc 15 then (bif Nat.beq pc 12 then some (.putfield 40, 15, 0) else none) else (bif Nat.beq pc 15 then some (.return_, 16, 0) else none)))))
/-- CodeRules$Codes.hasAllGenerals()Z -/
noncomputable def am_cd_81 (pc : Nat) : Option (Instr × Nat × Nat) := (bif Nat.blt pc 9 then (bif Nat.blt pc 4 then (bif Nat.blt pc 1 then (bif Nat.beq pc 0 then some (.aload_n 0, 1, 0) else none) else (bif Nat.beq pc 1 then some (.getfield 33, 4, 0) else none)) else (bif Nat.blt pc 6 then (bif Nat.beq pc 4 then some (.bipush 16, 6, 0) else none) else (bif Nat.beq pc 6 then some (.if_icmp .lt 7, 9, 13) else none))) else (bif Nat.blt pc 13 then (bif Nat.blt pc 10 then (bif Nat.beq pc 9 then some (.iconst 1, 10, 0) else none) else (bif Nat.beq pc 10 then some (.goto 4, 13, 14) else none)) else (bif Nat.blt pc 14 then (bif Nat.beq pc 13 then some (.iconst 0, 14, 0) else none) else (bif Nat.beq pc 14 then some (.ireturn, 15, 0) else none))))
/-- CodeRules$Codes.addGeneral(I)V -/
noncomputable def am_cd_82 (pc : Nat) : Option (Instr × Nat × Nat) := (bif Nat.blt pc 16 then (bif Nat.blt pc 8 then (bif Nat.blt pc 4 then (bif Nat.blt pc 1 then (bif Nat.beq pc 0 then some (.aload_n 0, 1, 0) else none) else (bif Nat.beq pc 1 then some (.invokevirtual 43, 4, 0) else none)) else (bif Nat.blt pc 7 then (bif Nat.beq pc 4 then some (.ifCond .eq 4, 7, 8) else none) else (bif Nat.beq pc 7 then some (.return_, 8, 0) else none))) else (bif Nat.blt pc 12 then (bif Nat.blt pc 9 then (bif Nat.beq pc 8 then some (.aload_n 0, 9, 0) else none) else (bif Nat.beq pc 9 then some (.getfield 9, 12, 0) else none)) else (bif Nat.blt pc 13 then (bif Nat.beq pc 12 then some (.aload_n 0, 13, 0) else none) else (bif Nat.beq pc 13 then some (.getfield 33, 16, 0) else none)))) else (bif Nat.blt pc 20 then (bif Nat.blt pc 18 then (bif Nat.blt pc 17 then (bif Nat.beq pc 16 then some (.iload_n 1, 17, 0) else none) else (bif Nat.beq pc 17 then some (.iastore, 18, 0) else none)) else (bif Nat.blt pc 19 then (bif Nat.beq pc 18 then some (.aload_n 0, 19, 0) else none) else (bif Nat.beq pc 19 then some (.dup, 20, 0) else none))) else (bif Nat.blt pc 24 then (bif Nat.blt pc 23 then (bif Nat.beq pc 20 then some (.getfield 33, 23, 0) else none) else (bif Nat.beq pc 23 then some (.iconst 1, 24, 0) else none)) else (bif Nat.blt pc 25 then (bif Nat.beq pc 24 then some (.iadd, 25, 0) else none) else (bif Nat.blt pc 28 then (bif Nat.beq pc 25 then some (.putfield 33, 28, 0) else none) else (bif Nat.beq pc 28 then some (.return_, 29, 0) else none))))))
/-- CodeRules$Codes.hasAllMirrors()Z -/
noncomputable def am_cd_83 (pc : Nat) : Option (Instr × Nat × Nat) := (bif Nat.blt pc 9 then (bif Nat.blt pc 4 then (bif Nat.blt pc 1 then (bif Nat.beq pc 0 then some (.aload_n 0, 1, 0) else none) else (bif Nat.beq pc 1 then some (.getfield 37, 4, 0) else none)) else (bif Nat.blt pc 6 then (bif Nat.beq pc 4 then some (.bipush 16, 6, 0) else none) else (bif Nat.beq pc 6 then some (.if_icmp .lt 7, 9, 13) else none))) else (bif Nat.blt pc 13 then (bif Nat.blt pc 10 then (bif Nat.beq pc 9 then some (.iconst 1, 10, 0) else none) else (bif Nat.beq pc 10 then some (.goto 4, 13, 14) else none)) else (bif Nat.blt pc 14 then (bif Nat.beq pc 13 then some (.iconst 0, 14, 0) else none) else (bif Nat.beq pc 14 then some (.ireturn, 15, 0) else none))))
/-- CodeRules$Codes.isMirrored(I)Z -/
noncomputable def am_cd_84 (pc : Nat) : Option (Instr × Nat × Nat) := (bif Nat.blt pc 7 then (bif Nat.blt pc 2 then (bif Nat.blt pc 1 then (bif Nat.beq pc 0 then some (.aload_n 0, 1, 0) else none) else (bif Nat.beq pc 1 then some (.iload_n 1, 2, 0) else none)) else (bif Nat.blt pc 3 then (bif Nat.beq pc 2 then some (.iconst 1, 3, 0) else none) else (bif Nat.blt pc 6 then (bif Nat.beq pc 3 then some (.invokevirtual 53, 6, 0) else none) else (bif Nat.beq pc 6 then some (.iconst (-1), 7, 0) else none)))) else (bif Nat.blt pc 11 then (bif Nat.blt pc 10 then (bif Nat.beq pc 7 then some (.if_icmp .eq 7, 10, 14) else none) else (bif Nat.beq pc 10 then some (.iconst 1, 11, 0) else none)) else (bif Nat.blt pc 14 then (bif Nat.beq pc 11 then some (.goto 4, 14, 15) else none) else (bif Nat.blt pc 15 then (bif Nat.beq pc 14 then some (.iconst 0, 15, 0) else none) else (bif Nat.beq pc 15 then some (.ireturn, 16, 0) else none)))))
/-- CodeRules$Codes.mirrorOf(IZ)I -/
noncomputable def am_cd_85 (pc : Nat) : Option (Instr × Nat × Nat) := (bif Nat.blt pc 27 then (bif Nat.blt pc 14 then (bif Nat.blt pc 4 then (bif Nat.blt pc 2 then (bif Nat.blt pc 1 then (bif Nat.beq pc 0 then some (.iconst 0, 1, 0) else none) else (bif Nat.beq pc 1 then some (.istore_n 3, 2, 0) else none)) else (bif Nat.blt pc 3 then (bif Nat.beq pc 2 then some (.iload_n 3, 3, 0) else none) else (bif Nat.beq pc 3 then some (.aload_n 0, 4, 0) else none))) else (bif Nat.blt pc 10 then (bif Nat.blt pc 7 then (bif Nat.beq pc 4 then some (.getfield 37, 7, 0) else none) else (bif Nat.beq pc 7 then some (.if_icmp .ge 49, 10, 56) else none)) else (bif Nat.blt pc 11 then (bif Nat.beq pc 10 then some (.aload_n 0, 11, 0) else none) else (bif Nat.beq pc 11 then some (.getfield 15, 14, 0) else none)))) else (bif Nat.blt pc 20 then (bif Nat.blt pc 16 then (bif Nat.blt pc 15 then (bif Nat.beq pc 14 then some (.iload_n 3, 15, 0) else none) else (bif Nat.beq pc 15 then some (.iaload, 16, 0) else none)) else (bif Nat.blt pc 17 then (bif Nat.beq pc 16 then some (.iload_n 1, 17, 0) else none) else (bif Nat.beq pc 17 then some (.if_icmp .eq 13, 20, 30) else none))) else (bif Nat.blt pc 24 then (bif Nat.blt pc 21 then (bif Nat.beq pc 20 then some (.aload_n 0, 21, 0) else none) else (bif Nat.beq pc 21 then some (.getfield 18, 24, 0) else none)) else (bif Nat.blt pc 25 then (bif Nat.beq pc 24 then some (.iload_n 3, 25, 0) else none) else (bif Nat.blt pc 26 then (bif Nat.beq pc 25 then some (.iaload, 26, 0) else none) else (bif Nat.beq pc 26 then some (.iload_n 1, 27, 0) else none)))))) else (bif Nat.blt pc 43 then (bif Nat.blt pc 35 then (bif Nat.blt pc 31 then (bif Nat.blt pc 30 then (bif Nat.beq pc 27 then some (.if_icmp .ne 23, 30, 50) else none) else (bif Nat.beq pc 30 then some (.iload_n 2, 31, 0) else none)) else (bif Nat.blt pc 34 then (bif Nat.beq pc 31 then some (.ifCond .eq 12, 34, 43) else none) else (bif Nat.beq pc 34 then some (.aload_n 0, 35, 0) else none))) else (bif Nat.blt pc 39 then (bif Nat.blt pc 38 then (bif Nat.beq pc 35 then some (.getfield 18, 38, 0) else none) else (bif Nat.beq pc 38 then some (.iload_n 3, 39, 0) else none)) else (bif Nat.blt pc 40 then (bif Nat.beq pc 39 then some (.iaload, 40, 0) else none) else (bif Nat.beq pc 40 then some (.goto 9, 43, 49) else none)))) else (bif Nat.blt pc 49 then (bif Nat.blt pc 47 then (bif Nat.blt pc 44 then (bif Nat.beq pc 43 then some (.aload_n 0, 44, 0) else none) else (bif Nat.beq pc 44 then some (.getfield 15, 47, 0) else none)) else (bif Nat.blt pc 48 then (bif Nat.beq pc 47 then some (.iload_n 3, 48, 0) else none) else (bif Nat.beq pc 48 then some (.iaload, 49, 0) else none))) else (bif Nat.blt pc 53 then (bif Nat.blt pc 50 then (bif Nat.beq pc 49 then some (.ireturn, 50, 0) else none) else (bif Nat.beq pc 50 then some (.iinc 3 1, 53, 0) else none)) else (bif Nat.blt pc 56 then (bif Nat.beq pc 53 then some (.goto (-51), 56, 2) else none) else (bif Nat.blt pc 57 then (bif Nat.beq pc 56 then some (.iconst (-1), 57, 0) else none) else (bif Nat.beq pc 57 then some (.ireturn, 58, 0) else none)))))))
/-- CodeRules$Codes.addMirror(II)V -/
noncomputable def am_cd_86 (pc : Nat) : Option (Instr × Nat × Nat) := (bif Nat.blt pc 19 then (bif Nat.blt pc 9 then (bif Nat.blt pc 4 then (bif Nat.blt pc 1 then (bif Nat.beq pc 0 then some (.aload_n 0, 1, 0) else none) else (bif Nat.beq pc 1 then some (.invokevirtual 47, 4, 0) else none)) else (bif Nat.blt pc 7 then (bif Nat.beq pc 4 then some (.ifCond .eq 4, 7, 8) else none) else (bif Nat.blt pc 8 then (bif Nat.beq pc 7 then some (.return_, 8, 0) else none) else (bif Nat.beq pc 8 then some (.aload_n 0, 9, 0) else none)))) else (bif Nat.blt pc 16 then (bif Nat.blt pc 12 then (bif Nat.beq pc 9 then some (.getfield 15, 12, 0) else none) else (bif Nat.blt pc 13 then (bif Nat.beq pc 12 then some (.aload_n 0, 13, 0) else none) else (bif Nat.beq pc 13 then some (.getfield 37, 16, 0) else none))) else (bif Nat.blt pc 17 then (bif Nat.beq pc 16 then some (.iload_n 1, 17, 0) else none) else (bif Nat.blt pc 18 then (bif Nat.beq pc 17 then some (.iastore, 18, 0) else none) else (bif Nat.beq pc 18 then some (.aload_n 0, 19, 0) else none))))) else (bif Nat.blt pc 29 then (bif Nat.blt pc 26 then (bif Nat.blt pc 22 then (bif Nat.beq pc 19 then some (.getfield 18, 22, 0) else none) else (bif Nat.blt pc 23 then (bif Nat.beq pc 22 then some (.aload_n 0, 23, 0) else none) else (bif Nat.beq pc 23 then some (.getfield 37, 26, 0) else none))) else (bif Nat.blt pc 27 then (bif Nat.beq pc 26 then some (.iload_n 2, 27, 0) else none) else (bif Nat.blt pc 28 then (bif Nat.beq pc 27 then some (.iastore, 28, 0) else none) else (bif Nat.beq pc 28 then some (.aload_n 0, 29, 0) else none)))) else (bif Nat.blt pc 34 then (bif Nat.blt pc 30 then (bif Nat.beq pc 29 then some (.dup, 30, 0) else none) else (bif Nat.blt pc 33 then (bif Nat.beq pc 30 then some (.getfield 37, 33, 0) else none) else (bif Nat.beq pc 33 then some (.iconst 1, 34, 0) else none))) else (bif Nat.blt pc 35 then (bif Nat.beq pc 34 then some (.iadd, 35, 0) else none) else (bif Nat.blt pc 38 then (bif Nat.beq pc 35 then some (.putfield 37, 38, 0) else none) else (bif Nat.beq pc 38 then some (.return_, 39, 0) else none))))))
/-- CodeRules$Codes.hasAllMaps()Z -/
noncomputable def am_cd_87 (pc : Nat) : Option (Instr × Nat × Nat) := (bif Nat.blt pc 9 then (bif Nat.blt pc 4 then (bif Nat.blt pc 1 then (bif Nat.beq pc 0 then some (.aload_n 0, 1, 0) else none) else (bif Nat.beq pc 1 then some (.getfield 40, 4, 0) else none)) else (bif Nat.blt pc 6 then (bif Nat.beq pc 4 then some (.bipush 20, 6, 0) else none) else (bif Nat.beq pc 6 then some (.if_icmp .lt 7, 9, 13) else none))) else (bif Nat.blt pc 13 then (bif Nat.blt pc 10 then (bif Nat.beq pc 9 then some (.iconst 1, 10, 0) else none) else (bif Nat.beq pc 10 then some (.goto 4, 13, 14) else none)) else (bif Nat.blt pc 14 then (bif Nat.beq pc 13 then some (.iconst 0, 14, 0) else none) else (bif Nat.beq pc 14 then some (.ireturn, 15, 0) else none))))
/-- CodeRules$Codes.addMap(IIII)V -/
noncomputable def am_cd_88 (pc : Nat) : Option (Instr × Nat × Nat) := (bif Nat.blt pc 29 then (bif Nat.blt pc 16 then (bif Nat.blt pc 8 then (bif Nat.blt pc 4 then (bif Nat.blt pc 1 then (bif Nat.beq pc 0 then some (.aload_n 0, 1, 0) else none) else (bif Nat.beq pc 1 then some (.invokevirtual 50, 4, 0) else none)) else (bif Nat.blt pc 7 then (bif Nat.beq pc 4 then some (.ifCond .eq 4, 7, 8) else none) else (bif Nat.beq pc 7 then some (.return_, 8, 0) else none))) else (bif Nat.blt pc 12 then (bif Nat.blt pc 9 then (bif Nat.beq pc 8 then some (.aload_n 0, 9, 0) else none) else (bif Nat.beq pc 9 then some (.getfield 21, 12, 0) else none)) else (bif Nat.blt pc 13 then (bif Nat.beq pc 12 then some (.aload_n 0, 13, 0) else none) else (bif Nat.beq pc 13 then some (.getfield 40, 16, 0) else none)))) else (bif Nat.blt pc 22 then (bif Nat.blt pc 18 then (bif Nat.blt pc 17 then (bif Nat.beq pc 16 then some (.iload_n 1, 17, 0) else none) else (bif Nat.beq pc 17 then some (.iastore, 18, 0) else none)) else (bif Nat.blt pc 19 then (bif Nat.beq pc 18 then some (.aload_n 0, 19, 0) else none) else (bif Nat.beq pc 19 then some (.getfield 24, 22, 0) else none))) else (bif Nat.blt pc 26 then (bif Nat.blt pc 23 then (bif Nat.beq pc 22 then some (.aload_n 0, 23, 0) else none) else (bif Nat.beq pc 23 then some (.getfield 40, 26, 0) else none)) else (bif Nat.blt pc 27 then (bif Nat.beq pc 26 then some (.iload_n 2, 27, 0) else none) else (bif Nat.blt pc 28 then (bif Nat.beq pc 27 then some (.iastore, 28, 0) else none) else (bif Nat.beq pc 28 then some (.aload_n 0, 29, 0) else none)))))) else (bif Nat.blt pc 46 then (bif Nat.blt pc 37 then (bif Nat.blt pc 33 then (bif Nat.blt pc 32 then (bif Nat.beq pc 29 then some (.getfield 27, 32, 0) else none) else (bif Nat.beq pc 32 then some (.aload_n 0, 33, 0) else none)) else (bif Nat.blt pc 36 then (bif Nat.beq pc 33 then some (.getfield 40, 36, 0) else none) else (bif Nat.beq pc 36 then some (.iload_n 3, 37, 0) else none))) else (bif Nat.blt pc 39 then (bif Nat.blt pc 38 then (bif Nat.beq pc 37 then some (.iastore, 38, 0) else none) else (bif Nat.beq pc 38 then some (.aload_n 0, 39, 0) else none)) else (bif Nat.blt pc 42 then (bif Nat.beq pc 39 then some (.getfield 30, 42, 0) else none) else (bif Nat.blt pc 43 then (bif Nat.beq pc 42 then some (.aload_n 0, 43, 0) else none) else (bif Nat.beq pc 43 then some (.getfield 40, 46, 0) else none))))) else (bif Nat.blt pc 51 then (bif Nat.blt pc 49 then (bif Nat.blt pc 48 then (bif Nat.beq pc 46 then some (.iload 4, 48, 0) else none) else (bif Nat.beq pc 48 then some (.iastore, 49, 0) else none)) else (bif Nat.blt pc 50 then (bif Nat.beq pc 49 then some (.aload_n 0, 50, 0) else none) else (bif Nat.beq pc 50 then some (.dup, 51, 0) else none))) else (bif Nat.blt pc 55 then (bif Nat.blt pc 54 then (bif Nat.beq pc 51 then some (.getfield 40, 54, 0) else none) else (bif Nat.beq pc 54 then some (.iconst 1, 55, 0) else none)) else (bif Nat.blt pc 56 then (bif Nat.beq pc 55 then some (.iadd, 56, 0) else none) else (bif Nat.blt pc 59 then (bif Nat.beq pc 56 then some (.putfield 40, 59, 0) else none) else (bif Nat.beq pc 59 then some (.return_, 60, 0) else none)))))))
/-- CodeRules$Codes.isGeneral(I)Z -/
noncomputable def am_cd_89 (pc : Nat) : Option (Instr × Nat × Nat) := (bif Nat.blt pc 15 then (bif Nat.blt pc 4 then (bif Nat.blt pc 2 then (bif Nat.blt pc 1 then (bif Nat.beq pc 0 then some (.iconst 0, 1, 0) else none) else (bif Nat.beq pc 1 then some (.istore_n 2, 2, 0) else none)) else (bif Nat.blt pc 3 then (bif Nat.beq pc 2 then some (.iload_n 2, 3, 0) else none) else (bif Nat.beq pc 3 then some (.aload_n 0, 4, 0) else none))) else (bif Nat.blt pc 10 then (bif Nat.blt pc 7 then (bif Nat.beq pc 4 then some (.getfield 33, 7, 0) else none) else (bif Nat.beq pc 7 then some (.if_icmp .ge 21, 10, 28) else none)) else (bif Nat.blt pc 11 then (bif Nat.beq pc 10 then some (.aload_n 0, 11, 0) else none) else (bif Nat.blt pc 14 then (bif Nat.beq pc 11 then some (.getfield 9, 14, 0) else none) else (bif Nat.beq pc 14 then some (.iload_n 2, 15, 0) else none))))) else (bif Nat.blt pc 21 then (bif Nat.blt pc 17 then (bif Nat.blt pc 16 then (bif Nat.beq pc 15 then some (.iaload, 16, 0) else none) else (bif Nat.beq pc 16 then some (.iload_n 1, 17, 0) else none)) else (bif Nat.blt pc 20 then (bif Nat.beq pc 17 then some (.if_icmp .ne 5, 20, 22) else none) else (bif Nat.beq pc 20 then some (.iconst 1, 21, 0) else none))) else (bif Nat.blt pc 25 then (bif Nat.blt pc 22 then (bif Nat.beq pc 21 then some (.ireturn, 22, 0) else none) else (bif Nat.beq pc 22 then some (.iinc 2 1, 25, 0) else none)) else (bif Nat.blt pc 28 then (bif Nat.beq pc 25 then some (.goto (-23), 28, 2) else none) else (bif Nat.blt pc 29 then (bif Nat.beq pc 28 then some (.iconst 0, 29, 0) else none) else (bif Nat.beq pc 29 then some (.ireturn, 30, 0) else none))))))
/-- CodeRules$Codes.nationalCode(III)I -/
noncomputable def am_cd_90 (pc : Nat) : Option (Instr × Nat × Nat) := (bif Nat.blt pc 48 then (bif Nat.blt pc 24 then (bif Nat.blt pc 9 then (bif Nat.blt pc 4 then (bif Nat.blt pc 1 then (bif Nat.beq pc 0 then some (.iload_n 1, 1, 0) else none) else (bif Nat.blt pc 3 then (bif Nat.beq pc 1 then some (.istore 4, 3, 0) else none) else (bif Nat.beq pc 3 then some (.iconst (-1), 4, 0) else none))) else (bif Nat.blt pc 6 then (bif Nat.beq pc 4 then some (.istore 5, 6, 0) else none) else (bif Nat.blt pc 7 then (bif Nat.beq pc 6 then some (.iconst 0, 7, 0) else none) else (bif Nat.beq pc 7 then some (.istore 6, 9, 0) else none)))) else (bif Nat.blt pc 15 then (bif Nat.blt pc 11 then (bif Nat.beq pc 9 then some (.iload 6, 11, 0) else none) else (bif Nat.blt pc 12 then (bif Nat.beq pc 11 then some (.aload_n 0, 12, 0) else none) else (bif Nat.beq pc 12 then some (.getfield 40, 15, 0) else none))) else (bif Nat.blt pc 19 then (bif Nat.blt pc 18 then (bif Nat.beq pc 15 then some (.if_icmp .ge 84, 18, 99) else none) else (bif Nat.beq pc 18 then some (.aload_n 0, 19, 0) else none)) else (bif Nat.blt pc 22 then (bif Nat.beq pc 19 then some (.getfield 21, 22, 0) else none) else (bif Nat.beq pc 22 then some (.iload 6, 24, 0) else none))))) else (bif Nat.blt pc 36 then (bif Nat.blt pc 29 then (bif Nat.blt pc 25 then (bif Nat.beq pc 24 then some (.iaload, 25, 0) else none) else (bif Nat.blt pc 26 then (bif Nat.beq pc 25 then some (.iload_n 1, 26, 0) else none) else (bif Nat.beq pc 26 then some (.if_icmp .ne 29, 29, 55) else none))) else (bif Nat.blt pc 33 then (bif Nat.blt pc 30 then (bif Nat.beq pc 29 then some (.aload_n 0, 30, 0) else none) else (bif Nat.beq pc 30 then some (.getfield 24, 33, 0) else none)) else (bif Nat.blt pc 35 then (bif Nat.beq pc 33 then some (.iload 6, 35, 0) else none) else (bif Nat.beq pc 35 then some (.iaload, 36, 0) else none)))) else (bif Nat.blt pc 41 then (bif Nat.blt pc 37 then (bif Nat.beq pc 36 then some (.iload_n 2, 37, 0) else none) else (bif Nat.blt pc 40 then (bif Nat.beq pc 37 then some (.if_icmp .ne 18, 40, 55) else none) else (bif Nat.beq pc 40 then some (.aload_n 0, 41, 0) else none))) else (bif Nat.blt pc 46 then (bif Nat.blt pc 44 then (bif Nat.beq pc 41 then some (.getfield 27, 44, 0) else none) else (bif Nat.beq pc 44 then some (.iload 6, 46, 0) else none)) else (bif Nat.blt pc 47 then (bif Nat.beq pc 46 then some (.iaload, 47, 0) else none) else (bif Nat.beq pc 47 then some (.iload_n 3, 48, 0) else none)))))) else (bif Nat.blt pc 75 then (bif Nat.blt pc 60 then (bif Nat.blt pc 55 then (bif Nat.blt pc 51 then (bif Nat.beq pc 48 then some (.if_icmp .gt 7, 51, 55) else none) else (bif Nat.blt pc 52 then (bif Nat.beq pc 51 then some (.iconst 1, 52, 0) else none) else (bif Nat.beq pc 52 then some (.goto 4, 55, 56) else none))) else (bif Nat.blt pc 56 then (bif Nat.beq pc 55 then some (.iconst 0, 56, 0) else none) else (bif Nat.blt pc 58 then (bif Nat.beq pc 56 then some (.istore 7, 58, 0) else none) else (bif Nat.beq pc 58 then some (.iload 7, 60, 0) else none)))) else (bif Nat.blt pc 67 then (bif Nat.blt pc 63 then (bif Nat.beq pc 60 then some (.ifCond .eq 33, 63, 93) else none) else (bif Nat.blt pc 64 then (bif Nat.beq pc 63 then some (.aload_n 0, 64, 0) else none) else (bif Nat.beq pc 64 then some (.getfield 27, 67, 0) else none))) else (bif Nat.blt pc 70 then (bif Nat.blt pc 69 then (bif Nat.beq pc 67 then some (.iload 6, 69, 0) else none) else (bif Nat.beq pc 69 then some (.iaload, 70, 0) else none)) else (bif Nat.blt pc 72 then (bif Nat.beq pc 70 then some (.iload 5, 72, 0) else none) else (bif Nat.beq pc 72 then some (.if_icmp .lt 21, 75, 93) else none))))) else (bif Nat.blt pc 88 then (bif Nat.blt pc 81 then (bif Nat.blt pc 76 then (bif Nat.beq pc 75 then some (.aload_n 0, 76, 0) else none) else (bif Nat.blt pc 79 then (bif Nat.beq pc 76 then some (.getfield 27, 79, 0) else none) else (bif Nat.beq pc 79 then some (.iload 6, 81, 0) else none))) else (bif Nat.blt pc 84 then (bif Nat.blt pc 82 then (bif Nat.beq pc 81 then some (.iaload, 82, 0) else none) else (bif Nat.beq pc 82 then some (.istore 5, 84, 0) else none)) else (bif Nat.blt pc 85 then (bif Nat.beq pc 84 then some (.aload_n 0, 85, 0) else none) else (bif Nat.beq pc 85 then some (.getfield 30, 88, 0) else none)))) else (bif Nat.blt pc 93 then (bif Nat.blt pc 90 then (bif Nat.beq pc 88 then some (.iload 6, 90, 0) else none) else (bif Nat.blt pc 91 then (bif Nat.beq pc 90 then some (.iaload, 91, 0) else none) else (bif Nat.beq pc 91 then some (.istore 4, 93, 0) else none))) else (bif Nat.blt pc 99 then (bif Nat.blt pc 96 then (bif Nat.beq pc 93 then some (.iinc 6 1, 96, 0) else none) else (bif Nat.beq pc 96 then some (.goto (-87), 99, 9) else none)) else (bif Nat.blt pc 101 then (bif Nat.beq pc 99 then some (.iload 4, 101, 0) else none) else (bif Nat.beq pc 101 then some (.ireturn, 102, 0) else none)))))))
/-- CodeRules$Names.<init>()V -/
noncomputable def am_cd_91 (pc : Nat) : Option (Instr × Nat × Nat) := (bif Nat.blt pc 21 then (bif Nat.blt pc 9 then (bif Nat.blt pc 4 then (bif Nat.blt pc 1 then (bif Nat.beq pc 0 then some (.aload_n 0, 1, 0) else none) else (bif Nat.beq pc 1 then some (.invokespecial 3, 4, 0) else none)) else (bif Nat.blt pc 5 then (bif Nat.beq pc 4 then some (.aload_n 0, 5, 0) else none) else (bif Nat.blt pc 7 then (bif Nat.beq pc 5 then some (.bipush 20, 7, 0) else none) else (bif Nat.beq pc 7 then some (.newarray .int, 9, 0) else none)))) else (bif Nat.blt pc 15 then (bif Nat.blt pc 12 then (bif Nat.beq pc 9 then some (.putfield 9, 12, 0) else none) else (bif Nat.blt pc 13 then (bif Nat.beq pc 12 then some (.aload_n 0, 13, 0) else none) else (bif Nat.beq pc 13 then some (.bipush 20, 15, 0) else none))) else (bif Nat.blt pc 17 then (bif Nat.beq pc 15 then some (.newarray .int, 17, 0) else none) else (bif Nat.blt pc 20 then (bif Nat.beq pc 17 then some (.putfield 15, 20, 0) else none) else (bif Nat.beq pc 20 then some (.aload_n 0, 21, 0) else none))))) else (bif Nat.blt pc 34 then (bif Nat.blt pc 29 then (bif Nat.blt pc 24 then (bif Nat.beq pc 21 then some (.sipush 160, 24, 0) else none) else (bif Nat.blt pc 26 then (bif Nat.beq pc 24 then some (.newarray .int, 26, 0) else none) else (bif Nat.beq pc 26 then some (.putfield 18, 29, 0) else none))) else (bif Nat.blt pc 30 then (bif Nat.beq pc 29 then some (.aload_n 0, 30, 0) else none) else (bif Nat.blt pc 32 then (bif Nat.beq pc 30 then some (.bipush 20, 32, 0) else none) else (bif Nat.beq pc 32 then some (.newarray .int, 34, 0) else none)))) else (bif Nat.blt pc 40 then (bif Nat.blt pc 37 then (bif Nat.beq pc 34 then some (.putfield 21, 37, 0) else none) else (bif Nat.blt pc 38 then (bif Nat.beq pc 37 then some (.aload_n 0, 38, 0) else none) else (bif Nat.beq pc 38 then some (.bipush 9, 40, 0) else none))) else (bif Nat.blt pc 42 then (bif Nat.beq pc 40 then some (.newarray .int, 42, 0) else none) else (bif Nat.blt pc 45 then (bif Nat.beq pc 42 then some (.putfield 24, 45, 0) else none) else (bif Nat.beq pc 45 then some (.return_, 46, 0) else none))))))
/-- CodeRules$Names.forget()V -/
noncomputable def am_cd_92 (pc : Nat) : Option (Instr × Nat × Nat) := (bif Nat.blt pc 2 then (bif Nat.blt pc 1 then (bif Nat.beq pc 0 then some (.aload_n 0, 1, 0) else none) else (bif Nat.beq pc 1 then some (.iconst 0, 2, 0) else none)) else (bif Nat.blt pc 5 then (bif Nat.beq pc 2 then some (.putfield 27, 5, 0) else none) else (bif Nat.beq pc 5 then some (.return_, 6, 0) else none)))
/-- CodeRules$Names.isFull()Z -/
noncomputable def am_cd_93 (pc : Nat) : Option (Instr × Nat × Nat) := (bif Nat.blt pc 9 then (bif Nat.blt pc 4 then (bif Nat.blt pc 1 then (bif Nat.beq pc 0 then some (.aload_n 0, 1, 0) else none) else (bif Nat.beq pc 1 then some (.getfield 27, 4, 0) else none)) else (bif Nat.blt pc 6 then (bif Nat.beq pc 4 then some (.bipush 20, 6, 0) else none) else (bif Nat.beq pc 6 then some (.if_icmp .lt 7, 9, 13) else none))) else (bif Nat.blt pc 13 then (bif Nat.blt pc 10 then (bif Nat.beq pc 9 then some (.iconst 1, 10, 0) else none) else (bif Nat.beq pc 10 then some (.goto 4, 13, 14) else none)) else (bif Nat.blt pc 14 then (bif Nat.beq pc 13 then some (.iconst 0, 14, 0) else none) else (bif Nat.beq pc 14 then some (.ireturn, 15, 0) else none))))
/-- CodeRules$Names.has(LCodeRules$Text;)Z -/
noncomputable def am_cd_94 (pc : Nat) : Option (Instr × Nat × Nat) := (bif Nat.blt pc 12 then (bif Nat.blt pc 4 then (bif Nat.blt pc 2 then (bif Nat.blt pc 1 then (bif Nat.beq pc 0 then some (.iconst 0, 1, 0) else none) else (bif Nat.beq pc 1 then some (.istore_n 2, 2, 0) else none)) else (bif Nat.blt pc 3 then (bif Nat.beq pc 2 then some (.iload_n 2, 3, 0) else none) else (bif Nat.beq pc 3 then some (.aload_n 0, 4, 0) else none))) else (bif Nat.blt pc 10 then (bif Nat.blt pc 7 then (bif Nat.beq pc 4 then some (.getfield 27, 7, 0) else none) else (bif Nat.beq pc 7 then some (.if_icmp .ge 20, 10, 27) else none)) else (bif Nat.blt pc 11 then (bif Nat.beq pc 10 then some (.aload_n 0, 11, 0) else none) else (bif Nat.beq pc 11 then some (.iload_n 2, 12, 0) else none)))) else (bif Nat.blt pc 20 then (bif Nat.blt pc 16 then (bif Nat.blt pc 13 then (bif Nat.beq pc 12 then some (.aload_n 1, 13, 0) else none) else (bif Nat.beq pc 13 then some (.invokevirtual 45, 16, 0) else none)) else (bif Nat.blt pc 19 then (bif Nat.beq pc 16 then some (.ifCond .eq 5, 19, 21) else none) else (bif Nat.beq pc 19 then some (.iconst 1, 20, 0) else none))) else (bif Nat.blt pc 24 then (bif Nat.blt pc 21 then (bif Nat.beq pc 20 then some (.ireturn, 21, 0) else none) else (bif Nat.beq pc 21 then some (.iinc 2 1, 24, 0) else none)) else (bif Nat.blt pc 27 then (bif Nat.beq pc 24 then some (.goto (-22), 27, 2) else none) else (bif Nat.blt pc 28 then (bif Nat.beq pc 27 then some (.iconst 0, 28, 0) else none) else (bif Nat.beq pc 28 then some (.ireturn, 29, 0) else none))))))
/-- CodeRules$Names.isSame(ILCodeRules$Text;)Z -/
noncomputable def am_cd_95 (pc : Nat) : Option (Instr × Nat × Nat) := (bif Nat.blt pc 23 then (bif Nat.blt pc 13 then (bif Nat.blt pc 5 then (bif Nat.blt pc 1 then (bif Nat.beq pc 0 then some (.aload_n 0, 1, 0) else none) else (bif Nat.blt pc 4 then (bif Nat.beq pc 1 then some (.getfield 15, 4, 0) else none) else (bif Nat.beq pc 4 then some (.iload_n 1, 5, 0) else none))) else (bif Nat.blt pc 7 then (bif Nat.blt pc 6 then (bif Nat.beq pc 5 then some (.iaload, 6, 0) else none) else (bif Nat.beq pc 6 then some (.aload_n 2, 7, 0) else none)) else (bif Nat.blt pc 10 then (bif Nat.beq pc 7 then some (.invokevirtual 35, 10, 0) else none) else (bif Nat.beq pc 10 then some (.if_icmp .eq 5, 13, 15) else none)))) else (bif Nat.blt pc 17 then (bif Nat.blt pc 15 then (bif Nat.blt pc 14 then (bif Nat.beq pc 13 then some (.iconst 0, 14, 0) else none) else (bif Nat.beq pc 14 then some (.ireturn, 15, 0) else none)) else (bif Nat.blt pc 16 then (bif Nat.beq pc 15 then some (.iconst 0, 16, 0) else none) else (bif Nat.beq pc 16 then some (.istore_n 3, 17, 0) else none))) else (bif Nat.blt pc 19 then (bif Nat.blt pc 18 then (bif Nat.beq pc 17 then some (.iload_n 3, 18, 0) else none) else (bif Nat.beq pc 18 then some (.aload_n 0, 19, 0) else none)) else (bif Nat.blt pc 22 then (bif Nat.beq pc 19 then some (.getfield 15, 22, 0) else none) else (bif Nat.beq pc 22 then some (.iload_n 1, 23, 0) else none))))) else (bif Nat.blt pc 35 then (bif Nat.blt pc 29 then (bif Nat.blt pc 27 then (bif Nat.blt pc 24 then (bif Nat.beq pc 23 then some (.iaload, 24, 0) else none) else (bif Nat.beq pc 24 then some (.if_icmp .ge 25, 27, 49) else none)) else (bif Nat.blt pc 28 then (bif Nat.beq pc 27 then some (.aload_n 0, 28, 0) else none) else (bif Nat.beq pc 28 then some (.iload_n 1, 29, 0) else none))) else (bif Nat.blt pc 33 then (bif Nat.blt pc 30 then (bif Nat.beq pc 29 then some (.iload_n 3, 30, 0) else none) else (bif Nat.beq pc 30 then some (.invokevirtual 60, 33, 0) else none)) else (bif Nat.blt pc 34 then (bif Nat.beq pc 33 then some (.aload_n 2, 34, 0) else none) else (bif Nat.beq pc 34 then some (.iload_n 3, 35, 0) else none)))) else (bif Nat.blt pc 43 then (bif Nat.blt pc 41 then (bif Nat.blt pc 38 then (bif Nat.beq pc 35 then some (.invokevirtual 41, 38, 0) else none) else (bif Nat.beq pc 38 then some (.if_icmp .eq 5, 41, 43) else none)) else (bif Nat.blt pc 42 then (bif Nat.beq pc 41 then some (.iconst 0, 42, 0) else none) else (bif Nat.beq pc 42 then some (.ireturn, 43, 0) else none))) else (bif Nat.blt pc 49 then (bif Nat.blt pc 46 then (bif Nat.beq pc 43 then some (.iinc 3 1, 46, 0) else none) else (bif Nat.beq pc 46 then some (.goto (-29), 49, 17) else none)) else (bif Nat.blt pc 50 then (bif Nat.beq pc 49 then some (.iconst 1, 50, 0) else none) else (bif Nat.beq pc 50 then some (.ireturn, 51, 0) else none))))))
/-- CodeRules$Names.letterAt(II)I -/
noncomputable def am_cd_96 (pc : Nat) : Option (Instr × Nat × Nat) := (bif Nat.blt pc 7 then (bif Nat.blt pc 4 then (bif Nat.blt pc 1 then (bif Nat.beq pc 0 then some (.aload_n 0, 1, 0) else none) else (bif Nat.beq pc 1 then some (.getfield 18, 4, 0) else none)) else (bif Nat.blt pc 5 then (bif Nat.beq pc 4 then some (.iload_n 1, 5, 0) else none) else (bif Nat.beq pc 5 then some (.bipush 8, 7, 0) else none))) else (bif Nat.blt pc 9 then (bif Nat.blt pc 8 then (bif Nat.beq pc 7 then some (.imul, 8, 0) else none) else (bif Nat.beq pc 8 then some (.iload_n 2, 9, 0) else none)) else (bif Nat.blt pc 10 then (bif Nat.beq pc 9 then some (.iadd, 10, 0) else none) else (bif Nat.blt pc 11 then (bif Nat.beq pc 10 then some (.iaload, 11, 0) else none) else (bif Nat.beq pc 11 then some (.ireturn, 12, 0) else none)))))
/-- CodeRules$Names.add(ILCodeRules$Text;)V -/
noncomputable def am_cd_97 (pc : Nat) : Option (Instr × Nat × Nat) := (bif Nat.blt pc 43 then (bif Nat.blt pc 25 then (bif Nat.blt pc 13 then (bif Nat.blt pc 7 then (bif Nat.blt pc 1 then (bif Nat.beq pc 0 then some (.aload_n 0, 1, 0) else none) else (bif Nat.blt pc 4 then (bif Nat.beq pc 1 then some (.invokevirtual 31, 4, 0) else none) else (bif Nat.beq pc 4 then some (.ifCond .ne 12, 7, 16) else none))) else (bif Nat.blt pc 8 then (bif Nat.beq pc 7 then some (.aload_n 2, 8, 0) else none) else (bif Nat.blt pc 11 then (bif Nat.beq pc 8 then some (.invokevirtual 35, 11, 0) else none) else (bif Nat.beq pc 11 then some (.bipush 8, 13, 0) else none)))) else (bif Nat.blt pc 18 then (bif Nat.blt pc 16 then (bif Nat.beq pc 13 then some (.if_icmp .le 4, 16, 17) else none) else (bif Nat.blt pc 17 then (bif Nat.beq pc 16 then some (.return_, 17, 0) else none) else (bif Nat.beq pc 17 then some (.aload_n 0, 18, 0) else none))) else (bif Nat.blt pc 21 then (bif Nat.beq pc 18 then some (.getfield 9, 21, 0) else none) else (bif Nat.blt pc 22 then (bif Nat.beq pc 21 then some (.aload_n 0, 22, 0) else none) else (bif Nat.beq pc 22 then some (.getfield 27, 25, 0) else none))))) else (bif Nat.blt pc 35 then (bif Nat.blt pc 28 then (bif Nat.blt pc 26 then (bif Nat.beq pc 25 then some (.iload_n 1, 26, 0) else none) else (bif Nat.blt pc 27 then (bif Nat.beq pc 26 then some (.iastore, 27, 0) else none) else (bif Nat.beq pc 27 then some (.aload_n 0, 28, 0) else none))) else (bif Nat.blt pc 31 then (bif Nat.beq pc 28 then some (.getfield 15, 31, 0) else none) else (bif Nat.blt pc 32 then (bif Nat.beq pc 31 then some (.aload_n 0, 32, 0) else none) else (bif Nat.beq pc 32 then some (.getfield 27, 35, 0) else none)))) else (bif Nat.blt pc 40 then (bif Nat.blt pc 36 then (bif Nat.beq pc 35 then some (.aload_n 2, 36, 0) else none) else (bif Nat.blt pc 39 then (bif Nat.beq pc 36 then some (.invokevirtual 35, 39, 0) else none) else (bif Nat.beq pc 39 then some (.iastore, 40, 0) else none))) else (bif Nat.blt pc 41 then (bif Nat.beq pc 40 then some (.iconst 0, 41, 0) else none) else (bif Nat.blt pc 42 then (bif Nat.beq pc 41 then some (.istore_n 3, 42, 0) else none) else (bif Nat.beq pc 42 then some (.iload_n 3, 43, 0) else none)))))) else (bif Nat.blt pc 64 then (bif Nat.blt pc 55 then (bif Nat.blt pc 50 then (bif Nat.blt pc 44 then (bif Nat.beq pc 43 then some (.aload_n 2, 44, 0) else none) else (bif Nat.blt pc 47 then (bif Nat.beq pc 44 then some (.invokevirtual 35, 47, 0) else none) else (bif Nat.beq pc 47 then some (.if_icmp .ge 28, 50, 75) else none))) else (bif Nat.blt pc 51 then (bif Nat.beq pc 50 then some (.aload_n 0, 51, 0) else none) else (bif Nat.blt pc 54 then (bif Nat.beq pc 51 then some (.getfield 18, 54, 0) else none) else (bif Nat.beq pc 54 then some (.aload_n 0, 55, 0) else none)))) else (bif Nat.blt pc 61 then (bif Nat.blt pc 58 then (bif Nat.beq pc 55 then some (.getfield 27, 58, 0) else none) else (bif Nat.blt pc 60 then (bif Nat.beq pc 58 then some (.bipush 8, 60, 0) else none) else (bif Nat.beq pc 60 then some (.imul, 61, 0) else none))) else (bif Nat.blt pc 62 then (bif Nat.beq pc 61 then some (.iload_n 3, 62, 0) else none) else (bif Nat.blt pc 63 then (bif Nat.beq pc 62 then some (.iadd, 63, 0) else none) else (bif Nat.beq pc 63 then some (.aload_n 2, 64, 0) else none))))) else (bif Nat.blt pc 76 then (bif Nat.blt pc 69 then (bif Nat.blt pc 65 then (bif Nat.beq pc 64 then some (.iload_n 3, 65, 0) else none) else (bif Nat.blt pc 68 then (bif Nat.beq pc 65 then some (.invokevirtual 41, 68, 0) else none) else (bif Nat.beq pc 68 then some (.iastore, 69, 0) else none))) else (bif Nat.blt pc 72 then (bif Nat.beq pc 69 then some (.iinc 3 1, 72, 0) else none) else (bif Nat.blt pc 75 then (bif Nat.beq pc 72 then some (.goto (-30), 75, 42) else none) else (bif Nat.beq pc 75 then some (.aload_n 0, 76, 0) else none)))) else (bif Nat.blt pc 81 then (bif Nat.blt pc 77 then (bif Nat.beq pc 76 then some (.dup, 77, 0) else none) else (bif Nat.blt pc 80 then (bif Nat.beq pc 77 then some (.getfield 27, 80, 0) else none) else (bif Nat.beq pc 80 then some (.iconst 1, 81, 0) else none))) else (bif Nat.blt pc 82 then (bif Nat.beq pc 81 then some (.iadd, 82, 0) else none) else (bif Nat.blt pc 85 then (bif Nat.beq pc 82 then some (.putfield 27, 85, 0) else none) else (bif Nat.beq pc 85 then some (.return_, 86, 0) else none)))))))
/-- CodeRules$Names.nearestTo(LCodeRules$Text;I)I -/
noncomputable def am_cd_98 (pc : Nat) : Option (Instr × Nat × Nat) := (bif Nat.blt pc 28 then (bif Nat.blt pc 14 then (bif Nat.blt pc 4 then (bif Nat.blt pc 2 then (bif Nat.blt pc 1 then (bif Nat.beq pc 0 then some (.iconst 0, 1, 0) else none) else (bif Nat.beq pc 1 then some (.istore_n 3, 2, 0) else none)) else (bif Nat.blt pc 3 then (bif Nat.beq pc 2 then some (.iload_n 3, 3, 0) else none) else (bif Nat.beq pc 3 then some (.aload_n 0, 4, 0) else none))) else (bif Nat.blt pc 10 then (bif Nat.blt pc 7 then (bif Nat.beq pc 4 then some (.getfield 27, 7, 0) else none) else (bif Nat.beq pc 7 then some (.if_icmp .ge 21, 10, 28) else none)) else (bif Nat.blt pc 11 then (bif Nat.beq pc 10 then some (.aload_n 0, 11, 0) else none) else (bif Nat.beq pc 11 then some (.getfield 21, 14, 0) else none)))) else (bif Nat.blt pc 18 then (bif Nat.blt pc 16 then (bif Nat.blt pc 15 then (bif Nat.beq pc 14 then some (.iload_n 3, 15, 0) else none) else (bif Nat.beq pc 15 then some (.aload_n 0, 16, 0) else none)) else (bif Nat.blt pc 17 then (bif Nat.beq pc 16 then some (.iload_n 3, 17, 0) else none) else (bif Nat.beq pc 17 then some (.aload_n 1, 18, 0) else none))) else (bif Nat.blt pc 22 then (bif Nat.blt pc 21 then (bif Nat.beq pc 18 then some (.invokevirtual 53, 21, 0) else none) else (bif Nat.beq pc 21 then some (.iastore, 22, 0) else none)) else (bif Nat.blt pc 25 then (bif Nat.beq pc 22 then some (.iinc 3 1, 25, 0) else none) else (bif Nat.beq pc 25 then some (.goto (-23), 28, 2) else none))))) else (bif Nat.blt pc 40 then (bif Nat.blt pc 32 then (bif Nat.blt pc 30 then (bif Nat.blt pc 29 then (bif Nat.beq pc 28 then some (.iconst 0, 29, 0) else none) else (bif Nat.beq pc 29 then some (.istore_n 3, 30, 0) else none)) else (bif Nat.blt pc 31 then (bif Nat.beq pc 30 then some (.iload_n 3, 31, 0) else none) else (bif Nat.beq pc 31 then some (.aload_n 0, 32, 0) else none))) else (bif Nat.blt pc 38 then (bif Nat.blt pc 35 then (bif Nat.beq pc 32 then some (.getfield 27, 35, 0) else none) else (bif Nat.beq pc 35 then some (.if_icmp .ge 20, 38, 55) else none)) else (bif Nat.blt pc 39 then (bif Nat.beq pc 38 then some (.aload_n 0, 39, 0) else none) else (bif Nat.beq pc 39 then some (.iload_n 3, 40, 0) else none)))) else (bif Nat.blt pc 48 then (bif Nat.blt pc 44 then (bif Nat.blt pc 43 then (bif Nat.beq pc 40 then some (.invokevirtual 57, 43, 0) else none) else (bif Nat.beq pc 43 then some (.iload_n 2, 44, 0) else none)) else (bif Nat.blt pc 47 then (bif Nat.beq pc 44 then some (.if_icmp .ne 5, 47, 49) else none) else (bif Nat.beq pc 47 then some (.iload_n 3, 48, 0) else none))) else (bif Nat.blt pc 52 then (bif Nat.blt pc 49 then (bif Nat.beq pc 48 then some (.ireturn, 49, 0) else none) else (bif Nat.beq pc 49 then some (.iinc 3 1, 52, 0) else none)) else (bif Nat.blt pc 55 then (bif Nat.beq pc 52 then some (.goto (-22), 55, 30) else none) else (bif Nat.blt pc 56 then (bif Nat.beq pc 55 then some (.iconst (-1), 56, 0) else none) else (bif Nat.beq pc 56 then some (.ireturn, 57, 0) else none)))))))
/-- CodeRules$Names.distance(ILCodeRules$Text;)I -/
noncomputable def am_cd_99 (pc : Nat) : Option (Instr × Nat × Nat) := (bif Nat.blt pc 78 then (bif Nat.blt pc 40 then (bif Nat.blt pc 17 then (bif Nat.blt pc 7 then (bif Nat.blt pc 4 then (bif Nat.blt pc 1 then (bif Nat.beq pc 0 then some (.aload_n 0, 1, 0) else none) else (bif Nat.beq pc 1 then some (.getfield 15, 4, 0) else none)) else (bif Nat.blt pc 5 then (bif Nat.beq pc 4 then some (.iload_n 1, 5, 0) else none) else (bif Nat.blt pc 6 then (bif Nat.beq pc 5 then some (.iaload, 6, 0) else none) else (bif Nat.beq pc 6 then some (.istore_n 3, 7, 0) else none)))) else (bif Nat.blt pc 12 then (bif Nat.blt pc 8 then (bif Nat.beq pc 7 then some (.iconst 0, 8, 0) else none) else (bif Nat.blt pc 10 then (bif Nat.beq pc 8 then some (.istore 4, 10, 0) else none) else (bif Nat.beq pc 10 then some (.iload 4, 12, 0) else none))) else (bif Nat.blt pc 13 then (bif Nat.beq pc 12 then some (.iload_n 3, 13, 0) else none) else (bif Nat.blt pc 16 then (bif Nat.beq pc 13 then some (.if_icmp .gt 18, 16, 31) else none) else (bif Nat.beq pc 16 then some (.aload_n 0, 17, 0) else none))))) else (bif Nat.blt pc 28 then (bif Nat.blt pc 22 then (bif Nat.blt pc 20 then (bif Nat.beq pc 17 then some (.getfield 24, 20, 0) else none) else (bif Nat.beq pc 20 then some (.iload 4, 22, 0) else none)) else (bif Nat.blt pc 24 then (bif Nat.beq pc 22 then some (.iload 4, 24, 0) else none) else (bif Nat.blt pc 25 then (bif Nat.beq pc 24 then some (.iastore, 25, 0) else none) else (bif Nat.beq pc 25 then some (.iinc 4 1, 28, 0) else none)))) else (bif Nat.blt pc 34 then (bif Nat.blt pc 31 then (bif Nat.beq pc 28 then some (.goto (-18), 31, 10) else none) else (bif Nat.blt pc 32 then (bif Nat.beq pc 31 then some (.iconst 1, 32, 0) else none) else (bif Nat.beq pc 32 then some (.istore 4, 34, 0) else none))) else (bif Nat.blt pc 36 then (bif Nat.beq pc 34 then some (.iload 4, 36, 0) else none) else (bif Nat.blt pc 37 then (bif Nat.beq pc 36 then some (.aload_n 2, 37, 0) else none) else (bif Nat.beq pc 37 then some (.invokevirtual 35, 40, 0) else none)))))) else (bif Nat.blt pc 59 then (bif Nat.blt pc 49 then (bif Nat.blt pc 44 then (bif Nat.blt pc 43 then (bif Nat.beq pc 40 then some (.if_icmp .gt 112, 43, 152) else none) else (bif Nat.beq pc 43 then some (.aload_n 0, 44, 0) else none)) else (bif Nat.blt pc 47 then (bif Nat.beq pc 44 then some (.getfield 24, 47, 0) else none) else (bif Nat.blt pc 48 then (bif Nat.beq pc 47 then some (.iconst 0, 48, 0) else none) else (bif Nat.beq pc 48 then some (.iaload, 49, 0) else none)))) else (bif Nat.blt pc 55 then (bif Nat.blt pc 51 then (bif Nat.beq pc 49 then some (.istore 5, 51, 0) else none) else (bif Nat.blt pc 52 then (bif Nat.beq pc 51 then some (.aload_n 0, 52, 0) else none) else (bif Nat.beq pc 52 then some (.getfield 24, 55, 0) else none))) else (bif Nat.blt pc 56 then (bif Nat.beq pc 55 then some (.iconst 0, 56, 0) else none) else (bif Nat.blt pc 58 then (bif Nat.beq pc 56 then some (.iload 4, 58, 0) else none) else (bif Nat.beq pc 58 then some (.iastore, 59, 0) else none))))) else (bif Nat.blt pc 68 then (bif Nat.blt pc 62 then (bif Nat.blt pc 60 then (bif Nat.beq pc 59 then some (.iconst 1, 60, 0) else none) else (bif Nat.beq pc 60 then some (.istore 6, 62, 0) else none)) else (bif Nat.blt pc 64 then (bif Nat.beq pc 62 then some (.iload 6, 64, 0) else none) else (bif Nat.blt pc 65 then (bif Nat.beq pc 64 then some (.iload_n 3, 65, 0) else none) else (bif Nat.beq pc 65 then some (.if_icmp .gt 81, 68, 146) else none)))) else (bif Nat.blt pc 74 then (bif Nat.blt pc 69 then (bif Nat.beq pc 68 then some (.aload_n 0, 69, 0) else none) else (bif Nat.blt pc 72 then (bif Nat.beq pc 69 then some (.getfield 24, 72, 0) else none) else (bif Nat.beq pc 72 then some (.iload 6, 74, 0) else none))) else (bif Nat.blt pc 75 then (bif Nat.beq pc 74 then some (.iaload, 75, 0) else none) else (bif Nat.blt pc 77 then (bif Nat.beq pc 75 then some (.istore 7, 77, 0) else none) else (bif Nat.beq pc 77 then some (.aload_n 2, 78, 0) else none))))))) else (bif Nat.blt pc 118 then (bif Nat.blt pc 97 then (bif Nat.blt pc 86 then (bif Nat.blt pc 81 then (bif Nat.blt pc 80 then (bif Nat.beq pc 78 then some (.iload 4, 80, 0) else none) else (bif Nat.beq pc 80 then some (.iconst 1, 81, 0) else none)) else (bif Nat.blt pc 82 then (bif Nat.beq pc 81 then some (.isub, 82, 0) else none) else (bif Nat.blt pc 85 then (bif Nat.beq pc 82 then some (.invokevirtual 41, 85, 0) else none) else (bif Nat.beq pc 85 then some (.aload_n 0, 86, 0) else none)))) else (bif Nat.blt pc 90 then (bif Nat.blt pc 87 then (bif Nat.beq pc 86 then some (.iload_n 1, 87, 0) else none) else (bif Nat.blt pc 89 then (bif Nat.beq pc 87 then some (.iload 6, 89, 0) else none) else (bif Nat.beq pc 89 then some (.iconst 1, 90, 0) else none))) else (bif Nat.blt pc 91 then (bif Nat.beq pc 90 then some (.isub, 91, 0) else none) else (bif Nat.blt pc 94 then (bif Nat.beq pc 91 then some (.invokevirtual 60, 94, 0) else none) else (bif Nat.beq pc 94 then some (.if_icmp .ne 8, 97, 102) else none))))) else (bif Nat.blt pc 106 then (bif Nat.blt pc 102 then (bif Nat.blt pc 99 then (bif Nat.beq pc 97 then some (.iload 5, 99, 0) else none) else (bif Nat.beq pc 99 then some (.goto 7, 102, 106) else none)) else (bif Nat.blt pc 104 then (bif Nat.beq pc 102 then some (.iload 5, 104, 0) else none) else (bif Nat.blt pc 105 then (bif Nat.beq pc 104 then some (.iconst 1, 105, 0) else none) else (bif Nat.beq pc 105 then some (.iadd, 106, 0) else none)))) else (bif Nat.blt pc 112 then (bif Nat.blt pc 108 then (bif Nat.beq pc 106 then some (.istore 8, 108, 0) else none) else (bif Nat.blt pc 109 then (bif Nat.beq pc 108 then some (.aload_n 0, 109, 0) else none) else (bif Nat.beq pc 109 then some (.getfield 24, 112, 0) else none))) else (bif Nat.blt pc 114 then (bif Nat.beq pc 112 then some (.iload 6, 114, 0) else none) else (bif Nat.blt pc 116 then (bif Nat.beq pc 114 then some (.iload 8, 116, 0) else none) else (bif Nat.beq pc 116 then some (.iload 7, 118, 0) else none)))))) else (bif Nat.blt pc 136 then (bif Nat.blt pc 126 then (bif Nat.blt pc 122 then (bif Nat.blt pc 119 then (bif Nat.beq pc 118 then some (.aload_n 0, 119, 0) else none) else (bif Nat.beq pc 119 then some (.getfield 24, 122, 0) else none)) else (bif Nat.blt pc 124 then (bif Nat.beq pc 122 then some (.iload 6, 124, 0) else none) else (bif Nat.blt pc 125 then (bif Nat.beq pc 124 then some (.iconst 1, 125, 0) else none) else (bif Nat.beq pc 125 then some (.isub, 126, 0) else none)))) else (bif Nat.blt pc 131 then (bif Nat.blt pc 127 then (bif Nat.beq pc 126 then some (.iaload, 127, 0) else none) else (bif Nat.blt pc 130 then (bif Nat.beq pc 127 then some (.invokestatic 64, 130, 0) else none) else (bif Nat.beq pc 130 then some (.iconst 1, 131, 0) else none))) else (bif Nat.blt pc 132 then (bif Nat.beq pc 131 then some (.iadd, 132, 0) else none) else (bif Nat.blt pc 135 then (bif Nat.beq pc 132 then some (.invokestatic 64, 135, 0) else none) else (bif Nat.beq pc 135 then some (.iastore, 136, 0) else none))))) else (bif Nat.blt pc 149 then (bif Nat.blt pc 140 then (bif Nat.blt pc 138 then (bif Nat.beq pc 136 then some (.iload 7, 138, 0) else none) else (bif Nat.beq pc 138 then some (.istore 5, 140, 0) else none)) else (bif Nat.blt pc 143 then (bif Nat.beq pc 140 then some (.iinc 6 1, 143, 0) else none) else (bif Nat.blt pc 146 then (bif Nat.beq pc 143 then some (.goto (-81), 146, 62) else none) else (bif Nat.beq pc 146 then some (.iinc 4 1, 149, 0) else none)))) else (bif Nat.blt pc 156 then (bif Nat.blt pc 152 then (bif Nat.beq pc 149 then some (.goto (-115), 152, 34) else none) else (bif Nat.blt pc 153 then (bif Nat.beq pc 152 then some (.aload_n 0, 153, 0) else none) else (bif Nat.beq pc 153 then some (.getfield 24, 156, 0) else none))) else (bif Nat.blt pc 157 then (bif Nat.beq pc 156 then some (.iload_n 3, 157, 0) else none) else (bif Nat.blt pc 158 then (bif Nat.beq pc 157 then some (.iaload, 158, 0) else none) else (bif Nat.beq pc 158 then some (.ireturn, 159, 0) else none))))))))
/-- CodeRules$Names.rank(I)I -/
noncomputable def am_cd_100 (pc : Nat) : Option (Instr × Nat × Nat) := (bif Nat.blt pc 38 then (bif Nat.blt pc 17 then (bif Nat.blt pc 5 then (bif Nat.blt pc 2 then (bif Nat.blt pc 1 then (bif Nat.beq pc 0 then some (.iconst 0, 1, 0) else none) else (bif Nat.beq pc 1 then some (.istore_n 2, 2, 0) else none)) else (bif Nat.blt pc 3 then (bif Nat.beq pc 2 then some (.iconst 0, 3, 0) else none) else (bif Nat.blt pc 4 then (bif Nat.beq pc 3 then some (.istore_n 3, 4, 0) else none) else (bif Nat.beq pc 4 then some (.iload_n 3, 5, 0) else none)))) else (bif Nat.blt pc 12 then (bif Nat.blt pc 6 then (bif Nat.beq pc 5 then some (.aload_n 0, 6, 0) else none) else (bif Nat.blt pc 9 then (bif Nat.beq pc 6 then some (.getfield 27, 9, 0) else none) else (bif Nat.beq pc 9 then some (.if_icmp .ge 71, 12, 80) else none))) else (bif Nat.blt pc 13 then (bif Nat.beq pc 12 then some (.aload_n 0, 13, 0) else none) else (bif Nat.blt pc 16 then (bif Nat.beq pc 13 then some (.getfield 21, 16, 0) else none) else (bif Nat.beq pc 16 then some (.iload_n 3, 17, 0) else none))))) else (bif Nat.blt pc 27 then (bif Nat.blt pc 22 then (bif Nat.blt pc 18 then (bif Nat.beq pc 17 then some (.iaload, 18, 0) else none) else (bif Nat.blt pc 19 then (bif Nat.beq pc 18 then some (.aload_n 0, 19, 0) else none) else (bif Nat.beq pc 19 then some (.getfield 21, 22, 0) else none))) else (bif Nat.blt pc 23 then (bif Nat.beq pc 22 then some (.iload_n 1, 23, 0) else none) else (bif Nat.blt pc 24 then (bif Nat.beq pc 23 then some (.iaload, 24, 0) else none) else (bif Nat.beq pc 24 then some (.if_icmp .ge 7, 27, 31) else none)))) else (bif Nat.blt pc 32 then (bif Nat.blt pc 28 then (bif Nat.beq pc 27 then some (.iconst 1, 28, 0) else none) else (bif Nat.blt pc 31 then (bif Nat.beq pc 28 then some (.goto 4, 31, 32) else none) else (bif Nat.beq pc 31 then some (.iconst 0, 32, 0) else none))) else (bif Nat.blt pc 34 then (bif Nat.beq pc 32 then some (.istore 4, 34, 0) else none) else (bif Nat.blt pc 35 then (bif Nat.beq pc 34 then some (.aload_n 0, 35, 0) else none) else (bif Nat.beq pc 35 then some (.getfield 21, 38, 0) else none)))))) else (bif Nat.blt pc 55 then (bif Nat.blt pc 45 then (bif Nat.blt pc 40 then (bif Nat.blt pc 39 then (bif Nat.beq pc 38 then some (.iload_n 3, 39, 0) else none) else (bif Nat.beq pc 39 then some (.iaload, 40, 0) else none)) else (bif Nat.blt pc 41 then (bif Nat.beq pc 40 then some (.aload_n 0, 41, 0) else none) else (bif Nat.blt pc 44 then (bif Nat.beq pc 41 then some (.getfield 21, 44, 0) else none) else (bif Nat.beq pc 44 then some (.iload_n 1, 45, 0) else none)))) else (bif Nat.blt pc 50 then (bif Nat.blt pc 46 then (bif Nat.beq pc 45 then some (.iaload, 46, 0) else none) else (bif Nat.blt pc 49 then (bif Nat.beq pc 46 then some (.if_icmp .ne 12, 49, 58) else none) else (bif Nat.beq pc 49 then some (.iload_n 3, 50, 0) else none))) else (bif Nat.blt pc 51 then (bif Nat.beq pc 50 then some (.iload_n 1, 51, 0) else none) else (bif Nat.blt pc 54 then (bif Nat.beq pc 51 then some (.if_icmp .ge 7, 54, 58) else none) else (bif Nat.beq pc 54 then some (.iconst 1, 55, 0) else none))))) else (bif Nat.blt pc 68 then (bif Nat.blt pc 61 then (bif Nat.blt pc 58 then (bif Nat.beq pc 55 then some (.goto 4, 58, 59) else none) else (bif Nat.blt pc 59 then (bif Nat.beq pc 58 then some (.iconst 0, 59, 0) else none) else (bif Nat.beq pc 59 then some (.istore 5, 61, 0) else none))) else (bif Nat.blt pc 63 then (bif Nat.beq pc 61 then some (.iload 4, 63, 0) else none) else (bif Nat.blt pc 66 then (bif Nat.beq pc 63 then some (.ifCond .ne 8, 66, 71) else none) else (bif Nat.beq pc 66 then some (.iload 5, 68, 0) else none)))) else (bif Nat.blt pc 77 then (bif Nat.blt pc 71 then (bif Nat.beq pc 68 then some (.ifCond .eq 6, 71, 74) else none) else (bif Nat.blt pc 74 then (bif Nat.beq pc 71 then some (.iinc 2 1, 74, 0) else none) else (bif Nat.beq pc 74 then some (.iinc 3 1, 77, 0) else none))) else (bif Nat.blt pc 80 then (bif Nat.beq pc 77 then some (.goto (-73), 80, 4) else none) else (bif Nat.blt pc 81 then (bif Nat.beq pc 80 then some (.iload_n 2, 81, 0) else none) else (bif Nat.beq pc 81 then some (.ireturn, 82, 0) else none)))))))
/-- CodeRules$Names.codeAt(I)I -/
noncomputable def am_cd_101 (pc : Nat) : Option (Instr × Nat × Nat) := (bif Nat.blt pc 12 then (bif Nat.blt pc 5 then (bif Nat.blt pc 1 then (bif Nat.beq pc 0 then some (.iload_n 1, 1, 0) else none) else (bif Nat.blt pc 2 then (bif Nat.beq pc 1 then some (.aload_n 0, 2, 0) else none) else (bif Nat.beq pc 2 then some (.getfield 27, 5, 0) else none))) else (bif Nat.blt pc 8 then (bif Nat.beq pc 5 then some (.invokestatic 49, 8, 0) else none) else (bif Nat.blt pc 11 then (bif Nat.beq pc 8 then some (.ifCond .eq 12, 11, 20) else none) else (bif Nat.beq pc 11 then some (.aload_n 0, 12, 0) else none)))) else (bif Nat.blt pc 17 then (bif Nat.blt pc 15 then (bif Nat.beq pc 12 then some (.getfield 9, 15, 0) else none) else (bif Nat.blt pc 16 then (bif Nat.beq pc 15 then some (.iload_n 1, 16, 0) else none) else (bif Nat.beq pc 16 then some (.iaload, 17, 0) else none))) else (bif Nat.blt pc 20 then (bif Nat.beq pc 17 then some (.goto 4, 20, 21) else none) else (bif Nat.blt pc 21 then (bif Nat.beq pc 20 then some (.iconst (-1), 21, 0) else none) else (bif Nat.beq pc 21 then some (.ireturn, 22, 0) else none)))))
/-- CodeRules$Names.distanceAt(I)I -/
noncomputable def am_cd_102 (pc : Nat) : Option (Instr × Nat × Nat) := (bif Nat.blt pc 12 then (bif Nat.blt pc 5 then (bif Nat.blt pc 1 then (bif Nat.beq pc 0 then some (.iload_n 1, 1, 0) else none) else (bif Nat.blt pc 2 then (bif Nat.beq pc 1 then some (.aload_n 0, 2, 0) else none) else (bif Nat.beq pc 2 then some (.getfield 27, 5, 0) else none))) else (bif Nat.blt pc 8 then (bif Nat.beq pc 5 then some (.invokestatic 49, 8, 0) else none) else (bif Nat.blt pc 11 then (bif Nat.beq pc 8 then some (.ifCond .eq 12, 11, 20) else none) else (bif Nat.beq pc 11 then some (.aload_n 0, 12, 0) else none)))) else (bif Nat.blt pc 17 then (bif Nat.blt pc 15 then (bif Nat.beq pc 12 then some (.getfield 21, 15, 0) else none) else (bif Nat.blt pc 16 then (bif Nat.beq pc 15 then some (.iload_n 1, 16, 0) else none) else (bif Nat.beq pc 16 then some (.iaload, 17, 0) else none))) else (bif Nat.blt pc 20 then (bif Nat.beq pc 17 then some (.goto 4, 20, 21) else none) else (bif Nat.blt pc 21 then (bif Nat.beq pc 20 then some (.iconst (-1), 21, 0) else none) else (bif Nat.beq pc 21 then some (.ireturn, 22, 0) else none)))))
/-- CodeRulesModel.<init>()V -/
noncomputable def am_cd_103 (pc : Nat) : Option (Instr × Nat × Nat) := (bif Nat.blt pc 88 then (bif Nat.blt pc 42 then (bif Nat.blt pc 21 then (bif Nat.blt pc 10 then (bif Nat.blt pc 4 then (bif Nat.blt pc 1 then (bif Nat.beq pc 0 then some (.aload_n 0, 1, 0) else none) else (bif Nat.beq pc 1 then some (.invokespecial 1, 4, 0) else none)) else (bif Nat.blt pc 5 then (bif Nat.beq pc 4 then some (.aload_n 0, 5, 0) else none) else (bif Nat.blt pc 8 then (bif Nat.beq pc 5 then some (.sipush 900, 8, 0) else none) else (bif Nat.beq pc 8 then some (.newarray .int, 10, 0) else none)))) else (bif Nat.blt pc 14 then (bif Nat.blt pc 13 then (bif Nat.beq pc 10 then some (.putfield 7, 13, 0) else none) else (bif Nat.beq pc 13 then some (.aload_n 0, 14, 0) else none)) else (bif Nat.blt pc 16 then (bif Nat.beq pc 14 then some (.bipush 12, 16, 0) else none) else (bif Nat.blt pc 18 then (bif Nat.beq pc 16 then some (.newarray .int, 18, 0) else none) else (bif Nat.beq pc 18 then some (.putfield 13, 21, 0) else none))))) else (bif Nat.blt pc 30 then (bif Nat.blt pc 24 then (bif Nat.blt pc 22 then (bif Nat.beq pc 21 then some (.aload_n 0, 22, 0) else none) else (bif Nat.beq pc 22 then some (.bipush 60, 24, 0) else none)) else (bif Nat.blt pc 26 then (bif Nat.beq pc 24 then some (.newarray .int, 26, 0) else none) else (bif Nat.blt pc 29 then (bif Nat.beq pc 26 then some (.putfield 16, 29, 0) else none) else (bif Nat.beq pc 29 then some (.aload_n 0, 30, 0) else none)))) else (bif Nat.blt pc 37 then (bif Nat.blt pc 32 then (bif Nat.beq pc 30 then some (.bipush 60, 32, 0) else none) else (bif Nat.blt pc 34 then (bif Nat.beq pc 32 then some (.newarray .int, 34, 0) else none) else (bif Nat.beq pc 34 then some (.putfield 19, 37, 0) else none))) else (bif Nat.blt pc 38 then (bif Nat.beq pc 37 then some (.aload_n 0, 38, 0) else none) else (bif Nat.blt pc 40 then (bif Nat.beq pc 38 then some (.bipush 62, 40, 0) else none) else (bif Nat.beq pc 40 then some (.newarray .int, 42, 0) else none)))))) else (bif Nat.blt pc 65 then (bif Nat.blt pc 54 then (bif Nat.blt pc 46 then (bif Nat.blt pc 45 then (bif Nat.beq pc 42 then some (.putfield 22, 45, 0) else none) else (bif Nat.beq pc 45 then some (.aload_n 0, 46, 0) else none)) else (bif Nat.blt pc 49 then (bif Nat.beq pc 46 then some (.sipush 360, 49, 0) else none) else (bif Nat.blt pc 51 then (bif Nat.beq pc 49 then some (.newarray .int, 51, 0) else none) else (bif Nat.beq pc 51 then some (.putfield 25, 54, 0) else none)))) else (bif Nat.blt pc 59 then (bif Nat.blt pc 55 then (bif Nat.beq pc 54 then some (.aload_n 0, 55, 0) else none) else (bif Nat.blt pc 57 then (bif Nat.beq pc 55 then some (.bipush 32, 57, 0) else none) else (bif Nat.beq pc 57 then some (.newarray .int, 59, 0) else none))) else (bif Nat.blt pc 62 then (bif Nat.beq pc 59 then some (.putfield 28, 62, 0) else none) else (bif Nat.blt pc 63 then (bif Nat.beq pc 62 then some (.aload_n 0, 63, 0) else none) else (bif Nat.beq pc 63 then some (.bipush 64, 65, 0) else none))))) else (bif Nat.blt pc 76 then (bif Nat.blt pc 70 then (bif Nat.blt pc 67 then (bif Nat.beq pc 65 then some (.newarray .int, 67, 0) else none) else (bif Nat.beq pc 67 then some (.putfield 31, 70, 0) else none)) else (bif Nat.blt pc 71 then (bif Nat.beq pc 70 then some (.aload_n 0, 71, 0) else none) else (bif Nat.blt pc 74 then (bif Nat.beq pc 71 then some (.sipush 160, 74, 0) else none) else (bif Nat.beq pc 74 then some (.newarray .int, 76, 0) else none)))) else (bif Nat.blt pc 82 then (bif Nat.blt pc 79 then (bif Nat.beq pc 76 then some (.putfield 34, 79, 0) else none) else (bif Nat.blt pc 80 then (bif Nat.beq pc 79 then some (.aload_n 0, 80, 0) else none) else (bif Nat.beq pc 80 then some (.bipush 40, 82, 0) else none))) else (bif Nat.blt pc 84 then (bif Nat.beq pc 82 then some (.newarray .int, 84, 0) else none) else (bif Nat.blt pc 87 then (bif Nat.beq pc 84 then some (.putfield 37, 87, 0) else none) else (bif Nat.beq pc 87 then some (.aload_n 0, 88, 0) else none))))))) else (bif Nat.blt pc 132 then (bif Nat.blt pc 111 then (bif Nat.blt pc 98 then (bif Nat.blt pc 92 then (bif Nat.blt pc 90 then (bif Nat.beq pc 88 then some (.bipush 40, 90, 0) else none) else (bif Nat.beq pc 90 then some (.newarray .long, 92, 0) else none)) else (bif Nat.blt pc 95 then (bif Nat.beq pc 92 then some (.putfield 40, 95, 0) else none) else (bif Nat.blt pc 96 then (bif Nat.beq pc 95 then some (.aload_n 0, 96, 0) else none) else (bif Nat.beq pc 96 then some (.bipush 10, 98, 0) else none)))) else (bif Nat.blt pc 104 then (bif Nat.blt pc 100 then (bif Nat.beq pc 98 then some (.newarray .boolean, 100, 0) else none) else (bif Nat.blt pc 103 then (bif Nat.beq pc 100 then some (.putfield 44, 103, 0) else none) else (bif Nat.beq pc 103 then some (.aload_n 0, 104, 0) else none))) else (bif Nat.blt pc 106 then (bif Nat.beq pc 104 then some (.bipush 10, 106, 0) else none) else (bif Nat.blt pc 108 then (bif Nat.beq pc 106 then some (.newarray .int, 108, 0) else none) else (bif Nat.beq pc 108 then some (.putfield 48, 111, 0) else none))))) else (bif Nat.blt pc 120 then (bif Nat.blt pc 114 then (bif Nat.blt pc 112 then (bif Nat.beq pc 111 then some (.aload_n 0, 112, 0) else none) else (bif Nat.beq pc 112 then some (.bipush 60, 114, 0) else none)) else (bif Nat.blt pc 116 then (bif Nat.beq pc 114 then some (.newarray .boolean, 116, 0) else none) else (bif Nat.blt pc 119 then (bif Nat.beq pc 116 then some (.putfield 51, 119, 0) else none) else (bif Nat.beq pc 119 then some (.aload_n 0, 120, 0) else none)))) else (bif Nat.blt pc 127 then (bif Nat.blt pc 122 then (bif Nat.beq pc 120 then some (.bipush 60, 122, 0) else none) else (bif Nat.blt pc 124 then (bif Nat.beq pc 122 then some (.newarray .boolean, 124, 0) else none) else (bif Nat.beq pc 124 then some (.putfield 54, 127, 0) else none))) else (bif Nat.blt pc 128 then (bif Nat.beq pc 127 then some (.aload_n 0, 128, 0) else none) else (bif Nat.blt pc 130 then (bif Nat.beq pc 128 then some (.bipush 6, 130, 0) else none) else (bif Nat.beq pc 130 then some (.newarray .int, 132, 0) else none)))))) else (bif Nat.blt pc 154 then (bif Nat.blt pc 143 then (bif Nat.blt pc 136 then (bif Nat.blt pc 135 then (bif Nat.beq pc 132 then some (.putfield 57, 135, 0) else none) else (bif Nat.beq pc 135 then some (.aload_n 0, 136, 0) else none)) else (bif Nat.blt pc 138 then (bif Nat.beq pc 136 then some (.bipush 60, 138, 0) else none) else (bif Nat.blt pc 140 then (bif Nat.beq pc 138 then some (.newarray .int, 140, 0) else none) else (bif Nat.beq pc 140 then some (.putfield 60, 143, 0) else none)))) else (bif Nat.blt pc 148 then (bif Nat.blt pc 144 then (bif Nat.beq pc 143 then some (.aload_n 0, 144, 0) else none) else (bif Nat.blt pc 146 then (bif Nat.beq pc 144 then some (.bipush 8, 146, 0) else none) else (bif Nat.beq pc 146 then some (.newarray .int, 148, 0) else none))) else (bif Nat.blt pc 151 then (bif Nat.beq pc 148 then some (.putfield 63, 151, 0) else none) else (bif Nat.blt pc 152 then (bif Nat.beq pc 151 then some (.aload_n 0, 152, 0) else none) else (bif Nat.beq pc 152 then some (.bipush 96, 154, 0) else none))))) else (bif Nat.blt pc 164 then (bif Nat.blt pc 159 then (bif Nat.blt pc 156 then (bif Nat.beq pc 154 then some (.newarray .int, 156, 0) else none) else (bif Nat.beq pc 156 then some (.putfield 66, 159, 0) else none)) else (bif Nat.blt pc 160 then (bif Nat.beq pc 159 then some (.aload_n 0, 160, 0) else none) else (bif Nat.blt pc 162 then (bif Nat.beq pc 160 then some (.bipush 9, 162, 0) else none) else (bif Nat.beq pc 162 then some (.newarray .int, 164, 0) else none)))) else (bif Nat.blt pc 170 then (bif Nat.blt pc 167 then (bif Nat.beq pc 164 then some (.putfield 69, 167, 0) else none) else (bif Nat.blt pc 168 then (bif Nat.beq pc 167 then some (.aload_n 0, 168, 0) else none) else (bif Nat.beq pc 168 then some (.bipush 20, 170, 0) else none))) else (bif Nat.blt pc 172 then (bif Nat.beq pc 170 then some (.newarray .int, 172, 0) else none) else (bif Nat.blt pc 175 then (bif Nat.beq pc 172 then some (.putfield 72, 175, 0) else none) else (bif Nat.beq pc 175 then some (.return_, 176, 0) else none))))))))
/-- CodeRulesModel.unit(I)Z -/
noncomputable def am_cd_104 (pc : Nat) : Option (Instr × Nat × Nat) := (bif Nat.blt pc 25 then (bif Nat.blt pc 12 then (bif Nat.blt pc 3 then (bif Nat.blt pc 1 then (bif Nat.beq pc 0 then some (.iload_n 1, 1, 0) else none) else (bif Nat.blt pc 2 then (bif Nat.beq pc 1 then some (.i2l, 2, 0) else none) else (bif Nat.beq pc 2 then some (.lconst 0, 3, 0) else none))) else (bif Nat.blt pc 6 then (bif Nat.beq pc 3 then some (.ldc2_w 75, 6, 0) else none) else (bif Nat.blt pc 9 then (bif Nat.beq pc 6 then some (.invokestatic 77, 9, 0) else none) else (bif Nat.beq pc 9 then some (.ifCond .eq 13, 12, 22) else none)))) else (bif Nat.blt pc 19 then (bif Nat.blt pc 13 then (bif Nat.beq pc 12 then some (.aload_n 0, 13, 0) else none) else (bif Nat.blt pc 16 then (bif Nat.beq pc 13 then some (.getfield 81, 16, 0) else none) else (bif Nat.beq pc 16 then some (.sipush 900, 19, 0) else none))) else (bif Nat.blt pc 23 then (bif Nat.blt pc 22 then (bif Nat.beq pc 19 then some (.if_icmp .ne 5, 22, 24) else none) else (bif Nat.beq pc 22 then some (.iconst 0, 23, 0) else none)) else (bif Nat.blt pc 24 then (bif Nat.beq pc 23 then some (.ireturn, 24, 0) else none) else (bif Nat.beq pc 24 then some (.aload_n 0, 25, 0) else none))))) else (bif Nat.blt pc 35 then (bif Nat.blt pc 32 then (bif Nat.blt pc 28 then (bif Nat.beq pc 25 then some (.getfield 7, 28, 0) else none) else (bif Nat.blt pc 29 then (bif Nat.beq pc 28 then some (.aload_n 0, 29, 0) else none) else (bif Nat.beq pc 29 then some (.getfield 81, 32, 0) else none))) else (bif Nat.blt pc 33 then (bif Nat.beq pc 32 then some (.iload_n 1, 33, 0) else none) else (bif Nat.blt pc 34 then (bif Nat.beq pc 33 then some (.iastore, 34, 0) else none) else (bif Nat.beq pc 34 then some (.aload_n 0, 35, 0) else none)))) else (bif Nat.blt pc 40 then (bif Nat.blt pc 36 then (bif Nat.beq pc 35 then some (.dup, 36, 0) else none) else (bif Nat.blt pc 39 then (bif Nat.beq pc 36 then some (.getfield 81, 39, 0) else none) else (bif Nat.beq pc 39 then some (.iconst 1, 40, 0) else none))) else (bif Nat.blt pc 44 then (bif Nat.blt pc 41 then (bif Nat.beq pc 40 then some (.iadd, 41, 0) else none) else (bif Nat.beq pc 41 then some (.putfield 81, 44, 0) else none)) else (bif Nat.blt pc 45 then (bif Nat.beq pc 44 then some (.iconst 1, 45, 0) else none) else (bif Nat.beq pc 45 then some (.ireturn, 46, 0) else none))))))
/-- CodeRulesModel.isIn(JJJ)Z -/
noncomputable def am_cd_105 (pc : Nat) : Option (Instr × Nat × Nat) := (bif Nat.blt pc 9 then (bif Nat.blt pc 3 then (bif Nat.blt pc 1 then (bif Nat.beq pc 0 then some (.lload_n 0, 1, 0) else none) else (bif Nat.blt pc 2 then (bif Nat.beq pc 1 then some (.lload_n 2, 2, 0) else none) else (bif Nat.beq pc 2 then some (.lcmp, 3, 0) else none))) else (bif Nat.blt pc 6 then (bif Nat.beq pc 3 then some (.ifCond .lt 14, 6, 17) else none) else (bif Nat.blt pc 7 then (bif Nat.beq pc 6 then some (.lload_n 0, 7, 0) else none) else (bif Nat.beq pc 7 then some (.lload 4, 9, 0) else none)))) else (bif Nat.blt pc 14 then (bif Nat.blt pc 10 then (bif Nat.beq pc 9 then some (.lcmp, 10, 0) else none) else (bif Nat.blt pc 13 then (bif Nat.beq pc 10 then some (.ifCond .gt 7, 13, 17) else none) else (bif Nat.beq pc 13 then some (.iconst 1, 14, 0) else none))) else (bif Nat.blt pc 17 then (bif Nat.beq pc 14 then some (.goto 4, 17, 18) else none) else (bif Nat.blt pc 18 then (bif Nat.beq pc 17 then some (.iconst 0, 18, 0) else none) else (bif Nat.beq pc 18 then some (.ireturn, 19, 0) else none)))))
/-- CodeRulesModel.read()I -/
noncomputable def am_cd_106 (pc : Nat) : Option (Instr × Nat × Nat) := (bif Nat.blt pc 59 then (bif Nat.blt pc 29 then (bif Nat.blt pc 14 then (bif Nat.blt pc 5 then (bif Nat.blt pc 2 then (bif Nat.blt pc 1 then (bif Nat.beq pc 0 then some (.iconst 0, 1, 0) else none) else (bif Nat.beq pc 1 then some (.istore_n 1, 2, 0) else none)) else (bif Nat.blt pc 3 then (bif Nat.beq pc 2 then some (.iload_n 1, 3, 0) else none) else (bif Nat.beq pc 3 then some (.bipush 6, 5, 0) else none))) else (bif Nat.blt pc 9 then (bif Nat.blt pc 8 then (bif Nat.beq pc 5 then some (.if_icmp .ge 19, 8, 24) else none) else (bif Nat.beq pc 8 then some (.aload_n 0, 9, 0) else none)) else (bif Nat.blt pc 12 then (bif Nat.beq pc 9 then some (.getfield 13, 12, 0) else none) else (bif Nat.beq pc 12 then some (.bipush 6, 14, 0) else none)))) else (bif Nat.blt pc 18 then (bif Nat.blt pc 16 then (bif Nat.blt pc 15 then (bif Nat.beq pc 14 then some (.iload_n 1, 15, 0) else none) else (bif Nat.beq pc 15 then some (.iadd, 16, 0) else none)) else (bif Nat.blt pc 17 then (bif Nat.beq pc 16 then some (.iconst 0, 17, 0) else none) else (bif Nat.beq pc 17 then some (.iastore, 18, 0) else none))) else (bif Nat.blt pc 24 then (bif Nat.blt pc 21 then (bif Nat.beq pc 18 then some (.iinc 1 1, 21, 0) else none) else (bif Nat.beq pc 21 then some (.goto (-19), 24, 2) else none)) else (bif Nat.blt pc 25 then (bif Nat.beq pc 24 then some (.aload_n 0, 25, 0) else none) else (bif Nat.blt pc 26 then (bif Nat.beq pc 25 then some (.iconst 0, 26, 0) else none) else (bif Nat.beq pc 26 then some (.putfield 116, 29, 0) else none)))))) else (bif Nat.blt pc 42 then (bif Nat.blt pc 35 then (bif Nat.blt pc 31 then (bif Nat.blt pc 30 then (bif Nat.beq pc 29 then some (.aload_n 0, 30, 0) else none) else (bif Nat.beq pc 30 then some (.iconst 0, 31, 0) else none)) else (bif Nat.blt pc 34 then (bif Nat.beq pc 31 then some (.putfield 105, 34, 0) else none) else (bif Nat.beq pc 34 then some (.aload_n 0, 35, 0) else none))) else (bif Nat.blt pc 39 then (bif Nat.blt pc 36 then (bif Nat.beq pc 35 then some (.iconst 0, 36, 0) else none) else (bif Nat.beq pc 36 then some (.putfield 85, 39, 0) else none)) else (bif Nat.blt pc 40 then (bif Nat.beq pc 39 then some (.iconst 0, 40, 0) else none) else (bif Nat.blt pc 41 then (bif Nat.beq pc 40 then some (.istore_n 1, 41, 0) else none) else (bif Nat.beq pc 41 then some (.iconst 1, 42, 0) else none))))) else (bif Nat.blt pc 48 then (bif Nat.blt pc 44 then (bif Nat.blt pc 43 then (bif Nat.beq pc 42 then some (.istore_n 2, 43, 0) else none) else (bif Nat.beq pc 43 then some (.iload_n 2, 44, 0) else none)) else (bif Nat.blt pc 47 then (bif Nat.beq pc 44 then some (.ifCond .eq 30, 47, 74) else none) else (bif Nat.beq pc 47 then some (.aload_n 0, 48, 0) else none))) else (bif Nat.blt pc 54 then (bif Nat.blt pc 51 then (bif Nat.beq pc 48 then some (.invokevirtual 153, 51, 0) else none) else (bif Nat.beq pc 51 then some (.ifCond .eq 23, 54, 74) else none)) else (bif Nat.blt pc 55 then (bif Nat.beq pc 54 then some (.aload_n 0, 55, 0) else none) else (bif Nat.blt pc 58 then (bif Nat.beq pc 55 then some (.invokevirtual 156, 58, 0) else none) else (bif Nat.beq pc 58 then some (.istore_n 2, 59, 0) else none))))))) else (bif Nat.blt pc 93 then (bif Nat.blt pc 74 then (bif Nat.blt pc 65 then (bif Nat.blt pc 61 then (bif Nat.blt pc 60 then (bif Nat.beq pc 59 then some (.iload_n 1, 60, 0) else none) else (bif Nat.beq pc 60 then some (.iload_n 2, 61, 0) else none)) else (bif Nat.blt pc 64 then (bif Nat.beq pc 61 then some (.ifCond .eq 7, 64, 68) else none) else (bif Nat.beq pc 64 then some (.iconst 1, 65, 0) else none))) else (bif Nat.blt pc 69 then (bif Nat.blt pc 68 then (bif Nat.beq pc 65 then some (.goto 4, 68, 69) else none) else (bif Nat.beq pc 68 then some (.iconst 0, 69, 0) else none)) else (bif Nat.blt pc 70 then (bif Nat.beq pc 69 then some (.iadd, 70, 0) else none) else (bif Nat.blt pc 71 then (bif Nat.beq pc 70 then some (.istore_n 1, 71, 0) else none) else (bif Nat.beq pc 71 then some (.goto (-28), 74, 43) else none))))) else (bif Nat.blt pc 82 then (bif Nat.blt pc 78 then (bif Nat.blt pc 75 then (bif Nat.beq pc 74 then some (.iload_n 2, 75, 0) else none) else (bif Nat.beq pc 75 then some (.ifCond .eq 22, 78, 97) else none)) else (bif Nat.blt pc 79 then (bif Nat.beq pc 78 then some (.aload_n 0, 79, 0) else none) else (bif Nat.beq pc 79 then some (.getfield 105, 82, 0) else none))) else (bif Nat.blt pc 86 then (bif Nat.blt pc 85 then (bif Nat.beq pc 82 then some (.ifCond .eq 11, 85, 93) else none) else (bif Nat.beq pc 85 then some (.aload_n 0, 86, 0) else none)) else (bif Nat.blt pc 89 then (bif Nat.beq pc 86 then some (.getfield 105, 89, 0) else none) else (bif Nat.blt pc 90 then (bif Nat.beq pc 89 then some (.iconst 3, 90, 0) else none) else (bif Nat.beq pc 90 then some (.if_icmp .ne 7, 93, 97) else none)))))) else (bif Nat.blt pc 108 then (bif Nat.blt pc 99 then (bif Nat.blt pc 97 then (bif Nat.blt pc 94 then (bif Nat.beq pc 93 then some (.iconst 1, 94, 0) else none) else (bif Nat.beq pc 94 then some (.goto 4, 97, 98) else none)) else (bif Nat.blt pc 98 then (bif Nat.beq pc 97 then some (.iconst 0, 98, 0) else none) else (bif Nat.beq pc 98 then some (.istore_n 2, 99, 0) else none))) else (bif Nat.blt pc 101 then (bif Nat.blt pc 100 then (bif Nat.beq pc 99 then some (.aload_n 0, 100, 0) else none) else (bif Nat.beq pc 100 then some (.iconst 0, 101, 0) else none)) else (bif Nat.blt pc 104 then (bif Nat.beq pc 101 then some (.putfield 81, 104, 0) else none) else (bif Nat.blt pc 105 then (bif Nat.beq pc 104 then some (.iload_n 2, 105, 0) else none) else (bif Nat.beq pc 105 then some (.ifCond .ne 7, 108, 112) else none))))) else (bif Nat.blt pc 112 then (bif Nat.blt pc 110 then (bif Nat.blt pc 109 then (bif Nat.beq pc 108 then some (.iconst (-1), 109, 0) else none) else (bif Nat.beq pc 109 then some (.iload_n 1, 110, 0) else none)) else (bif Nat.blt pc 111 then (bif Nat.beq pc 110 then some (.isub, 111, 0) else none) else (bif Nat.beq pc 111 then some (.ireturn, 112, 0) else none))) else (bif Nat.blt pc 116 then (bif Nat.blt pc 113 then (bif Nat.beq pc 112 then some (.aload_n 0, 113, 0) else none) else (bif Nat.beq pc 113 then some (.invokevirtual 159, 116, 0) else none)) else (bif Nat.blt pc 117 then (bif Nat.beq pc 116 then some (.aload_n 0, 117, 0) else none) else (bif Nat.blt pc 120 then (bif Nat.beq pc 117 then some (.getfield 116, 120, 0) else none) else (bif Nat.beq pc 120 then some (.ireturn, 121, 0) else none))))))))
/-- CodeRulesModel.next()Z -/
noncomputable def am_cd_107 (pc : Nat) : Option (Instr × Nat × Nat) := (bif Nat.blt pc 55 then (bif Nat.blt pc 27 then (bif Nat.blt pc 12 then (bif Nat.blt pc 5 then (bif Nat.blt pc 1 then (bif Nat.beq pc 0 then some (.aload_n 0, 1, 0) else none) else (bif Nat.blt pc 2 then (bif Nat.beq pc 1 then some (.aload_n 0, 2, 0) else none) else (bif Nat.beq pc 2 then some (.getfield 85, 5, 0) else none))) else (bif Nat.blt pc 8 then (bif Nat.beq pc 5 then some (.putfield 88, 8, 0) else none) else (bif Nat.blt pc 9 then (bif Nat.beq pc 8 then some (.aload_n 0, 9, 0) else none) else (bif Nat.beq pc 9 then some (.getfield 88, 12, 0) else none)))) else (bif Nat.blt pc 19 then (bif Nat.blt pc 13 then (bif Nat.beq pc 12 then some (.aload_n 0, 13, 0) else none) else (bif Nat.blt pc 16 then (bif Nat.beq pc 13 then some (.getfield 81, 16, 0) else none) else (bif Nat.beq pc 16 then some (.if_icmp .ge 31, 19, 47) else none))) else (bif Nat.blt pc 23 then (bif Nat.blt pc 20 then (bif Nat.beq pc 19 then some (.aload_n 0, 20, 0) else none) else (bif Nat.beq pc 20 then some (.getfield 7, 23, 0) else none)) else (bif Nat.blt pc 24 then (bif Nat.beq pc 23 then some (.aload_n 0, 24, 0) else none) else (bif Nat.beq pc 24 then some (.getfield 88, 27, 0) else none))))) else (bif Nat.blt pc 40 then (bif Nat.blt pc 34 then (bif Nat.blt pc 28 then (bif Nat.beq pc 27 then some (.iaload, 28, 0) else none) else (bif Nat.blt pc 31 then (bif Nat.beq pc 28 then some (.invokestatic 91, 31, 0) else none) else (bif Nat.beq pc 31 then some (.ifCond .eq 16, 34, 47) else none))) else (bif Nat.blt pc 36 then (bif Nat.blt pc 35 then (bif Nat.beq pc 34 then some (.aload_n 0, 35, 0) else none) else (bif Nat.beq pc 35 then some (.dup, 36, 0) else none)) else (bif Nat.blt pc 39 then (bif Nat.beq pc 36 then some (.getfield 88, 39, 0) else none) else (bif Nat.beq pc 39 then some (.iconst 1, 40, 0) else none)))) else (bif Nat.blt pc 47 then (bif Nat.blt pc 41 then (bif Nat.beq pc 40 then some (.iadd, 41, 0) else none) else (bif Nat.blt pc 44 then (bif Nat.beq pc 41 then some (.putfield 88, 44, 0) else none) else (bif Nat.beq pc 44 then some (.goto (-36), 47, 8) else none))) else (bif Nat.blt pc 49 then (bif Nat.blt pc 48 then (bif Nat.beq pc 47 then some (.aload_n 0, 48, 0) else none) else (bif Nat.beq pc 48 then some (.aload_n 0, 49, 0) else none)) else (bif Nat.blt pc 52 then (bif Nat.beq pc 49 then some (.getfield 88, 52, 0) else none) else (bif Nat.beq pc 52 then some (.putfield 85, 55, 0) else none)))))) else (bif Nat.blt pc 83 then (bif Nat.blt pc 70 then (bif Nat.blt pc 60 then (bif Nat.blt pc 56 then (bif Nat.beq pc 55 then some (.aload_n 0, 56, 0) else none) else (bif Nat.blt pc 59 then (bif Nat.beq pc 56 then some (.getfield 85, 59, 0) else none) else (bif Nat.beq pc 59 then some (.aload_n 0, 60, 0) else none))) else (bif Nat.blt pc 66 then (bif Nat.blt pc 63 then (bif Nat.beq pc 60 then some (.getfield 81, 63, 0) else none) else (bif Nat.beq pc 63 then some (.if_icmp .ge 31, 66, 94) else none)) else (bif Nat.blt pc 67 then (bif Nat.beq pc 66 then some (.aload_n 0, 67, 0) else none) else (bif Nat.beq pc 67 then some (.getfield 7, 70, 0) else none)))) else (bif Nat.blt pc 75 then (bif Nat.blt pc 71 then (bif Nat.beq pc 70 then some (.aload_n 0, 71, 0) else none) else (bif Nat.blt pc 74 then (bif Nat.beq pc 71 then some (.getfield 85, 74, 0) else none) else (bif Nat.beq pc 74 then some (.iaload, 75, 0) else none))) else (bif Nat.blt pc 81 then (bif Nat.blt pc 78 then (bif Nat.beq pc 75 then some (.invokestatic 91, 78, 0) else none) else (bif Nat.beq pc 78 then some (.ifCond .ne 16, 81, 94) else none)) else (bif Nat.blt pc 82 then (bif Nat.beq pc 81 then some (.aload_n 0, 82, 0) else none) else (bif Nat.beq pc 82 then some (.dup, 83, 0) else none))))) else (bif Nat.blt pc 98 then (bif Nat.blt pc 88 then (bif Nat.blt pc 86 then (bif Nat.beq pc 83 then some (.getfield 85, 86, 0) else none) else (bif Nat.blt pc 87 then (bif Nat.beq pc 86 then some (.iconst 1, 87, 0) else none) else (bif Nat.beq pc 87 then some (.iadd, 88, 0) else none))) else (bif Nat.blt pc 94 then (bif Nat.blt pc 91 then (bif Nat.beq pc 88 then some (.putfield 85, 91, 0) else none) else (bif Nat.beq pc 91 then some (.goto (-36), 94, 55) else none)) else (bif Nat.blt pc 95 then (bif Nat.beq pc 94 then some (.aload_n 0, 95, 0) else none) else (bif Nat.beq pc 95 then some (.getfield 88, 98, 0) else none)))) else (bif Nat.blt pc 105 then (bif Nat.blt pc 99 then (bif Nat.beq pc 98 then some (.aload_n 0, 99, 0) else none) else (bif Nat.blt pc 102 then (bif Nat.beq pc 99 then some (.getfield 81, 102, 0) else none) else (bif Nat.beq pc 102 then some (.if_icmp .ge 7, 105, 109) else none))) else (bif Nat.blt pc 109 then (bif Nat.blt pc 106 then (bif Nat.beq pc 105 then some (.iconst 1, 106, 0) else none) else (bif Nat.beq pc 106 then some (.goto 4, 109, 110) else none)) else (bif Nat.blt pc 110 then (bif Nat.beq pc 109 then some (.iconst 0, 110, 0) else none) else (bif Nat.beq pc 110 then some (.ireturn, 111, 0) else none)))))))
/-- CodeRulesModel.isBlank(I)Z -/
noncomputable def am_cd_108 (pc : Nat) : Option (Instr × Nat × Nat) := (bif Nat.blt pc 9 then (bif Nat.blt pc 3 then (bif Nat.blt pc 1 then (bif Nat.beq pc 0 then some (.iload_n 0, 1, 0) else none) else (bif Nat.beq pc 1 then some (.bipush 32, 3, 0) else none)) else (bif Nat.blt pc 6 then (bif Nat.beq pc 3 then some (.if_icmp .eq 9, 6, 12) else none) else (bif Nat.blt pc 7 then (bif Nat.beq pc 6 then some (.iload_n 0, 7, 0) else none) else (bif Nat.beq pc 7 then some (.bipush 10, 9, 0) else none)))) else (bif Nat.blt pc 13 then (bif Nat.blt pc 12 then (bif Nat.beq pc 9 then some (.if_icmp .ne 7, 12, 16) else none) else (bif Nat.beq pc 12 then some (.iconst 1, 13, 0) else none)) else (bif Nat.blt pc 16 then (bif Nat.beq pc 13 then some (.goto 4, 16, 17) else none) else (bif Nat.blt pc 17 then (bif Nat.beq pc 16 then some (.iconst 0, 17, 0) else none) else (bif Nat.beq pc 17 then some (.ireturn, 18, 0) else none)))))
/-- CodeRulesModel.take()Z -/
noncomputable def am_cd_109 (pc : Nat) : Option (Instr × Nat × Nat) := (bif Nat.blt pc 47 then (bif Nat.blt pc 23 then (bif Nat.blt pc 11 then (bif Nat.blt pc 4 then (bif Nat.blt pc 1 then (bif Nat.beq pc 0 then some (.aload_n 0, 1, 0) else none) else (bif Nat.beq pc 1 then some (.getfield 105, 4, 0) else none)) else (bif Nat.blt pc 7 then (bif Nat.beq pc 4 then some (.ifCond .eq 11, 7, 15) else none) else (bif Nat.blt pc 8 then (bif Nat.beq pc 7 then some (.aload_n 0, 8, 0) else none) else (bif Nat.beq pc 8 then some (.getfield 105, 11, 0) else none)))) else (bif Nat.blt pc 16 then (bif Nat.blt pc 12 then (bif Nat.beq pc 11 then some (.iconst 3, 12, 0) else none) else (bif Nat.blt pc 15 then (bif Nat.beq pc 12 then some (.if_icmp .ne 49, 15, 61) else none) else (bif Nat.beq pc 15 then some (.aload_n 0, 16, 0) else none))) else (bif Nat.blt pc 19 then (bif Nat.beq pc 16 then some (.getfield 105, 19, 0) else none) else (bif Nat.blt pc 20 then (bif Nat.beq pc 19 then some (.iconst 3, 20, 0) else none) else (bif Nat.beq pc 20 then some (.if_icmp .ne 36, 23, 56) else none))))) else (bif Nat.blt pc 35 then (bif Nat.blt pc 30 then (bif Nat.blt pc 24 then (bif Nat.beq pc 23 then some (.aload_n 0, 24, 0) else none) else (bif Nat.blt pc 27 then (bif Nat.beq pc 24 then some (.ldc2_w 137, 27, 0) else none) else (bif Nat.beq pc 27 then some (.invokevirtual 101, 30, 0) else none))) else (bif Nat.blt pc 33 then (bif Nat.beq pc 30 then some (.ifCond .eq 26, 33, 56) else none) else (bif Nat.blt pc 34 then (bif Nat.beq pc 33 then some (.aload_n 0, 34, 0) else none) else (bif Nat.beq pc 34 then some (.iconst 4, 35, 0) else none)))) else (bif Nat.blt pc 42 then (bif Nat.blt pc 38 then (bif Nat.beq pc 35 then some (.putfield 105, 38, 0) else none) else (bif Nat.blt pc 39 then (bif Nat.beq pc 38 then some (.aload_n 0, 39, 0) else none) else (bif Nat.beq pc 39 then some (.getfield 13, 42, 0) else none))) else (bif Nat.blt pc 44 then (bif Nat.beq pc 42 then some (.bipush 7, 44, 0) else none) else (bif Nat.blt pc 45 then (bif Nat.beq pc 44 then some (.iaload, 45, 0) else none) else (bif Nat.beq pc 45 then some (.bipush 60, 47, 0) else none)))))) else (bif Nat.blt pc 66 then (bif Nat.blt pc 56 then (bif Nat.blt pc 51 then (bif Nat.blt pc 50 then (bif Nat.beq pc 47 then some (.if_icmp .ge 7, 50, 54) else none) else (bif Nat.beq pc 50 then some (.iconst 1, 51, 0) else none)) else (bif Nat.blt pc 54 then (bif Nat.beq pc 51 then some (.goto 4, 54, 55) else none) else (bif Nat.blt pc 55 then (bif Nat.beq pc 54 then some (.iconst 0, 55, 0) else none) else (bif Nat.beq pc 55 then some (.ireturn, 56, 0) else none)))) else (bif Nat.blt pc 61 then (bif Nat.blt pc 57 then (bif Nat.beq pc 56 then some (.aload_n 0, 57, 0) else none) else (bif Nat.blt pc 60 then (bif Nat.beq pc 57 then some (.invokevirtual 139, 60, 0) else none) else (bif Nat.beq pc 60 then some (.ireturn, 61, 0) else none))) else (bif Nat.blt pc 62 then (bif Nat.beq pc 61 then some (.aload_n 0, 62, 0) else none) else (bif Nat.blt pc 65 then (bif Nat.beq pc 62 then some (.invokevirtual 143, 65, 0) else none) else (bif Nat.beq pc 65 then some (.istore_n 1, 66, 0) else none))))) else (bif Nat.blt pc 77 then (bif Nat.blt pc 72 then (bif Nat.blt pc 67 then (bif Nat.beq pc 66 then some (.aload_n 0, 67, 0) else none) else (bif Nat.blt pc 70 then (bif Nat.beq pc 67 then some (.getfield 105, 70, 0) else none) else (bif Nat.beq pc 70 then some (.bipush 7, 72, 0) else none))) else (bif Nat.blt pc 75 then (bif Nat.beq pc 72 then some (.if_icmp .ge 11, 75, 83) else none) else (bif Nat.blt pc 76 then (bif Nat.beq pc 75 then some (.aload_n 0, 76, 0) else none) else (bif Nat.beq pc 76 then some (.iload_n 1, 77, 0) else none)))) else (bif Nat.blt pc 84 then (bif Nat.blt pc 80 then (bif Nat.beq pc 77 then some (.invokevirtual 147, 80, 0) else none) else (bif Nat.blt pc 83 then (bif Nat.beq pc 80 then some (.goto 8, 83, 88) else none) else (bif Nat.beq pc 83 then some (.aload_n 0, 84, 0) else none))) else (bif Nat.blt pc 85 then (bif Nat.beq pc 84 then some (.iload_n 1, 85, 0) else none) else (bif Nat.blt pc 88 then (bif Nat.beq pc 85 then some (.invokevirtual 150, 88, 0) else none) else (bif Nat.beq pc 88 then some (.ireturn, 89, 0) else none)))))))
/-- CodeRulesModel.is(J)Z -/
noncomputable def am_cd_110 (pc : Nat) : Option (Instr × Nat × Nat) := (bif Nat.blt pc 53 then (bif Nat.blt pc 26 then (bif Nat.blt pc 9 then (bif Nat.blt pc 3 then (bif Nat.blt pc 1 then (bif Nat.beq pc 0 then some (.iconst 0, 1, 0) else none) else (bif Nat.blt pc 2 then (bif Nat.beq pc 1 then some (.istore_n 3, 2, 0) else none) else (bif Nat.beq pc 2 then some (.lload_n 1, 3, 0) else none))) else (bif Nat.blt pc 7 then (bif Nat.blt pc 5 then (bif Nat.beq pc 3 then some (.lstore 4, 5, 0) else none) else (bif Nat.beq pc 5 then some (.lload 4, 7, 0) else none)) else (bif Nat.blt pc 8 then (bif Nat.beq pc 7 then some (.lconst 0, 8, 0) else none) else (bif Nat.beq pc 8 then some (.lcmp, 9, 0) else none)))) else (bif Nat.blt pc 17 then (bif Nat.blt pc 12 then (bif Nat.beq pc 9 then some (.ifCond .le 17, 12, 26) else none) else (bif Nat.blt pc 15 then (bif Nat.beq pc 12 then some (.iinc 3 1, 15, 0) else none) else (bif Nat.beq pc 15 then some (.lload 4, 17, 0) else none))) else (bif Nat.blt pc 21 then (bif Nat.blt pc 20 then (bif Nat.beq pc 17 then some (.ldc2_w 95, 20, 0) else none) else (bif Nat.beq pc 20 then some (.ldiv, 21, 0) else none)) else (bif Nat.blt pc 23 then (bif Nat.beq pc 21 then some (.lstore 4, 23, 0) else none) else (bif Nat.beq pc 23 then some (.goto (-18), 26, 5) else none))))) else (bif Nat.blt pc 38 then (bif Nat.blt pc 30 then (bif Nat.blt pc 27 then (bif Nat.beq pc 26 then some (.lconst 0, 27, 0) else none) else (bif Nat.blt pc 29 then (bif Nat.beq pc 27 then some (.lstore 4, 29, 0) else none) else (bif Nat.beq pc 29 then some (.aload_n 0, 30, 0) else none))) else (bif Nat.blt pc 35 then (bif Nat.blt pc 33 then (bif Nat.beq pc 30 then some (.getfield 88, 33, 0) else none) else (bif Nat.beq pc 33 then some (.istore 6, 35, 0) else none)) else (bif Nat.blt pc 37 then (bif Nat.beq pc 35 then some (.iload 6, 37, 0) else none) else (bif Nat.beq pc 37 then some (.aload_n 0, 38, 0) else none)))) else (bif Nat.blt pc 45 then (bif Nat.blt pc 41 then (bif Nat.beq pc 38 then some (.getfield 85, 41, 0) else none) else (bif Nat.blt pc 44 then (bif Nat.beq pc 41 then some (.if_icmp .ge 39, 44, 80) else none) else (bif Nat.beq pc 44 then some (.aload_n 0, 45, 0) else none))) else (bif Nat.blt pc 49 then (bif Nat.blt pc 48 then (bif Nat.beq pc 45 then some (.getfield 85, 48, 0) else none) else (bif Nat.beq pc 48 then some (.aload_n 0, 49, 0) else none)) else (bif Nat.blt pc 52 then (bif Nat.beq pc 49 then some (.getfield 88, 52, 0) else none) else (bif Nat.beq pc 52 then some (.isub, 53, 0) else none)))))) else (bif Nat.blt pc 80 then (bif Nat.blt pc 67 then (bif Nat.blt pc 59 then (bif Nat.blt pc 54 then (bif Nat.beq pc 53 then some (.iload_n 3, 54, 0) else none) else (bif Nat.blt pc 57 then (bif Nat.beq pc 54 then some (.if_icmp .ne 26, 57, 80) else none) else (bif Nat.beq pc 57 then some (.lload 4, 59, 0) else none))) else (bif Nat.blt pc 63 then (bif Nat.blt pc 62 then (bif Nat.beq pc 59 then some (.ldc2_w 95, 62, 0) else none) else (bif Nat.beq pc 62 then some (.lmul, 63, 0) else none)) else (bif Nat.blt pc 64 then (bif Nat.beq pc 63 then some (.aload_n 0, 64, 0) else none) else (bif Nat.beq pc 64 then some (.getfield 7, 67, 0) else none)))) else (bif Nat.blt pc 71 then (bif Nat.blt pc 69 then (bif Nat.beq pc 67 then some (.iload 6, 69, 0) else none) else (bif Nat.blt pc 70 then (bif Nat.beq pc 69 then some (.iaload, 70, 0) else none) else (bif Nat.beq pc 70 then some (.i2l, 71, 0) else none))) else (bif Nat.blt pc 74 then (bif Nat.blt pc 72 then (bif Nat.beq pc 71 then some (.ladd, 72, 0) else none) else (bif Nat.beq pc 72 then some (.lstore 4, 74, 0) else none)) else (bif Nat.blt pc 77 then (bif Nat.beq pc 74 then some (.iinc 6 1, 77, 0) else none) else (bif Nat.beq pc 77 then some (.goto (-42), 80, 35) else none))))) else (bif Nat.blt pc 93 then (bif Nat.blt pc 85 then (bif Nat.blt pc 81 then (bif Nat.beq pc 80 then some (.aload_n 0, 81, 0) else none) else (bif Nat.blt pc 84 then (bif Nat.beq pc 81 then some (.getfield 85, 84, 0) else none) else (bif Nat.beq pc 84 then some (.aload_n 0, 85, 0) else none))) else (bif Nat.blt pc 89 then (bif Nat.blt pc 88 then (bif Nat.beq pc 85 then some (.getfield 88, 88, 0) else none) else (bif Nat.beq pc 88 then some (.isub, 89, 0) else none)) else (bif Nat.blt pc 90 then (bif Nat.beq pc 89 then some (.iload_n 3, 90, 0) else none) else (bif Nat.beq pc 90 then some (.if_icmp .ne 14, 93, 104) else none)))) else (bif Nat.blt pc 100 then (bif Nat.blt pc 96 then (bif Nat.blt pc 95 then (bif Nat.beq pc 93 then some (.lload 4, 95, 0) else none) else (bif Nat.beq pc 95 then some (.lload_n 1, 96, 0) else none)) else (bif Nat.blt pc 97 then (bif Nat.beq pc 96 then some (.lcmp, 97, 0) else none) else (bif Nat.beq pc 97 then some (.ifCond .ne 7, 100, 104) else none))) else (bif Nat.blt pc 104 then (bif Nat.blt pc 101 then (bif Nat.beq pc 100 then some (.iconst 1, 101, 0) else none) else (bif Nat.beq pc 101 then some (.goto 4, 104, 105) else none)) else (bif Nat.blt pc 105 then (bif Nat.beq pc 104 then some (.iconst 0, 105, 0) else none) else (bif Nat.beq pc 105 then some (.ireturn, 106, 0) else none)))))))
/-- CodeRulesModel.begins()Z -/
noncomputable def am_cd_111 (pc : Nat) : Option (Instr × Nat × Nat) := (bif Nat.blt pc 91 then (bif Nat.blt pc 46 then (bif Nat.blt pc 23 then (bif Nat.blt pc 13 then (bif Nat.blt pc 4 then (bif Nat.blt pc 2 then (bif Nat.beq pc 0 then some (.bipush 6, 2, 0) else none) else (bif Nat.blt pc 3 then (bif Nat.beq pc 2 then some (.istore_n 1, 3, 0) else none) else (bif Nat.beq pc 3 then some (.aload_n 0, 4, 0) else none))) else (bif Nat.blt pc 7 then (bif Nat.beq pc 4 then some (.ldc2_w 99, 7, 0) else none) else (bif Nat.blt pc 10 then (bif Nat.beq pc 7 then some (.invokevirtual 101, 10, 0) else none) else (bif Nat.beq pc 10 then some (.ifCond .eq 25, 13, 35) else none)))) else (bif Nat.blt pc 18 then (bif Nat.blt pc 14 then (bif Nat.beq pc 13 then some (.aload_n 0, 14, 0) else none) else (bif Nat.blt pc 15 then (bif Nat.beq pc 14 then some (.iconst 1, 15, 0) else none) else (bif Nat.beq pc 15 then some (.putfield 105, 18, 0) else none))) else (bif Nat.blt pc 19 then (bif Nat.beq pc 18 then some (.aload_n 0, 19, 0) else none) else (bif Nat.blt pc 22 then (bif Nat.beq pc 19 then some (.getfield 13, 22, 0) else none) else (bif Nat.beq pc 22 then some (.iload_n 1, 23, 0) else none))))) else (bif Nat.blt pc 34 then (bif Nat.blt pc 29 then (bif Nat.blt pc 24 then (bif Nat.beq pc 23 then some (.iaload, 24, 0) else none) else (bif Nat.blt pc 26 then (bif Nat.beq pc 24 then some (.bipush 30, 26, 0) else none) else (bif Nat.beq pc 26 then some (.if_icmp .ge 7, 29, 33) else none))) else (bif Nat.blt pc 30 then (bif Nat.beq pc 29 then some (.iconst 1, 30, 0) else none) else (bif Nat.blt pc 33 then (bif Nat.beq pc 30 then some (.goto 4, 33, 34) else none) else (bif Nat.beq pc 33 then some (.iconst 0, 34, 0) else none)))) else (bif Nat.blt pc 39 then (bif Nat.blt pc 35 then (bif Nat.beq pc 34 then some (.ireturn, 35, 0) else none) else (bif Nat.blt pc 36 then (bif Nat.beq pc 35 then some (.aload_n 0, 36, 0) else none) else (bif Nat.beq pc 36 then some (.ldc2_w 108, 39, 0) else none))) else (bif Nat.blt pc 42 then (bif Nat.beq pc 39 then some (.invokevirtual 101, 42, 0) else none) else (bif Nat.blt pc 45 then (bif Nat.beq pc 42 then some (.ifCond .eq 28, 45, 70) else none) else (bif Nat.beq pc 45 then some (.aload_n 0, 46, 0) else none)))))) else (bif Nat.blt pc 68 then (bif Nat.blt pc 57 then (bif Nat.blt pc 52 then (bif Nat.blt pc 48 then (bif Nat.beq pc 46 then some (.bipush 7, 48, 0) else none) else (bif Nat.blt pc 51 then (bif Nat.beq pc 48 then some (.putfield 105, 51, 0) else none) else (bif Nat.beq pc 51 then some (.aload_n 0, 52, 0) else none))) else (bif Nat.blt pc 55 then (bif Nat.beq pc 52 then some (.getfield 13, 55, 0) else none) else (bif Nat.blt pc 56 then (bif Nat.beq pc 55 then some (.iload_n 1, 56, 0) else none) else (bif Nat.beq pc 56 then some (.iconst 2, 57, 0) else none)))) else (bif Nat.blt pc 61 then (bif Nat.blt pc 58 then (bif Nat.beq pc 57 then some (.iadd, 58, 0) else none) else (bif Nat.blt pc 59 then (bif Nat.beq pc 58 then some (.iaload, 59, 0) else none) else (bif Nat.beq pc 59 then some (.bipush 16, 61, 0) else none))) else (bif Nat.blt pc 64 then (bif Nat.beq pc 61 then some (.if_icmp .ge 7, 64, 68) else none) else (bif Nat.blt pc 65 then (bif Nat.beq pc 64 then some (.iconst 1, 65, 0) else none) else (bif Nat.beq pc 65 then some (.goto 4, 68, 69) else none))))) else (bif Nat.blt pc 80 then (bif Nat.blt pc 71 then (bif Nat.blt pc 69 then (bif Nat.beq pc 68 then some (.iconst 0, 69, 0) else none) else (bif Nat.blt pc 70 then (bif Nat.beq pc 69 then some (.ireturn, 70, 0) else none) else (bif Nat.beq pc 70 then some (.aload_n 0, 71, 0) else none))) else (bif Nat.blt pc 74 then (bif Nat.beq pc 71 then some (.ldc2_w 110, 74, 0) else none) else (bif Nat.blt pc 77 then (bif Nat.beq pc 74 then some (.invokevirtual 101, 77, 0) else none) else (bif Nat.beq pc 77 then some (.ifCond .eq 28, 80, 105) else none)))) else (bif Nat.blt pc 86 then (bif Nat.blt pc 81 then (bif Nat.beq pc 80 then some (.aload_n 0, 81, 0) else none) else (bif Nat.blt pc 83 then (bif Nat.beq pc 81 then some (.bipush 8, 83, 0) else none) else (bif Nat.beq pc 83 then some (.putfield 105, 86, 0) else none))) else (bif Nat.blt pc 87 then (bif Nat.beq pc 86 then some (.aload_n 0, 87, 0) else none) else (bif Nat.blt pc 90 then (bif Nat.beq pc 87 then some (.getfield 13, 90, 0) else none) else (bif Nat.beq pc 90 then some (.iload_n 1, 91, 0) else none))))))) else (bif Nat.blt pc 134 then (bif Nat.blt pc 112 then (bif Nat.blt pc 100 then (bif Nat.blt pc 94 then (bif Nat.blt pc 92 then (bif Nat.beq pc 91 then some (.iconst 3, 92, 0) else none) else (bif Nat.blt pc 93 then (bif Nat.beq pc 92 then some (.iadd, 93, 0) else none) else (bif Nat.beq pc 93 then some (.iaload, 94, 0) else none))) else (bif Nat.blt pc 96 then (bif Nat.beq pc 94 then some (.bipush 16, 96, 0) else none) else (bif Nat.blt pc 99 then (bif Nat.beq pc 96 then some (.if_icmp .ge 7, 99, 103) else none) else (bif Nat.beq pc 99 then some (.iconst 1, 100, 0) else none)))) else (bif Nat.blt pc 105 then (bif Nat.blt pc 103 then (bif Nat.beq pc 100 then some (.goto 4, 103, 104) else none) else (bif Nat.blt pc 104 then (bif Nat.beq pc 103 then some (.iconst 0, 104, 0) else none) else (bif Nat.beq pc 104 then some (.ireturn, 105, 0) else none))) else (bif Nat.blt pc 106 then (bif Nat.beq pc 105 then some (.aload_n 0, 106, 0) else none) else (bif Nat.blt pc 109 then (bif Nat.beq pc 106 then some (.ldc2_w 112, 109, 0) else none) else (bif Nat.beq pc 109 then some (.invokevirtual 101, 112, 0) else none))))) else (bif Nat.blt pc 125 then (bif Nat.blt pc 118 then (bif Nat.blt pc 115 then (bif Nat.beq pc 112 then some (.ifCond .eq 28, 115, 140) else none) else (bif Nat.blt pc 116 then (bif Nat.beq pc 115 then some (.aload_n 0, 116, 0) else none) else (bif Nat.beq pc 116 then some (.bipush 10, 118, 0) else none))) else (bif Nat.blt pc 121 then (bif Nat.beq pc 118 then some (.putfield 105, 121, 0) else none) else (bif Nat.blt pc 122 then (bif Nat.beq pc 121 then some (.aload_n 0, 122, 0) else none) else (bif Nat.beq pc 122 then some (.getfield 13, 125, 0) else none)))) else (bif Nat.blt pc 128 then (bif Nat.blt pc 126 then (bif Nat.beq pc 125 then some (.iload_n 1, 126, 0) else none) else (bif Nat.blt pc 127 then (bif Nat.beq pc 126 then some (.iconst 4, 127, 0) else none) else (bif Nat.beq pc 127 then some (.iadd, 128, 0) else none))) else (bif Nat.blt pc 129 then (bif Nat.beq pc 128 then some (.iaload, 129, 0) else none) else (bif Nat.blt pc 131 then (bif Nat.beq pc 129 then some (.bipush 20, 131, 0) else none) else (bif Nat.beq pc 131 then some (.if_icmp .ge 7, 134, 138) else none)))))) else (bif Nat.blt pc 157 then (bif Nat.blt pc 144 then (bif Nat.blt pc 139 then (bif Nat.blt pc 135 then (bif Nat.beq pc 134 then some (.iconst 1, 135, 0) else none) else (bif Nat.blt pc 138 then (bif Nat.beq pc 135 then some (.goto 4, 138, 139) else none) else (bif Nat.beq pc 138 then some (.iconst 0, 139, 0) else none))) else (bif Nat.blt pc 140 then (bif Nat.beq pc 139 then some (.ireturn, 140, 0) else none) else (bif Nat.blt pc 141 then (bif Nat.beq pc 140 then some (.aload_n 0, 141, 0) else none) else (bif Nat.beq pc 141 then some (.ldc2_w 114, 144, 0) else none)))) else (bif Nat.blt pc 151 then (bif Nat.blt pc 147 then (bif Nat.beq pc 144 then some (.invokevirtual 101, 147, 0) else none) else (bif Nat.blt pc 150 then (bif Nat.beq pc 147 then some (.ifCond .eq 28, 150, 175) else none) else (bif Nat.beq pc 150 then some (.aload_n 0, 151, 0) else none))) else (bif Nat.blt pc 153 then (bif Nat.beq pc 151 then some (.bipush 14, 153, 0) else none) else (bif Nat.blt pc 156 then (bif Nat.beq pc 153 then some (.putfield 105, 156, 0) else none) else (bif Nat.beq pc 156 then some (.aload_n 0, 157, 0) else none))))) else (bif Nat.blt pc 166 then (bif Nat.blt pc 162 then (bif Nat.blt pc 160 then (bif Nat.beq pc 157 then some (.getfield 13, 160, 0) else none) else (bif Nat.blt pc 161 then (bif Nat.beq pc 160 then some (.iload_n 1, 161, 0) else none) else (bif Nat.beq pc 161 then some (.iconst 5, 162, 0) else none))) else (bif Nat.blt pc 163 then (bif Nat.beq pc 162 then some (.iadd, 163, 0) else none) else (bif Nat.blt pc 164 then (bif Nat.beq pc 163 then some (.iaload, 164, 0) else none) else (bif Nat.beq pc 164 then some (.bipush 20, 166, 0) else none)))) else (bif Nat.blt pc 173 then (bif Nat.blt pc 169 then (bif Nat.beq pc 166 then some (.if_icmp .ge 7, 169, 173) else none) else (bif Nat.blt pc 170 then (bif Nat.beq pc 169 then some (.iconst 1, 170, 0) else none) else (bif Nat.beq pc 170 then some (.goto 4, 173, 174) else none))) else (bif Nat.blt pc 175 then (bif Nat.blt pc 174 then (bif Nat.beq pc 173 then some (.iconst 0, 174, 0) else none) else (bif Nat.beq pc 174 then some (.ireturn, 175, 0) else none)) else (bif Nat.blt pc 176 then (bif Nat.beq pc 175 then some (.iconst 0, 176, 0) else none) else (bif Nat.beq pc 176 then some (.ireturn, 177, 0) else none))))))))
/-- CodeRulesModel.numberAt()I -/
noncomputable def am_cd_112 (pc : Nat) : Option (Instr × Nat × Nat) := (bif Nat.blt pc 43 then (bif Nat.blt pc 21 then (bif Nat.blt pc 11 then (bif Nat.blt pc 5 then (bif Nat.blt pc 1 then (bif Nat.beq pc 0 then some (.aload_n 0, 1, 0) else none) else (bif Nat.blt pc 4 then (bif Nat.beq pc 1 then some (.getfield 85, 4, 0) else none) else (bif Nat.beq pc 4 then some (.aload_n 0, 5, 0) else none))) else (bif Nat.blt pc 8 then (bif Nat.beq pc 5 then some (.getfield 88, 8, 0) else none) else (bif Nat.blt pc 9 then (bif Nat.beq pc 8 then some (.isub, 9, 0) else none) else (bif Nat.beq pc 9 then some (.bipush 6, 11, 0) else none)))) else (bif Nat.blt pc 18 then (bif Nat.blt pc 14 then (bif Nat.beq pc 11 then some (.if_icmp .gt 7, 14, 18) else none) else (bif Nat.blt pc 15 then (bif Nat.beq pc 14 then some (.iconst 0, 15, 0) else none) else (bif Nat.beq pc 15 then some (.goto 4, 18, 19) else none))) else (bif Nat.blt pc 19 then (bif Nat.beq pc 18 then some (.iconst (-1), 19, 0) else none) else (bif Nat.blt pc 20 then (bif Nat.beq pc 19 then some (.istore_n 1, 20, 0) else none) else (bif Nat.beq pc 20 then some (.aload_n 0, 21, 0) else none))))) else (bif Nat.blt pc 33 then (bif Nat.blt pc 26 then (bif Nat.blt pc 24 then (bif Nat.beq pc 21 then some (.getfield 88, 24, 0) else none) else (bif Nat.blt pc 25 then (bif Nat.beq pc 24 then some (.istore_n 2, 25, 0) else none) else (bif Nat.beq pc 25 then some (.iload_n 2, 26, 0) else none))) else (bif Nat.blt pc 27 then (bif Nat.beq pc 26 then some (.aload_n 0, 27, 0) else none) else (bif Nat.blt pc 30 then (bif Nat.beq pc 27 then some (.getfield 85, 30, 0) else none) else (bif Nat.beq pc 30 then some (.if_icmp .ge 54, 33, 84) else none)))) else (bif Nat.blt pc 38 then (bif Nat.blt pc 34 then (bif Nat.beq pc 33 then some (.iload_n 1, 34, 0) else none) else (bif Nat.blt pc 37 then (bif Nat.beq pc 34 then some (.ifCond .lt 50, 37, 84) else none) else (bif Nat.beq pc 37 then some (.aload_n 0, 38, 0) else none))) else (bif Nat.blt pc 41 then (bif Nat.beq pc 38 then some (.getfield 7, 41, 0) else none) else (bif Nat.blt pc 42 then (bif Nat.beq pc 41 then some (.iload_n 2, 42, 0) else none) else (bif Nat.beq pc 42 then some (.iaload, 43, 0) else none)))))) else (bif Nat.blt pc 64 then (bif Nat.blt pc 54 then (bif Nat.blt pc 49 then (bif Nat.blt pc 45 then (bif Nat.beq pc 43 then some (.bipush 48, 45, 0) else none) else (bif Nat.blt pc 48 then (bif Nat.beq pc 45 then some (.if_icmp .lt 31, 48, 76) else none) else (bif Nat.beq pc 48 then some (.aload_n 0, 49, 0) else none))) else (bif Nat.blt pc 52 then (bif Nat.beq pc 49 then some (.getfield 7, 52, 0) else none) else (bif Nat.blt pc 53 then (bif Nat.beq pc 52 then some (.iload_n 2, 53, 0) else none) else (bif Nat.beq pc 53 then some (.iaload, 54, 0) else none)))) else (bif Nat.blt pc 61 then (bif Nat.blt pc 56 then (bif Nat.beq pc 54 then some (.bipush 57, 56, 0) else none) else (bif Nat.blt pc 59 then (bif Nat.beq pc 56 then some (.if_icmp .gt 20, 59, 76) else none) else (bif Nat.beq pc 59 then some (.bipush 10, 61, 0) else none))) else (bif Nat.blt pc 62 then (bif Nat.beq pc 61 then some (.iload_n 1, 62, 0) else none) else (bif Nat.blt pc 63 then (bif Nat.beq pc 62 then some (.imul, 63, 0) else none) else (bif Nat.beq pc 63 then some (.aload_n 0, 64, 0) else none))))) else (bif Nat.blt pc 73 then (bif Nat.blt pc 69 then (bif Nat.blt pc 67 then (bif Nat.beq pc 64 then some (.getfield 7, 67, 0) else none) else (bif Nat.blt pc 68 then (bif Nat.beq pc 67 then some (.iload_n 2, 68, 0) else none) else (bif Nat.beq pc 68 then some (.iaload, 69, 0) else none))) else (bif Nat.blt pc 70 then (bif Nat.beq pc 69 then some (.iadd, 70, 0) else none) else (bif Nat.blt pc 72 then (bif Nat.beq pc 70 then some (.bipush 48, 72, 0) else none) else (bif Nat.beq pc 72 then some (.isub, 73, 0) else none)))) else (bif Nat.blt pc 78 then (bif Nat.blt pc 76 then (bif Nat.beq pc 73 then some (.goto 4, 76, 77) else none) else (bif Nat.blt pc 77 then (bif Nat.beq pc 76 then some (.iconst (-1), 77, 0) else none) else (bif Nat.beq pc 77 then some (.istore_n 1, 78, 0) else none))) else (bif Nat.blt pc 84 then (bif Nat.blt pc 81 then (bif Nat.beq pc 78 then some (.iinc 2 1, 81, 0) else none) else (bif Nat.beq pc 81 then some (.goto (-56), 84, 25) else none)) else (bif Nat.blt pc 85 then (bif Nat.beq pc 84 then some (.iload_n 1, 85, 0) else none) else (bif Nat.beq pc 85 then some (.ireturn, 86, 0) else none)))))))
/-- CodeRulesModel.takeOfBranch(I)Z -/
noncomputable def am_cd_113 (pc : Nat) : Option (Instr × Nat × Nat) := (bif Nat.blt pc 158 then (bif Nat.blt pc 94 then (bif Nat.blt pc 64 then (bif Nat.blt pc 15 then (bif Nat.blt pc 8 then (bif Nat.blt pc 3 then (bif Nat.blt pc 2 then (bif Nat.beq pc 0 then some (.bipush 30, 2, 0) else none) else (bif Nat.beq pc 2 then some (.aload_n 0, 3, 0) else none)) else (bif Nat.blt pc 6 then (bif Nat.beq pc 3 then some (.getfield 13, 6, 0) else none) else (bif Nat.beq pc 6 then some (.bipush 6, 8, 0) else none))) else (bif Nat.blt pc 10 then (bif Nat.blt pc 9 then (bif Nat.beq pc 8 then some (.iaload, 9, 0) else none) else (bif Nat.beq pc 9 then some (.iadd, 10, 0) else none)) else (bif Nat.blt pc 11 then (bif Nat.beq pc 10 then some (.istore_n 2, 11, 0) else none) else (bif Nat.blt pc 14 then (bif Nat.beq pc 11 then some (.sipush 180, 14, 0) else none) else (bif Nat.beq pc 14 then some (.iconst 3, 15, 0) else none))))) else (bif Nat.blt pc 23 then (bif Nat.blt pc 19 then (bif Nat.blt pc 16 then (bif Nat.beq pc 15 then some (.aload_n 0, 16, 0) else none) else (bif Nat.beq pc 16 then some (.getfield 13, 19, 0) else none)) else (bif Nat.blt pc 21 then (bif Nat.beq pc 19 then some (.bipush 7, 21, 0) else none) else (bif Nat.blt pc 22 then (bif Nat.beq pc 21 then some (.iaload, 22, 0) else none) else (bif Nat.beq pc 22 then some (.imul, 23, 0) else none)))) else (bif Nat.blt pc 25 then (bif Nat.blt pc 24 then (bif Nat.beq pc 23 then some (.iadd, 24, 0) else none) else (bif Nat.beq pc 24 then some (.istore_n 3, 25, 0) else none)) else (bif Nat.blt pc 26 then (bif Nat.beq pc 25 then some (.aload_n 0, 26, 0) else none) else (bif Nat.blt pc 29 then (bif Nat.beq pc 26 then some (.getfield 105, 29, 0) else none) else (bif Nat.beq pc 29 then some (.tableswitch 228 1 5 #[35, 57, 228, 122, 144], 64, 0) else none)))))) else (bif Nat.blt pc 80 then (bif Nat.blt pc 71 then (bif Nat.blt pc 68 then (bif Nat.blt pc 65 then (bif Nat.beq pc 64 then some (.aload_n 0, 65, 0) else none) else (bif Nat.beq pc 65 then some (.getfield 16, 68, 0) else none)) else (bif Nat.blt pc 69 then (bif Nat.beq pc 68 then some (.iload_n 2, 69, 0) else none) else (bif Nat.blt pc 70 then (bif Nat.beq pc 69 then some (.iload_n 1, 70, 0) else none) else (bif Nat.beq pc 70 then some (.iastore, 71, 0) else none)))) else (bif Nat.blt pc 73 then (bif Nat.blt pc 72 then (bif Nat.beq pc 71 then some (.aload_n 0, 72, 0) else none) else (bif Nat.beq pc 72 then some (.iconst 2, 73, 0) else none)) else (bif Nat.blt pc 76 then (bif Nat.beq pc 73 then some (.putfield 105, 76, 0) else none) else (bif Nat.blt pc 77 then (bif Nat.beq pc 76 then some (.iload_n 1, 77, 0) else none) else (bif Nat.beq pc 77 then some (.ifCond .lt 7, 80, 84) else none))))) else (bif Nat.blt pc 87 then (bif Nat.blt pc 84 then (bif Nat.blt pc 81 then (bif Nat.beq pc 80 then some (.iconst 1, 81, 0) else none) else (bif Nat.beq pc 81 then some (.goto 4, 84, 85) else none)) else (bif Nat.blt pc 85 then (bif Nat.beq pc 84 then some (.iconst 0, 85, 0) else none) else (bif Nat.blt pc 86 then (bif Nat.beq pc 85 then some (.ireturn, 86, 0) else none) else (bif Nat.beq pc 86 then some (.aload_n 0, 87, 0) else none)))) else (bif Nat.blt pc 91 then (bif Nat.blt pc 90 then (bif Nat.beq pc 87 then some (.getfield 19, 90, 0) else none) else (bif Nat.beq pc 90 then some (.iload_n 2, 91, 0) else none)) else (bif Nat.blt pc 92 then (bif Nat.beq pc 91 then some (.iload_n 1, 92, 0) else none) else (bif Nat.blt pc 93 then (bif Nat.beq pc 92 then some (.iastore, 93, 0) else none) else (bif Nat.beq pc 93 then some (.aload_n 0, 94, 0) else none))))))) else (bif Nat.blt pc 126 then (bif Nat.blt pc 113 then (bif Nat.blt pc 105 then (bif Nat.blt pc 99 then (bif Nat.blt pc 97 then (bif Nat.beq pc 94 then some (.getfield 22, 97, 0) else none) else (bif Nat.beq pc 97 then some (.bipush 31, 99, 0) else none)) else (bif Nat.blt pc 100 then (bif Nat.beq pc 99 then some (.aload_n 0, 100, 0) else none) else (bif Nat.blt pc 103 then (bif Nat.beq pc 100 then some (.getfield 13, 103, 0) else none) else (bif Nat.beq pc 103 then some (.bipush 6, 105, 0) else none)))) else (bif Nat.blt pc 107 then (bif Nat.blt pc 106 then (bif Nat.beq pc 105 then some (.iaload, 106, 0) else none) else (bif Nat.beq pc 106 then some (.iadd, 107, 0) else none)) else (bif Nat.blt pc 108 then (bif Nat.beq pc 107 then some (.aload_n 0, 108, 0) else none) else (bif Nat.blt pc 111 then (bif Nat.beq pc 108 then some (.getfield 13, 111, 0) else none) else (bif Nat.beq pc 111 then some (.bipush 7, 113, 0) else none))))) else (bif Nat.blt pc 121 then (bif Nat.blt pc 115 then (bif Nat.blt pc 114 then (bif Nat.beq pc 113 then some (.iaload, 114, 0) else none) else (bif Nat.beq pc 114 then some (.iastore, 115, 0) else none)) else (bif Nat.blt pc 116 then (bif Nat.beq pc 115 then some (.aload_n 0, 116, 0) else none) else (bif Nat.blt pc 119 then (bif Nat.beq pc 116 then some (.getfield 13, 119, 0) else none) else (bif Nat.beq pc 119 then some (.bipush 6, 121, 0) else none)))) else (bif Nat.blt pc 123 then (bif Nat.blt pc 122 then (bif Nat.beq pc 121 then some (.dup2, 122, 0) else none) else (bif Nat.beq pc 122 then some (.iaload, 123, 0) else none)) else (bif Nat.blt pc 124 then (bif Nat.beq pc 123 then some (.iconst 1, 124, 0) else none) else (bif Nat.blt pc 125 then (bif Nat.beq pc 124 then some (.iadd, 125, 0) else none) else (bif Nat.beq pc 125 then some (.iastore, 126, 0) else none)))))) else (bif Nat.blt pc 142 then (bif Nat.blt pc 133 then (bif Nat.blt pc 128 then (bif Nat.blt pc 127 then (bif Nat.beq pc 126 then some (.aload_n 0, 127, 0) else none) else (bif Nat.beq pc 127 then some (.dup, 128, 0) else none)) else (bif Nat.blt pc 131 then (bif Nat.beq pc 128 then some (.getfield 116, 131, 0) else none) else (bif Nat.blt pc 132 then (bif Nat.beq pc 131 then some (.iconst 1, 132, 0) else none) else (bif Nat.beq pc 132 then some (.iadd, 133, 0) else none)))) else (bif Nat.blt pc 137 then (bif Nat.blt pc 136 then (bif Nat.beq pc 133 then some (.putfield 116, 136, 0) else none) else (bif Nat.beq pc 136 then some (.aload_n 0, 137, 0) else none)) else (bif Nat.blt pc 138 then (bif Nat.beq pc 137 then some (.iconst 3, 138, 0) else none) else (bif Nat.blt pc 141 then (bif Nat.beq pc 138 then some (.putfield 105, 141, 0) else none) else (bif Nat.beq pc 141 then some (.iload_n 1, 142, 0) else none))))) else (bif Nat.blt pc 151 then (bif Nat.blt pc 144 then (bif Nat.blt pc 143 then (bif Nat.beq pc 142 then some (.i2l, 143, 0) else none) else (bif Nat.beq pc 143 then some (.lconst 0, 144, 0) else none)) else (bif Nat.blt pc 147 then (bif Nat.beq pc 144 then some (.ldc2_w 119, 147, 0) else none) else (bif Nat.blt pc 150 then (bif Nat.beq pc 147 then some (.invokestatic 77, 150, 0) else none) else (bif Nat.beq pc 150 then some (.ireturn, 151, 0) else none)))) else (bif Nat.blt pc 155 then (bif Nat.blt pc 152 then (bif Nat.beq pc 151 then some (.aload_n 0, 152, 0) else none) else (bif Nat.beq pc 152 then some (.getfield 25, 155, 0) else none)) else (bif Nat.blt pc 156 then (bif Nat.beq pc 155 then some (.iload_n 3, 156, 0) else none) else (bif Nat.blt pc 157 then (bif Nat.beq pc 156 then some (.iload_n 1, 157, 0) else none) else (bif Nat.beq pc 157 then some (.iastore, 158, 0) else none)))))))) else (bif Nat.blt pc 227 then (bif Nat.blt pc 189 then (bif Nat.blt pc 173 then (bif Nat.blt pc 164 then (bif Nat.blt pc 160 then (bif Nat.blt pc 159 then (bif Nat.beq pc 158 then some (.aload_n 0, 159, 0) else none) else (bif Nat.beq pc 159 then some (.iconst 5, 160, 0) else none)) else (bif Nat.blt pc 163 then (bif Nat.beq pc 160 then some (.putfield 105, 163, 0) else none) else (bif Nat.beq pc 163 then some (.iload_n 1, 164, 0) else none))) else (bif Nat.blt pc 166 then (bif Nat.blt pc 165 then (bif Nat.beq pc 164 then some (.i2l, 165, 0) else none) else (bif Nat.beq pc 165 then some (.lconst 0, 166, 0) else none)) else (bif Nat.blt pc 169 then (bif Nat.beq pc 166 then some (.ldc2_w 119, 169, 0) else none) else (bif Nat.blt pc 172 then (bif Nat.beq pc 169 then some (.invokestatic 77, 172, 0) else none) else (bif Nat.beq pc 172 then some (.ireturn, 173, 0) else none))))) else (bif Nat.blt pc 180 then (bif Nat.blt pc 177 then (bif Nat.blt pc 174 then (bif Nat.beq pc 173 then some (.aload_n 0, 174, 0) else none) else (bif Nat.beq pc 174 then some (.getfield 25, 177, 0) else none)) else (bif Nat.blt pc 178 then (bif Nat.beq pc 177 then some (.iload_n 3, 178, 0) else none) else (bif Nat.blt pc 179 then (bif Nat.beq pc 178 then some (.iconst 1, 179, 0) else none) else (bif Nat.beq pc 179 then some (.iadd, 180, 0) else none)))) else (bif Nat.blt pc 184 then (bif Nat.blt pc 181 then (bif Nat.beq pc 180 then some (.aload_n 0, 181, 0) else none) else (bif Nat.beq pc 181 then some (.getfield 7, 184, 0) else none)) else (bif Nat.blt pc 185 then (bif Nat.beq pc 184 then some (.aload_n 0, 185, 0) else none) else (bif Nat.blt pc 188 then (bif Nat.beq pc 185 then some (.getfield 88, 188, 0) else none) else (bif Nat.beq pc 188 then some (.iaload, 189, 0) else none)))))) else (bif Nat.blt pc 206 then (bif Nat.blt pc 197 then (bif Nat.blt pc 191 then (bif Nat.blt pc 190 then (bif Nat.beq pc 189 then some (.iastore, 190, 0) else none) else (bif Nat.beq pc 190 then some (.aload_n 0, 191, 0) else none)) else (bif Nat.blt pc 193 then (bif Nat.beq pc 191 then some (.bipush 6, 193, 0) else none) else (bif Nat.blt pc 196 then (bif Nat.beq pc 193 then some (.putfield 105, 196, 0) else none) else (bif Nat.beq pc 196 then some (.aload_n 0, 197, 0) else none)))) else (bif Nat.blt pc 201 then (bif Nat.blt pc 200 then (bif Nat.beq pc 197 then some (.getfield 85, 200, 0) else none) else (bif Nat.beq pc 200 then some (.aload_n 0, 201, 0) else none)) else (bif Nat.blt pc 204 then (bif Nat.beq pc 201 then some (.getfield 88, 204, 0) else none) else (bif Nat.blt pc 205 then (bif Nat.beq pc 204 then some (.isub, 205, 0) else none) else (bif Nat.beq pc 205 then some (.iconst 1, 206, 0) else none))))) else (bif Nat.blt pc 217 then (bif Nat.blt pc 210 then (bif Nat.blt pc 209 then (bif Nat.beq pc 206 then some (.if_icmp .ne 49, 209, 255) else none) else (bif Nat.beq pc 209 then some (.aload_n 0, 210, 0) else none)) else (bif Nat.blt pc 213 then (bif Nat.beq pc 210 then some (.getfield 7, 213, 0) else none) else (bif Nat.blt pc 214 then (bif Nat.beq pc 213 then some (.aload_n 0, 214, 0) else none) else (bif Nat.beq pc 214 then some (.getfield 88, 217, 0) else none)))) else (bif Nat.blt pc 220 then (bif Nat.blt pc 218 then (bif Nat.beq pc 217 then some (.iaload, 218, 0) else none) else (bif Nat.beq pc 218 then some (.bipush 60, 220, 0) else none)) else (bif Nat.blt pc 223 then (bif Nat.beq pc 220 then some (.if_icmp .eq 31, 223, 251) else none) else (bif Nat.blt pc 224 then (bif Nat.beq pc 223 then some (.aload_n 0, 224, 0) else none) else (bif Nat.beq pc 224 then some (.getfield 7, 227, 0) else none))))))) else (bif Nat.blt pc 263 then (bif Nat.blt pc 246 then (bif Nat.blt pc 237 then (bif Nat.blt pc 231 then (bif Nat.blt pc 228 then (bif Nat.beq pc 227 then some (.aload_n 0, 228, 0) else none) else (bif Nat.beq pc 228 then some (.getfield 88, 231, 0) else none)) else (bif Nat.blt pc 232 then (bif Nat.beq pc 231 then some (.iaload, 232, 0) else none) else (bif Nat.blt pc 234 then (bif Nat.beq pc 232 then some (.bipush 61, 234, 0) else none) else (bif Nat.beq pc 234 then some (.if_icmp .eq 17, 237, 251) else none)))) else (bif Nat.blt pc 241 then (bif Nat.blt pc 238 then (bif Nat.beq pc 237 then some (.aload_n 0, 238, 0) else none) else (bif Nat.beq pc 238 then some (.getfield 7, 241, 0) else none)) else (bif Nat.blt pc 242 then (bif Nat.beq pc 241 then some (.aload_n 0, 242, 0) else none) else (bif Nat.blt pc 245 then (bif Nat.beq pc 242 then some (.getfield 88, 245, 0) else none) else (bif Nat.beq pc 245 then some (.iaload, 246, 0) else none))))) else (bif Nat.blt pc 256 then (bif Nat.blt pc 251 then (bif Nat.blt pc 248 then (bif Nat.beq pc 246 then some (.bipush 62, 248, 0) else none) else (bif Nat.beq pc 248 then some (.if_icmp .ne 7, 251, 255) else none)) else (bif Nat.blt pc 252 then (bif Nat.beq pc 251 then some (.iconst 1, 252, 0) else none) else (bif Nat.blt pc 255 then (bif Nat.beq pc 252 then some (.goto 4, 255, 256) else none) else (bif Nat.beq pc 255 then some (.iconst 0, 256, 0) else none)))) else (bif Nat.blt pc 258 then (bif Nat.blt pc 257 then (bif Nat.beq pc 256 then some (.ireturn, 257, 0) else none) else (bif Nat.beq pc 257 then some (.aload_n 0, 258, 0) else none)) else (bif Nat.blt pc 261 then (bif Nat.beq pc 258 then some (.getfield 25, 261, 0) else none) else (bif Nat.blt pc 262 then (bif Nat.beq pc 261 then some (.iload_n 3, 262, 0) else none) else (bif Nat.beq pc 262 then some (.iconst 2, 263, 0) else none)))))) else (bif Nat.blt pc 276 then (bif Nat.blt pc 270 then (bif Nat.blt pc 265 then (bif Nat.blt pc 264 then (bif Nat.beq pc 263 then some (.iadd, 264, 0) else none) else (bif Nat.beq pc 264 then some (.iload_n 1, 265, 0) else none)) else (bif Nat.blt pc 266 then (bif Nat.beq pc 265 then some (.iastore, 266, 0) else none) else (bif Nat.blt pc 267 then (bif Nat.beq pc 266 then some (.aload_n 0, 267, 0) else none) else (bif Nat.beq pc 267 then some (.getfield 13, 270, 0) else none)))) else (bif Nat.blt pc 273 then (bif Nat.blt pc 272 then (bif Nat.beq pc 270 then some (.bipush 7, 272, 0) else none) else (bif Nat.beq pc 272 then some (.dup2, 273, 0) else none)) else (bif Nat.blt pc 274 then (bif Nat.beq pc 273 then some (.iaload, 274, 0) else none) else (bif Nat.blt pc 275 then (bif Nat.beq pc 274 then some (.iconst 1, 275, 0) else none) else (bif Nat.beq pc 275 then some (.iadd, 276, 0) else none))))) else (bif Nat.blt pc 283 then (bif Nat.blt pc 278 then (bif Nat.blt pc 277 then (bif Nat.beq pc 276 then some (.iastore, 277, 0) else none) else (bif Nat.beq pc 277 then some (.aload_n 0, 278, 0) else none)) else (bif Nat.blt pc 279 then (bif Nat.beq pc 278 then some (.iconst 3, 279, 0) else none) else (bif Nat.blt pc 282 then (bif Nat.beq pc 279 then some (.putfield 105, 282, 0) else none) else (bif Nat.beq pc 282 then some (.iload_n 1, 283, 0) else none)))) else (bif Nat.blt pc 287 then (bif Nat.blt pc 286 then (bif Nat.beq pc 283 then some (.ifCond .lt 7, 286, 290) else none) else (bif Nat.beq pc 286 then some (.iconst 1, 287, 0) else none)) else (bif Nat.blt pc 290 then (bif Nat.beq pc 287 then some (.goto 4, 290, 291) else none) else (bif Nat.blt pc 291 then (bif Nat.beq pc 290 then some (.iconst 0, 291, 0) else none) else (bif Nat.beq pc 291 then some (.ireturn, 292, 0) else none)))))))))
/-- CodeRulesModel.takeOfOther(I)Z -/
noncomputable def am_cd_114 (pc : Nat) : Option (Instr × Nat × Nat) := (bif Nat.blt pc 195 then (bif Nat.blt pc 120 then (bif Nat.blt pc 83 then (bif Nat.blt pc 69 then (bif Nat.blt pc 60 then (bif Nat.blt pc 4 then (bif Nat.blt pc 1 then (bif Nat.beq pc 0 then some (.aload_n 0, 1, 0) else none) else (bif Nat.beq pc 1 then some (.getfield 105, 4, 0) else none)) else (bif Nat.blt pc 56 then (bif Nat.beq pc 4 then some (.tableswitch 319 7 15 #[52, 104, 133, 319, 319, 319, 319, 222, 254], 56, 0) else none) else (bif Nat.blt pc 57 then (bif Nat.beq pc 56 then some (.aload_n 0, 57, 0) else none) else (bif Nat.beq pc 57 then some (.getfield 28, 60, 0) else none)))) else (bif Nat.blt pc 63 then (bif Nat.blt pc 62 then (bif Nat.beq pc 60 then some (.bipush 16, 62, 0) else none) else (bif Nat.beq pc 62 then some (.aload_n 0, 63, 0) else none)) else (bif Nat.blt pc 66 then (bif Nat.beq pc 63 then some (.getfield 13, 66, 0) else none) else (bif Nat.blt pc 68 then (bif Nat.beq pc 66 then some (.bipush 8, 68, 0) else none) else (bif Nat.beq pc 68 then some (.iaload, 69, 0) else none))))) else (bif Nat.blt pc 76 then (bif Nat.blt pc 71 then (bif Nat.blt pc 70 then (bif Nat.beq pc 69 then some (.iadd, 70, 0) else none) else (bif Nat.beq pc 70 then some (.iload_n 1, 71, 0) else none)) else (bif Nat.blt pc 72 then (bif Nat.beq pc 71 then some (.iastore, 72, 0) else none) else (bif Nat.blt pc 73 then (bif Nat.beq pc 72 then some (.aload_n 0, 73, 0) else none) else (bif Nat.beq pc 73 then some (.getfield 13, 76, 0) else none)))) else (bif Nat.blt pc 80 then (bif Nat.blt pc 78 then (bif Nat.beq pc 76 then some (.bipush 8, 78, 0) else none) else (bif Nat.blt pc 79 then (bif Nat.beq pc 78 then some (.dup2, 79, 0) else none) else (bif Nat.beq pc 79 then some (.iaload, 80, 0) else none))) else (bif Nat.blt pc 81 then (bif Nat.beq pc 80 then some (.iconst 1, 81, 0) else none) else (bif Nat.blt pc 82 then (bif Nat.beq pc 81 then some (.iadd, 82, 0) else none) else (bif Nat.beq pc 82 then some (.iastore, 83, 0) else none)))))) else (bif Nat.blt pc 102 then (bif Nat.blt pc 90 then (bif Nat.blt pc 85 then (bif Nat.blt pc 84 then (bif Nat.beq pc 83 then some (.aload_n 0, 84, 0) else none) else (bif Nat.beq pc 84 then some (.dup, 85, 0) else none)) else (bif Nat.blt pc 88 then (bif Nat.beq pc 85 then some (.getfield 116, 88, 0) else none) else (bif Nat.blt pc 89 then (bif Nat.beq pc 88 then some (.iconst 1, 89, 0) else none) else (bif Nat.beq pc 89 then some (.iadd, 90, 0) else none)))) else (bif Nat.blt pc 95 then (bif Nat.blt pc 93 then (bif Nat.beq pc 90 then some (.putfield 116, 93, 0) else none) else (bif Nat.blt pc 94 then (bif Nat.beq pc 93 then some (.aload_n 0, 94, 0) else none) else (bif Nat.beq pc 94 then some (.iconst 0, 95, 0) else none))) else (bif Nat.blt pc 98 then (bif Nat.beq pc 95 then some (.putfield 105, 98, 0) else none) else (bif Nat.blt pc 99 then (bif Nat.beq pc 98 then some (.iload_n 1, 99, 0) else none) else (bif Nat.beq pc 99 then some (.ifCond .lt 7, 102, 106) else none))))) else (bif Nat.blt pc 109 then (bif Nat.blt pc 106 then (bif Nat.blt pc 103 then (bif Nat.beq pc 102 then some (.iconst 1, 103, 0) else none) else (bif Nat.beq pc 103 then some (.goto 4, 106, 107) else none)) else (bif Nat.blt pc 107 then (bif Nat.beq pc 106 then some (.iconst 0, 107, 0) else none) else (bif Nat.blt pc 108 then (bif Nat.beq pc 107 then some (.ireturn, 108, 0) else none) else (bif Nat.beq pc 108 then some (.aload_n 0, 109, 0) else none)))) else (bif Nat.blt pc 114 then (bif Nat.blt pc 110 then (bif Nat.beq pc 109 then some (.iload_n 1, 110, 0) else none) else (bif Nat.blt pc 113 then (bif Nat.beq pc 110 then some (.putfield 121, 113, 0) else none) else (bif Nat.beq pc 113 then some (.aload_n 0, 114, 0) else none))) else (bif Nat.blt pc 116 then (bif Nat.beq pc 114 then some (.bipush 9, 116, 0) else none) else (bif Nat.blt pc 119 then (bif Nat.beq pc 116 then some (.putfield 105, 119, 0) else none) else (bif Nat.beq pc 119 then some (.iload_n 1, 120, 0) else none))))))) else (bif Nat.blt pc 159 then (bif Nat.blt pc 138 then (bif Nat.blt pc 131 then (bif Nat.blt pc 124 then (bif Nat.blt pc 123 then (bif Nat.beq pc 120 then some (.ifCond .lt 15, 123, 135) else none) else (bif Nat.beq pc 123 then some (.aload_n 0, 124, 0) else none)) else (bif Nat.blt pc 125 then (bif Nat.beq pc 124 then some (.iload_n 1, 125, 0) else none) else (bif Nat.blt pc 128 then (bif Nat.beq pc 125 then some (.invokevirtual 124, 128, 0) else none) else (bif Nat.beq pc 128 then some (.ifCond .ne 7, 131, 135) else none)))) else (bif Nat.blt pc 135 then (bif Nat.blt pc 132 then (bif Nat.beq pc 131 then some (.iconst 1, 132, 0) else none) else (bif Nat.beq pc 132 then some (.goto 4, 135, 136) else none)) else (bif Nat.blt pc 136 then (bif Nat.beq pc 135 then some (.iconst 0, 136, 0) else none) else (bif Nat.blt pc 137 then (bif Nat.beq pc 136 then some (.ireturn, 137, 0) else none) else (bif Nat.beq pc 137 then some (.iload_n 1, 138, 0) else none))))) else (bif Nat.blt pc 149 then (bif Nat.blt pc 142 then (bif Nat.blt pc 141 then (bif Nat.beq pc 138 then some (.ifCond .lt 19, 141, 157) else none) else (bif Nat.beq pc 141 then some (.iload_n 1, 142, 0) else none)) else (bif Nat.blt pc 143 then (bif Nat.beq pc 142 then some (.aload_n 0, 143, 0) else none) else (bif Nat.blt pc 146 then (bif Nat.beq pc 143 then some (.getfield 121, 146, 0) else none) else (bif Nat.beq pc 146 then some (.if_icmp .eq 11, 149, 157) else none)))) else (bif Nat.blt pc 154 then (bif Nat.blt pc 150 then (bif Nat.beq pc 149 then some (.aload_n 0, 150, 0) else none) else (bif Nat.blt pc 151 then (bif Nat.beq pc 150 then some (.iload_n 1, 151, 0) else none) else (bif Nat.beq pc 151 then some (.invokevirtual 124, 154, 0) else none))) else (bif Nat.blt pc 157 then (bif Nat.beq pc 154 then some (.ifCond .eq 5, 157, 159) else none) else (bif Nat.blt pc 158 then (bif Nat.beq pc 157 then some (.iconst 0, 158, 0) else none) else (bif Nat.beq pc 158 then some (.ireturn, 159, 0) else none)))))) else (bif Nat.blt pc 176 then (bif Nat.blt pc 167 then (bif Nat.blt pc 163 then (bif Nat.blt pc 160 then (bif Nat.beq pc 159 then some (.aload_n 0, 160, 0) else none) else (bif Nat.beq pc 160 then some (.getfield 31, 163, 0) else none)) else (bif Nat.blt pc 165 then (bif Nat.beq pc 163 then some (.bipush 32, 165, 0) else none) else (bif Nat.blt pc 166 then (bif Nat.beq pc 165 then some (.iconst 2, 166, 0) else none) else (bif Nat.beq pc 166 then some (.aload_n 0, 167, 0) else none)))) else (bif Nat.blt pc 173 then (bif Nat.blt pc 170 then (bif Nat.beq pc 167 then some (.getfield 13, 170, 0) else none) else (bif Nat.blt pc 172 then (bif Nat.beq pc 170 then some (.bipush 9, 172, 0) else none) else (bif Nat.beq pc 172 then some (.iaload, 173, 0) else none))) else (bif Nat.blt pc 174 then (bif Nat.beq pc 173 then some (.imul, 174, 0) else none) else (bif Nat.blt pc 175 then (bif Nat.beq pc 174 then some (.iadd, 175, 0) else none) else (bif Nat.beq pc 175 then some (.aload_n 0, 176, 0) else none))))) else (bif Nat.blt pc 186 then (bif Nat.blt pc 180 then (bif Nat.blt pc 179 then (bif Nat.beq pc 176 then some (.getfield 121, 179, 0) else none) else (bif Nat.beq pc 179 then some (.iastore, 180, 0) else none)) else (bif Nat.blt pc 181 then (bif Nat.beq pc 180 then some (.aload_n 0, 181, 0) else none) else (bif Nat.blt pc 184 then (bif Nat.beq pc 181 then some (.getfield 31, 184, 0) else none) else (bif Nat.beq pc 184 then some (.bipush 33, 186, 0) else none)))) else (bif Nat.blt pc 191 then (bif Nat.blt pc 187 then (bif Nat.beq pc 186 then some (.iconst 2, 187, 0) else none) else (bif Nat.blt pc 188 then (bif Nat.beq pc 187 then some (.aload_n 0, 188, 0) else none) else (bif Nat.beq pc 188 then some (.getfield 13, 191, 0) else none))) else (bif Nat.blt pc 193 then (bif Nat.beq pc 191 then some (.bipush 9, 193, 0) else none) else (bif Nat.blt pc 194 then (bif Nat.beq pc 193 then some (.iaload, 194, 0) else none) else (bif Nat.beq pc 194 then some (.imul, 195, 0) else none)))))))) else (bif Nat.blt pc 262 then (bif Nat.blt pc 225 then (bif Nat.blt pc 208 then (bif Nat.blt pc 202 then (bif Nat.blt pc 197 then (bif Nat.blt pc 196 then (bif Nat.beq pc 195 then some (.iadd, 196, 0) else none) else (bif Nat.beq pc 196 then some (.iload_n 1, 197, 0) else none)) else (bif Nat.blt pc 198 then (bif Nat.beq pc 197 then some (.iastore, 198, 0) else none) else (bif Nat.blt pc 199 then (bif Nat.beq pc 198 then some (.aload_n 0, 199, 0) else none) else (bif Nat.beq pc 199 then some (.getfield 13, 202, 0) else none)))) else (bif Nat.blt pc 205 then (bif Nat.blt pc 204 then (bif Nat.beq pc 202 then some (.bipush 9, 204, 0) else none) else (bif Nat.beq pc 204 then some (.dup2, 205, 0) else none)) else (bif Nat.blt pc 206 then (bif Nat.beq pc 205 then some (.iaload, 206, 0) else none) else (bif Nat.blt pc 207 then (bif Nat.beq pc 206 then some (.iconst 1, 207, 0) else none) else (bif Nat.beq pc 207 then some (.iadd, 208, 0) else none))))) else (bif Nat.blt pc 215 then (bif Nat.blt pc 210 then (bif Nat.blt pc 209 then (bif Nat.beq pc 208 then some (.iastore, 209, 0) else none) else (bif Nat.beq pc 209 then some (.aload_n 0, 210, 0) else none)) else (bif Nat.blt pc 211 then (bif Nat.beq pc 210 then some (.dup, 211, 0) else none) else (bif Nat.blt pc 214 then (bif Nat.beq pc 211 then some (.getfield 116, 214, 0) else none) else (bif Nat.beq pc 214 then some (.iconst 1, 215, 0) else none)))) else (bif Nat.blt pc 220 then (bif Nat.blt pc 216 then (bif Nat.beq pc 215 then some (.iadd, 216, 0) else none) else (bif Nat.blt pc 219 then (bif Nat.beq pc 216 then some (.putfield 116, 219, 0) else none) else (bif Nat.beq pc 219 then some (.aload_n 0, 220, 0) else none))) else (bif Nat.blt pc 221 then (bif Nat.beq pc 220 then some (.iconst 0, 221, 0) else none) else (bif Nat.blt pc 224 then (bif Nat.beq pc 221 then some (.putfield 105, 224, 0) else none) else (bif Nat.beq pc 224 then some (.iconst 1, 225, 0) else none)))))) else (bif Nat.blt pc 242 then (bif Nat.blt pc 233 then (bif Nat.blt pc 227 then (bif Nat.blt pc 226 then (bif Nat.beq pc 225 then some (.ireturn, 226, 0) else none) else (bif Nat.beq pc 226 then some (.aload_n 0, 227, 0) else none)) else (bif Nat.blt pc 230 then (bif Nat.beq pc 227 then some (.getfield 37, 230, 0) else none) else (bif Nat.blt pc 232 then (bif Nat.beq pc 230 then some (.bipush 20, 232, 0) else none) else (bif Nat.beq pc 232 then some (.aload_n 0, 233, 0) else none)))) else (bif Nat.blt pc 239 then (bif Nat.blt pc 236 then (bif Nat.beq pc 233 then some (.getfield 13, 236, 0) else none) else (bif Nat.blt pc 238 then (bif Nat.beq pc 236 then some (.bipush 11, 238, 0) else none) else (bif Nat.beq pc 238 then some (.iaload, 239, 0) else none))) else (bif Nat.blt pc 240 then (bif Nat.beq pc 239 then some (.iadd, 240, 0) else none) else (bif Nat.blt pc 241 then (bif Nat.beq pc 240 then some (.iload_n 1, 241, 0) else none) else (bif Nat.beq pc 241 then some (.iastore, 242, 0) else none))))) else (bif Nat.blt pc 252 then (bif Nat.blt pc 245 then (bif Nat.blt pc 243 then (bif Nat.beq pc 242 then some (.aload_n 0, 243, 0) else none) else (bif Nat.beq pc 243 then some (.bipush 15, 245, 0) else none)) else (bif Nat.blt pc 248 then (bif Nat.beq pc 245 then some (.putfield 105, 248, 0) else none) else (bif Nat.blt pc 249 then (bif Nat.beq pc 248 then some (.iload_n 1, 249, 0) else none) else (bif Nat.beq pc 249 then some (.ifCond .lt 7, 252, 256) else none)))) else (bif Nat.blt pc 257 then (bif Nat.blt pc 253 then (bif Nat.beq pc 252 then some (.iconst 1, 253, 0) else none) else (bif Nat.blt pc 256 then (bif Nat.beq pc 253 then some (.goto 4, 256, 257) else none) else (bif Nat.beq pc 256 then some (.iconst 0, 257, 0) else none))) else (bif Nat.blt pc 258 then (bif Nat.beq pc 257 then some (.ireturn, 258, 0) else none) else (bif Nat.blt pc 259 then (bif Nat.beq pc 258 then some (.aload_n 0, 259, 0) else none) else (bif Nat.beq pc 259 then some (.invokevirtual 127, 262, 0) else none))))))) else (bif Nat.blt pc 296 then (bif Nat.blt pc 279 then (bif Nat.blt pc 269 then (bif Nat.blt pc 264 then (bif Nat.blt pc 263 then (bif Nat.beq pc 262 then some (.lstore_n 2, 263, 0) else none) else (bif Nat.beq pc 263 then some (.lload_n 2, 264, 0) else none)) else (bif Nat.blt pc 265 then (bif Nat.beq pc 264 then some (.lconst 0, 265, 0) else none) else (bif Nat.blt pc 266 then (bif Nat.beq pc 265 then some (.lcmp, 266, 0) else none) else (bif Nat.beq pc 266 then some (.ifCond .eq 11, 269, 277) else none)))) else (bif Nat.blt pc 274 then (bif Nat.blt pc 270 then (bif Nat.beq pc 269 then some (.aload_n 0, 270, 0) else none) else (bif Nat.blt pc 271 then (bif Nat.beq pc 270 then some (.lload_n 2, 271, 0) else none) else (bif Nat.beq pc 271 then some (.invokevirtual 131, 274, 0) else none))) else (bif Nat.blt pc 277 then (bif Nat.beq pc 274 then some (.ifCond .eq 5, 277, 279) else none) else (bif Nat.blt pc 278 then (bif Nat.beq pc 277 then some (.iconst 0, 278, 0) else none) else (bif Nat.beq pc 278 then some (.ireturn, 279, 0) else none))))) else (bif Nat.blt pc 289 then (bif Nat.blt pc 283 then (bif Nat.blt pc 280 then (bif Nat.beq pc 279 then some (.aload_n 0, 280, 0) else none) else (bif Nat.beq pc 280 then some (.getfield 40, 283, 0) else none)) else (bif Nat.blt pc 285 then (bif Nat.beq pc 283 then some (.bipush 20, 285, 0) else none) else (bif Nat.blt pc 286 then (bif Nat.beq pc 285 then some (.aload_n 0, 286, 0) else none) else (bif Nat.beq pc 286 then some (.getfield 13, 289, 0) else none)))) else (bif Nat.blt pc 293 then (bif Nat.blt pc 291 then (bif Nat.beq pc 289 then some (.bipush 11, 291, 0) else none) else (bif Nat.blt pc 292 then (bif Nat.beq pc 291 then some (.iaload, 292, 0) else none) else (bif Nat.beq pc 292 then some (.iadd, 293, 0) else none))) else (bif Nat.blt pc 294 then (bif Nat.beq pc 293 then some (.lload_n 2, 294, 0) else none) else (bif Nat.blt pc 295 then (bif Nat.beq pc 294 then some (.lastore, 295, 0) else none) else (bif Nat.beq pc 295 then some (.aload_n 0, 296, 0) else none)))))) else (bif Nat.blt pc 312 then (bif Nat.blt pc 304 then (bif Nat.blt pc 301 then (bif Nat.blt pc 299 then (bif Nat.beq pc 296 then some (.getfield 13, 299, 0) else none) else (bif Nat.beq pc 299 then some (.bipush 11, 301, 0) else none)) else (bif Nat.blt pc 302 then (bif Nat.beq pc 301 then some (.dup2, 302, 0) else none) else (bif Nat.blt pc 303 then (bif Nat.beq pc 302 then some (.iaload, 303, 0) else none) else (bif Nat.beq pc 303 then some (.iconst 1, 304, 0) else none)))) else (bif Nat.blt pc 307 then (bif Nat.blt pc 305 then (bif Nat.beq pc 304 then some (.iadd, 305, 0) else none) else (bif Nat.blt pc 306 then (bif Nat.beq pc 305 then some (.iastore, 306, 0) else none) else (bif Nat.beq pc 306 then some (.aload_n 0, 307, 0) else none))) else (bif Nat.blt pc 308 then (bif Nat.beq pc 307 then some (.dup, 308, 0) else none) else (bif Nat.blt pc 311 then (bif Nat.beq pc 308 then some (.getfield 116, 311, 0) else none) else (bif Nat.beq pc 311 then some (.iconst 1, 312, 0) else none))))) else (bif Nat.blt pc 321 then (bif Nat.blt pc 316 then (bif Nat.blt pc 313 then (bif Nat.beq pc 312 then some (.iadd, 313, 0) else none) else (bif Nat.beq pc 313 then some (.putfield 116, 316, 0) else none)) else (bif Nat.blt pc 317 then (bif Nat.beq pc 316 then some (.aload_n 0, 317, 0) else none) else (bif Nat.blt pc 318 then (bif Nat.beq pc 317 then some (.iconst 0, 318, 0) else none) else (bif Nat.beq pc 318 then some (.putfield 105, 321, 0) else none)))) else (bif Nat.blt pc 324 then (bif Nat.blt pc 322 then (bif Nat.beq pc 321 then some (.iconst 1, 322, 0) else none) else (bif Nat.blt pc 323 then (bif Nat.beq pc 322 then some (.ireturn, 323, 0) else none) else (bif Nat.beq pc 323 then some (.aload_n 0, 324, 0) else none))) else (bif Nat.blt pc 325 then (bif Nat.beq pc 324 then some (.iload_n 1, 325, 0) else none) else (bif Nat.blt pc 328 then (bif Nat.beq pc 325 then some (.invokevirtual 134, 328, 0) else none) else (bif Nat.beq pc 328 then some (.ireturn, 329, 0) else none)))))))))
/-- CodeRulesModel.isMirrored(I)Z -/
noncomputable def am_cd_115 (pc : Nat) : Option (Instr × Nat × Nat) := (bif Nat.blt pc 22 then (bif Nat.blt pc 7 then (bif Nat.blt pc 3 then (bif Nat.blt pc 1 then (bif Nat.beq pc 0 then some (.iconst 0, 1, 0) else none) else (bif Nat.blt pc 2 then (bif Nat.beq pc 1 then some (.istore_n 2, 2, 0) else none) else (bif Nat.beq pc 2 then some (.iconst 0, 3, 0) else none))) else (bif Nat.blt pc 5 then (bif Nat.blt pc 4 then (bif Nat.beq pc 3 then some (.istore_n 3, 4, 0) else none) else (bif Nat.beq pc 4 then some (.iload_n 3, 5, 0) else none)) else (bif Nat.blt pc 6 then (bif Nat.beq pc 5 then some (.iconst 2, 6, 0) else none) else (bif Nat.beq pc 6 then some (.aload_n 0, 7, 0) else none)))) else (bif Nat.blt pc 14 then (bif Nat.blt pc 12 then (bif Nat.blt pc 10 then (bif Nat.beq pc 7 then some (.getfield 13, 10, 0) else none) else (bif Nat.beq pc 10 then some (.bipush 9, 12, 0) else none)) else (bif Nat.blt pc 13 then (bif Nat.beq pc 12 then some (.iaload, 13, 0) else none) else (bif Nat.beq pc 13 then some (.imul, 14, 0) else none))) else (bif Nat.blt pc 18 then (bif Nat.blt pc 17 then (bif Nat.beq pc 14 then some (.if_icmp .ge 32, 17, 46) else none) else (bif Nat.beq pc 17 then some (.iload_n 2, 18, 0) else none)) else (bif Nat.blt pc 21 then (bif Nat.beq pc 18 then some (.ifCond .ne 16, 21, 34) else none) else (bif Nat.beq pc 21 then some (.aload_n 0, 22, 0) else none))))) else (bif Nat.blt pc 34 then (bif Nat.blt pc 28 then (bif Nat.blt pc 25 then (bif Nat.beq pc 22 then some (.getfield 31, 25, 0) else none) else (bif Nat.blt pc 27 then (bif Nat.beq pc 25 then some (.bipush 32, 27, 0) else none) else (bif Nat.beq pc 27 then some (.iload_n 3, 28, 0) else none))) else (bif Nat.blt pc 30 then (bif Nat.blt pc 29 then (bif Nat.beq pc 28 then some (.iadd, 29, 0) else none) else (bif Nat.beq pc 29 then some (.iaload, 30, 0) else none)) else (bif Nat.blt pc 31 then (bif Nat.beq pc 30 then some (.iload_n 1, 31, 0) else none) else (bif Nat.beq pc 31 then some (.if_icmp .ne 7, 34, 38) else none)))) else (bif Nat.blt pc 40 then (bif Nat.blt pc 38 then (bif Nat.blt pc 35 then (bif Nat.beq pc 34 then some (.iconst 1, 35, 0) else none) else (bif Nat.beq pc 35 then some (.goto 4, 38, 39) else none)) else (bif Nat.blt pc 39 then (bif Nat.beq pc 38 then some (.iconst 0, 39, 0) else none) else (bif Nat.beq pc 39 then some (.istore_n 2, 40, 0) else none))) else (bif Nat.blt pc 46 then (bif Nat.blt pc 43 then (bif Nat.beq pc 40 then some (.iinc 3 1, 43, 0) else none) else (bif Nat.beq pc 43 then some (.goto (-39), 46, 4) else none)) else (bif Nat.blt pc 47 then (bif Nat.beq pc 46 then some (.iload_n 2, 47, 0) else none) else (bif Nat.beq pc 47 then some (.ireturn, 48, 0) else none))))))
/-- CodeRulesModel.nameAt()J -/
noncomputable def am_cd_116 (pc : Nat) : Option (Instr × Nat × Nat) := (bif Nat.blt pc 66 then (bif Nat.blt pc 30 then (bif Nat.blt pc 12 then (bif Nat.blt pc 6 then (bif Nat.blt pc 2 then (bif Nat.blt pc 1 then (bif Nat.beq pc 0 then some (.lconst 0, 1, 0) else none) else (bif Nat.beq pc 1 then some (.lstore_n 1, 2, 0) else none)) else (bif Nat.blt pc 3 then (bif Nat.beq pc 2 then some (.aload_n 0, 3, 0) else none) else (bif Nat.beq pc 3 then some (.getfield 85, 6, 0) else none))) else (bif Nat.blt pc 10 then (bif Nat.blt pc 7 then (bif Nat.beq pc 6 then some (.aload_n 0, 7, 0) else none) else (bif Nat.beq pc 7 then some (.getfield 88, 10, 0) else none)) else (bif Nat.blt pc 11 then (bif Nat.beq pc 10 then some (.isub, 11, 0) else none) else (bif Nat.beq pc 11 then some (.iconst 1, 12, 0) else none)))) else (bif Nat.blt pc 20 then (bif Nat.blt pc 16 then (bif Nat.blt pc 15 then (bif Nat.beq pc 12 then some (.if_icmp .lt 21, 15, 33) else none) else (bif Nat.beq pc 15 then some (.aload_n 0, 16, 0) else none)) else (bif Nat.blt pc 19 then (bif Nat.beq pc 16 then some (.getfield 85, 19, 0) else none) else (bif Nat.beq pc 19 then some (.aload_n 0, 20, 0) else none))) else (bif Nat.blt pc 24 then (bif Nat.blt pc 23 then (bif Nat.beq pc 20 then some (.getfield 88, 23, 0) else none) else (bif Nat.beq pc 23 then some (.isub, 24, 0) else none)) else (bif Nat.blt pc 26 then (bif Nat.beq pc 24 then some (.bipush 8, 26, 0) else none) else (bif Nat.blt pc 29 then (bif Nat.beq pc 26 then some (.if_icmp .gt 7, 29, 33) else none) else (bif Nat.beq pc 29 then some (.iconst 1, 30, 0) else none)))))) else (bif Nat.blt pc 47 then (bif Nat.blt pc 36 then (bif Nat.blt pc 34 then (bif Nat.blt pc 33 then (bif Nat.beq pc 30 then some (.goto 4, 33, 34) else none) else (bif Nat.beq pc 33 then some (.iconst 0, 34, 0) else none)) else (bif Nat.blt pc 35 then (bif Nat.beq pc 34 then some (.istore_n 3, 35, 0) else none) else (bif Nat.beq pc 35 then some (.aload_n 0, 36, 0) else none))) else (bif Nat.blt pc 41 then (bif Nat.blt pc 39 then (bif Nat.beq pc 36 then some (.getfield 88, 39, 0) else none) else (bif Nat.beq pc 39 then some (.istore 4, 41, 0) else none)) else (bif Nat.blt pc 43 then (bif Nat.beq pc 41 then some (.iload 4, 43, 0) else none) else (bif Nat.blt pc 44 then (bif Nat.beq pc 43 then some (.aload_n 0, 44, 0) else none) else (bif Nat.beq pc 44 then some (.getfield 85, 47, 0) else none))))) else (bif Nat.blt pc 55 then (bif Nat.blt pc 51 then (bif Nat.blt pc 50 then (bif Nat.beq pc 47 then some (.if_icmp .ge 71, 50, 118) else none) else (bif Nat.beq pc 50 then some (.iload_n 3, 51, 0) else none)) else (bif Nat.blt pc 54 then (bif Nat.beq pc 51 then some (.ifCond .eq 67, 54, 118) else none) else (bif Nat.beq pc 54 then some (.aload_n 0, 55, 0) else none))) else (bif Nat.blt pc 60 then (bif Nat.blt pc 58 then (bif Nat.beq pc 55 then some (.getfield 7, 58, 0) else none) else (bif Nat.beq pc 58 then some (.iload 4, 60, 0) else none)) else (bif Nat.blt pc 61 then (bif Nat.beq pc 60 then some (.iaload, 61, 0) else none) else (bif Nat.blt pc 63 then (bif Nat.beq pc 61 then some (.bipush 97, 63, 0) else none) else (bif Nat.beq pc 63 then some (.if_icmp .lt 19, 66, 82) else none))))))) else (bif Nat.blt pc 99 then (bif Nat.blt pc 83 then (bif Nat.blt pc 73 then (bif Nat.blt pc 70 then (bif Nat.blt pc 67 then (bif Nat.beq pc 66 then some (.aload_n 0, 67, 0) else none) else (bif Nat.beq pc 67 then some (.getfield 7, 70, 0) else none)) else (bif Nat.blt pc 72 then (bif Nat.beq pc 70 then some (.iload 4, 72, 0) else none) else (bif Nat.beq pc 72 then some (.iaload, 73, 0) else none))) else (bif Nat.blt pc 78 then (bif Nat.blt pc 75 then (bif Nat.beq pc 73 then some (.bipush 122, 75, 0) else none) else (bif Nat.beq pc 75 then some (.if_icmp .gt 7, 78, 82) else none)) else (bif Nat.blt pc 79 then (bif Nat.beq pc 78 then some (.iconst 1, 79, 0) else none) else (bif Nat.blt pc 82 then (bif Nat.beq pc 79 then some (.goto 4, 82, 83) else none) else (bif Nat.beq pc 82 then some (.iconst 0, 83, 0) else none))))) else (bif Nat.blt pc 89 then (bif Nat.blt pc 87 then (bif Nat.blt pc 84 then (bif Nat.beq pc 83 then some (.istore_n 3, 84, 0) else none) else (bif Nat.beq pc 84 then some (.ldc2_w 97, 87, 0) else none)) else (bif Nat.blt pc 88 then (bif Nat.beq pc 87 then some (.lload_n 1, 88, 0) else none) else (bif Nat.beq pc 88 then some (.lmul, 89, 0) else none))) else (bif Nat.blt pc 93 then (bif Nat.blt pc 90 then (bif Nat.beq pc 89 then some (.iload_n 3, 90, 0) else none) else (bif Nat.beq pc 90 then some (.ifCond .eq 18, 93, 108) else none)) else (bif Nat.blt pc 94 then (bif Nat.beq pc 93 then some (.aload_n 0, 94, 0) else none) else (bif Nat.blt pc 97 then (bif Nat.beq pc 94 then some (.getfield 7, 97, 0) else none) else (bif Nat.beq pc 97 then some (.iload 4, 99, 0) else none)))))) else (bif Nat.blt pc 111 then (bif Nat.blt pc 104 then (bif Nat.blt pc 102 then (bif Nat.blt pc 100 then (bif Nat.beq pc 99 then some (.iaload, 100, 0) else none) else (bif Nat.beq pc 100 then some (.bipush 97, 102, 0) else none)) else (bif Nat.blt pc 103 then (bif Nat.beq pc 102 then some (.isub, 103, 0) else none) else (bif Nat.beq pc 103 then some (.iconst 1, 104, 0) else none))) else (bif Nat.blt pc 108 then (bif Nat.blt pc 105 then (bif Nat.beq pc 104 then some (.iadd, 105, 0) else none) else (bif Nat.beq pc 105 then some (.goto 4, 108, 109) else none)) else (bif Nat.blt pc 109 then (bif Nat.beq pc 108 then some (.iconst 0, 109, 0) else none) else (bif Nat.blt pc 110 then (bif Nat.beq pc 109 then some (.i2l, 110, 0) else none) else (bif Nat.beq pc 110 then some (.ladd, 111, 0) else none))))) else (bif Nat.blt pc 119 then (bif Nat.blt pc 115 then (bif Nat.blt pc 112 then (bif Nat.beq pc 111 then some (.lstore_n 1, 112, 0) else none) else (bif Nat.beq pc 112 then some (.iinc 4 1, 115, 0) else none)) else (bif Nat.blt pc 118 then (bif Nat.beq pc 115 then some (.goto (-74), 118, 41) else none) else (bif Nat.beq pc 118 then some (.iload_n 3, 119, 0) else none))) else (bif Nat.blt pc 123 then (bif Nat.blt pc 122 then (bif Nat.beq pc 119 then some (.ifCond .eq 7, 122, 126) else none) else (bif Nat.beq pc 122 then some (.lload_n 1, 123, 0) else none)) else (bif Nat.blt pc 126 then (bif Nat.beq pc 123 then some (.goto 4, 126, 127) else none) else (bif Nat.blt pc 127 then (bif Nat.beq pc 126 then some (.lconst 0, 127, 0) else none) else (bif Nat.beq pc 127 then some (.lreturn, 128, 0) else none))))))))
/-- CodeRulesModel.isName(J)Z -/
noncomputable def am_cd_117 (pc : Nat) : Option (Instr × Nat × Nat) := (bif Nat.blt pc 25 then (bif Nat.blt pc 11 then (bif Nat.blt pc 3 then (bif Nat.blt pc 1 then (bif Nat.beq pc 0 then some (.iconst 0, 1, 0) else none) else (bif Nat.blt pc 2 then (bif Nat.beq pc 1 then some (.istore_n 3, 2, 0) else none) else (bif Nat.beq pc 2 then some (.iconst 0, 3, 0) else none))) else (bif Nat.blt pc 7 then (bif Nat.blt pc 5 then (bif Nat.beq pc 3 then some (.istore 4, 5, 0) else none) else (bif Nat.beq pc 5 then some (.iload 4, 7, 0) else none)) else (bif Nat.blt pc 8 then (bif Nat.beq pc 7 then some (.aload_n 0, 8, 0) else none) else (bif Nat.beq pc 8 then some (.getfield 13, 11, 0) else none)))) else (bif Nat.blt pc 17 then (bif Nat.blt pc 13 then (bif Nat.beq pc 11 then some (.bipush 11, 13, 0) else none) else (bif Nat.blt pc 14 then (bif Nat.beq pc 13 then some (.iaload, 14, 0) else none) else (bif Nat.beq pc 14 then some (.if_icmp .ge 34, 17, 48) else none))) else (bif Nat.blt pc 21 then (bif Nat.blt pc 18 then (bif Nat.beq pc 17 then some (.iload_n 3, 18, 0) else none) else (bif Nat.beq pc 18 then some (.ifCond .ne 18, 21, 36) else none)) else (bif Nat.blt pc 22 then (bif Nat.beq pc 21 then some (.aload_n 0, 22, 0) else none) else (bif Nat.beq pc 22 then some (.getfield 40, 25, 0) else none))))) else (bif Nat.blt pc 36 then (bif Nat.blt pc 30 then (bif Nat.blt pc 27 then (bif Nat.beq pc 25 then some (.bipush 20, 27, 0) else none) else (bif Nat.blt pc 29 then (bif Nat.beq pc 27 then some (.iload 4, 29, 0) else none) else (bif Nat.beq pc 29 then some (.iadd, 30, 0) else none))) else (bif Nat.blt pc 32 then (bif Nat.blt pc 31 then (bif Nat.beq pc 30 then some (.laload, 31, 0) else none) else (bif Nat.beq pc 31 then some (.lload_n 1, 32, 0) else none)) else (bif Nat.blt pc 33 then (bif Nat.beq pc 32 then some (.lcmp, 33, 0) else none) else (bif Nat.beq pc 33 then some (.ifCond .ne 7, 36, 40) else none)))) else (bif Nat.blt pc 42 then (bif Nat.blt pc 40 then (bif Nat.blt pc 37 then (bif Nat.beq pc 36 then some (.iconst 1, 37, 0) else none) else (bif Nat.beq pc 37 then some (.goto 4, 40, 41) else none)) else (bif Nat.blt pc 41 then (bif Nat.beq pc 40 then some (.iconst 0, 41, 0) else none) else (bif Nat.beq pc 41 then some (.istore_n 3, 42, 0) else none))) else (bif Nat.blt pc 48 then (bif Nat.blt pc 45 then (bif Nat.beq pc 42 then some (.iinc 4 1, 45, 0) else none) else (bif Nat.beq pc 45 then some (.goto (-40), 48, 5) else none)) else (bif Nat.blt pc 49 then (bif Nat.beq pc 48 then some (.iload_n 3, 49, 0) else none) else (bif Nat.beq pc 49 then some (.ireturn, 50, 0) else none))))))
/-- CodeRulesModel.takeOfMap(I)Z -/
noncomputable def am_cd_118 (pc : Nat) : Option (Instr × Nat × Nat) := (bif Nat.blt pc 52 then (bif Nat.blt pc 24 then (bif Nat.blt pc 13 then (bif Nat.blt pc 6 then (bif Nat.blt pc 1 then (bif Nat.beq pc 0 then some (.aload_n 0, 1, 0) else none) else (bif Nat.blt pc 4 then (bif Nat.beq pc 1 then some (.getfield 34, 4, 0) else none) else (bif Nat.beq pc 4 then some (.bipush 80, 6, 0) else none))) else (bif Nat.blt pc 8 then (bif Nat.blt pc 7 then (bif Nat.beq pc 6 then some (.iconst 4, 7, 0) else none) else (bif Nat.beq pc 7 then some (.aload_n 0, 8, 0) else none)) else (bif Nat.blt pc 11 then (bif Nat.beq pc 8 then some (.getfield 13, 11, 0) else none) else (bif Nat.beq pc 11 then some (.bipush 10, 13, 0) else none)))) else (bif Nat.blt pc 17 then (bif Nat.blt pc 15 then (bif Nat.blt pc 14 then (bif Nat.beq pc 13 then some (.iaload, 14, 0) else none) else (bif Nat.beq pc 14 then some (.imul, 15, 0) else none)) else (bif Nat.blt pc 16 then (bif Nat.beq pc 15 then some (.iadd, 16, 0) else none) else (bif Nat.beq pc 16 then some (.aload_n 0, 17, 0) else none))) else (bif Nat.blt pc 21 then (bif Nat.blt pc 20 then (bif Nat.beq pc 17 then some (.getfield 105, 20, 0) else none) else (bif Nat.beq pc 20 then some (.iadd, 21, 0) else none)) else (bif Nat.blt pc 23 then (bif Nat.beq pc 21 then some (.bipush 10, 23, 0) else none) else (bif Nat.beq pc 23 then some (.isub, 24, 0) else none))))) else (bif Nat.blt pc 36 then (bif Nat.blt pc 28 then (bif Nat.blt pc 26 then (bif Nat.blt pc 25 then (bif Nat.beq pc 24 then some (.iload_n 1, 25, 0) else none) else (bif Nat.beq pc 25 then some (.iastore, 26, 0) else none)) else (bif Nat.blt pc 27 then (bif Nat.beq pc 26 then some (.aload_n 0, 27, 0) else none) else (bif Nat.beq pc 27 then some (.dup, 28, 0) else none))) else (bif Nat.blt pc 32 then (bif Nat.blt pc 31 then (bif Nat.beq pc 28 then some (.getfield 105, 31, 0) else none) else (bif Nat.beq pc 31 then some (.iconst 1, 32, 0) else none)) else (bif Nat.blt pc 33 then (bif Nat.beq pc 32 then some (.iadd, 33, 0) else none) else (bif Nat.beq pc 33 then some (.putfield 105, 36, 0) else none)))) else (bif Nat.blt pc 45 then (bif Nat.blt pc 40 then (bif Nat.blt pc 37 then (bif Nat.beq pc 36 then some (.aload_n 0, 37, 0) else none) else (bif Nat.beq pc 37 then some (.getfield 105, 40, 0) else none)) else (bif Nat.blt pc 42 then (bif Nat.beq pc 40 then some (.bipush 14, 42, 0) else none) else (bif Nat.beq pc 42 then some (.if_icmp .ne 39, 45, 81) else none))) else (bif Nat.blt pc 49 then (bif Nat.blt pc 46 then (bif Nat.beq pc 45 then some (.aload_n 0, 46, 0) else none) else (bif Nat.beq pc 46 then some (.getfield 13, 49, 0) else none)) else (bif Nat.blt pc 51 then (bif Nat.beq pc 49 then some (.bipush 10, 51, 0) else none) else (bif Nat.beq pc 51 then some (.dup2, 52, 0) else none)))))) else (bif Nat.blt pc 76 then (bif Nat.blt pc 62 then (bif Nat.blt pc 56 then (bif Nat.blt pc 54 then (bif Nat.blt pc 53 then (bif Nat.beq pc 52 then some (.iaload, 53, 0) else none) else (bif Nat.beq pc 53 then some (.iconst 1, 54, 0) else none)) else (bif Nat.blt pc 55 then (bif Nat.beq pc 54 then some (.iadd, 55, 0) else none) else (bif Nat.beq pc 55 then some (.iastore, 56, 0) else none))) else (bif Nat.blt pc 58 then (bif Nat.blt pc 57 then (bif Nat.beq pc 56 then some (.aload_n 0, 57, 0) else none) else (bif Nat.beq pc 57 then some (.dup, 58, 0) else none)) else (bif Nat.blt pc 61 then (bif Nat.beq pc 58 then some (.getfield 116, 61, 0) else none) else (bif Nat.beq pc 61 then some (.iconst 1, 62, 0) else none)))) else (bif Nat.blt pc 68 then (bif Nat.blt pc 66 then (bif Nat.blt pc 63 then (bif Nat.beq pc 62 then some (.iadd, 63, 0) else none) else (bif Nat.beq pc 63 then some (.putfield 116, 66, 0) else none)) else (bif Nat.blt pc 67 then (bif Nat.beq pc 66 then some (.aload_n 0, 67, 0) else none) else (bif Nat.beq pc 67 then some (.iconst 0, 68, 0) else none))) else (bif Nat.blt pc 72 then (bif Nat.blt pc 71 then (bif Nat.beq pc 68 then some (.putfield 105, 71, 0) else none) else (bif Nat.beq pc 71 then some (.iload_n 1, 72, 0) else none)) else (bif Nat.blt pc 75 then (bif Nat.beq pc 72 then some (.ifCond .lt 7, 75, 79) else none) else (bif Nat.beq pc 75 then some (.iconst 1, 76, 0) else none))))) else (bif Nat.blt pc 91 then (bif Nat.blt pc 82 then (bif Nat.blt pc 80 then (bif Nat.blt pc 79 then (bif Nat.beq pc 76 then some (.goto 4, 79, 80) else none) else (bif Nat.beq pc 79 then some (.iconst 0, 80, 0) else none)) else (bif Nat.blt pc 81 then (bif Nat.beq pc 80 then some (.ireturn, 81, 0) else none) else (bif Nat.beq pc 81 then some (.iload_n 1, 82, 0) else none))) else (bif Nat.blt pc 86 then (bif Nat.blt pc 85 then (bif Nat.beq pc 82 then some (.ifCond .lt 22, 85, 104) else none) else (bif Nat.beq pc 85 then some (.aload_n 0, 86, 0) else none)) else (bif Nat.blt pc 89 then (bif Nat.beq pc 86 then some (.getfield 105, 89, 0) else none) else (bif Nat.beq pc 89 then some (.bipush 12, 91, 0) else none)))) else (bif Nat.blt pc 100 then (bif Nat.blt pc 95 then (bif Nat.blt pc 94 then (bif Nat.beq pc 91 then some (.if_icmp .ne 9, 94, 100) else none) else (bif Nat.beq pc 94 then some (.iload_n 1, 95, 0) else none)) else (bif Nat.blt pc 97 then (bif Nat.beq pc 95 then some (.bipush 9, 97, 0) else none) else (bif Nat.beq pc 97 then some (.if_icmp .gt 7, 100, 104) else none))) else (bif Nat.blt pc 104 then (bif Nat.blt pc 101 then (bif Nat.beq pc 100 then some (.iconst 1, 101, 0) else none) else (bif Nat.beq pc 101 then some (.goto 4, 104, 105) else none)) else (bif Nat.blt pc 105 then (bif Nat.beq pc 104 then some (.iconst 0, 105, 0) else none) else (bif Nat.beq pc 105 then some (.ireturn, 106, 0) else none)))))))
/-- CodeRulesModel.hold()V -/
noncomputable def am_cd_119 (pc : Nat) : Option (Instr × Nat × Nat) := (bif Nat.blt pc 148 then (bif Nat.blt pc 71 then (bif Nat.blt pc 37 then (bif Nat.blt pc 19 then (bif Nat.blt pc 8 then (bif Nat.blt pc 2 then (bif Nat.blt pc 1 then (bif Nat.beq pc 0 then some (.iconst 0, 1, 0) else none) else (bif Nat.beq pc 1 then some (.istore_n 1, 2, 0) else none)) else (bif Nat.blt pc 3 then (bif Nat.beq pc 2 then some (.iload_n 1, 3, 0) else none) else (bif Nat.blt pc 5 then (bif Nat.beq pc 3 then some (.bipush 6, 5, 0) else none) else (bif Nat.beq pc 5 then some (.if_icmp .ge 24, 8, 29) else none)))) else (bif Nat.blt pc 13 then (bif Nat.blt pc 9 then (bif Nat.beq pc 8 then some (.aload_n 0, 9, 0) else none) else (bif Nat.blt pc 12 then (bif Nat.beq pc 9 then some (.getfield 13, 12, 0) else none) else (bif Nat.beq pc 12 then some (.iload_n 1, 13, 0) else none))) else (bif Nat.blt pc 14 then (bif Nat.beq pc 13 then some (.aload_n 0, 14, 0) else none) else (bif Nat.blt pc 17 then (bif Nat.beq pc 14 then some (.getfield 13, 17, 0) else none) else (bif Nat.beq pc 17 then some (.bipush 6, 19, 0) else none))))) else (bif Nat.blt pc 26 then (bif Nat.blt pc 21 then (bif Nat.blt pc 20 then (bif Nat.beq pc 19 then some (.iload_n 1, 20, 0) else none) else (bif Nat.beq pc 20 then some (.iadd, 21, 0) else none)) else (bif Nat.blt pc 22 then (bif Nat.beq pc 21 then some (.iaload, 22, 0) else none) else (bif Nat.blt pc 23 then (bif Nat.beq pc 22 then some (.iastore, 23, 0) else none) else (bif Nat.beq pc 23 then some (.iinc 1 1, 26, 0) else none)))) else (bif Nat.blt pc 31 then (bif Nat.blt pc 29 then (bif Nat.beq pc 26 then some (.goto (-24), 29, 2) else none) else (bif Nat.blt pc 30 then (bif Nat.beq pc 29 then some (.iconst 0, 30, 0) else none) else (bif Nat.beq pc 30 then some (.istore_n 1, 31, 0) else none))) else (bif Nat.blt pc 32 then (bif Nat.beq pc 31 then some (.iload_n 1, 32, 0) else none) else (bif Nat.blt pc 34 then (bif Nat.beq pc 32 then some (.bipush 30, 34, 0) else none) else (bif Nat.beq pc 34 then some (.if_icmp .ge 54, 37, 88) else none)))))) else (bif Nat.blt pc 53 then (bif Nat.blt pc 46 then (bif Nat.blt pc 41 then (bif Nat.blt pc 38 then (bif Nat.beq pc 37 then some (.aload_n 0, 38, 0) else none) else (bif Nat.beq pc 38 then some (.getfield 16, 41, 0) else none)) else (bif Nat.blt pc 42 then (bif Nat.beq pc 41 then some (.iload_n 1, 42, 0) else none) else (bif Nat.blt pc 43 then (bif Nat.beq pc 42 then some (.aload_n 0, 43, 0) else none) else (bif Nat.beq pc 43 then some (.getfield 16, 46, 0) else none)))) else (bif Nat.blt pc 50 then (bif Nat.blt pc 48 then (bif Nat.beq pc 46 then some (.bipush 30, 48, 0) else none) else (bif Nat.blt pc 49 then (bif Nat.beq pc 48 then some (.iload_n 1, 49, 0) else none) else (bif Nat.beq pc 49 then some (.iadd, 50, 0) else none))) else (bif Nat.blt pc 51 then (bif Nat.beq pc 50 then some (.iaload, 51, 0) else none) else (bif Nat.blt pc 52 then (bif Nat.beq pc 51 then some (.iastore, 52, 0) else none) else (bif Nat.beq pc 52 then some (.aload_n 0, 53, 0) else none))))) else (bif Nat.blt pc 63 then (bif Nat.blt pc 57 then (bif Nat.blt pc 56 then (bif Nat.beq pc 53 then some (.getfield 19, 56, 0) else none) else (bif Nat.beq pc 56 then some (.iload_n 1, 57, 0) else none)) else (bif Nat.blt pc 58 then (bif Nat.beq pc 57 then some (.aload_n 0, 58, 0) else none) else (bif Nat.blt pc 61 then (bif Nat.beq pc 58 then some (.getfield 19, 61, 0) else none) else (bif Nat.beq pc 61 then some (.bipush 30, 63, 0) else none)))) else (bif Nat.blt pc 66 then (bif Nat.blt pc 64 then (bif Nat.beq pc 63 then some (.iload_n 1, 64, 0) else none) else (bif Nat.blt pc 65 then (bif Nat.beq pc 64 then some (.iadd, 65, 0) else none) else (bif Nat.beq pc 65 then some (.iaload, 66, 0) else none))) else (bif Nat.blt pc 67 then (bif Nat.beq pc 66 then some (.iastore, 67, 0) else none) else (bif Nat.blt pc 68 then (bif Nat.beq pc 67 then some (.aload_n 0, 68, 0) else none) else (bif Nat.beq pc 68 then some (.getfield 22, 71, 0) else none))))))) else (bif Nat.blt pc 106 then (bif Nat.blt pc 89 then (bif Nat.blt pc 79 then (bif Nat.blt pc 73 then (bif Nat.blt pc 72 then (bif Nat.beq pc 71 then some (.iload_n 1, 72, 0) else none) else (bif Nat.beq pc 72 then some (.aload_n 0, 73, 0) else none)) else (bif Nat.blt pc 76 then (bif Nat.beq pc 73 then some (.getfield 22, 76, 0) else none) else (bif Nat.blt pc 78 then (bif Nat.beq pc 76 then some (.bipush 31, 78, 0) else none) else (bif Nat.beq pc 78 then some (.iload_n 1, 79, 0) else none)))) else (bif Nat.blt pc 82 then (bif Nat.blt pc 80 then (bif Nat.beq pc 79 then some (.iadd, 80, 0) else none) else (bif Nat.blt pc 81 then (bif Nat.beq pc 80 then some (.iaload, 81, 0) else none) else (bif Nat.beq pc 81 then some (.iastore, 82, 0) else none))) else (bif Nat.blt pc 85 then (bif Nat.beq pc 82 then some (.iinc 1 1, 85, 0) else none) else (bif Nat.blt pc 88 then (bif Nat.beq pc 85 then some (.goto (-54), 88, 31) else none) else (bif Nat.beq pc 88 then some (.aload_n 0, 89, 0) else none))))) else (bif Nat.blt pc 98 then (bif Nat.blt pc 93 then (bif Nat.blt pc 92 then (bif Nat.beq pc 89 then some (.getfield 22, 92, 0) else none) else (bif Nat.beq pc 92 then some (.aload_n 0, 93, 0) else none)) else (bif Nat.blt pc 96 then (bif Nat.beq pc 93 then some (.getfield 13, 96, 0) else none) else (bif Nat.blt pc 97 then (bif Nat.beq pc 96 then some (.iconst 0, 97, 0) else none) else (bif Nat.beq pc 97 then some (.iaload, 98, 0) else none)))) else (bif Nat.blt pc 103 then (bif Nat.blt pc 99 then (bif Nat.beq pc 98 then some (.aload_n 0, 99, 0) else none) else (bif Nat.blt pc 102 then (bif Nat.beq pc 99 then some (.getfield 13, 102, 0) else none) else (bif Nat.beq pc 102 then some (.iconst 1, 103, 0) else none))) else (bif Nat.blt pc 104 then (bif Nat.beq pc 103 then some (.iaload, 104, 0) else none) else (bif Nat.blt pc 105 then (bif Nat.beq pc 104 then some (.iastore, 105, 0) else none) else (bif Nat.beq pc 105 then some (.iconst 0, 106, 0) else none)))))) else (bif Nat.blt pc 127 then (bif Nat.blt pc 115 then (bif Nat.blt pc 108 then (bif Nat.blt pc 107 then (bif Nat.beq pc 106 then some (.istore_n 1, 107, 0) else none) else (bif Nat.beq pc 107 then some (.iload_n 1, 108, 0) else none)) else (bif Nat.blt pc 111 then (bif Nat.beq pc 108 then some (.sipush 180, 111, 0) else none) else (bif Nat.blt pc 114 then (bif Nat.beq pc 111 then some (.if_icmp .ge 25, 114, 136) else none) else (bif Nat.beq pc 114 then some (.aload_n 0, 115, 0) else none)))) else (bif Nat.blt pc 120 then (bif Nat.blt pc 118 then (bif Nat.beq pc 115 then some (.getfield 25, 118, 0) else none) else (bif Nat.blt pc 119 then (bif Nat.beq pc 118 then some (.iload_n 1, 119, 0) else none) else (bif Nat.beq pc 119 then some (.aload_n 0, 120, 0) else none))) else (bif Nat.blt pc 123 then (bif Nat.beq pc 120 then some (.getfield 25, 123, 0) else none) else (bif Nat.blt pc 126 then (bif Nat.beq pc 123 then some (.sipush 180, 126, 0) else none) else (bif Nat.beq pc 126 then some (.iload_n 1, 127, 0) else none))))) else (bif Nat.blt pc 137 then (bif Nat.blt pc 130 then (bif Nat.blt pc 128 then (bif Nat.beq pc 127 then some (.iadd, 128, 0) else none) else (bif Nat.blt pc 129 then (bif Nat.beq pc 128 then some (.iaload, 129, 0) else none) else (bif Nat.beq pc 129 then some (.iastore, 130, 0) else none))) else (bif Nat.blt pc 133 then (bif Nat.beq pc 130 then some (.iinc 1 1, 133, 0) else none) else (bif Nat.blt pc 136 then (bif Nat.beq pc 133 then some (.goto (-26), 136, 107) else none) else (bif Nat.beq pc 136 then some (.iconst 0, 137, 0) else none)))) else (bif Nat.blt pc 141 then (bif Nat.blt pc 138 then (bif Nat.beq pc 137 then some (.istore_n 1, 138, 0) else none) else (bif Nat.blt pc 139 then (bif Nat.beq pc 138 then some (.iload_n 1, 139, 0) else none) else (bif Nat.beq pc 139 then some (.bipush 16, 141, 0) else none))) else (bif Nat.blt pc 144 then (bif Nat.beq pc 141 then some (.if_icmp .ge 24, 144, 165) else none) else (bif Nat.blt pc 145 then (bif Nat.beq pc 144 then some (.aload_n 0, 145, 0) else none) else (bif Nat.beq pc 145 then some (.getfield 28, 148, 0) else none)))))))) else (bif Nat.blt pc 223 then (bif Nat.blt pc 185 then (bif Nat.blt pc 166 then (bif Nat.blt pc 156 then (bif Nat.blt pc 150 then (bif Nat.blt pc 149 then (bif Nat.beq pc 148 then some (.iload_n 1, 149, 0) else none) else (bif Nat.beq pc 149 then some (.aload_n 0, 150, 0) else none)) else (bif Nat.blt pc 153 then (bif Nat.beq pc 150 then some (.getfield 28, 153, 0) else none) else (bif Nat.blt pc 155 then (bif Nat.beq pc 153 then some (.bipush 16, 155, 0) else none) else (bif Nat.beq pc 155 then some (.iload_n 1, 156, 0) else none)))) else (bif Nat.blt pc 159 then (bif Nat.blt pc 157 then (bif Nat.beq pc 156 then some (.iadd, 157, 0) else none) else (bif Nat.blt pc 158 then (bif Nat.beq pc 157 then some (.iaload, 158, 0) else none) else (bif Nat.beq pc 158 then some (.iastore, 159, 0) else none))) else (bif Nat.blt pc 162 then (bif Nat.beq pc 159 then some (.iinc 1 1, 162, 0) else none) else (bif Nat.blt pc 165 then (bif Nat.beq pc 162 then some (.goto (-24), 165, 138) else none) else (bif Nat.beq pc 165 then some (.iconst 0, 166, 0) else none))))) else (bif Nat.blt pc 174 then (bif Nat.blt pc 168 then (bif Nat.blt pc 167 then (bif Nat.beq pc 166 then some (.istore_n 1, 167, 0) else none) else (bif Nat.beq pc 167 then some (.iload_n 1, 168, 0) else none)) else (bif Nat.blt pc 170 then (bif Nat.beq pc 168 then some (.bipush 32, 170, 0) else none) else (bif Nat.blt pc 173 then (bif Nat.beq pc 170 then some (.if_icmp .ge 24, 173, 194) else none) else (bif Nat.beq pc 173 then some (.aload_n 0, 174, 0) else none)))) else (bif Nat.blt pc 179 then (bif Nat.blt pc 177 then (bif Nat.beq pc 174 then some (.getfield 31, 177, 0) else none) else (bif Nat.blt pc 178 then (bif Nat.beq pc 177 then some (.iload_n 1, 178, 0) else none) else (bif Nat.beq pc 178 then some (.aload_n 0, 179, 0) else none))) else (bif Nat.blt pc 182 then (bif Nat.beq pc 179 then some (.getfield 31, 182, 0) else none) else (bif Nat.blt pc 184 then (bif Nat.beq pc 182 then some (.bipush 32, 184, 0) else none) else (bif Nat.beq pc 184 then some (.iload_n 1, 185, 0) else none)))))) else (bif Nat.blt pc 203 then (bif Nat.blt pc 194 then (bif Nat.blt pc 187 then (bif Nat.blt pc 186 then (bif Nat.beq pc 185 then some (.iadd, 186, 0) else none) else (bif Nat.beq pc 186 then some (.iaload, 187, 0) else none)) else (bif Nat.blt pc 188 then (bif Nat.beq pc 187 then some (.iastore, 188, 0) else none) else (bif Nat.blt pc 191 then (bif Nat.beq pc 188 then some (.iinc 1 1, 191, 0) else none) else (bif Nat.beq pc 191 then some (.goto (-24), 194, 167) else none)))) else (bif Nat.blt pc 197 then (bif Nat.blt pc 195 then (bif Nat.beq pc 194 then some (.iconst 0, 195, 0) else none) else (bif Nat.blt pc 196 then (bif Nat.beq pc 195 then some (.istore_n 1, 196, 0) else none) else (bif Nat.beq pc 196 then some (.iload_n 1, 197, 0) else none))) else (bif Nat.blt pc 199 then (bif Nat.beq pc 197 then some (.bipush 80, 199, 0) else none) else (bif Nat.blt pc 202 then (bif Nat.beq pc 199 then some (.if_icmp .ge 24, 202, 223) else none) else (bif Nat.beq pc 202 then some (.aload_n 0, 203, 0) else none))))) else (bif Nat.blt pc 213 then (bif Nat.blt pc 207 then (bif Nat.blt pc 206 then (bif Nat.beq pc 203 then some (.getfield 34, 206, 0) else none) else (bif Nat.beq pc 206 then some (.iload_n 1, 207, 0) else none)) else (bif Nat.blt pc 208 then (bif Nat.beq pc 207 then some (.aload_n 0, 208, 0) else none) else (bif Nat.blt pc 211 then (bif Nat.beq pc 208 then some (.getfield 34, 211, 0) else none) else (bif Nat.beq pc 211 then some (.bipush 80, 213, 0) else none)))) else (bif Nat.blt pc 216 then (bif Nat.blt pc 214 then (bif Nat.beq pc 213 then some (.iload_n 1, 214, 0) else none) else (bif Nat.blt pc 215 then (bif Nat.beq pc 214 then some (.iadd, 215, 0) else none) else (bif Nat.beq pc 215 then some (.iaload, 216, 0) else none))) else (bif Nat.blt pc 217 then (bif Nat.beq pc 216 then some (.iastore, 217, 0) else none) else (bif Nat.blt pc 220 then (bif Nat.beq pc 217 then some (.iinc 1 1, 220, 0) else none) else (bif Nat.beq pc 220 then some (.goto (-24), 223, 196) else none))))))) else (bif Nat.blt pc 258 then (bif Nat.blt pc 242 then (bif Nat.blt pc 231 then (bif Nat.blt pc 225 then (bif Nat.blt pc 224 then (bif Nat.beq pc 223 then some (.iconst 0, 224, 0) else none) else (bif Nat.beq pc 224 then some (.istore_n 1, 225, 0) else none)) else (bif Nat.blt pc 226 then (bif Nat.beq pc 225 then some (.iload_n 1, 226, 0) else none) else (bif Nat.blt pc 228 then (bif Nat.beq pc 226 then some (.bipush 20, 228, 0) else none) else (bif Nat.beq pc 228 then some (.if_icmp .ge 39, 231, 267) else none)))) else (bif Nat.blt pc 236 then (bif Nat.blt pc 232 then (bif Nat.beq pc 231 then some (.aload_n 0, 232, 0) else none) else (bif Nat.blt pc 235 then (bif Nat.beq pc 232 then some (.getfield 37, 235, 0) else none) else (bif Nat.beq pc 235 then some (.iload_n 1, 236, 0) else none))) else (bif Nat.blt pc 237 then (bif Nat.beq pc 236 then some (.aload_n 0, 237, 0) else none) else (bif Nat.blt pc 240 then (bif Nat.beq pc 237 then some (.getfield 37, 240, 0) else none) else (bif Nat.beq pc 240 then some (.bipush 20, 242, 0) else none))))) else (bif Nat.blt pc 247 then (bif Nat.blt pc 244 then (bif Nat.blt pc 243 then (bif Nat.beq pc 242 then some (.iload_n 1, 243, 0) else none) else (bif Nat.beq pc 243 then some (.iadd, 244, 0) else none)) else (bif Nat.blt pc 245 then (bif Nat.beq pc 244 then some (.iaload, 245, 0) else none) else (bif Nat.blt pc 246 then (bif Nat.beq pc 245 then some (.iastore, 246, 0) else none) else (bif Nat.beq pc 246 then some (.aload_n 0, 247, 0) else none)))) else (bif Nat.blt pc 252 then (bif Nat.blt pc 250 then (bif Nat.beq pc 247 then some (.getfield 40, 250, 0) else none) else (bif Nat.blt pc 251 then (bif Nat.beq pc 250 then some (.iload_n 1, 251, 0) else none) else (bif Nat.beq pc 251 then some (.aload_n 0, 252, 0) else none))) else (bif Nat.blt pc 255 then (bif Nat.beq pc 252 then some (.getfield 40, 255, 0) else none) else (bif Nat.blt pc 257 then (bif Nat.beq pc 255 then some (.bipush 20, 257, 0) else none) else (bif Nat.beq pc 257 then some (.iload_n 1, 258, 0) else none)))))) else (bif Nat.blt pc 276 then (bif Nat.blt pc 267 then (bif Nat.blt pc 260 then (bif Nat.blt pc 259 then (bif Nat.beq pc 258 then some (.iadd, 259, 0) else none) else (bif Nat.beq pc 259 then some (.laload, 260, 0) else none)) else (bif Nat.blt pc 261 then (bif Nat.beq pc 260 then some (.lastore, 261, 0) else none) else (bif Nat.blt pc 264 then (bif Nat.beq pc 261 then some (.iinc 1 1, 264, 0) else none) else (bif Nat.beq pc 264 then some (.goto (-39), 267, 225) else none)))) else (bif Nat.blt pc 270 then (bif Nat.blt pc 268 then (bif Nat.beq pc 267 then some (.iconst 0, 268, 0) else none) else (bif Nat.blt pc 269 then (bif Nat.beq pc 268 then some (.istore_n 1, 269, 0) else none) else (bif Nat.beq pc 269 then some (.iload_n 1, 270, 0) else none))) else (bif Nat.blt pc 272 then (bif Nat.beq pc 270 then some (.bipush 60, 272, 0) else none) else (bif Nat.blt pc 275 then (bif Nat.beq pc 272 then some (.if_icmp .ge 23, 275, 295) else none) else (bif Nat.beq pc 275 then some (.aload_n 0, 276, 0) else none))))) else (bif Nat.blt pc 286 then (bif Nat.blt pc 281 then (bif Nat.blt pc 279 then (bif Nat.beq pc 276 then some (.getfield 51, 279, 0) else none) else (bif Nat.blt pc 280 then (bif Nat.beq pc 279 then some (.iload_n 1, 280, 0) else none) else (bif Nat.beq pc 280 then some (.iconst 0, 281, 0) else none))) else (bif Nat.blt pc 282 then (bif Nat.beq pc 281 then some (.bastore, 282, 0) else none) else (bif Nat.blt pc 283 then (bif Nat.beq pc 282 then some (.aload_n 0, 283, 0) else none) else (bif Nat.beq pc 283 then some (.getfield 54, 286, 0) else none)))) else (bif Nat.blt pc 289 then (bif Nat.blt pc 287 then (bif Nat.beq pc 286 then some (.iload_n 1, 287, 0) else none) else (bif Nat.blt pc 288 then (bif Nat.beq pc 287 then some (.iconst 0, 288, 0) else none) else (bif Nat.beq pc 288 then some (.bastore, 289, 0) else none))) else (bif Nat.blt pc 292 then (bif Nat.beq pc 289 then some (.iinc 1 1, 292, 0) else none) else (bif Nat.blt pc 295 then (bif Nat.beq pc 292 then some (.goto (-23), 295, 269) else none) else (bif Nat.beq pc 295 then some (.return_, 296, 0) else none)))))))))
/-- CodeRulesModel.fact(II)Z -/
noncomputable def am_cd_120 (pc : Nat) : Option (Instr × Nat × Nat) := (bif Nat.blt pc 18 then (bif Nat.blt pc 9 then (bif Nat.blt pc 2 then (bif Nat.blt pc 1 then (bif Nat.beq pc 0 then some (.iload_n 1, 1, 0) else none) else (bif Nat.beq pc 1 then some (.i2l, 2, 0) else none)) else (bif Nat.blt pc 3 then (bif Nat.beq pc 2 then some (.lconst 0, 3, 0) else none) else (bif Nat.blt pc 6 then (bif Nat.beq pc 3 then some (.ldc2_w 119, 6, 0) else none) else (bif Nat.beq pc 6 then some (.invokestatic 77, 9, 0) else none)))) else (bif Nat.blt pc 13 then (bif Nat.blt pc 12 then (bif Nat.beq pc 9 then some (.ifCond .ne 5, 12, 14) else none) else (bif Nat.beq pc 12 then some (.iconst 0, 13, 0) else none)) else (bif Nat.blt pc 14 then (bif Nat.beq pc 13 then some (.ireturn, 14, 0) else none) else (bif Nat.blt pc 15 then (bif Nat.beq pc 14 then some (.aload_n 0, 15, 0) else none) else (bif Nat.beq pc 15 then some (.getfield 44, 18, 0) else none))))) else (bif Nat.blt pc 25 then (bif Nat.blt pc 20 then (bif Nat.blt pc 19 then (bif Nat.beq pc 18 then some (.iload_n 1, 19, 0) else none) else (bif Nat.beq pc 19 then some (.iconst 1, 20, 0) else none)) else (bif Nat.blt pc 21 then (bif Nat.beq pc 20 then some (.bastore, 21, 0) else none) else (bif Nat.blt pc 22 then (bif Nat.beq pc 21 then some (.aload_n 0, 22, 0) else none) else (bif Nat.beq pc 22 then some (.getfield 48, 25, 0) else none)))) else (bif Nat.blt pc 27 then (bif Nat.blt pc 26 then (bif Nat.beq pc 25 then some (.iload_n 1, 26, 0) else none) else (bif Nat.beq pc 26 then some (.iload_n 2, 27, 0) else none)) else (bif Nat.blt pc 28 then (bif Nat.beq pc 27 then some (.iastore, 28, 0) else none) else (bif Nat.blt pc 29 then (bif Nat.beq pc 28 then some (.iconst 1, 29, 0) else none) else (bif Nat.beq pc 29 then some (.ireturn, 30, 0) else none))))))
/-- CodeRulesModel.clearFacts()I -/
noncomputable def am_cd_121 (pc : Nat) : Option (Instr × Nat × Nat) := (bif Nat.blt pc 20 then (bif Nat.blt pc 7 then (bif Nat.blt pc 3 then (bif Nat.blt pc 1 then (bif Nat.beq pc 0 then some (.iconst 0, 1, 0) else none) else (bif Nat.blt pc 2 then (bif Nat.beq pc 1 then some (.istore_n 1, 2, 0) else none) else (bif Nat.beq pc 2 then some (.iconst 0, 3, 0) else none))) else (bif Nat.blt pc 4 then (bif Nat.beq pc 3 then some (.istore_n 2, 4, 0) else none) else (bif Nat.blt pc 5 then (bif Nat.beq pc 4 then some (.iload_n 2, 5, 0) else none) else (bif Nat.beq pc 5 then some (.bipush 10, 7, 0) else none)))) else (bif Nat.blt pc 12 then (bif Nat.blt pc 10 then (bif Nat.beq pc 7 then some (.if_icmp .ge 33, 10, 40) else none) else (bif Nat.blt pc 11 then (bif Nat.beq pc 10 then some (.iload_n 1, 11, 0) else none) else (bif Nat.beq pc 11 then some (.aload_n 0, 12, 0) else none))) else (bif Nat.blt pc 16 then (bif Nat.blt pc 15 then (bif Nat.beq pc 12 then some (.getfield 44, 15, 0) else none) else (bif Nat.beq pc 15 then some (.iload_n 2, 16, 0) else none)) else (bif Nat.blt pc 17 then (bif Nat.beq pc 16 then some (.baload, 17, 0) else none) else (bif Nat.beq pc 17 then some (.ifCond .eq 7, 20, 24) else none))))) else (bif Nat.blt pc 31 then (bif Nat.blt pc 25 then (bif Nat.blt pc 21 then (bif Nat.beq pc 20 then some (.iconst 1, 21, 0) else none) else (bif Nat.blt pc 24 then (bif Nat.beq pc 21 then some (.goto 4, 24, 25) else none) else (bif Nat.beq pc 24 then some (.iconst 0, 25, 0) else none))) else (bif Nat.blt pc 27 then (bif Nat.blt pc 26 then (bif Nat.beq pc 25 then some (.iadd, 26, 0) else none) else (bif Nat.beq pc 26 then some (.istore_n 1, 27, 0) else none)) else (bif Nat.blt pc 28 then (bif Nat.beq pc 27 then some (.aload_n 0, 28, 0) else none) else (bif Nat.beq pc 28 then some (.getfield 44, 31, 0) else none)))) else (bif Nat.blt pc 34 then (bif Nat.blt pc 32 then (bif Nat.beq pc 31 then some (.iload_n 2, 32, 0) else none) else (bif Nat.blt pc 33 then (bif Nat.beq pc 32 then some (.iconst 0, 33, 0) else none) else (bif Nat.beq pc 33 then some (.bastore, 34, 0) else none))) else (bif Nat.blt pc 40 then (bif Nat.blt pc 37 then (bif Nat.beq pc 34 then some (.iinc 2 1, 37, 0) else none) else (bif Nat.beq pc 37 then some (.goto (-33), 40, 4) else none)) else (bif Nat.blt pc 41 then (bif Nat.beq pc 40 then some (.iload_n 1, 41, 0) else none) else (bif Nat.beq pc 41 then some (.ireturn, 42, 0) else none))))))
/-- CodeRulesModel.general(I)Z -/
noncomputable def am_cd_122 (pc : Nat) : Option (Instr × Nat × Nat) := (bif Nat.blt pc 19 then (bif Nat.blt pc 6 then (bif Nat.blt pc 3 then (bif Nat.blt pc 1 then (bif Nat.beq pc 0 then some (.iconst 0, 1, 0) else none) else (bif Nat.blt pc 2 then (bif Nat.beq pc 1 then some (.istore_n 2, 2, 0) else none) else (bif Nat.beq pc 2 then some (.iconst 0, 3, 0) else none))) else (bif Nat.blt pc 4 then (bif Nat.beq pc 3 then some (.istore_n 3, 4, 0) else none) else (bif Nat.blt pc 5 then (bif Nat.beq pc 4 then some (.iload_n 3, 5, 0) else none) else (bif Nat.beq pc 5 then some (.aload_n 0, 6, 0) else none)))) else (bif Nat.blt pc 11 then (bif Nat.blt pc 9 then (bif Nat.beq pc 6 then some (.getfield 13, 9, 0) else none) else (bif Nat.blt pc 10 then (bif Nat.beq pc 9 then some (.iconst 2, 10, 0) else none) else (bif Nat.beq pc 10 then some (.iaload, 11, 0) else none))) else (bif Nat.blt pc 15 then (bif Nat.blt pc 14 then (bif Nat.beq pc 11 then some (.if_icmp .ge 29, 14, 40) else none) else (bif Nat.beq pc 14 then some (.iload_n 2, 15, 0) else none)) else (bif Nat.blt pc 18 then (bif Nat.beq pc 15 then some (.ifCond .ne 13, 18, 28) else none) else (bif Nat.beq pc 18 then some (.aload_n 0, 19, 0) else none))))) else (bif Nat.blt pc 29 then (bif Nat.blt pc 24 then (bif Nat.blt pc 22 then (bif Nat.beq pc 19 then some (.getfield 28, 22, 0) else none) else (bif Nat.blt pc 23 then (bif Nat.beq pc 22 then some (.iload_n 3, 23, 0) else none) else (bif Nat.beq pc 23 then some (.iaload, 24, 0) else none))) else (bif Nat.blt pc 25 then (bif Nat.beq pc 24 then some (.iload_n 1, 25, 0) else none) else (bif Nat.blt pc 28 then (bif Nat.beq pc 25 then some (.if_icmp .ne 7, 28, 32) else none) else (bif Nat.beq pc 28 then some (.iconst 1, 29, 0) else none)))) else (bif Nat.blt pc 34 then (bif Nat.blt pc 32 then (bif Nat.beq pc 29 then some (.goto 4, 32, 33) else none) else (bif Nat.blt pc 33 then (bif Nat.beq pc 32 then some (.iconst 0, 33, 0) else none) else (bif Nat.beq pc 33 then some (.istore_n 2, 34, 0) else none))) else (bif Nat.blt pc 40 then (bif Nat.blt pc 37 then (bif Nat.beq pc 34 then some (.iinc 3 1, 37, 0) else none) else (bif Nat.beq pc 37 then some (.goto (-33), 40, 4) else none)) else (bif Nat.blt pc 41 then (bif Nat.beq pc 40 then some (.iload_n 2, 41, 0) else none) else (bif Nat.beq pc 41 then some (.ireturn, 42, 0) else none))))))
/-- CodeRulesModel.code()I -/
noncomputable def am_cd_123 (pc : Nat) : Option (Instr × Nat × Nat) := (bif Nat.blt pc 10 then (bif Nat.blt pc 5 then (bif Nat.blt pc 1 then (bif Nat.beq pc 0 then some (.aload_n 0, 1, 0) else none) else (bif Nat.blt pc 4 then (bif Nat.beq pc 1 then some (.invokevirtual 174, 4, 0) else none) else (bif Nat.beq pc 4 then some (.istore_n 1, 5, 0) else none))) else (bif Nat.blt pc 6 then (bif Nat.beq pc 5 then some (.iload_n 1, 6, 0) else none) else (bif Nat.blt pc 9 then (bif Nat.beq pc 6 then some (.ifCond .ge 7, 9, 13) else none) else (bif Nat.beq pc 9 then some (.iload_n 1, 10, 0) else none)))) else (bif Nat.blt pc 17 then (bif Nat.blt pc 13 then (bif Nat.beq pc 10 then some (.goto 9, 13, 19) else none) else (bif Nat.blt pc 14 then (bif Nat.beq pc 13 then some (.aload_n 0, 14, 0) else none) else (bif Nat.beq pc 14 then some (.getfield 16, 17, 0) else none))) else (bif Nat.blt pc 18 then (bif Nat.beq pc 17 then some (.iload_n 1, 18, 0) else none) else (bif Nat.blt pc 19 then (bif Nat.beq pc 18 then some (.iaload, 19, 0) else none) else (bif Nat.beq pc 19 then some (.ireturn, 20, 0) else none)))))
/-- CodeRulesModel.trial()I -/
noncomputable def am_cd_124 (pc : Nat) : Option (Instr × Nat × Nat) := (bif Nat.blt pc 83 then (bif Nat.blt pc 42 then (bif Nat.blt pc 16 then (bif Nat.blt pc 8 then (bif Nat.blt pc 5 then (bif Nat.blt pc 1 then (bif Nat.beq pc 0 then some (.aload_n 0, 1, 0) else none) else (bif Nat.blt pc 2 then (bif Nat.beq pc 1 then some (.iconst (-1), 2, 0) else none) else (bif Nat.beq pc 2 then some (.putfield 165, 5, 0) else none))) else (bif Nat.blt pc 6 then (bif Nat.beq pc 5 then some (.iconst (-1), 6, 0) else none) else (bif Nat.blt pc 7 then (bif Nat.beq pc 6 then some (.istore_n 1, 7, 0) else none) else (bif Nat.beq pc 7 then some (.iconst 0, 8, 0) else none)))) else (bif Nat.blt pc 11 then (bif Nat.blt pc 9 then (bif Nat.beq pc 8 then some (.istore_n 2, 9, 0) else none) else (bif Nat.blt pc 10 then (bif Nat.beq pc 9 then some (.iload_n 2, 10, 0) else none) else (bif Nat.beq pc 10 then some (.aload_n 0, 11, 0) else none))) else (bif Nat.blt pc 14 then (bif Nat.beq pc 11 then some (.getfield 13, 14, 0) else none) else (bif Nat.blt pc 15 then (bif Nat.beq pc 14 then some (.iconst 0, 15, 0) else none) else (bif Nat.beq pc 15 then some (.iaload, 16, 0) else none))))) else (bif Nat.blt pc 30 then (bif Nat.blt pc 23 then (bif Nat.blt pc 19 then (bif Nat.beq pc 16 then some (.if_icmp .ge 34, 19, 50) else none) else (bif Nat.blt pc 20 then (bif Nat.beq pc 19 then some (.iload_n 1, 20, 0) else none) else (bif Nat.beq pc 20 then some (.ifCond .ge 30, 23, 50) else none))) else (bif Nat.blt pc 24 then (bif Nat.beq pc 23 then some (.aload_n 0, 24, 0) else none) else (bif Nat.blt pc 27 then (bif Nat.beq pc 24 then some (.getfield 165, 27, 0) else none) else (bif Nat.beq pc 27 then some (.ifCond .ge 23, 30, 50) else none)))) else (bif Nat.blt pc 35 then (bif Nat.blt pc 31 then (bif Nat.beq pc 30 then some (.aload_n 0, 31, 0) else none) else (bif Nat.blt pc 32 then (bif Nat.beq pc 31 then some (.iload_n 2, 32, 0) else none) else (bif Nat.beq pc 32 then some (.invokevirtual 168, 35, 0) else none))) else (bif Nat.blt pc 38 then (bif Nat.beq pc 35 then some (.ifCond .eq 7, 38, 42) else none) else (bif Nat.blt pc 39 then (bif Nat.beq pc 38 then some (.iload_n 2, 39, 0) else none) else (bif Nat.beq pc 39 then some (.goto 4, 42, 43) else none)))))) else (bif Nat.blt pc 64 then (bif Nat.blt pc 54 then (bif Nat.blt pc 47 then (bif Nat.blt pc 43 then (bif Nat.beq pc 42 then some (.iconst (-1), 43, 0) else none) else (bif Nat.blt pc 44 then (bif Nat.beq pc 43 then some (.istore_n 1, 44, 0) else none) else (bif Nat.beq pc 44 then some (.iinc 2 1, 47, 0) else none))) else (bif Nat.blt pc 50 then (bif Nat.beq pc 47 then some (.goto (-38), 50, 9) else none) else (bif Nat.blt pc 51 then (bif Nat.beq pc 50 then some (.iload_n 1, 51, 0) else none) else (bif Nat.beq pc 51 then some (.ifCond .lt 113, 54, 164) else none)))) else (bif Nat.blt pc 59 then (bif Nat.blt pc 55 then (bif Nat.beq pc 54 then some (.aload_n 0, 55, 0) else none) else (bif Nat.blt pc 56 then (bif Nat.beq pc 55 then some (.aload_n 0, 56, 0) else none) else (bif Nat.beq pc 56 then some (.getfield 16, 59, 0) else none))) else (bif Nat.blt pc 60 then (bif Nat.beq pc 59 then some (.iload_n 1, 60, 0) else none) else (bif Nat.blt pc 61 then (bif Nat.beq pc 60 then some (.iaload, 61, 0) else none) else (bif Nat.beq pc 61 then some (.invokevirtual 171, 64, 0) else none))))) else (bif Nat.blt pc 72 then (bif Nat.blt pc 69 then (bif Nat.blt pc 67 then (bif Nat.beq pc 64 then some (.ifCond .eq 100, 67, 164) else none) else (bif Nat.blt pc 68 then (bif Nat.beq pc 67 then some (.iconst (-1), 68, 0) else none) else (bif Nat.beq pc 68 then some (.istore_n 2, 69, 0) else none))) else (bif Nat.blt pc 70 then (bif Nat.beq pc 69 then some (.iload_n 1, 70, 0) else none) else (bif Nat.blt pc 71 then (bif Nat.beq pc 70 then some (.iconst 1, 71, 0) else none) else (bif Nat.beq pc 71 then some (.iadd, 72, 0) else none)))) else (bif Nat.blt pc 75 then (bif Nat.blt pc 73 then (bif Nat.beq pc 72 then some (.istore_n 3, 73, 0) else none) else (bif Nat.blt pc 74 then (bif Nat.beq pc 73 then some (.iload_n 3, 74, 0) else none) else (bif Nat.beq pc 74 then some (.aload_n 0, 75, 0) else none))) else (bif Nat.blt pc 79 then (bif Nat.blt pc 78 then (bif Nat.beq pc 75 then some (.getfield 13, 78, 0) else none) else (bif Nat.beq pc 78 then some (.iconst 0, 79, 0) else none)) else (bif Nat.blt pc 80 then (bif Nat.beq pc 79 then some (.iaload, 80, 0) else none) else (bif Nat.beq pc 80 then some (.if_icmp .ge 74, 83, 154) else none))))))) else (bif Nat.blt pc 129 then (bif Nat.blt pc 105 then (bif Nat.blt pc 95 then (bif Nat.blt pc 88 then (bif Nat.blt pc 84 then (bif Nat.beq pc 83 then some (.iload_n 2, 84, 0) else none) else (bif Nat.blt pc 87 then (bif Nat.beq pc 84 then some (.ifCond .ge 70, 87, 154) else none) else (bif Nat.beq pc 87 then some (.aload_n 0, 88, 0) else none))) else (bif Nat.blt pc 91 then (bif Nat.beq pc 88 then some (.getfield 165, 91, 0) else none) else (bif Nat.blt pc 94 then (bif Nat.beq pc 91 then some (.ifCond .ge 63, 94, 154) else none) else (bif Nat.beq pc 94 then some (.aload_n 0, 95, 0) else none)))) else (bif Nat.blt pc 100 then (bif Nat.blt pc 98 then (bif Nat.beq pc 95 then some (.getfield 19, 98, 0) else none) else (bif Nat.blt pc 99 then (bif Nat.beq pc 98 then some (.iload_n 3, 99, 0) else none) else (bif Nat.beq pc 99 then some (.iaload, 100, 0) else none))) else (bif Nat.blt pc 101 then (bif Nat.beq pc 100 then some (.aload_n 0, 101, 0) else none) else (bif Nat.blt pc 104 then (bif Nat.beq pc 101 then some (.getfield 19, 104, 0) else none) else (bif Nat.beq pc 104 then some (.iload_n 1, 105, 0) else none))))) else (bif Nat.blt pc 115 then (bif Nat.blt pc 110 then (bif Nat.blt pc 106 then (bif Nat.beq pc 105 then some (.iaload, 106, 0) else none) else (bif Nat.blt pc 109 then (bif Nat.beq pc 106 then some (.if_icmp .ne 20, 109, 126) else none) else (bif Nat.beq pc 109 then some (.aload_n 0, 110, 0) else none))) else (bif Nat.blt pc 111 then (bif Nat.beq pc 110 then some (.aload_n 0, 111, 0) else none) else (bif Nat.blt pc 114 then (bif Nat.beq pc 111 then some (.getfield 16, 114, 0) else none) else (bif Nat.beq pc 114 then some (.iload_n 3, 115, 0) else none)))) else (bif Nat.blt pc 122 then (bif Nat.blt pc 116 then (bif Nat.beq pc 115 then some (.iaload, 116, 0) else none) else (bif Nat.blt pc 119 then (bif Nat.beq pc 116 then some (.invokevirtual 171, 119, 0) else none) else (bif Nat.beq pc 119 then some (.ifCond .ne 7, 122, 126) else none))) else (bif Nat.blt pc 126 then (bif Nat.blt pc 123 then (bif Nat.beq pc 122 then some (.iconst 1, 123, 0) else none) else (bif Nat.beq pc 123 then some (.goto 4, 126, 127) else none)) else (bif Nat.blt pc 127 then (bif Nat.beq pc 126 then some (.iconst 0, 127, 0) else none) else (bif Nat.beq pc 127 then some (.istore 4, 129, 0) else none)))))) else (bif Nat.blt pc 154 then (bif Nat.blt pc 142 then (bif Nat.blt pc 135 then (bif Nat.blt pc 131 then (bif Nat.beq pc 129 then some (.iload 4, 131, 0) else none) else (bif Nat.blt pc 134 then (bif Nat.beq pc 131 then some (.ifCond .eq 15, 134, 146) else none) else (bif Nat.beq pc 134 then some (.aload_n 0, 135, 0) else none))) else (bif Nat.blt pc 136 then (bif Nat.beq pc 135 then some (.iload_n 3, 136, 0) else none) else (bif Nat.blt pc 139 then (bif Nat.beq pc 136 then some (.invokevirtual 168, 139, 0) else none) else (bif Nat.beq pc 139 then some (.ifCond .eq 7, 142, 146) else none)))) else (bif Nat.blt pc 147 then (bif Nat.blt pc 143 then (bif Nat.beq pc 142 then some (.iload_n 3, 143, 0) else none) else (bif Nat.blt pc 146 then (bif Nat.beq pc 143 then some (.goto 4, 146, 147) else none) else (bif Nat.beq pc 146 then some (.iconst (-1), 147, 0) else none))) else (bif Nat.blt pc 148 then (bif Nat.beq pc 147 then some (.istore_n 2, 148, 0) else none) else (bif Nat.blt pc 151 then (bif Nat.beq pc 148 then some (.iinc 3 1, 151, 0) else none) else (bif Nat.beq pc 151 then some (.goto (-78), 154, 73) else none))))) else (bif Nat.blt pc 164 then (bif Nat.blt pc 159 then (bif Nat.blt pc 155 then (bif Nat.beq pc 154 then some (.iload_n 2, 155, 0) else none) else (bif Nat.blt pc 158 then (bif Nat.beq pc 155 then some (.ifCond .lt 7, 158, 162) else none) else (bif Nat.beq pc 158 then some (.iload_n 2, 159, 0) else none))) else (bif Nat.blt pc 162 then (bif Nat.beq pc 159 then some (.goto 4, 162, 163) else none) else (bif Nat.blt pc 163 then (bif Nat.beq pc 162 then some (.iload_n 1, 163, 0) else none) else (bif Nat.beq pc 163 then some (.istore_n 1, 164, 0) else none)))) else (bif Nat.blt pc 171 then (bif Nat.blt pc 165 then (bif Nat.beq pc 164 then some (.aload_n 0, 165, 0) else none) else (bif Nat.blt pc 168 then (bif Nat.beq pc 165 then some (.getfield 165, 168, 0) else none) else (bif Nat.beq pc 168 then some (.ifCond .lt 8, 171, 176) else none))) else (bif Nat.blt pc 176 then (bif Nat.blt pc 173 then (bif Nat.beq pc 171 then some (.bipush (-2), 173, 0) else none) else (bif Nat.beq pc 173 then some (.goto 4, 176, 177) else none)) else (bif Nat.blt pc 177 then (bif Nat.beq pc 176 then some (.iload_n 1, 177, 0) else none) else (bif Nat.beq pc 177 then some (.ireturn, 178, 0) else none))))))))
/-- CodeRulesModel.fits(I)Z -/
noncomputable def am_cd_125 (pc : Nat) : Option (Instr × Nat × Nat) := (bif Nat.blt pc 39 then (bif Nat.blt pc 17 then (bif Nat.blt pc 8 then (bif Nat.blt pc 3 then (bif Nat.blt pc 1 then (bif Nat.beq pc 0 then some (.iconst 1, 1, 0) else none) else (bif Nat.blt pc 2 then (bif Nat.beq pc 1 then some (.istore_n 2, 2, 0) else none) else (bif Nat.beq pc 2 then some (.aload_n 0, 3, 0) else none))) else (bif Nat.blt pc 6 then (bif Nat.beq pc 3 then some (.getfield 22, 6, 0) else none) else (bif Nat.blt pc 7 then (bif Nat.beq pc 6 then some (.iload_n 1, 7, 0) else none) else (bif Nat.beq pc 7 then some (.iaload, 8, 0) else none)))) else (bif Nat.blt pc 11 then (bif Nat.blt pc 9 then (bif Nat.beq pc 8 then some (.istore_n 3, 9, 0) else none) else (bif Nat.blt pc 10 then (bif Nat.beq pc 9 then some (.iload_n 3, 10, 0) else none) else (bif Nat.beq pc 10 then some (.aload_n 0, 11, 0) else none))) else (bif Nat.blt pc 15 then (bif Nat.blt pc 14 then (bif Nat.beq pc 11 then some (.getfield 22, 14, 0) else none) else (bif Nat.beq pc 14 then some (.iload_n 1, 15, 0) else none)) else (bif Nat.blt pc 16 then (bif Nat.beq pc 15 then some (.iconst 1, 16, 0) else none) else (bif Nat.beq pc 16 then some (.iadd, 17, 0) else none))))) else (bif Nat.blt pc 29 then (bif Nat.blt pc 22 then (bif Nat.blt pc 18 then (bif Nat.beq pc 17 then some (.iaload, 18, 0) else none) else (bif Nat.blt pc 21 then (bif Nat.beq pc 18 then some (.if_icmp .ge 70, 21, 88) else none) else (bif Nat.beq pc 21 then some (.iload_n 2, 22, 0) else none))) else (bif Nat.blt pc 25 then (bif Nat.beq pc 22 then some (.ifCond .eq 66, 25, 88) else none) else (bif Nat.blt pc 26 then (bif Nat.beq pc 25 then some (.aload_n 0, 26, 0) else none) else (bif Nat.beq pc 26 then some (.getfield 25, 29, 0) else none)))) else (bif Nat.blt pc 32 then (bif Nat.blt pc 30 then (bif Nat.beq pc 29 then some (.iconst 3, 30, 0) else none) else (bif Nat.blt pc 31 then (bif Nat.beq pc 30 then some (.iload_n 3, 31, 0) else none) else (bif Nat.beq pc 31 then some (.imul, 32, 0) else none))) else (bif Nat.blt pc 35 then (bif Nat.blt pc 33 then (bif Nat.beq pc 32 then some (.iaload, 33, 0) else none) else (bif Nat.beq pc 33 then some (.istore 4, 35, 0) else none)) else (bif Nat.blt pc 36 then (bif Nat.beq pc 35 then some (.aload_n 0, 36, 0) else none) else (bif Nat.beq pc 36 then some (.getfield 44, 39, 0) else none)))))) else (bif Nat.blt pc 61 then (bif Nat.blt pc 50 then (bif Nat.blt pc 45 then (bif Nat.blt pc 41 then (bif Nat.beq pc 39 then some (.iload 4, 41, 0) else none) else (bif Nat.blt pc 42 then (bif Nat.beq pc 41 then some (.baload, 42, 0) else none) else (bif Nat.beq pc 42 then some (.ifCond .eq 15, 45, 57) else none))) else (bif Nat.blt pc 46 then (bif Nat.beq pc 45 then some (.aload_n 0, 46, 0) else none) else (bif Nat.blt pc 47 then (bif Nat.beq pc 46 then some (.iload_n 3, 47, 0) else none) else (bif Nat.beq pc 47 then some (.invokevirtual 162, 50, 0) else none)))) else (bif Nat.blt pc 57 then (bif Nat.blt pc 53 then (bif Nat.beq pc 50 then some (.ifCond .eq 7, 53, 57) else none) else (bif Nat.blt pc 54 then (bif Nat.beq pc 53 then some (.iconst 1, 54, 0) else none) else (bif Nat.beq pc 54 then some (.goto 4, 57, 58) else none))) else (bif Nat.blt pc 59 then (bif Nat.blt pc 58 then (bif Nat.beq pc 57 then some (.iconst 0, 58, 0) else none) else (bif Nat.beq pc 58 then some (.istore_n 2, 59, 0) else none)) else (bif Nat.blt pc 60 then (bif Nat.beq pc 59 then some (.aload_n 0, 60, 0) else none) else (bif Nat.beq pc 60 then some (.aload_n 0, 61, 0) else none))))) else (bif Nat.blt pc 74 then (bif Nat.blt pc 67 then (bif Nat.blt pc 64 then (bif Nat.beq pc 61 then some (.getfield 44, 64, 0) else none) else (bif Nat.blt pc 66 then (bif Nat.beq pc 64 then some (.iload 4, 66, 0) else none) else (bif Nat.beq pc 66 then some (.baload, 67, 0) else none))) else (bif Nat.blt pc 70 then (bif Nat.beq pc 67 then some (.ifCond .eq 10, 70, 77) else none) else (bif Nat.blt pc 71 then (bif Nat.beq pc 70 then some (.aload_n 0, 71, 0) else none) else (bif Nat.beq pc 71 then some (.getfield 165, 74, 0) else none)))) else (bif Nat.blt pc 82 then (bif Nat.blt pc 77 then (bif Nat.beq pc 74 then some (.goto 5, 77, 79) else none) else (bif Nat.blt pc 79 then (bif Nat.beq pc 77 then some (.iload 4, 79, 0) else none) else (bif Nat.beq pc 79 then some (.putfield 165, 82, 0) else none))) else (bif Nat.blt pc 88 then (bif Nat.blt pc 85 then (bif Nat.beq pc 82 then some (.iinc 3 1, 85, 0) else none) else (bif Nat.beq pc 85 then some (.goto (-76), 88, 9) else none)) else (bif Nat.blt pc 89 then (bif Nat.beq pc 88 then some (.iload_n 2, 89, 0) else none) else (bif Nat.beq pc 89 then some (.ireturn, 90, 0) else none)))))))
/-- CodeRulesModel.holds(I)Z -/
noncomputable def am_cd_126 (pc : Nat) : Option (Instr × Nat × Nat) := (bif Nat.blt pc 43 then (bif Nat.blt pc 19 then (bif Nat.blt pc 9 then (bif Nat.blt pc 5 then (bif Nat.blt pc 1 then (bif Nat.beq pc 0 then some (.aload_n 0, 1, 0) else none) else (bif Nat.blt pc 4 then (bif Nat.beq pc 1 then some (.getfield 25, 4, 0) else none) else (bif Nat.beq pc 4 then some (.iconst 3, 5, 0) else none))) else (bif Nat.blt pc 7 then (bif Nat.blt pc 6 then (bif Nat.beq pc 5 then some (.iload_n 1, 6, 0) else none) else (bif Nat.beq pc 6 then some (.imul, 7, 0) else none)) else (bif Nat.blt pc 8 then (bif Nat.beq pc 7 then some (.iaload, 8, 0) else none) else (bif Nat.beq pc 8 then some (.istore_n 2, 9, 0) else none)))) else (bif Nat.blt pc 15 then (bif Nat.blt pc 13 then (bif Nat.blt pc 10 then (bif Nat.beq pc 9 then some (.aload_n 0, 10, 0) else none) else (bif Nat.beq pc 10 then some (.getfield 25, 13, 0) else none)) else (bif Nat.blt pc 14 then (bif Nat.beq pc 13 then some (.iconst 3, 14, 0) else none) else (bif Nat.beq pc 14 then some (.iload_n 1, 15, 0) else none))) else (bif Nat.blt pc 17 then (bif Nat.blt pc 16 then (bif Nat.beq pc 15 then some (.imul, 16, 0) else none) else (bif Nat.beq pc 16 then some (.iconst 2, 17, 0) else none)) else (bif Nat.blt pc 18 then (bif Nat.beq pc 17 then some (.iadd, 18, 0) else none) else (bif Nat.beq pc 18 then some (.iaload, 19, 0) else none))))) else (bif Nat.blt pc 28 then (bif Nat.blt pc 24 then (bif Nat.blt pc 20 then (bif Nat.beq pc 19 then some (.istore_n 3, 20, 0) else none) else (bif Nat.blt pc 21 then (bif Nat.beq pc 20 then some (.aload_n 0, 21, 0) else none) else (bif Nat.beq pc 21 then some (.getfield 25, 24, 0) else none))) else (bif Nat.blt pc 26 then (bif Nat.blt pc 25 then (bif Nat.beq pc 24 then some (.iconst 3, 25, 0) else none) else (bif Nat.beq pc 25 then some (.iload_n 1, 26, 0) else none)) else (bif Nat.blt pc 27 then (bif Nat.beq pc 26 then some (.imul, 27, 0) else none) else (bif Nat.beq pc 27 then some (.iconst 1, 28, 0) else none)))) else (bif Nat.blt pc 34 then (bif Nat.blt pc 30 then (bif Nat.blt pc 29 then (bif Nat.beq pc 28 then some (.iadd, 29, 0) else none) else (bif Nat.beq pc 29 then some (.iaload, 30, 0) else none)) else (bif Nat.blt pc 32 then (bif Nat.beq pc 30 then some (.istore 4, 32, 0) else none) else (bif Nat.beq pc 32 then some (.iload 4, 34, 0) else none))) else (bif Nat.blt pc 39 then (bif Nat.blt pc 36 then (bif Nat.beq pc 34 then some (.bipush 60, 36, 0) else none) else (bif Nat.beq pc 36 then some (.if_icmp .ne 21, 39, 57) else none)) else (bif Nat.blt pc 40 then (bif Nat.beq pc 39 then some (.aload_n 0, 40, 0) else none) else (bif Nat.beq pc 40 then some (.getfield 48, 43, 0) else none)))))) else (bif Nat.blt pc 70 then (bif Nat.blt pc 54 then (bif Nat.blt pc 46 then (bif Nat.blt pc 44 then (bif Nat.beq pc 43 then some (.iload_n 2, 44, 0) else none) else (bif Nat.blt pc 45 then (bif Nat.beq pc 44 then some (.iaload, 45, 0) else none) else (bif Nat.beq pc 45 then some (.iload_n 3, 46, 0) else none))) else (bif Nat.blt pc 50 then (bif Nat.blt pc 49 then (bif Nat.beq pc 46 then some (.if_icmp .ge 7, 49, 53) else none) else (bif Nat.beq pc 49 then some (.iconst 1, 50, 0) else none)) else (bif Nat.blt pc 53 then (bif Nat.beq pc 50 then some (.goto 47, 53, 97) else none) else (bif Nat.beq pc 53 then some (.iconst 0, 54, 0) else none)))) else (bif Nat.blt pc 64 then (bif Nat.blt pc 59 then (bif Nat.blt pc 57 then (bif Nat.beq pc 54 then some (.goto 43, 57, 97) else none) else (bif Nat.beq pc 57 then some (.iload 4, 59, 0) else none)) else (bif Nat.blt pc 61 then (bif Nat.beq pc 59 then some (.bipush 61, 61, 0) else none) else (bif Nat.beq pc 61 then some (.if_icmp .ne 21, 64, 82) else none))) else (bif Nat.blt pc 68 then (bif Nat.blt pc 65 then (bif Nat.beq pc 64 then some (.aload_n 0, 65, 0) else none) else (bif Nat.beq pc 65 then some (.getfield 48, 68, 0) else none)) else (bif Nat.blt pc 69 then (bif Nat.beq pc 68 then some (.iload_n 2, 69, 0) else none) else (bif Nat.beq pc 69 then some (.iaload, 70, 0) else none))))) else (bif Nat.blt pc 86 then (bif Nat.blt pc 78 then (bif Nat.blt pc 74 then (bif Nat.blt pc 71 then (bif Nat.beq pc 70 then some (.iload_n 3, 71, 0) else none) else (bif Nat.beq pc 71 then some (.if_icmp .ne 7, 74, 78) else none)) else (bif Nat.blt pc 75 then (bif Nat.beq pc 74 then some (.iconst 1, 75, 0) else none) else (bif Nat.beq pc 75 then some (.goto 22, 78, 97) else none))) else (bif Nat.blt pc 82 then (bif Nat.blt pc 79 then (bif Nat.beq pc 78 then some (.iconst 0, 79, 0) else none) else (bif Nat.beq pc 79 then some (.goto 18, 82, 97) else none)) else (bif Nat.blt pc 83 then (bif Nat.beq pc 82 then some (.aload_n 0, 83, 0) else none) else (bif Nat.beq pc 83 then some (.getfield 48, 86, 0) else none)))) else (bif Nat.blt pc 92 then (bif Nat.blt pc 88 then (bif Nat.blt pc 87 then (bif Nat.beq pc 86 then some (.iload_n 2, 87, 0) else none) else (bif Nat.beq pc 87 then some (.iaload, 88, 0) else none)) else (bif Nat.blt pc 89 then (bif Nat.beq pc 88 then some (.iload_n 3, 89, 0) else none) else (bif Nat.beq pc 89 then some (.if_icmp .le 7, 92, 96) else none))) else (bif Nat.blt pc 96 then (bif Nat.blt pc 93 then (bif Nat.beq pc 92 then some (.iconst 1, 93, 0) else none) else (bif Nat.beq pc 93 then some (.goto 4, 96, 97) else none)) else (bif Nat.blt pc 97 then (bif Nat.beq pc 96 then some (.iconst 0, 97, 0) else none) else (bif Nat.beq pc 97 then some (.ireturn, 98, 0) else none)))))))
/-- CodeRulesModel.taken()I -/
noncomputable def am_cd_127 (pc : Nat) : Option (Instr × Nat × Nat) := (bif Nat.blt pc 1 then (bif Nat.beq pc 0 then some (.aload_n 0, 1, 0) else none) else (bif Nat.blt pc 4 then (bif Nat.beq pc 1 then some (.invokevirtual 174, 4, 0) else none) else (bif Nat.beq pc 4 then some (.ireturn, 5, 0) else none)))
/-- CodeRulesModel.asks()I -/
noncomputable def am_cd_128 (pc : Nat) : Option (Instr × Nat × Nat) := (bif Nat.blt pc 8 then (bif Nat.blt pc 4 then (bif Nat.blt pc 1 then (bif Nat.beq pc 0 then some (.aload_n 0, 1, 0) else none) else (bif Nat.beq pc 1 then some (.invokevirtual 174, 4, 0) else none)) else (bif Nat.blt pc 5 then (bif Nat.beq pc 4 then some (.istore_n 1, 5, 0) else none) else (bif Nat.blt pc 6 then (bif Nat.beq pc 5 then some (.iload_n 1, 6, 0) else none) else (bif Nat.beq pc 6 then some (.bipush (-2), 8, 0) else none)))) else (bif Nat.blt pc 15 then (bif Nat.blt pc 11 then (bif Nat.beq pc 8 then some (.if_icmp .ne 10, 11, 18) else none) else (bif Nat.blt pc 12 then (bif Nat.beq pc 11 then some (.aload_n 0, 12, 0) else none) else (bif Nat.beq pc 12 then some (.getfield 165, 15, 0) else none))) else (bif Nat.blt pc 18 then (bif Nat.beq pc 15 then some (.goto 4, 18, 19) else none) else (bif Nat.blt pc 19 then (bif Nat.beq pc 18 then some (.iconst (-1), 19, 0) else none) else (bif Nat.beq pc 19 then some (.ireturn, 20, 0) else none)))))
/-- CodeRulesModel.mirror(IZ)I -/
noncomputable def am_cd_129 (pc : Nat) : Option (Instr × Nat × Nat) := (bif Nat.blt pc 31 then (bif Nat.blt pc 16 then (bif Nat.blt pc 7 then (bif Nat.blt pc 2 then (bif Nat.blt pc 1 then (bif Nat.beq pc 0 then some (.iconst 0, 1, 0) else none) else (bif Nat.beq pc 1 then some (.istore_n 3, 2, 0) else none)) else (bif Nat.blt pc 3 then (bif Nat.beq pc 2 then some (.iload_n 3, 3, 0) else none) else (bif Nat.blt pc 4 then (bif Nat.beq pc 3 then some (.aload_n 0, 4, 0) else none) else (bif Nat.beq pc 4 then some (.getfield 13, 7, 0) else none)))) else (bif Nat.blt pc 9 then (bif Nat.blt pc 8 then (bif Nat.beq pc 7 then some (.iconst 3, 8, 0) else none) else (bif Nat.beq pc 8 then some (.iaload, 9, 0) else none)) else (bif Nat.blt pc 12 then (bif Nat.beq pc 9 then some (.if_icmp .ge 54, 12, 63) else none) else (bif Nat.blt pc 13 then (bif Nat.beq pc 12 then some (.aload_n 0, 13, 0) else none) else (bif Nat.beq pc 13 then some (.getfield 31, 16, 0) else none))))) else (bif Nat.blt pc 21 then (bif Nat.blt pc 18 then (bif Nat.blt pc 17 then (bif Nat.beq pc 16 then some (.iconst 2, 17, 0) else none) else (bif Nat.beq pc 17 then some (.iload_n 3, 18, 0) else none)) else (bif Nat.blt pc 19 then (bif Nat.beq pc 18 then some (.imul, 19, 0) else none) else (bif Nat.blt pc 20 then (bif Nat.beq pc 19 then some (.iaload, 20, 0) else none) else (bif Nat.beq pc 20 then some (.iload_n 1, 21, 0) else none)))) else (bif Nat.blt pc 28 then (bif Nat.blt pc 24 then (bif Nat.beq pc 21 then some (.if_icmp .eq 17, 24, 38) else none) else (bif Nat.blt pc 25 then (bif Nat.beq pc 24 then some (.aload_n 0, 25, 0) else none) else (bif Nat.beq pc 25 then some (.getfield 31, 28, 0) else none))) else (bif Nat.blt pc 29 then (bif Nat.beq pc 28 then some (.iconst 2, 29, 0) else none) else (bif Nat.blt pc 30 then (bif Nat.beq pc 29 then some (.iload_n 3, 30, 0) else none) else (bif Nat.beq pc 30 then some (.imul, 31, 0) else none)))))) else (bif Nat.blt pc 46 then (bif Nat.blt pc 38 then (bif Nat.blt pc 33 then (bif Nat.blt pc 32 then (bif Nat.beq pc 31 then some (.iconst 1, 32, 0) else none) else (bif Nat.beq pc 32 then some (.iadd, 33, 0) else none)) else (bif Nat.blt pc 34 then (bif Nat.beq pc 33 then some (.iaload, 34, 0) else none) else (bif Nat.blt pc 35 then (bif Nat.beq pc 34 then some (.iload_n 1, 35, 0) else none) else (bif Nat.beq pc 35 then some (.if_icmp .ne 22, 38, 57) else none)))) else (bif Nat.blt pc 43 then (bif Nat.blt pc 39 then (bif Nat.beq pc 38 then some (.aload_n 0, 39, 0) else none) else (bif Nat.blt pc 42 then (bif Nat.beq pc 39 then some (.getfield 31, 42, 0) else none) else (bif Nat.beq pc 42 then some (.iconst 2, 43, 0) else none))) else (bif Nat.blt pc 44 then (bif Nat.beq pc 43 then some (.iload_n 3, 44, 0) else none) else (bif Nat.blt pc 45 then (bif Nat.beq pc 44 then some (.imul, 45, 0) else none) else (bif Nat.beq pc 45 then some (.iload_n 2, 46, 0) else none))))) else (bif Nat.blt pc 55 then (bif Nat.blt pc 50 then (bif Nat.blt pc 49 then (bif Nat.beq pc 46 then some (.ifCond .eq 7, 49, 53) else none) else (bif Nat.beq pc 49 then some (.iconst 1, 50, 0) else none)) else (bif Nat.blt pc 53 then (bif Nat.beq pc 50 then some (.goto 4, 53, 54) else none) else (bif Nat.blt pc 54 then (bif Nat.beq pc 53 then some (.iconst 0, 54, 0) else none) else (bif Nat.beq pc 54 then some (.iadd, 55, 0) else none)))) else (bif Nat.blt pc 60 then (bif Nat.blt pc 56 then (bif Nat.beq pc 55 then some (.iaload, 56, 0) else none) else (bif Nat.blt pc 57 then (bif Nat.beq pc 56 then some (.ireturn, 57, 0) else none) else (bif Nat.beq pc 57 then some (.iinc 3 1, 60, 0) else none))) else (bif Nat.blt pc 63 then (bif Nat.beq pc 60 then some (.goto (-58), 63, 2) else none) else (bif Nat.blt pc 64 then (bif Nat.beq pc 63 then some (.iconst (-1), 64, 0) else none) else (bif Nat.beq pc 64 then some (.ireturn, 65, 0) else none)))))))
/-- CodeRulesModel.map(III)I -/
noncomputable def am_cd_130 (pc : Nat) : Option (Instr × Nat × Nat) := (bif Nat.blt pc 90 then (bif Nat.blt pc 47 then (bif Nat.blt pc 25 then (bif Nat.blt pc 12 then (bif Nat.blt pc 3 then (bif Nat.blt pc 1 then (bif Nat.beq pc 0 then some (.iload_n 1, 1, 0) else none) else (bif Nat.blt pc 2 then (bif Nat.beq pc 1 then some (.i2l, 2, 0) else none) else (bif Nat.beq pc 2 then some (.lconst 0, 3, 0) else none))) else (bif Nat.blt pc 6 then (bif Nat.beq pc 3 then some (.ldc2_w 177, 6, 0) else none) else (bif Nat.blt pc 9 then (bif Nat.beq pc 6 then some (.invokestatic 77, 9, 0) else none) else (bif Nat.beq pc 9 then some (.ifCond .eq 27, 12, 36) else none)))) else (bif Nat.blt pc 15 then (bif Nat.blt pc 13 then (bif Nat.beq pc 12 then some (.iload_n 2, 13, 0) else none) else (bif Nat.blt pc 14 then (bif Nat.beq pc 13 then some (.i2l, 14, 0) else none) else (bif Nat.beq pc 14 then some (.lconst 0, 15, 0) else none))) else (bif Nat.blt pc 21 then (bif Nat.blt pc 18 then (bif Nat.beq pc 15 then some (.ldc2_w 119, 18, 0) else none) else (bif Nat.beq pc 18 then some (.invokestatic 77, 21, 0) else none)) else (bif Nat.blt pc 24 then (bif Nat.beq pc 21 then some (.ifCond .eq 15, 24, 36) else none) else (bif Nat.beq pc 24 then some (.iload_n 3, 25, 0) else none))))) else (bif Nat.blt pc 37 then (bif Nat.blt pc 30 then (bif Nat.blt pc 26 then (bif Nat.beq pc 25 then some (.i2l, 26, 0) else none) else (bif Nat.blt pc 27 then (bif Nat.beq pc 26 then some (.lconst 0, 27, 0) else none) else (bif Nat.beq pc 27 then some (.ldc2_w 177, 30, 0) else none))) else (bif Nat.blt pc 33 then (bif Nat.beq pc 30 then some (.invokestatic 77, 33, 0) else none) else (bif Nat.blt pc 36 then (bif Nat.beq pc 33 then some (.ifCond .ne 5, 36, 38) else none) else (bif Nat.beq pc 36 then some (.iconst (-1), 37, 0) else none)))) else (bif Nat.blt pc 41 then (bif Nat.blt pc 38 then (bif Nat.beq pc 37 then some (.ireturn, 38, 0) else none) else (bif Nat.blt pc 39 then (bif Nat.beq pc 38 then some (.iload_n 1, 39, 0) else none) else (bif Nat.beq pc 39 then some (.istore 4, 41, 0) else none))) else (bif Nat.blt pc 44 then (bif Nat.blt pc 42 then (bif Nat.beq pc 41 then some (.iconst (-1), 42, 0) else none) else (bif Nat.beq pc 42 then some (.istore 5, 44, 0) else none)) else (bif Nat.blt pc 45 then (bif Nat.beq pc 44 then some (.iconst 0, 45, 0) else none) else (bif Nat.beq pc 45 then some (.istore 6, 47, 0) else none)))))) else (bif Nat.blt pc 68 then (bif Nat.blt pc 58 then (bif Nat.blt pc 53 then (bif Nat.blt pc 49 then (bif Nat.beq pc 47 then some (.iload 6, 49, 0) else none) else (bif Nat.blt pc 50 then (bif Nat.beq pc 49 then some (.aload_n 0, 50, 0) else none) else (bif Nat.beq pc 50 then some (.getfield 13, 53, 0) else none))) else (bif Nat.blt pc 54 then (bif Nat.beq pc 53 then some (.iconst 4, 54, 0) else none) else (bif Nat.blt pc 55 then (bif Nat.beq pc 54 then some (.iaload, 55, 0) else none) else (bif Nat.beq pc 55 then some (.if_icmp .ge 121, 58, 176) else none)))) else (bif Nat.blt pc 63 then (bif Nat.blt pc 59 then (bif Nat.beq pc 58 then some (.aload_n 0, 59, 0) else none) else (bif Nat.blt pc 62 then (bif Nat.beq pc 59 then some (.getfield 34, 62, 0) else none) else (bif Nat.beq pc 62 then some (.iconst 4, 63, 0) else none))) else (bif Nat.blt pc 66 then (bif Nat.blt pc 65 then (bif Nat.beq pc 63 then some (.iload 6, 65, 0) else none) else (bif Nat.beq pc 65 then some (.imul, 66, 0) else none)) else (bif Nat.blt pc 67 then (bif Nat.beq pc 66 then some (.iaload, 67, 0) else none) else (bif Nat.beq pc 67 then some (.iload_n 1, 68, 0) else none))))) else (bif Nat.blt pc 79 then (bif Nat.blt pc 75 then (bif Nat.blt pc 71 then (bif Nat.beq pc 68 then some (.if_icmp .ne 53, 71, 121) else none) else (bif Nat.blt pc 72 then (bif Nat.beq pc 71 then some (.aload_n 0, 72, 0) else none) else (bif Nat.beq pc 72 then some (.getfield 34, 75, 0) else none))) else (bif Nat.blt pc 76 then (bif Nat.beq pc 75 then some (.iconst 4, 76, 0) else none) else (bif Nat.blt pc 78 then (bif Nat.beq pc 76 then some (.iload 6, 78, 0) else none) else (bif Nat.beq pc 78 then some (.imul, 79, 0) else none)))) else (bif Nat.blt pc 82 then (bif Nat.blt pc 80 then (bif Nat.beq pc 79 then some (.iconst 1, 80, 0) else none) else (bif Nat.blt pc 81 then (bif Nat.beq pc 80 then some (.iadd, 81, 0) else none) else (bif Nat.beq pc 81 then some (.iaload, 82, 0) else none))) else (bif Nat.blt pc 86 then (bif Nat.blt pc 83 then (bif Nat.beq pc 82 then some (.iload_n 2, 83, 0) else none) else (bif Nat.beq pc 83 then some (.if_icmp .ne 38, 86, 121) else none)) else (bif Nat.blt pc 87 then (bif Nat.beq pc 86 then some (.aload_n 0, 87, 0) else none) else (bif Nat.beq pc 87 then some (.getfield 34, 90, 0) else none))))))) else (bif Nat.blt pc 133 then (bif Nat.blt pc 109 then (bif Nat.blt pc 97 then (bif Nat.blt pc 94 then (bif Nat.blt pc 91 then (bif Nat.beq pc 90 then some (.iconst 4, 91, 0) else none) else (bif Nat.blt pc 93 then (bif Nat.beq pc 91 then some (.iload 6, 93, 0) else none) else (bif Nat.beq pc 93 then some (.imul, 94, 0) else none))) else (bif Nat.blt pc 95 then (bif Nat.beq pc 94 then some (.iconst 2, 95, 0) else none) else (bif Nat.blt pc 96 then (bif Nat.beq pc 95 then some (.iadd, 96, 0) else none) else (bif Nat.beq pc 96 then some (.iaload, 97, 0) else none)))) else (bif Nat.blt pc 102 then (bif Nat.blt pc 98 then (bif Nat.beq pc 97 then some (.iload_n 3, 98, 0) else none) else (bif Nat.blt pc 101 then (bif Nat.beq pc 98 then some (.if_icmp .gt 23, 101, 121) else none) else (bif Nat.beq pc 101 then some (.aload_n 0, 102, 0) else none))) else (bif Nat.blt pc 106 then (bif Nat.blt pc 105 then (bif Nat.beq pc 102 then some (.getfield 34, 105, 0) else none) else (bif Nat.beq pc 105 then some (.iconst 4, 106, 0) else none)) else (bif Nat.blt pc 108 then (bif Nat.beq pc 106 then some (.iload 6, 108, 0) else none) else (bif Nat.beq pc 108 then some (.imul, 109, 0) else none))))) else (bif Nat.blt pc 118 then (bif Nat.blt pc 112 then (bif Nat.blt pc 110 then (bif Nat.beq pc 109 then some (.iconst 2, 110, 0) else none) else (bif Nat.blt pc 111 then (bif Nat.beq pc 110 then some (.iadd, 111, 0) else none) else (bif Nat.beq pc 111 then some (.iaload, 112, 0) else none))) else (bif Nat.blt pc 114 then (bif Nat.beq pc 112 then some (.iload 5, 114, 0) else none) else (bif Nat.blt pc 117 then (bif Nat.beq pc 114 then some (.if_icmp .lt 7, 117, 121) else none) else (bif Nat.beq pc 117 then some (.iconst 1, 118, 0) else none)))) else (bif Nat.blt pc 124 then (bif Nat.blt pc 121 then (bif Nat.beq pc 118 then some (.goto 4, 121, 122) else none) else (bif Nat.blt pc 122 then (bif Nat.beq pc 121 then some (.iconst 0, 122, 0) else none) else (bif Nat.beq pc 122 then some (.istore 7, 124, 0) else none))) else (bif Nat.blt pc 129 then (bif Nat.blt pc 126 then (bif Nat.beq pc 124 then some (.iload 7, 126, 0) else none) else (bif Nat.beq pc 126 then some (.ifCond .eq 17, 129, 143) else none)) else (bif Nat.blt pc 130 then (bif Nat.beq pc 129 then some (.aload_n 0, 130, 0) else none) else (bif Nat.beq pc 130 then some (.getfield 34, 133, 0) else none)))))) else (bif Nat.blt pc 156 then (bif Nat.blt pc 140 then (bif Nat.blt pc 137 then (bif Nat.blt pc 134 then (bif Nat.beq pc 133 then some (.iconst 4, 134, 0) else none) else (bif Nat.blt pc 136 then (bif Nat.beq pc 134 then some (.iload 6, 136, 0) else none) else (bif Nat.beq pc 136 then some (.imul, 137, 0) else none))) else (bif Nat.blt pc 138 then (bif Nat.beq pc 137 then some (.iconst 3, 138, 0) else none) else (bif Nat.blt pc 139 then (bif Nat.beq pc 138 then some (.iadd, 139, 0) else none) else (bif Nat.beq pc 139 then some (.iaload, 140, 0) else none)))) else (bif Nat.blt pc 147 then (bif Nat.blt pc 143 then (bif Nat.beq pc 140 then some (.goto 5, 143, 145) else none) else (bif Nat.blt pc 145 then (bif Nat.beq pc 143 then some (.iload 4, 145, 0) else none) else (bif Nat.beq pc 145 then some (.istore 4, 147, 0) else none))) else (bif Nat.blt pc 152 then (bif Nat.blt pc 149 then (bif Nat.beq pc 147 then some (.iload 7, 149, 0) else none) else (bif Nat.beq pc 149 then some (.ifCond .eq 17, 152, 166) else none)) else (bif Nat.blt pc 153 then (bif Nat.beq pc 152 then some (.aload_n 0, 153, 0) else none) else (bif Nat.beq pc 153 then some (.getfield 34, 156, 0) else none))))) else (bif Nat.blt pc 163 then (bif Nat.blt pc 160 then (bif Nat.blt pc 157 then (bif Nat.beq pc 156 then some (.iconst 4, 157, 0) else none) else (bif Nat.blt pc 159 then (bif Nat.beq pc 157 then some (.iload 6, 159, 0) else none) else (bif Nat.beq pc 159 then some (.imul, 160, 0) else none))) else (bif Nat.blt pc 161 then (bif Nat.beq pc 160 then some (.iconst 2, 161, 0) else none) else (bif Nat.blt pc 162 then (bif Nat.beq pc 161 then some (.iadd, 162, 0) else none) else (bif Nat.beq pc 162 then some (.iaload, 163, 0) else none)))) else (bif Nat.blt pc 170 then (bif Nat.blt pc 166 then (bif Nat.beq pc 163 then some (.goto 5, 166, 168) else none) else (bif Nat.blt pc 168 then (bif Nat.beq pc 166 then some (.iload 5, 168, 0) else none) else (bif Nat.beq pc 168 then some (.istore 5, 170, 0) else none))) else (bif Nat.blt pc 176 then (bif Nat.blt pc 173 then (bif Nat.beq pc 170 then some (.iinc 6 1, 173, 0) else none) else (bif Nat.beq pc 173 then some (.goto (-126), 176, 47) else none)) else (bif Nat.blt pc 178 then (bif Nat.beq pc 176 then some (.iload 4, 178, 0) else none) else (bif Nat.beq pc 178 then some (.ireturn, 179, 0) else none))))))))
/-- CodeRulesModel.near(I)I -/
noncomputable def am_cd_131 (pc : Nat) : Option (Instr × Nat × Nat) := (bif Nat.blt pc 10 then (bif Nat.blt pc 5 then (bif Nat.blt pc 1 then (bif Nat.beq pc 0 then some (.aload_n 0, 1, 0) else none) else (bif Nat.blt pc 2 then (bif Nat.beq pc 1 then some (.iload_n 1, 2, 0) else none) else (bif Nat.beq pc 2 then some (.invokevirtual 195, 5, 0) else none))) else (bif Nat.blt pc 6 then (bif Nat.beq pc 5 then some (.istore_n 2, 6, 0) else none) else (bif Nat.blt pc 7 then (bif Nat.beq pc 6 then some (.iload_n 2, 7, 0) else none) else (bif Nat.beq pc 7 then some (.ifCond .ge 7, 10, 14) else none)))) else (bif Nat.blt pc 15 then (bif Nat.blt pc 11 then (bif Nat.beq pc 10 then some (.iconst (-1), 11, 0) else none) else (bif Nat.blt pc 14 then (bif Nat.beq pc 11 then some (.goto 9, 14, 20) else none) else (bif Nat.beq pc 14 then some (.aload_n 0, 15, 0) else none))) else (bif Nat.blt pc 19 then (bif Nat.blt pc 18 then (bif Nat.beq pc 15 then some (.getfield 37, 18, 0) else none) else (bif Nat.beq pc 18 then some (.iload_n 2, 19, 0) else none)) else (bif Nat.blt pc 20 then (bif Nat.beq pc 19 then some (.iaload, 20, 0) else none) else (bif Nat.beq pc 20 then some (.ireturn, 21, 0) else none)))))
/-- CodeRulesModel.nearest(I)I -/
noncomputable def am_cd_132 (pc : Nat) : Option (Instr × Nat × Nat) := (bif Nat.blt pc 90 then (bif Nat.blt pc 44 then (bif Nat.blt pc 23 then (bif Nat.blt pc 10 then (bif Nat.blt pc 5 then (bif Nat.blt pc 1 then (bif Nat.beq pc 0 then some (.aload_n 0, 1, 0) else none) else (bif Nat.blt pc 2 then (bif Nat.beq pc 1 then some (.iconst 0, 2, 0) else none) else (bif Nat.beq pc 2 then some (.putfield 85, 5, 0) else none))) else (bif Nat.blt pc 6 then (bif Nat.beq pc 5 then some (.aload_n 0, 6, 0) else none) else (bif Nat.blt pc 9 then (bif Nat.beq pc 6 then some (.invokevirtual 153, 9, 0) else none) else (bif Nat.beq pc 9 then some (.istore_n 2, 10, 0) else none)))) else (bif Nat.blt pc 15 then (bif Nat.blt pc 11 then (bif Nat.beq pc 10 then some (.iload_n 2, 11, 0) else none) else (bif Nat.blt pc 14 then (bif Nat.beq pc 11 then some (.ifCond .eq 10, 14, 21) else none) else (bif Nat.beq pc 14 then some (.aload_n 0, 15, 0) else none))) else (bif Nat.blt pc 21 then (bif Nat.blt pc 18 then (bif Nat.beq pc 15 then some (.invokevirtual 127, 18, 0) else none) else (bif Nat.beq pc 18 then some (.goto 4, 21, 22) else none)) else (bif Nat.blt pc 22 then (bif Nat.beq pc 21 then some (.lconst 0, 22, 0) else none) else (bif Nat.beq pc 22 then some (.lstore_n 3, 23, 0) else none))))) else (bif Nat.blt pc 33 then (bif Nat.blt pc 26 then (bif Nat.blt pc 24 then (bif Nat.beq pc 23 then some (.lload_n 3, 24, 0) else none) else (bif Nat.blt pc 25 then (bif Nat.beq pc 24 then some (.lconst 0, 25, 0) else none) else (bif Nat.beq pc 25 then some (.lcmp, 26, 0) else none))) else (bif Nat.blt pc 29 then (bif Nat.beq pc 26 then some (.ifCond .eq 17, 29, 43) else none) else (bif Nat.blt pc 30 then (bif Nat.beq pc 29 then some (.iload_n 1, 30, 0) else none) else (bif Nat.beq pc 30 then some (.ifCond .lt 13, 33, 43) else none)))) else (bif Nat.blt pc 38 then (bif Nat.blt pc 34 then (bif Nat.beq pc 33 then some (.iload_n 1, 34, 0) else none) else (bif Nat.blt pc 35 then (bif Nat.beq pc 34 then some (.aload_n 0, 35, 0) else none) else (bif Nat.beq pc 35 then some (.getfield 13, 38, 0) else none))) else (bif Nat.blt pc 40 then (bif Nat.blt pc 39 then (bif Nat.beq pc 38 then some (.iconst 5, 39, 0) else none) else (bif Nat.beq pc 39 then some (.iaload, 40, 0) else none)) else (bif Nat.blt pc 43 then (bif Nat.beq pc 40 then some (.if_icmp .lt 5, 43, 45) else none) else (bif Nat.beq pc 43 then some (.iconst (-1), 44, 0) else none)))))) else (bif Nat.blt pc 66 then (bif Nat.blt pc 54 then (bif Nat.blt pc 48 then (bif Nat.blt pc 45 then (bif Nat.beq pc 44 then some (.ireturn, 45, 0) else none) else (bif Nat.blt pc 46 then (bif Nat.beq pc 45 then some (.iconst 0, 46, 0) else none) else (bif Nat.beq pc 46 then some (.istore 5, 48, 0) else none))) else (bif Nat.blt pc 50 then (bif Nat.beq pc 48 then some (.iload 5, 50, 0) else none) else (bif Nat.blt pc 51 then (bif Nat.beq pc 50 then some (.aload_n 0, 51, 0) else none) else (bif Nat.beq pc 51 then some (.getfield 13, 54, 0) else none)))) else (bif Nat.blt pc 59 then (bif Nat.blt pc 55 then (bif Nat.beq pc 54 then some (.iconst 5, 55, 0) else none) else (bif Nat.blt pc 56 then (bif Nat.beq pc 55 then some (.iaload, 56, 0) else none) else (bif Nat.beq pc 56 then some (.if_icmp .ge 28, 59, 84) else none))) else (bif Nat.blt pc 63 then (bif Nat.blt pc 60 then (bif Nat.beq pc 59 then some (.aload_n 0, 60, 0) else none) else (bif Nat.beq pc 60 then some (.getfield 72, 63, 0) else none)) else (bif Nat.blt pc 65 then (bif Nat.beq pc 63 then some (.iload 5, 65, 0) else none) else (bif Nat.beq pc 65 then some (.aload_n 0, 66, 0) else none))))) else (bif Nat.blt pc 77 then (bif Nat.blt pc 71 then (bif Nat.blt pc 67 then (bif Nat.beq pc 66 then some (.lload_n 3, 67, 0) else none) else (bif Nat.blt pc 68 then (bif Nat.beq pc 67 then some (.aload_n 0, 68, 0) else none) else (bif Nat.beq pc 68 then some (.getfield 40, 71, 0) else none))) else (bif Nat.blt pc 73 then (bif Nat.beq pc 71 then some (.iload 5, 73, 0) else none) else (bif Nat.blt pc 74 then (bif Nat.beq pc 73 then some (.laload, 74, 0) else none) else (bif Nat.beq pc 74 then some (.invokevirtual 191, 77, 0) else none)))) else (bif Nat.blt pc 84 then (bif Nat.blt pc 78 then (bif Nat.beq pc 77 then some (.iastore, 78, 0) else none) else (bif Nat.blt pc 81 then (bif Nat.beq pc 78 then some (.iinc 5 1, 81, 0) else none) else (bif Nat.beq pc 81 then some (.goto (-33), 84, 48) else none))) else (bif Nat.blt pc 87 then (bif Nat.blt pc 85 then (bif Nat.beq pc 84 then some (.iconst 0, 85, 0) else none) else (bif Nat.beq pc 85 then some (.istore 5, 87, 0) else none)) else (bif Nat.blt pc 89 then (bif Nat.beq pc 87 then some (.iload 5, 89, 0) else none) else (bif Nat.beq pc 89 then some (.aload_n 0, 90, 0) else none))))))) else (bif Nat.blt pc 138 then (bif Nat.blt pc 112 then (bif Nat.blt pc 101 then (bif Nat.blt pc 95 then (bif Nat.blt pc 93 then (bif Nat.beq pc 90 then some (.getfield 13, 93, 0) else none) else (bif Nat.blt pc 94 then (bif Nat.beq pc 93 then some (.iconst 5, 94, 0) else none) else (bif Nat.beq pc 94 then some (.iaload, 95, 0) else none))) else (bif Nat.blt pc 98 then (bif Nat.beq pc 95 then some (.if_icmp .ge 92, 98, 187) else none) else (bif Nat.blt pc 99 then (bif Nat.beq pc 98 then some (.iconst 0, 99, 0) else none) else (bif Nat.beq pc 99 then some (.istore 6, 101, 0) else none)))) else (bif Nat.blt pc 106 then (bif Nat.blt pc 102 then (bif Nat.beq pc 101 then some (.iconst 0, 102, 0) else none) else (bif Nat.blt pc 104 then (bif Nat.beq pc 102 then some (.istore 7, 104, 0) else none) else (bif Nat.beq pc 104 then some (.iload 7, 106, 0) else none))) else (bif Nat.blt pc 110 then (bif Nat.blt pc 107 then (bif Nat.beq pc 106 then some (.aload_n 0, 107, 0) else none) else (bif Nat.beq pc 107 then some (.getfield 13, 110, 0) else none)) else (bif Nat.blt pc 111 then (bif Nat.beq pc 110 then some (.iconst 5, 111, 0) else none) else (bif Nat.beq pc 111 then some (.iaload, 112, 0) else none))))) else (bif Nat.blt pc 124 then (bif Nat.blt pc 118 then (bif Nat.blt pc 115 then (bif Nat.beq pc 112 then some (.if_icmp .ge 60, 115, 172) else none) else (bif Nat.blt pc 117 then (bif Nat.beq pc 115 then some (.iload 6, 117, 0) else none) else (bif Nat.beq pc 117 then some (.aload_n 0, 118, 0) else none))) else (bif Nat.blt pc 121 then (bif Nat.beq pc 118 then some (.getfield 72, 121, 0) else none) else (bif Nat.blt pc 123 then (bif Nat.beq pc 121 then some (.iload 7, 123, 0) else none) else (bif Nat.beq pc 123 then some (.iaload, 124, 0) else none)))) else (bif Nat.blt pc 130 then (bif Nat.blt pc 125 then (bif Nat.beq pc 124 then some (.aload_n 0, 125, 0) else none) else (bif Nat.blt pc 128 then (bif Nat.beq pc 125 then some (.getfield 72, 128, 0) else none) else (bif Nat.beq pc 128 then some (.iload 5, 130, 0) else none))) else (bif Nat.blt pc 134 then (bif Nat.blt pc 131 then (bif Nat.beq pc 130 then some (.iaload, 131, 0) else none) else (bif Nat.beq pc 131 then some (.if_icmp .lt 27, 134, 158) else none)) else (bif Nat.blt pc 135 then (bif Nat.beq pc 134 then some (.aload_n 0, 135, 0) else none) else (bif Nat.beq pc 135 then some (.getfield 72, 138, 0) else none)))))) else (bif Nat.blt pc 163 then (bif Nat.blt pc 148 then (bif Nat.blt pc 142 then (bif Nat.blt pc 140 then (bif Nat.beq pc 138 then some (.iload 7, 140, 0) else none) else (bif Nat.blt pc 141 then (bif Nat.beq pc 140 then some (.iaload, 141, 0) else none) else (bif Nat.beq pc 141 then some (.aload_n 0, 142, 0) else none))) else (bif Nat.blt pc 145 then (bif Nat.beq pc 142 then some (.getfield 72, 145, 0) else none) else (bif Nat.blt pc 147 then (bif Nat.beq pc 145 then some (.iload 5, 147, 0) else none) else (bif Nat.beq pc 147 then some (.iaload, 148, 0) else none)))) else (bif Nat.blt pc 155 then (bif Nat.blt pc 151 then (bif Nat.beq pc 148 then some (.if_icmp .ne 14, 151, 162) else none) else (bif Nat.blt pc 153 then (bif Nat.beq pc 151 then some (.iload 7, 153, 0) else none) else (bif Nat.beq pc 153 then some (.iload 5, 155, 0) else none))) else (bif Nat.blt pc 159 then (bif Nat.blt pc 158 then (bif Nat.beq pc 155 then some (.if_icmp .ge 7, 158, 162) else none) else (bif Nat.beq pc 158 then some (.iconst 1, 159, 0) else none)) else (bif Nat.blt pc 162 then (bif Nat.beq pc 159 then some (.goto 4, 162, 163) else none) else (bif Nat.beq pc 162 then some (.iconst 0, 163, 0) else none))))) else (bif Nat.blt pc 175 then (bif Nat.blt pc 169 then (bif Nat.blt pc 164 then (bif Nat.beq pc 163 then some (.iadd, 164, 0) else none) else (bif Nat.blt pc 166 then (bif Nat.beq pc 164 then some (.istore 6, 166, 0) else none) else (bif Nat.beq pc 166 then some (.iinc 7 1, 169, 0) else none))) else (bif Nat.blt pc 172 then (bif Nat.beq pc 169 then some (.goto (-65), 172, 104) else none) else (bif Nat.blt pc 174 then (bif Nat.beq pc 172 then some (.iload 6, 174, 0) else none) else (bif Nat.beq pc 174 then some (.iload_n 1, 175, 0) else none)))) else (bif Nat.blt pc 181 then (bif Nat.blt pc 178 then (bif Nat.beq pc 175 then some (.if_icmp .ne 6, 178, 181) else none) else (bif Nat.blt pc 180 then (bif Nat.beq pc 178 then some (.iload 5, 180, 0) else none) else (bif Nat.beq pc 180 then some (.ireturn, 181, 0) else none))) else (bif Nat.blt pc 187 then (bif Nat.blt pc 184 then (bif Nat.beq pc 181 then some (.iinc 5 1, 184, 0) else none) else (bif Nat.beq pc 184 then some (.goto (-97), 187, 87) else none)) else (bif Nat.blt pc 188 then (bif Nat.beq pc 187 then some (.iconst (-1), 188, 0) else none) else (bif Nat.beq pc 188 then some (.ireturn, 189, 0) else none))))))))
/-- CodeRulesModel.editsOf(JJ)I -/
noncomputable def am_cd_133 (pc : Nat) : Option (Instr × Nat × Nat) := (bif Nat.blt pc 85 then (bif Nat.blt pc 44 then (bif Nat.blt pc 22 then (bif Nat.blt pc 10 then (bif Nat.blt pc 4 then (bif Nat.blt pc 1 then (bif Nat.beq pc 0 then some (.lload_n 1, 1, 0) else none) else (bif Nat.beq pc 1 then some (.invokestatic 179, 4, 0) else none)) else (bif Nat.blt pc 6 then (bif Nat.beq pc 4 then some (.istore 5, 6, 0) else none) else (bif Nat.blt pc 7 then (bif Nat.beq pc 6 then some (.lload_n 3, 7, 0) else none) else (bif Nat.beq pc 7 then some (.invokestatic 179, 10, 0) else none)))) else (bif Nat.blt pc 15 then (bif Nat.blt pc 12 then (bif Nat.beq pc 10 then some (.istore 6, 12, 0) else none) else (bif Nat.blt pc 13 then (bif Nat.beq pc 12 then some (.iconst 0, 13, 0) else none) else (bif Nat.beq pc 13 then some (.istore 7, 15, 0) else none))) else (bif Nat.blt pc 17 then (bif Nat.beq pc 15 then some (.iload 7, 17, 0) else none) else (bif Nat.blt pc 19 then (bif Nat.beq pc 17 then some (.iload 6, 19, 0) else none) else (bif Nat.beq pc 19 then some (.if_icmp .gt 18, 22, 37) else none))))) else (bif Nat.blt pc 31 then (bif Nat.blt pc 26 then (bif Nat.blt pc 23 then (bif Nat.beq pc 22 then some (.aload_n 0, 23, 0) else none) else (bif Nat.beq pc 23 then some (.getfield 69, 26, 0) else none)) else (bif Nat.blt pc 28 then (bif Nat.beq pc 26 then some (.iload 7, 28, 0) else none) else (bif Nat.blt pc 30 then (bif Nat.beq pc 28 then some (.iload 7, 30, 0) else none) else (bif Nat.beq pc 30 then some (.iastore, 31, 0) else none)))) else (bif Nat.blt pc 38 then (bif Nat.blt pc 34 then (bif Nat.beq pc 31 then some (.iinc 7 1, 34, 0) else none) else (bif Nat.blt pc 37 then (bif Nat.beq pc 34 then some (.goto (-19), 37, 15) else none) else (bif Nat.beq pc 37 then some (.iconst 1, 38, 0) else none))) else (bif Nat.blt pc 40 then (bif Nat.beq pc 38 then some (.istore 7, 40, 0) else none) else (bif Nat.blt pc 42 then (bif Nat.beq pc 40 then some (.iload 7, 42, 0) else none) else (bif Nat.beq pc 42 then some (.iload 5, 44, 0) else none)))))) else (bif Nat.blt pc 63 then (bif Nat.blt pc 53 then (bif Nat.blt pc 48 then (bif Nat.blt pc 47 then (bif Nat.beq pc 44 then some (.if_icmp .gt 116, 47, 160) else none) else (bif Nat.beq pc 47 then some (.aload_n 0, 48, 0) else none)) else (bif Nat.blt pc 51 then (bif Nat.beq pc 48 then some (.getfield 69, 51, 0) else none) else (bif Nat.blt pc 52 then (bif Nat.beq pc 51 then some (.iconst 0, 52, 0) else none) else (bif Nat.beq pc 52 then some (.iaload, 53, 0) else none)))) else (bif Nat.blt pc 59 then (bif Nat.blt pc 55 then (bif Nat.beq pc 53 then some (.istore 8, 55, 0) else none) else (bif Nat.blt pc 56 then (bif Nat.beq pc 55 then some (.aload_n 0, 56, 0) else none) else (bif Nat.beq pc 56 then some (.getfield 69, 59, 0) else none))) else (bif Nat.blt pc 60 then (bif Nat.beq pc 59 then some (.iconst 0, 60, 0) else none) else (bif Nat.blt pc 62 then (bif Nat.beq pc 60 then some (.iload 7, 62, 0) else none) else (bif Nat.beq pc 62 then some (.iastore, 63, 0) else none))))) else (bif Nat.blt pc 75 then (bif Nat.blt pc 68 then (bif Nat.blt pc 64 then (bif Nat.beq pc 63 then some (.iconst 1, 64, 0) else none) else (bif Nat.blt pc 66 then (bif Nat.beq pc 64 then some (.istore 9, 66, 0) else none) else (bif Nat.beq pc 66 then some (.iload 9, 68, 0) else none))) else (bif Nat.blt pc 70 then (bif Nat.beq pc 68 then some (.iload 6, 70, 0) else none) else (bif Nat.blt pc 73 then (bif Nat.beq pc 70 then some (.if_icmp .gt 84, 73, 154) else none) else (bif Nat.beq pc 73 then some (.iload 8, 75, 0) else none)))) else (bif Nat.blt pc 80 then (bif Nat.blt pc 76 then (bif Nat.beq pc 75 then some (.lload_n 1, 76, 0) else none) else (bif Nat.blt pc 78 then (bif Nat.beq pc 76 then some (.iload 5, 78, 0) else none) else (bif Nat.beq pc 78 then some (.iload 7, 80, 0) else none))) else (bif Nat.blt pc 81 then (bif Nat.beq pc 80 then some (.iconst 1, 81, 0) else none) else (bif Nat.blt pc 82 then (bif Nat.beq pc 81 then some (.isub, 82, 0) else none) else (bif Nat.beq pc 82 then some (.invokestatic 183, 85, 0) else none))))))) else (bif Nat.blt pc 124 then (bif Nat.blt pc 104 then (bif Nat.blt pc 92 then (bif Nat.blt pc 88 then (bif Nat.blt pc 86 then (bif Nat.beq pc 85 then some (.lload_n 3, 86, 0) else none) else (bif Nat.beq pc 86 then some (.iload 6, 88, 0) else none)) else (bif Nat.blt pc 90 then (bif Nat.beq pc 88 then some (.iload 9, 90, 0) else none) else (bif Nat.blt pc 91 then (bif Nat.beq pc 90 then some (.iconst 1, 91, 0) else none) else (bif Nat.beq pc 91 then some (.isub, 92, 0) else none)))) else (bif Nat.blt pc 99 then (bif Nat.blt pc 95 then (bif Nat.beq pc 92 then some (.invokestatic 183, 95, 0) else none) else (bif Nat.blt pc 98 then (bif Nat.beq pc 95 then some (.if_icmp .ne 7, 98, 102) else none) else (bif Nat.beq pc 98 then some (.iconst 0, 99, 0) else none))) else (bif Nat.blt pc 102 then (bif Nat.beq pc 99 then some (.goto 4, 102, 103) else none) else (bif Nat.blt pc 103 then (bif Nat.beq pc 102 then some (.iconst 1, 103, 0) else none) else (bif Nat.beq pc 103 then some (.iadd, 104, 0) else none))))) else (bif Nat.blt pc 113 then (bif Nat.blt pc 107 then (bif Nat.blt pc 106 then (bif Nat.beq pc 104 then some (.istore 10, 106, 0) else none) else (bif Nat.beq pc 106 then some (.aload_n 0, 107, 0) else none)) else (bif Nat.blt pc 110 then (bif Nat.beq pc 107 then some (.getfield 69, 110, 0) else none) else (bif Nat.blt pc 112 then (bif Nat.beq pc 110 then some (.iload 9, 112, 0) else none) else (bif Nat.beq pc 112 then some (.iaload, 113, 0) else none)))) else (bif Nat.blt pc 119 then (bif Nat.blt pc 115 then (bif Nat.beq pc 113 then some (.istore 8, 115, 0) else none) else (bif Nat.blt pc 116 then (bif Nat.beq pc 115 then some (.aload_n 0, 116, 0) else none) else (bif Nat.beq pc 116 then some (.getfield 69, 119, 0) else none))) else (bif Nat.blt pc 121 then (bif Nat.beq pc 119 then some (.iload 9, 121, 0) else none) else (bif Nat.blt pc 123 then (bif Nat.beq pc 121 then some (.iload 10, 123, 0) else none) else (bif Nat.beq pc 123 then some (.aload_n 0, 124, 0) else none)))))) else (bif Nat.blt pc 143 then (bif Nat.blt pc 134 then (bif Nat.blt pc 129 then (bif Nat.blt pc 127 then (bif Nat.beq pc 124 then some (.getfield 69, 127, 0) else none) else (bif Nat.beq pc 127 then some (.iload 9, 129, 0) else none)) else (bif Nat.blt pc 130 then (bif Nat.beq pc 129 then some (.iaload, 130, 0) else none) else (bif Nat.blt pc 131 then (bif Nat.beq pc 130 then some (.aload_n 0, 131, 0) else none) else (bif Nat.beq pc 131 then some (.getfield 69, 134, 0) else none)))) else (bif Nat.blt pc 138 then (bif Nat.blt pc 136 then (bif Nat.beq pc 134 then some (.iload 9, 136, 0) else none) else (bif Nat.blt pc 137 then (bif Nat.beq pc 136 then some (.iconst 1, 137, 0) else none) else (bif Nat.beq pc 137 then some (.isub, 138, 0) else none))) else (bif Nat.blt pc 139 then (bif Nat.beq pc 138 then some (.iaload, 139, 0) else none) else (bif Nat.blt pc 142 then (bif Nat.beq pc 139 then some (.invokestatic 187, 142, 0) else none) else (bif Nat.beq pc 142 then some (.iconst 1, 143, 0) else none))))) else (bif Nat.blt pc 157 then (bif Nat.blt pc 148 then (bif Nat.blt pc 144 then (bif Nat.beq pc 143 then some (.iadd, 144, 0) else none) else (bif Nat.blt pc 147 then (bif Nat.beq pc 144 then some (.invokestatic 187, 147, 0) else none) else (bif Nat.beq pc 147 then some (.iastore, 148, 0) else none))) else (bif Nat.blt pc 151 then (bif Nat.beq pc 148 then some (.iinc 9 1, 151, 0) else none) else (bif Nat.blt pc 154 then (bif Nat.beq pc 151 then some (.goto (-85), 154, 66) else none) else (bif Nat.beq pc 154 then some (.iinc 7 1, 157, 0) else none)))) else (bif Nat.blt pc 164 then (bif Nat.blt pc 160 then (bif Nat.beq pc 157 then some (.goto (-117), 160, 40) else none) else (bif Nat.blt pc 161 then (bif Nat.beq pc 160 then some (.aload_n 0, 161, 0) else none) else (bif Nat.beq pc 161 then some (.getfield 69, 164, 0) else none))) else (bif Nat.blt pc 166 then (bif Nat.beq pc 164 then some (.iload 6, 166, 0) else none) else (bif Nat.blt pc 167 then (bif Nat.beq pc 166 then some (.iaload, 167, 0) else none) else (bif Nat.beq pc 167 then some (.ireturn, 168, 0) else none))))))))
/-- CodeRulesModel.lettersOf(J)I -/
noncomputable def am_cd_134 (pc : Nat) : Option (Instr × Nat × Nat) := (bif Nat.blt pc 10 then (bif Nat.blt pc 4 then (bif Nat.blt pc 2 then (bif Nat.blt pc 1 then (bif Nat.beq pc 0 then some (.iconst 0, 1, 0) else none) else (bif Nat.beq pc 1 then some (.istore_n 2, 2, 0) else none)) else (bif Nat.blt pc 3 then (bif Nat.beq pc 2 then some (.lload_n 0, 3, 0) else none) else (bif Nat.beq pc 3 then some (.lstore_n 3, 4, 0) else none))) else (bif Nat.blt pc 6 then (bif Nat.blt pc 5 then (bif Nat.beq pc 4 then some (.lload_n 3, 5, 0) else none) else (bif Nat.beq pc 5 then some (.lconst 0, 6, 0) else none)) else (bif Nat.blt pc 7 then (bif Nat.beq pc 6 then some (.lcmp, 7, 0) else none) else (bif Nat.beq pc 7 then some (.ifCond .le 15, 10, 22) else none)))) else (bif Nat.blt pc 18 then (bif Nat.blt pc 14 then (bif Nat.blt pc 13 then (bif Nat.beq pc 10 then some (.iinc 2 1, 13, 0) else none) else (bif Nat.beq pc 13 then some (.lload_n 3, 14, 0) else none)) else (bif Nat.blt pc 17 then (bif Nat.beq pc 14 then some (.ldc2_w 97, 17, 0) else none) else (bif Nat.beq pc 17 then some (.ldiv, 18, 0) else none))) else (bif Nat.blt pc 22 then (bif Nat.blt pc 19 then (bif Nat.beq pc 18 then some (.lstore_n 3, 19, 0) else none) else (bif Nat.beq pc 19 then some (.goto (-15), 22, 4) else none)) else (bif Nat.blt pc 23 then (bif Nat.beq pc 22 then some (.iload_n 2, 23, 0) else none) else (bif Nat.beq pc 23 then some (.ireturn, 24, 0) else none)))))
/-- CodeRulesModel.letter(JII)I -/
noncomputable def am_cd_135 (pc : Nat) : Option (Instr × Nat × Nat) := (bif Nat.blt pc 16 then (bif Nat.blt pc 6 then (bif Nat.blt pc 3 then (bif Nat.blt pc 1 then (bif Nat.beq pc 0 then some (.lload_n 0, 1, 0) else none) else (bif Nat.beq pc 1 then some (.lstore 4, 3, 0) else none)) else (bif Nat.blt pc 4 then (bif Nat.beq pc 3 then some (.iload_n 2, 4, 0) else none) else (bif Nat.blt pc 5 then (bif Nat.beq pc 4 then some (.iconst 1, 5, 0) else none) else (bif Nat.beq pc 5 then some (.isub, 6, 0) else none)))) else (bif Nat.blt pc 10 then (bif Nat.blt pc 8 then (bif Nat.beq pc 6 then some (.istore 6, 8, 0) else none) else (bif Nat.beq pc 8 then some (.iload 6, 10, 0) else none)) else (bif Nat.blt pc 11 then (bif Nat.beq pc 10 then some (.iload_n 3, 11, 0) else none) else (bif Nat.blt pc 14 then (bif Nat.beq pc 11 then some (.if_icmp .le 17, 14, 28) else none) else (bif Nat.beq pc 14 then some (.lload 4, 16, 0) else none))))) else (bif Nat.blt pc 28 then (bif Nat.blt pc 20 then (bif Nat.blt pc 19 then (bif Nat.beq pc 16 then some (.ldc2_w 97, 19, 0) else none) else (bif Nat.beq pc 19 then some (.ldiv, 20, 0) else none)) else (bif Nat.blt pc 22 then (bif Nat.beq pc 20 then some (.lstore 4, 22, 0) else none) else (bif Nat.blt pc 25 then (bif Nat.beq pc 22 then some (.iinc 6 (-1), 25, 0) else none) else (bif Nat.beq pc 25 then some (.goto (-17), 28, 8) else none)))) else (bif Nat.blt pc 33 then (bif Nat.blt pc 30 then (bif Nat.beq pc 28 then some (.lload 4, 30, 0) else none) else (bif Nat.beq pc 30 then some (.ldc2_w 97, 33, 0) else none)) else (bif Nat.blt pc 34 then (bif Nat.beq pc 33 then some (.lrem, 34, 0) else none) else (bif Nat.blt pc 35 then (bif Nat.beq pc 34 then some (.l2i, 35, 0) else none) else (bif Nat.beq pc 35 then some (.ireturn, 36, 0) else none))))))
/-- CodeRulesModel.least(II)I -/
noncomputable def am_cd_136 (pc : Nat) : Option (Instr × Nat × Nat) := (bif Nat.blt pc 5 then (bif Nat.blt pc 1 then (bif Nat.beq pc 0 then some (.iload_n 0, 1, 0) else none) else (bif Nat.blt pc 2 then (bif Nat.beq pc 1 then some (.iload_n 1, 2, 0) else none) else (bif Nat.beq pc 2 then some (.if_icmp .ge 7, 5, 9) else none))) else (bif Nat.blt pc 9 then (bif Nat.blt pc 6 then (bif Nat.beq pc 5 then some (.iload_n 0, 6, 0) else none) else (bif Nat.beq pc 6 then some (.goto 4, 9, 10) else none)) else (bif Nat.blt pc 10 then (bif Nat.beq pc 9 then some (.iload_n 1, 10, 0) else none) else (bif Nat.beq pc 10 then some (.ireturn, 11, 0) else none))))
/-- CodeRulesModel.edits(I)I -/
noncomputable def am_cd_137 (pc : Nat) : Option (Instr × Nat × Nat) := (bif Nat.blt pc 10 then (bif Nat.blt pc 5 then (bif Nat.blt pc 1 then (bif Nat.beq pc 0 then some (.aload_n 0, 1, 0) else none) else (bif Nat.blt pc 2 then (bif Nat.beq pc 1 then some (.iload_n 1, 2, 0) else none) else (bif Nat.beq pc 2 then some (.invokevirtual 195, 5, 0) else none))) else (bif Nat.blt pc 6 then (bif Nat.beq pc 5 then some (.istore_n 2, 6, 0) else none) else (bif Nat.blt pc 7 then (bif Nat.beq pc 6 then some (.iload_n 2, 7, 0) else none) else (bif Nat.beq pc 7 then some (.ifCond .ge 7, 10, 14) else none)))) else (bif Nat.blt pc 15 then (bif Nat.blt pc 11 then (bif Nat.beq pc 10 then some (.iconst (-1), 11, 0) else none) else (bif Nat.blt pc 14 then (bif Nat.beq pc 11 then some (.goto 9, 14, 20) else none) else (bif Nat.beq pc 14 then some (.aload_n 0, 15, 0) else none))) else (bif Nat.blt pc 19 then (bif Nat.blt pc 18 then (bif Nat.beq pc 15 then some (.getfield 72, 18, 0) else none) else (bif Nat.beq pc 18 then some (.iload_n 2, 19, 0) else none)) else (bif Nat.blt pc 20 then (bif Nat.beq pc 19 then some (.iaload, 20, 0) else none) else (bif Nat.beq pc 20 then some (.ireturn, 21, 0) else none)))))
/-- CodeRulesModel.needs(II)Z -/
noncomputable def am_cd_138 (pc : Nat) : Option (Instr × Nat × Nat) := (bif Nat.blt pc 22 then (bif Nat.blt pc 12 then (bif Nat.blt pc 5 then (bif Nat.blt pc 1 then (bif Nat.beq pc 0 then some (.iload_n 1, 1, 0) else none) else (bif Nat.blt pc 2 then (bif Nat.beq pc 1 then some (.iload_n 2, 2, 0) else none) else (bif Nat.beq pc 2 then some (.invokestatic 201, 5, 0) else none))) else (bif Nat.blt pc 8 then (bif Nat.beq pc 5 then some (.ifCond .eq 17, 8, 22) else none) else (bif Nat.blt pc 9 then (bif Nat.beq pc 8 then some (.aload_n 0, 9, 0) else none) else (bif Nat.beq pc 9 then some (.getfield 51, 12, 0) else none)))) else (bif Nat.blt pc 16 then (bif Nat.blt pc 14 then (bif Nat.beq pc 12 then some (.bipush 10, 14, 0) else none) else (bif Nat.blt pc 15 then (bif Nat.beq pc 14 then some (.iload_n 1, 15, 0) else none) else (bif Nat.beq pc 15 then some (.imul, 16, 0) else none))) else (bif Nat.blt pc 18 then (bif Nat.blt pc 17 then (bif Nat.beq pc 16 then some (.iload_n 2, 17, 0) else none) else (bif Nat.beq pc 17 then some (.iadd, 18, 0) else none)) else (bif Nat.blt pc 19 then (bif Nat.beq pc 18 then some (.baload, 19, 0) else none) else (bif Nat.beq pc 19 then some (.ifCond .eq 5, 22, 24) else none))))) else (bif Nat.blt pc 31 then (bif Nat.blt pc 25 then (bif Nat.blt pc 23 then (bif Nat.beq pc 22 then some (.iconst 0, 23, 0) else none) else (bif Nat.blt pc 24 then (bif Nat.beq pc 23 then some (.ireturn, 24, 0) else none) else (bif Nat.beq pc 24 then some (.aload_n 0, 25, 0) else none))) else (bif Nat.blt pc 28 then (bif Nat.beq pc 25 then some (.getfield 51, 28, 0) else none) else (bif Nat.blt pc 30 then (bif Nat.beq pc 28 then some (.bipush 10, 30, 0) else none) else (bif Nat.beq pc 30 then some (.iload_n 1, 31, 0) else none)))) else (bif Nat.blt pc 34 then (bif Nat.blt pc 32 then (bif Nat.beq pc 31 then some (.imul, 32, 0) else none) else (bif Nat.blt pc 33 then (bif Nat.beq pc 32 then some (.iload_n 2, 33, 0) else none) else (bif Nat.beq pc 33 then some (.iadd, 34, 0) else none))) else (bif Nat.blt pc 36 then (bif Nat.blt pc 35 then (bif Nat.beq pc 34 then some (.iconst 1, 35, 0) else none) else (bif Nat.beq pc 35 then some (.bastore, 36, 0) else none)) else (bif Nat.blt pc 37 then (bif Nat.beq pc 36 then some (.iconst 1, 37, 0) else none) else (bif Nat.beq pc 37 then some (.ireturn, 38, 0) else none))))))
/-- CodeRulesModel.isPaper(II)Z -/
noncomputable def am_cd_139 (pc : Nat) : Option (Instr × Nat × Nat) := (bif Nat.blt pc 14 then (bif Nat.blt pc 6 then (bif Nat.blt pc 2 then (bif Nat.blt pc 1 then (bif Nat.beq pc 0 then some (.iload_n 0, 1, 0) else none) else (bif Nat.beq pc 1 then some (.i2l, 2, 0) else none)) else (bif Nat.blt pc 3 then (bif Nat.beq pc 2 then some (.lconst 0, 3, 0) else none) else (bif Nat.beq pc 3 then some (.ldc2_w 199, 6, 0) else none))) else (bif Nat.blt pc 12 then (bif Nat.blt pc 9 then (bif Nat.beq pc 6 then some (.invokestatic 77, 9, 0) else none) else (bif Nat.beq pc 9 then some (.ifCond .eq 19, 12, 28) else none)) else (bif Nat.blt pc 13 then (bif Nat.beq pc 12 then some (.iload_n 1, 13, 0) else none) else (bif Nat.beq pc 13 then some (.i2l, 14, 0) else none)))) else (bif Nat.blt pc 24 then (bif Nat.blt pc 18 then (bif Nat.blt pc 15 then (bif Nat.beq pc 14 then some (.lconst 0, 15, 0) else none) else (bif Nat.beq pc 15 then some (.ldc2_w 119, 18, 0) else none)) else (bif Nat.blt pc 21 then (bif Nat.beq pc 18 then some (.invokestatic 77, 21, 0) else none) else (bif Nat.beq pc 21 then some (.ifCond .eq 7, 24, 28) else none))) else (bif Nat.blt pc 28 then (bif Nat.blt pc 25 then (bif Nat.beq pc 24 then some (.iconst 1, 25, 0) else none) else (bif Nat.beq pc 25 then some (.goto 4, 28, 29) else none)) else (bif Nat.blt pc 29 then (bif Nat.beq pc 28 then some (.iconst 0, 29, 0) else none) else (bif Nat.beq pc 29 then some (.ireturn, 30, 0) else none)))))
/-- CodeRulesModel.paper(II)Z -/
noncomputable def am_cd_140 (pc : Nat) : Option (Instr × Nat × Nat) := (bif Nat.blt pc 19 then (bif Nat.blt pc 10 then (bif Nat.blt pc 5 then (bif Nat.blt pc 1 then (bif Nat.beq pc 0 then some (.iload_n 1, 1, 0) else none) else (bif Nat.blt pc 2 then (bif Nat.beq pc 1 then some (.iload_n 2, 2, 0) else none) else (bif Nat.beq pc 2 then some (.invokestatic 201, 5, 0) else none))) else (bif Nat.blt pc 8 then (bif Nat.beq pc 5 then some (.ifCond .ne 5, 8, 10) else none) else (bif Nat.blt pc 9 then (bif Nat.beq pc 8 then some (.iconst 0, 9, 0) else none) else (bif Nat.beq pc 9 then some (.ireturn, 10, 0) else none)))) else (bif Nat.blt pc 16 then (bif Nat.blt pc 11 then (bif Nat.beq pc 10 then some (.aload_n 0, 11, 0) else none) else (bif Nat.blt pc 14 then (bif Nat.beq pc 11 then some (.getfield 54, 14, 0) else none) else (bif Nat.beq pc 14 then some (.bipush 10, 16, 0) else none))) else (bif Nat.blt pc 17 then (bif Nat.beq pc 16 then some (.iload_n 1, 17, 0) else none) else (bif Nat.blt pc 18 then (bif Nat.beq pc 17 then some (.imul, 18, 0) else none) else (bif Nat.beq pc 18 then some (.iload_n 2, 19, 0) else none))))) else (bif Nat.blt pc 25 then (bif Nat.blt pc 22 then (bif Nat.blt pc 20 then (bif Nat.beq pc 19 then some (.iadd, 20, 0) else none) else (bif Nat.blt pc 21 then (bif Nat.beq pc 20 then some (.iconst 1, 21, 0) else none) else (bif Nat.beq pc 21 then some (.bastore, 22, 0) else none))) else (bif Nat.blt pc 23 then (bif Nat.beq pc 22 then some (.aload_n 0, 23, 0) else none) else (bif Nat.blt pc 24 then (bif Nat.beq pc 23 then some (.iload_n 1, 24, 0) else none) else (bif Nat.beq pc 24 then some (.iconst 0, 25, 0) else none)))) else (bif Nat.blt pc 32 then (bif Nat.blt pc 28 then (bif Nat.beq pc 25 then some (.invokevirtual 205, 28, 0) else none) else (bif Nat.blt pc 31 then (bif Nat.beq pc 28 then some (.ifCond .ge 7, 31, 35) else none) else (bif Nat.beq pc 31 then some (.iconst 1, 32, 0) else none))) else (bif Nat.blt pc 35 then (bif Nat.beq pc 32 then some (.goto 4, 35, 36) else none) else (bif Nat.blt pc 36 then (bif Nat.beq pc 35 then some (.iconst 0, 36, 0) else none) else (bif Nat.beq pc 36 then some (.ireturn, 37, 0) else none))))))
/-- CodeRulesModel.lacks(II)I -/
noncomputable def am_cd_141 (pc : Nat) : Option (Instr × Nat × Nat) := (bif Nat.blt pc 36 then (bif Nat.blt pc 16 then (bif Nat.blt pc 9 then (bif Nat.blt pc 2 then (bif Nat.blt pc 1 then (bif Nat.beq pc 0 then some (.iload_n 1, 1, 0) else none) else (bif Nat.beq pc 1 then some (.i2l, 2, 0) else none)) else (bif Nat.blt pc 3 then (bif Nat.beq pc 2 then some (.lconst 0, 3, 0) else none) else (bif Nat.blt pc 6 then (bif Nat.beq pc 3 then some (.ldc2_w 199, 6, 0) else none) else (bif Nat.beq pc 6 then some (.invokestatic 77, 9, 0) else none)))) else (bif Nat.blt pc 13 then (bif Nat.blt pc 12 then (bif Nat.beq pc 9 then some (.ifCond .ne 5, 12, 14) else none) else (bif Nat.beq pc 12 then some (.iconst (-1), 13, 0) else none)) else (bif Nat.blt pc 14 then (bif Nat.beq pc 13 then some (.ireturn, 14, 0) else none) else (bif Nat.blt pc 15 then (bif Nat.beq pc 14 then some (.iconst 0, 15, 0) else none) else (bif Nat.beq pc 15 then some (.istore_n 3, 16, 0) else none))))) else (bif Nat.blt pc 26 then (bif Nat.blt pc 19 then (bif Nat.blt pc 17 then (bif Nat.beq pc 16 then some (.iconst 0, 17, 0) else none) else (bif Nat.beq pc 17 then some (.istore 4, 19, 0) else none)) else (bif Nat.blt pc 21 then (bif Nat.beq pc 19 then some (.iload 4, 21, 0) else none) else (bif Nat.blt pc 23 then (bif Nat.beq pc 21 then some (.bipush 10, 23, 0) else none) else (bif Nat.beq pc 23 then some (.if_icmp .ge 50, 26, 73) else none)))) else (bif Nat.blt pc 32 then (bif Nat.blt pc 27 then (bif Nat.beq pc 26 then some (.aload_n 0, 27, 0) else none) else (bif Nat.blt pc 30 then (bif Nat.beq pc 27 then some (.getfield 51, 30, 0) else none) else (bif Nat.beq pc 30 then some (.bipush 10, 32, 0) else none))) else (bif Nat.blt pc 33 then (bif Nat.beq pc 32 then some (.iload_n 1, 33, 0) else none) else (bif Nat.blt pc 34 then (bif Nat.beq pc 33 then some (.imul, 34, 0) else none) else (bif Nat.beq pc 34 then some (.iload 4, 36, 0) else none)))))) else (bif Nat.blt pc 53 then (bif Nat.blt pc 45 then (bif Nat.blt pc 38 then (bif Nat.blt pc 37 then (bif Nat.beq pc 36 then some (.iadd, 37, 0) else none) else (bif Nat.beq pc 37 then some (.baload, 38, 0) else none)) else (bif Nat.blt pc 41 then (bif Nat.beq pc 38 then some (.ifCond .eq 29, 41, 67) else none) else (bif Nat.blt pc 42 then (bif Nat.beq pc 41 then some (.aload_n 0, 42, 0) else none) else (bif Nat.beq pc 42 then some (.getfield 54, 45, 0) else none)))) else (bif Nat.blt pc 49 then (bif Nat.blt pc 47 then (bif Nat.beq pc 45 then some (.bipush 10, 47, 0) else none) else (bif Nat.blt pc 48 then (bif Nat.beq pc 47 then some (.iload_n 1, 48, 0) else none) else (bif Nat.beq pc 48 then some (.imul, 49, 0) else none))) else (bif Nat.blt pc 51 then (bif Nat.beq pc 49 then some (.iload 4, 51, 0) else none) else (bif Nat.blt pc 52 then (bif Nat.beq pc 51 then some (.iadd, 52, 0) else none) else (bif Nat.beq pc 52 then some (.baload, 53, 0) else none))))) else (bif Nat.blt pc 63 then (bif Nat.blt pc 57 then (bif Nat.blt pc 56 then (bif Nat.beq pc 53 then some (.ifCond .ne 14, 56, 67) else none) else (bif Nat.beq pc 56 then some (.iload_n 3, 57, 0) else none)) else (bif Nat.blt pc 58 then (bif Nat.beq pc 57 then some (.iload_n 2, 58, 0) else none) else (bif Nat.blt pc 61 then (bif Nat.beq pc 58 then some (.if_icmp .ne 6, 61, 64) else none) else (bif Nat.beq pc 61 then some (.iload 4, 63, 0) else none)))) else (bif Nat.blt pc 70 then (bif Nat.blt pc 64 then (bif Nat.beq pc 63 then some (.ireturn, 64, 0) else none) else (bif Nat.blt pc 67 then (bif Nat.beq pc 64 then some (.iinc 3 1, 67, 0) else none) else (bif Nat.beq pc 67 then some (.iinc 4 1, 70, 0) else none))) else (bif Nat.blt pc 73 then (bif Nat.beq pc 70 then some (.goto (-51), 73, 19) else none) else (bif Nat.blt pc 74 then (bif Nat.beq pc 73 then some (.iconst (-1), 74, 0) else none) else (bif Nat.beq pc 74 then some (.ireturn, 75, 0) else none)))))))
/-- CodeRulesModel.permit()I -/
noncomputable def am_cd_142 (pc : Nat) : Option (Instr × Nat × Nat) := (bif Nat.blt pc 13 then (bif Nat.blt pc 9 then (bif Nat.blt pc 4 then (bif Nat.blt pc 1 then (bif Nat.beq pc 0 then some (.aload_n 0, 1, 0) else none) else (bif Nat.beq pc 1 then some (.getfield 208, 4, 0) else none)) else (bif Nat.blt pc 6 then (bif Nat.beq pc 4 then some (.bipush 6, 6, 0) else none) else (bif Nat.beq pc 6 then some (.if_icmp .ne 5, 9, 11) else none))) else (bif Nat.blt pc 11 then (bif Nat.blt pc 10 then (bif Nat.beq pc 9 then some (.iconst (-1), 10, 0) else none) else (bif Nat.beq pc 10 then some (.ireturn, 11, 0) else none)) else (bif Nat.blt pc 12 then (bif Nat.beq pc 11 then some (.aload_n 0, 12, 0) else none) else (bif Nat.beq pc 12 then some (.dup, 13, 0) else none)))) else (bif Nat.blt pc 21 then (bif Nat.blt pc 17 then (bif Nat.blt pc 16 then (bif Nat.beq pc 13 then some (.getfield 208, 16, 0) else none) else (bif Nat.beq pc 16 then some (.iconst 1, 17, 0) else none)) else (bif Nat.blt pc 18 then (bif Nat.beq pc 17 then some (.iadd, 18, 0) else none) else (bif Nat.beq pc 18 then some (.putfield 208, 21, 0) else none))) else (bif Nat.blt pc 25 then (bif Nat.blt pc 22 then (bif Nat.beq pc 21 then some (.aload_n 0, 22, 0) else none) else (bif Nat.beq pc 22 then some (.getfield 208, 25, 0) else none)) else (bif Nat.blt pc 26 then (bif Nat.beq pc 25 then some (.iconst 1, 26, 0) else none) else (bif Nat.blt pc 27 then (bif Nat.beq pc 26 then some (.isub, 27, 0) else none) else (bif Nat.beq pc 27 then some (.ireturn, 28, 0) else none))))))
/-- CodeRulesModel.allows(III)Z -/
noncomputable def am_cd_143 (pc : Nat) : Option (Instr × Nat × Nat) := (bif Nat.blt pc 55 then (bif Nat.blt pc 25 then (bif Nat.blt pc 13 then (bif Nat.blt pc 5 then (bif Nat.blt pc 1 then (bif Nat.beq pc 0 then some (.iload_n 1, 1, 0) else none) else (bif Nat.blt pc 4 then (bif Nat.beq pc 1 then some (.ifCond .lt 50, 4, 51) else none) else (bif Nat.beq pc 4 then some (.iload_n 1, 5, 0) else none))) else (bif Nat.blt pc 9 then (bif Nat.blt pc 6 then (bif Nat.beq pc 5 then some (.aload_n 0, 6, 0) else none) else (bif Nat.beq pc 6 then some (.getfield 208, 9, 0) else none)) else (bif Nat.blt pc 12 then (bif Nat.beq pc 9 then some (.if_icmp .ge 42, 12, 51) else none) else (bif Nat.beq pc 12 then some (.aload_n 0, 13, 0) else none)))) else (bif Nat.blt pc 19 then (bif Nat.blt pc 17 then (bif Nat.blt pc 16 then (bif Nat.beq pc 13 then some (.getfield 57, 16, 0) else none) else (bif Nat.beq pc 16 then some (.iload_n 1, 17, 0) else none)) else (bif Nat.blt pc 18 then (bif Nat.beq pc 17 then some (.iaload, 18, 0) else none) else (bif Nat.beq pc 18 then some (.iconst 5, 19, 0) else none))) else (bif Nat.blt pc 23 then (bif Nat.blt pc 22 then (bif Nat.beq pc 19 then some (.if_icmp .eq 32, 22, 51) else none) else (bif Nat.beq pc 22 then some (.iload_n 2, 23, 0) else none)) else (bif Nat.blt pc 24 then (bif Nat.beq pc 23 then some (.i2l, 24, 0) else none) else (bif Nat.beq pc 24 then some (.lconst 0, 25, 0) else none))))) else (bif Nat.blt pc 43 then (bif Nat.blt pc 35 then (bif Nat.blt pc 31 then (bif Nat.blt pc 28 then (bif Nat.beq pc 25 then some (.ldc2_w 177, 28, 0) else none) else (bif Nat.beq pc 28 then some (.invokestatic 77, 31, 0) else none)) else (bif Nat.blt pc 34 then (bif Nat.beq pc 31 then some (.ifCond .eq 20, 34, 51) else none) else (bif Nat.beq pc 34 then some (.iload_n 3, 35, 0) else none))) else (bif Nat.blt pc 37 then (bif Nat.blt pc 36 then (bif Nat.beq pc 35 then some (.i2l, 36, 0) else none) else (bif Nat.beq pc 36 then some (.lconst 0, 37, 0) else none)) else (bif Nat.blt pc 40 then (bif Nat.beq pc 37 then some (.ldc2_w 177, 40, 0) else none) else (bif Nat.beq pc 40 then some (.invokestatic 77, 43, 0) else none)))) else (bif Nat.blt pc 51 then (bif Nat.blt pc 47 then (bif Nat.blt pc 46 then (bif Nat.beq pc 43 then some (.ifCond .eq 8, 46, 51) else none) else (bif Nat.beq pc 46 then some (.iload_n 2, 47, 0) else none)) else (bif Nat.blt pc 48 then (bif Nat.beq pc 47 then some (.iload_n 3, 48, 0) else none) else (bif Nat.beq pc 48 then some (.if_icmp .le 5, 51, 53) else none))) else (bif Nat.blt pc 53 then (bif Nat.blt pc 52 then (bif Nat.beq pc 51 then some (.iconst 0, 52, 0) else none) else (bif Nat.beq pc 52 then some (.ireturn, 53, 0) else none)) else (bif Nat.blt pc 54 then (bif Nat.beq pc 53 then some (.iconst 2, 54, 0) else none) else (bif Nat.beq pc 54 then some (.iconst 5, 55, 0) else none)))))) else (bif Nat.blt pc 76 then (bif Nat.blt pc 64 then (bif Nat.blt pc 58 then (bif Nat.blt pc 56 then (bif Nat.beq pc 55 then some (.iload_n 1, 56, 0) else none) else (bif Nat.blt pc 57 then (bif Nat.beq pc 56 then some (.imul, 57, 0) else none) else (bif Nat.beq pc 57 then some (.aload_n 0, 58, 0) else none))) else (bif Nat.blt pc 62 then (bif Nat.blt pc 61 then (bif Nat.beq pc 58 then some (.getfield 57, 61, 0) else none) else (bif Nat.beq pc 61 then some (.iload_n 1, 62, 0) else none)) else (bif Nat.blt pc 63 then (bif Nat.beq pc 62 then some (.iaload, 63, 0) else none) else (bif Nat.beq pc 63 then some (.iadd, 64, 0) else none)))) else (bif Nat.blt pc 71 then (bif Nat.blt pc 67 then (bif Nat.blt pc 65 then (bif Nat.beq pc 64 then some (.imul, 65, 0) else none) else (bif Nat.beq pc 65 then some (.istore 4, 67, 0) else none)) else (bif Nat.blt pc 68 then (bif Nat.beq pc 67 then some (.aload_n 0, 68, 0) else none) else (bif Nat.beq pc 68 then some (.getfield 60, 71, 0) else none))) else (bif Nat.blt pc 74 then (bif Nat.blt pc 73 then (bif Nat.beq pc 71 then some (.iload 4, 73, 0) else none) else (bif Nat.beq pc 73 then some (.iload_n 2, 74, 0) else none)) else (bif Nat.blt pc 75 then (bif Nat.beq pc 74 then some (.iastore, 75, 0) else none) else (bif Nat.beq pc 75 then some (.aload_n 0, 76, 0) else none))))) else (bif Nat.blt pc 89 then (bif Nat.blt pc 83 then (bif Nat.blt pc 81 then (bif Nat.blt pc 79 then (bif Nat.beq pc 76 then some (.getfield 60, 79, 0) else none) else (bif Nat.beq pc 79 then some (.iload 4, 81, 0) else none)) else (bif Nat.blt pc 82 then (bif Nat.beq pc 81 then some (.iconst 1, 82, 0) else none) else (bif Nat.beq pc 82 then some (.iadd, 83, 0) else none))) else (bif Nat.blt pc 85 then (bif Nat.blt pc 84 then (bif Nat.beq pc 83 then some (.iload_n 3, 84, 0) else none) else (bif Nat.beq pc 84 then some (.iastore, 85, 0) else none)) else (bif Nat.blt pc 86 then (bif Nat.beq pc 85 then some (.aload_n 0, 86, 0) else none) else (bif Nat.beq pc 86 then some (.getfield 57, 89, 0) else none)))) else (bif Nat.blt pc 93 then (bif Nat.blt pc 91 then (bif Nat.blt pc 90 then (bif Nat.beq pc 89 then some (.iload_n 1, 90, 0) else none) else (bif Nat.beq pc 90 then some (.dup2, 91, 0) else none)) else (bif Nat.blt pc 92 then (bif Nat.beq pc 91 then some (.iaload, 92, 0) else none) else (bif Nat.beq pc 92 then some (.iconst 1, 93, 0) else none))) else (bif Nat.blt pc 95 then (bif Nat.blt pc 94 then (bif Nat.beq pc 93 then some (.iadd, 94, 0) else none) else (bif Nat.beq pc 94 then some (.iastore, 95, 0) else none)) else (bif Nat.blt pc 96 then (bif Nat.beq pc 95 then some (.iconst 1, 96, 0) else none) else (bif Nat.beq pc 96 then some (.ireturn, 97, 0) else none)))))))
/-- CodeRulesModel.check(II)I -/
noncomputable def am_cd_144 (pc : Nat) : Option (Instr × Nat × Nat) := (bif Nat.blt pc 37 then (bif Nat.blt pc 19 then (bif Nat.blt pc 12 then (bif Nat.blt pc 5 then (bif Nat.blt pc 1 then (bif Nat.beq pc 0 then some (.iload_n 1, 1, 0) else none) else (bif Nat.blt pc 4 then (bif Nat.beq pc 1 then some (.ifCond .lt 11, 4, 12) else none) else (bif Nat.beq pc 4 then some (.iload_n 1, 5, 0) else none))) else (bif Nat.blt pc 6 then (bif Nat.beq pc 5 then some (.aload_n 0, 6, 0) else none) else (bif Nat.blt pc 9 then (bif Nat.beq pc 6 then some (.getfield 208, 9, 0) else none) else (bif Nat.beq pc 9 then some (.if_icmp .lt 5, 12, 14) else none)))) else (bif Nat.blt pc 15 then (bif Nat.blt pc 13 then (bif Nat.beq pc 12 then some (.iconst (-1), 13, 0) else none) else (bif Nat.blt pc 14 then (bif Nat.beq pc 13 then some (.ireturn, 14, 0) else none) else (bif Nat.beq pc 14 then some (.iconst 0, 15, 0) else none))) else (bif Nat.blt pc 16 then (bif Nat.beq pc 15 then some (.istore_n 3, 16, 0) else none) else (bif Nat.blt pc 17 then (bif Nat.beq pc 16 then some (.iconst 0, 17, 0) else none) else (bif Nat.beq pc 17 then some (.istore 4, 19, 0) else none))))) else (bif Nat.blt pc 30 then (bif Nat.blt pc 25 then (bif Nat.blt pc 21 then (bif Nat.beq pc 19 then some (.iload 4, 21, 0) else none) else (bif Nat.blt pc 22 then (bif Nat.beq pc 21 then some (.aload_n 0, 22, 0) else none) else (bif Nat.beq pc 22 then some (.getfield 57, 25, 0) else none))) else (bif Nat.blt pc 26 then (bif Nat.beq pc 25 then some (.iload_n 1, 26, 0) else none) else (bif Nat.blt pc 27 then (bif Nat.beq pc 26 then some (.iaload, 27, 0) else none) else (bif Nat.beq pc 27 then some (.if_icmp .ge 49, 30, 76) else none)))) else (bif Nat.blt pc 33 then (bif Nat.blt pc 31 then (bif Nat.beq pc 30 then some (.iconst 2, 31, 0) else none) else (bif Nat.blt pc 32 then (bif Nat.beq pc 31 then some (.iconst 5, 32, 0) else none) else (bif Nat.beq pc 32 then some (.iload_n 1, 33, 0) else none))) else (bif Nat.blt pc 34 then (bif Nat.beq pc 33 then some (.imul, 34, 0) else none) else (bif Nat.blt pc 36 then (bif Nat.beq pc 34 then some (.iload 4, 36, 0) else none) else (bif Nat.beq pc 36 then some (.iadd, 37, 0) else none)))))) else (bif Nat.blt pc 58 then (bif Nat.blt pc 47 then (bif Nat.blt pc 41 then (bif Nat.blt pc 38 then (bif Nat.beq pc 37 then some (.imul, 38, 0) else none) else (bif Nat.blt pc 40 then (bif Nat.beq pc 38 then some (.istore 5, 40, 0) else none) else (bif Nat.beq pc 40 then some (.iload_n 2, 41, 0) else none))) else (bif Nat.blt pc 42 then (bif Nat.beq pc 41 then some (.aload_n 0, 42, 0) else none) else (bif Nat.blt pc 45 then (bif Nat.beq pc 42 then some (.getfield 60, 45, 0) else none) else (bif Nat.beq pc 45 then some (.iload 5, 47, 0) else none)))) else (bif Nat.blt pc 52 then (bif Nat.blt pc 48 then (bif Nat.beq pc 47 then some (.iaload, 48, 0) else none) else (bif Nat.blt pc 51 then (bif Nat.beq pc 48 then some (.if_icmp .lt 20, 51, 68) else none) else (bif Nat.beq pc 51 then some (.iload_n 2, 52, 0) else none))) else (bif Nat.blt pc 53 then (bif Nat.beq pc 52 then some (.aload_n 0, 53, 0) else none) else (bif Nat.blt pc 56 then (bif Nat.beq pc 53 then some (.getfield 60, 56, 0) else none) else (bif Nat.beq pc 56 then some (.iload 5, 58, 0) else none))))) else (bif Nat.blt pc 68 then (bif Nat.blt pc 61 then (bif Nat.blt pc 59 then (bif Nat.beq pc 58 then some (.iconst 1, 59, 0) else none) else (bif Nat.blt pc 60 then (bif Nat.beq pc 59 then some (.iadd, 60, 0) else none) else (bif Nat.beq pc 60 then some (.iaload, 61, 0) else none))) else (bif Nat.blt pc 64 then (bif Nat.beq pc 61 then some (.if_icmp .gt 7, 64, 68) else none) else (bif Nat.blt pc 65 then (bif Nat.beq pc 64 then some (.iconst 1, 65, 0) else none) else (bif Nat.beq pc 65 then some (.goto 4, 68, 69) else none)))) else (bif Nat.blt pc 73 then (bif Nat.blt pc 69 then (bif Nat.beq pc 68 then some (.iload_n 3, 69, 0) else none) else (bif Nat.blt pc 70 then (bif Nat.beq pc 69 then some (.istore_n 3, 70, 0) else none) else (bif Nat.beq pc 70 then some (.iinc 4 1, 73, 0) else none))) else (bif Nat.blt pc 76 then (bif Nat.beq pc 73 then some (.goto (-54), 76, 19) else none) else (bif Nat.blt pc 77 then (bif Nat.beq pc 76 then some (.iload_n 3, 77, 0) else none) else (bif Nat.beq pc 77 then some (.ireturn, 78, 0) else none)))))))
/-- CodeRulesModel.put(I)I -/
noncomputable def am_cd_145 (pc : Nat) : Option (Instr × Nat × Nat) := (bif Nat.blt pc 35 then (bif Nat.blt pc 18 then (bif Nat.blt pc 9 then (bif Nat.blt pc 2 then (bif Nat.blt pc 1 then (bif Nat.beq pc 0 then some (.iload_n 1, 1, 0) else none) else (bif Nat.beq pc 1 then some (.i2l, 2, 0) else none)) else (bif Nat.blt pc 3 then (bif Nat.beq pc 2 then some (.lconst 0, 3, 0) else none) else (bif Nat.blt pc 6 then (bif Nat.beq pc 3 then some (.ldc2_w 211, 6, 0) else none) else (bif Nat.beq pc 6 then some (.invokestatic 77, 9, 0) else none)))) else (bif Nat.blt pc 13 then (bif Nat.blt pc 12 then (bif Nat.beq pc 9 then some (.ifCond .eq 14, 12, 23) else none) else (bif Nat.beq pc 12 then some (.aload_n 0, 13, 0) else none)) else (bif Nat.blt pc 16 then (bif Nat.beq pc 13 then some (.getfield 63, 16, 0) else none) else (bif Nat.blt pc 17 then (bif Nat.beq pc 16 then some (.iload_n 1, 17, 0) else none) else (bif Nat.beq pc 17 then some (.iaload, 18, 0) else none))))) else (bif Nat.blt pc 26 then (bif Nat.blt pc 23 then (bif Nat.blt pc 20 then (bif Nat.beq pc 18 then some (.bipush 12, 20, 0) else none) else (bif Nat.beq pc 20 then some (.if_icmp .ne 5, 23, 25) else none)) else (bif Nat.blt pc 24 then (bif Nat.beq pc 23 then some (.iconst (-1), 24, 0) else none) else (bif Nat.blt pc 25 then (bif Nat.beq pc 24 then some (.ireturn, 25, 0) else none) else (bif Nat.beq pc 25 then some (.aload_n 0, 26, 0) else none)))) else (bif Nat.blt pc 30 then (bif Nat.blt pc 29 then (bif Nat.beq pc 26 then some (.invokevirtual 213, 29, 0) else none) else (bif Nat.beq pc 29 then some (.istore_n 2, 30, 0) else none)) else (bif Nat.blt pc 31 then (bif Nat.beq pc 30 then some (.iload_n 2, 31, 0) else none) else (bif Nat.blt pc 34 then (bif Nat.beq pc 31 then some (.ifCond .lt 30, 34, 61) else none) else (bif Nat.beq pc 34 then some (.aload_n 0, 35, 0) else none)))))) else (bif Nat.blt pc 50 then (bif Nat.blt pc 43 then (bif Nat.blt pc 40 then (bif Nat.blt pc 38 then (bif Nat.beq pc 35 then some (.getfield 66, 38, 0) else none) else (bif Nat.beq pc 38 then some (.bipush 12, 40, 0) else none)) else (bif Nat.blt pc 41 then (bif Nat.beq pc 40 then some (.iload_n 1, 41, 0) else none) else (bif Nat.blt pc 42 then (bif Nat.beq pc 41 then some (.imul, 42, 0) else none) else (bif Nat.beq pc 42 then some (.aload_n 0, 43, 0) else none)))) else (bif Nat.blt pc 47 then (bif Nat.blt pc 46 then (bif Nat.beq pc 43 then some (.getfield 63, 46, 0) else none) else (bif Nat.beq pc 46 then some (.iload_n 1, 47, 0) else none)) else (bif Nat.blt pc 48 then (bif Nat.beq pc 47 then some (.iaload, 48, 0) else none) else (bif Nat.blt pc 49 then (bif Nat.beq pc 48 then some (.iadd, 49, 0) else none) else (bif Nat.beq pc 49 then some (.iload_n 2, 50, 0) else none))))) else (bif Nat.blt pc 57 then (bif Nat.blt pc 52 then (bif Nat.blt pc 51 then (bif Nat.beq pc 50 then some (.iastore, 51, 0) else none) else (bif Nat.beq pc 51 then some (.aload_n 0, 52, 0) else none)) else (bif Nat.blt pc 55 then (bif Nat.beq pc 52 then some (.getfield 63, 55, 0) else none) else (bif Nat.blt pc 56 then (bif Nat.beq pc 55 then some (.iload_n 1, 56, 0) else none) else (bif Nat.beq pc 56 then some (.dup2, 57, 0) else none)))) else (bif Nat.blt pc 60 then (bif Nat.blt pc 58 then (bif Nat.beq pc 57 then some (.iaload, 58, 0) else none) else (bif Nat.blt pc 59 then (bif Nat.beq pc 58 then some (.iconst 1, 59, 0) else none) else (bif Nat.beq pc 59 then some (.iadd, 60, 0) else none))) else (bif Nat.blt pc 61 then (bif Nat.beq pc 60 then some (.iastore, 61, 0) else none) else (bif Nat.blt pc 62 then (bif Nat.beq pc 61 then some (.iload_n 2, 62, 0) else none) else (bif Nat.beq pc 62 then some (.ireturn, 63, 0) else none)))))))
/-- CodeRulesModel.history(II)I -/
noncomputable def am_cd_146 (pc : Nat) : Option (Instr × Nat × Nat) := (bif Nat.blt pc 28 then (bif Nat.blt pc 16 then (bif Nat.blt pc 6 then (bif Nat.blt pc 2 then (bif Nat.blt pc 1 then (bif Nat.beq pc 0 then some (.iload_n 1, 1, 0) else none) else (bif Nat.beq pc 1 then some (.i2l, 2, 0) else none)) else (bif Nat.blt pc 3 then (bif Nat.beq pc 2 then some (.lconst 0, 3, 0) else none) else (bif Nat.beq pc 3 then some (.ldc2_w 211, 6, 0) else none))) else (bif Nat.blt pc 12 then (bif Nat.blt pc 9 then (bif Nat.beq pc 6 then some (.invokestatic 77, 9, 0) else none) else (bif Nat.beq pc 9 then some (.ifCond .eq 17, 12, 26) else none)) else (bif Nat.blt pc 13 then (bif Nat.beq pc 12 then some (.iload_n 2, 13, 0) else none) else (bif Nat.beq pc 13 then some (.ifCond .lt 13, 16, 26) else none)))) else (bif Nat.blt pc 22 then (bif Nat.blt pc 18 then (bif Nat.blt pc 17 then (bif Nat.beq pc 16 then some (.iload_n 2, 17, 0) else none) else (bif Nat.beq pc 17 then some (.aload_n 0, 18, 0) else none)) else (bif Nat.blt pc 21 then (bif Nat.beq pc 18 then some (.getfield 63, 21, 0) else none) else (bif Nat.beq pc 21 then some (.iload_n 1, 22, 0) else none))) else (bif Nat.blt pc 26 then (bif Nat.blt pc 23 then (bif Nat.beq pc 22 then some (.iaload, 23, 0) else none) else (bif Nat.beq pc 23 then some (.if_icmp .lt 5, 26, 28) else none)) else (bif Nat.blt pc 27 then (bif Nat.beq pc 26 then some (.iconst (-1), 27, 0) else none) else (bif Nat.beq pc 27 then some (.ireturn, 28, 0) else none))))) else (bif Nat.blt pc 41 then (bif Nat.blt pc 35 then (bif Nat.blt pc 32 then (bif Nat.blt pc 29 then (bif Nat.beq pc 28 then some (.aload_n 0, 29, 0) else none) else (bif Nat.beq pc 29 then some (.getfield 66, 32, 0) else none)) else (bif Nat.blt pc 34 then (bif Nat.beq pc 32 then some (.bipush 12, 34, 0) else none) else (bif Nat.beq pc 34 then some (.iload_n 1, 35, 0) else none))) else (bif Nat.blt pc 37 then (bif Nat.blt pc 36 then (bif Nat.beq pc 35 then some (.imul, 36, 0) else none) else (bif Nat.beq pc 36 then some (.aload_n 0, 37, 0) else none)) else (bif Nat.blt pc 40 then (bif Nat.beq pc 37 then some (.getfield 63, 40, 0) else none) else (bif Nat.beq pc 40 then some (.iload_n 1, 41, 0) else none)))) else (bif Nat.blt pc 45 then (bif Nat.blt pc 43 then (bif Nat.blt pc 42 then (bif Nat.beq pc 41 then some (.iaload, 42, 0) else none) else (bif Nat.beq pc 42 then some (.iadd, 43, 0) else none)) else (bif Nat.blt pc 44 then (bif Nat.beq pc 43 then some (.iconst 1, 44, 0) else none) else (bif Nat.beq pc 44 then some (.isub, 45, 0) else none))) else (bif Nat.blt pc 47 then (bif Nat.blt pc 46 then (bif Nat.beq pc 45 then some (.iload_n 2, 46, 0) else none) else (bif Nat.beq pc 46 then some (.isub, 47, 0) else none)) else (bif Nat.blt pc 48 then (bif Nat.beq pc 47 then some (.iaload, 48, 0) else none) else (bif Nat.beq pc 48 then some (.ireturn, 49, 0) else none))))))
/-- java/lang/String.length()I -/
noncomputable def am_cd_147 (pc : Nat) : Option (Instr × Nat × Nat) := (bif Nat.blt pc 5 then (bif Nat.blt pc 1 then (bif Nat.beq pc 0 then some (.aload_n 0, 1, 0) else none) else (bif Nat.blt pc 4 then (bif Nat.beq pc 1 then some (.getfield 9, 4, 0) else none) else (bif Nat.beq pc 4 then some (.arraylength, 5, 0) else none))) else (bif Nat.blt pc 9 then (bif Nat.blt pc 6 then (bif Nat.beq pc 5 then some (.aload_n 0, 6, 0) else none) else (bif Nat.beq pc 6 then some (.invokevirtual 335, 9, 0) else none)) else (bif Nat.blt pc 10 then (bif Nat.beq pc 9 then some (.ishr, 10, 0) else none) else (bif Nat.beq pc 10 then some (.ireturn, 11, 0) else none))))
/-- java/lang/String.coder()B -/
noncomputable def am_cd_148 (pc : Nat) : Option (Instr × Nat × Nat) := (bif Nat.blt pc 7 then (bif Nat.blt pc 3 then (bif Nat.beq pc 0 then some (.getstatic 38, 3, 0) else none) else (bif Nat.blt pc 6 then (bif Nat.beq pc 3 then some (.ifCond .eq 10, 6, 13) else none) else (bif Nat.beq pc 6 then some (.aload_n 0, 7, 0) else none))) else (bif Nat.blt pc 13 then (bif Nat.blt pc 10 then (bif Nat.beq pc 7 then some (.getfield 15, 10, 0) else none) else (bif Nat.beq pc 10 then some (.goto 4, 13, 14) else none)) else (bif Nat.blt pc 14 then (bif Nat.beq pc 13 then some (.iconst 1, 14, 0) else none) else (bif Nat.beq pc 14 then some (.ireturn, 15, 0) else none))))
/-- java/lang/String.charAt(I)C -/
noncomputable def am_cd_149 (pc : Nat) : Option (Instr × Nat × Nat) := (bif Nat.blt pc 12 then (bif Nat.blt pc 7 then (bif Nat.blt pc 1 then (bif Nat.beq pc 0 then some (.aload_n 0, 1, 0) else none) else (bif Nat.blt pc 4 then (bif Nat.beq pc 1 then some (.invokevirtual 492, 4, 0) else none) else (bif Nat.beq pc 4 then some (.ifCond .eq 12, 7, 16) else none))) else (bif Nat.blt pc 8 then (bif Nat.beq pc 7 then some (.aload_n 0, 8, 0) else none) else (bif Nat.blt pc 11 then (bif Nat.beq pc 8 then some (.getfield 9, 11, 0) else none) else (bif Nat.beq pc 11 then some (.iload_n 1, 12, 0) else none)))) else (bif Nat.blt pc 17 then (bif Nat.blt pc 15 then (bif Nat.beq pc 12 then some (.invokestatic 495, 15, 0) else none) else (bif Nat.blt pc 16 then (bif Nat.beq pc 15 then some (.ireturn, 16, 0) else none) else (bif Nat.beq pc 16 then some (.aload_n 0, 17, 0) else none))) else (bif Nat.blt pc 21 then (bif Nat.blt pc 20 then (bif Nat.beq pc 17 then some (.getfield 9, 20, 0) else none) else (bif Nat.beq pc 20 then some (.iload_n 1, 21, 0) else none)) else (bif Nat.blt pc 24 then (bif Nat.beq pc 21 then some (.invokestatic 498, 24, 0) else none) else (bif Nat.beq pc 24 then some (.ireturn, 25, 0) else none)))))
/-- java/lang/String.isLatin1()Z -/
noncomputable def am_cd_150 (pc : Nat) : Option (Instr × Nat × Nat) := (bif Nat.blt pc 10 then (bif Nat.blt pc 6 then (bif Nat.blt pc 3 then (bif Nat.beq pc 0 then some (.getstatic 38, 3, 0) else none) else (bif Nat.beq pc 3 then some (.ifCond .eq 14, 6, 17) else none)) else (bif Nat.blt pc 7 then (bif Nat.beq pc 6 then some (.aload_n 0, 7, 0) else none) else (bif Nat.beq pc 7 then some (.getfield 15, 10, 0) else none))) else (bif Nat.blt pc 14 then (bif Nat.blt pc 13 then (bif Nat.beq pc 10 then some (.ifCond .ne 7, 13, 17) else none) else (bif Nat.beq pc 13 then some (.iconst 1, 14, 0) else none)) else (bif Nat.blt pc 17 then (bif Nat.beq pc 14 then some (.goto 4, 17, 18) else none) else (bif Nat.blt pc 18 then (bif Nat.beq pc 17 then some (.iconst 0, 18, 0) else none) else (bif Nat.beq pc 18 then some (.ireturn, 19, 0) else none)))))
/-- java/lang/StringLatin1.charAt([BI)C -/
noncomputable def am_cd_151 (pc : Nat) : Option (Instr × Nat × Nat) := (bif Nat.blt pc 7 then (bif Nat.blt pc 2 then (bif Nat.blt pc 1 then (bif Nat.beq pc 0 then some (.iload_n 1, 1, 0) else none) else (bif Nat.beq pc 1 then some (.aload_n 0, 2, 0) else none)) else (bif Nat.blt pc 3 then (bif Nat.beq pc 2 then some (.arraylength, 3, 0) else none) else (bif Nat.blt pc 6 then (bif Nat.beq pc 3 then some (.invokestatic 9, 6, 0) else none) else (bif Nat.beq pc 6 then some (.aload_n 0, 7, 0) else none)))) else (bif Nat.blt pc 12 then (bif Nat.blt pc 8 then (bif Nat.beq pc 7 then some (.iload_n 1, 8, 0) else none) else (bif Nat.blt pc 9 then (bif Nat.beq pc 8 then some (.baload, 9, 0) else none) else (bif Nat.beq pc 9 then some (.sipush 255, 12, 0) else none))) else (bif Nat.blt pc 13 then (bif Nat.beq pc 12 then some (.iand, 13, 0) else none) else (bif Nat.blt pc 14 then (bif Nat.beq pc 13 then some (.i2c, 14, 0) else none) else (bif Nat.beq pc 14 then some (.ireturn, 15, 0) else none)))))
/-- java/lang/String.checkIndex(II)V -/
noncomputable def am_cd_152 (pc : Nat) : Option (Instr × Nat × Nat) := (bif Nat.blt pc 5 then (bif Nat.blt pc 1 then (bif Nat.beq pc 0 then some (.iload_n 0, 1, 0) else none) else (bif Nat.blt pc 2 then (bif Nat.beq pc 1 then some (.iload_n 1, 2, 0) else none) else (bif Nat.beq pc 2 then some (.getstatic 1053, 5, 0) else none))) else (bif Nat.blt pc 8 then (bif Nat.beq pc 5 then some (.invokestatic 1059, 8, 0) else none) else (bif Nat.blt pc 9 then (bif Nat.beq pc 8 then some (.pop, 9, 0) else none) else (bif Nat.beq pc 9 then some (.return_, 10, 0) else none))))
/-- jdk/internal/util/Preconditions.checkIndex(IILjava/util/function/BiFunction;)I -/
noncomputable def am_cd_153 (pc : Nat) : Option (Instr × Nat × Nat) := (bif Nat.blt pc 9 then (bif Nat.blt pc 4 then (bif Nat.blt pc 1 then (bif Nat.beq pc 0 then some (.iload_n 0, 1, 0) else none) else (bif Nat.beq pc 1 then some (.ifCond .lt 8, 4, 9) else none)) else (bif Nat.blt pc 5 then (bif Nat.beq pc 4 then some (.iload_n 0, 5, 0) else none) else (bif Nat.blt pc 6 then (bif Nat.beq pc 5 then some (.iload_n 1, 6, 0) else none) else (bif Nat.beq pc 6 then some (.if_icmp .lt 10, 9, 16) else none)))) else (bif Nat.blt pc 12 then (bif Nat.blt pc 10 then (bif Nat.beq pc 9 then some (.aload_n 2, 10, 0) else none) else (bif Nat.blt pc 11 then (bif Nat.beq pc 10 then some (.iload_n 0, 11, 0) else none) else (bif Nat.beq pc 11 then some (.iload_n 1, 12, 0) else none))) else (bif Nat.blt pc 16 then (bif Nat.beq pc 12 then some (.invokestatic 95, 15, 0) else none) else (bif Nat.blt pc 17 then (bif Nat.beq pc 16 then some (.iload_n 0, 17, 0) else none) else (bif Nat.beq pc 17 then some (.ireturn, 18, 0) else none)))))
/-- CodeRulesLaw.law([I)Z -/
noncomputable def am_cd_154 (pc : Nat) : Option (Instr × Nat × Nat) := (bif Nat.blt pc 392 then (bif Nat.blt pc 254 then (bif Nat.blt pc 171 then (bif Nat.blt pc 132 then (bif Nat.blt pc 21 then (bif Nat.blt pc 12 then (bif Nat.blt pc 7 then (bif Nat.blt pc 3 then (bif Nat.beq pc 0 then some (.new 7, 3, 0) else none) else (bif Nat.blt pc 4 then (bif Nat.beq pc 3 then some (.dup, 4, 0) else none) else (bif Nat.beq pc 4 then some (.invokespecial 9, 7, 0) else none))) else (bif Nat.blt pc 8 then (bif Nat.beq pc 7 then some (.astore_n 1, 8, 0) else none) else (bif Nat.blt pc 11 then (bif Nat.beq pc 8 then some (.new 10, 11, 0) else none) else (bif Nat.beq pc 11 then some (.dup, 12, 0) else none)))) else (bif Nat.blt pc 17 then (bif Nat.blt pc 15 then (bif Nat.beq pc 12 then some (.invokespecial 12, 15, 0) else none) else (bif Nat.blt pc 16 then (bif Nat.beq pc 15 then some (.astore_n 2, 16, 0) else none) else (bif Nat.beq pc 16 then some (.iconst 0, 17, 0) else none))) else (bif Nat.blt pc 19 then (bif Nat.blt pc 18 then (bif Nat.beq pc 17 then some (.istore_n 3, 18, 0) else none) else (bif Nat.beq pc 18 then some (.iload_n 3, 19, 0) else none)) else (bif Nat.blt pc 20 then (bif Nat.beq pc 19 then some (.aload_n 0, 20, 0) else none) else (bif Nat.beq pc 20 then some (.arraylength, 21, 0) else none))))) else (bif Nat.blt pc 29 then (bif Nat.blt pc 26 then (bif Nat.blt pc 22 then (bif Nat.beq pc 21 then some (.iconst 4, 22, 0) else none) else (bif Nat.blt pc 23 then (bif Nat.beq pc 22 then some (.isub, 23, 0) else none) else (bif Nat.beq pc 23 then some (.if_icmp .gt 637, 26, 660) else none))) else (bif Nat.blt pc 27 then (bif Nat.beq pc 26 then some (.aload_n 0, 27, 0) else none) else (bif Nat.blt pc 28 then (bif Nat.beq pc 27 then some (.iload_n 3, 28, 0) else none) else (bif Nat.beq pc 28 then some (.iaload, 29, 0) else none)))) else (bif Nat.blt pc 128 then (bif Nat.blt pc 31 then (bif Nat.beq pc 29 then some (.bipush 31, 31, 0) else none) else (bif Nat.blt pc 32 then (bif Nat.beq pc 31 then some (.iand, 32, 0) else none) else (bif Nat.beq pc 32 then some (.tableswitch 622 0 19 #[96, 119, 132, 165, 178, 191, 204, 217, 240, 289, 332, 355, 378, 411, 444, 477, 490, 533, 566, 589], 128, 0) else none))) else (bif Nat.blt pc 130 then (bif Nat.blt pc 129 then (bif Nat.beq pc 128 then some (.aload_n 1, 129, 0) else none) else (bif Nat.beq pc 129 then some (.aload_n 0, 130, 0) else none)) else (bif Nat.blt pc 131 then (bif Nat.beq pc 130 then some (.iload_n 3, 131, 0) else none) else (bif Nat.beq pc 131 then some (.iconst 1, 132, 0) else none)))))) else (bif Nat.blt pc 151 then (bif Nat.blt pc 140 then (bif Nat.blt pc 137 then (bif Nat.blt pc 133 then (bif Nat.beq pc 132 then some (.iadd, 133, 0) else none) else (bif Nat.blt pc 134 then (bif Nat.beq pc 133 then some (.iaload, 134, 0) else none) else (bif Nat.beq pc 134 then some (.invokevirtual 13, 137, 0) else none))) else (bif Nat.blt pc 138 then (bif Nat.beq pc 137 then some (.aload_n 2, 138, 0) else none) else (bif Nat.blt pc 139 then (bif Nat.beq pc 138 then some (.aload_n 0, 139, 0) else none) else (bif Nat.beq pc 139 then some (.iload_n 3, 140, 0) else none)))) else (bif Nat.blt pc 143 then (bif Nat.blt pc 141 then (bif Nat.beq pc 140 then some (.iconst 1, 141, 0) else none) else (bif Nat.blt pc 142 then (bif Nat.beq pc 141 then some (.iadd, 142, 0) else none) else (bif Nat.beq pc 142 then some (.iaload, 143, 0) else none))) else (bif Nat.blt pc 149 then (bif Nat.blt pc 146 then (bif Nat.beq pc 143 then some (.invokevirtual 17, 146, 0) else none) else (bif Nat.beq pc 146 then some (.if_icmp .eq 508, 149, 654) else none)) else (bif Nat.blt pc 150 then (bif Nat.beq pc 149 then some (.iconst 0, 150, 0) else none) else (bif Nat.beq pc 150 then some (.ireturn, 151, 0) else none))))) else (bif Nat.blt pc 164 then (bif Nat.blt pc 156 then (bif Nat.blt pc 152 then (bif Nat.beq pc 151 then some (.aload_n 1, 152, 0) else none) else (bif Nat.blt pc 155 then (bif Nat.beq pc 152 then some (.invokevirtual 18, 155, 0) else none) else (bif Nat.beq pc 155 then some (.aload_n 2, 156, 0) else none))) else (bif Nat.blt pc 162 then (bif Nat.blt pc 159 then (bif Nat.beq pc 156 then some (.invokevirtual 22, 159, 0) else none) else (bif Nat.beq pc 159 then some (.if_icmp .eq 495, 162, 654) else none)) else (bif Nat.blt pc 163 then (bif Nat.beq pc 162 then some (.iconst 0, 163, 0) else none) else (bif Nat.beq pc 163 then some (.ireturn, 164, 0) else none)))) else (bif Nat.blt pc 167 then (bif Nat.blt pc 165 then (bif Nat.beq pc 164 then some (.aload_n 1, 165, 0) else none) else (bif Nat.blt pc 166 then (bif Nat.beq pc 165 then some (.aload_n 0, 166, 0) else none) else (bif Nat.beq pc 166 then some (.iload_n 3, 167, 0) else none))) else (bif Nat.blt pc 169 then (bif Nat.blt pc 168 then (bif Nat.beq pc 167 then some (.iconst 1, 168, 0) else none) else (bif Nat.beq pc 168 then some (.iadd, 169, 0) else none)) else (bif Nat.blt pc 170 then (bif Nat.beq pc 169 then some (.iaload, 170, 0) else none) else (bif Nat.beq pc 170 then some (.aload_n 0, 171, 0) else none))))))) else (bif Nat.blt pc 209 then (bif Nat.blt pc 186 then (bif Nat.blt pc 179 then (bif Nat.blt pc 174 then (bif Nat.blt pc 172 then (bif Nat.beq pc 171 then some (.iload_n 3, 172, 0) else none) else (bif Nat.blt pc 173 then (bif Nat.beq pc 172 then some (.iconst 2, 173, 0) else none) else (bif Nat.beq pc 173 then some (.iadd, 174, 0) else none))) else (bif Nat.blt pc 175 then (bif Nat.beq pc 174 then some (.iaload, 175, 0) else none) else (bif Nat.blt pc 178 then (bif Nat.beq pc 175 then some (.invokevirtual 23, 178, 0) else none) else (bif Nat.beq pc 178 then some (.aload_n 2, 179, 0) else none)))) else (bif Nat.blt pc 182 then (bif Nat.blt pc 180 then (bif Nat.beq pc 179 then some (.aload_n 0, 180, 0) else none) else (bif Nat.blt pc 181 then (bif Nat.beq pc 180 then some (.iload_n 3, 181, 0) else none) else (bif Nat.beq pc 181 then some (.iconst 1, 182, 0) else none))) else (bif Nat.blt pc 184 then (bif Nat.blt pc 183 then (bif Nat.beq pc 182 then some (.iadd, 183, 0) else none) else (bif Nat.beq pc 183 then some (.iaload, 184, 0) else none)) else (bif Nat.blt pc 185 then (bif Nat.beq pc 184 then some (.aload_n 0, 185, 0) else none) else (bif Nat.beq pc 185 then some (.iload_n 3, 186, 0) else none))))) else (bif Nat.blt pc 196 then (bif Nat.blt pc 189 then (bif Nat.blt pc 187 then (bif Nat.beq pc 186 then some (.iconst 2, 187, 0) else none) else (bif Nat.blt pc 188 then (bif Nat.beq pc 187 then some (.iadd, 188, 0) else none) else (bif Nat.beq pc 188 then some (.iaload, 189, 0) else none))) else (bif Nat.blt pc 192 then (bif Nat.beq pc 189 then some (.invokevirtual 27, 192, 0) else none) else (bif Nat.blt pc 195 then (bif Nat.beq pc 192 then some (.if_icmp .eq 462, 195, 654) else none) else (bif Nat.beq pc 195 then some (.iconst 0, 196, 0) else none)))) else (bif Nat.blt pc 201 then (bif Nat.blt pc 197 then (bif Nat.beq pc 196 then some (.ireturn, 197, 0) else none) else (bif Nat.blt pc 198 then (bif Nat.beq pc 197 then some (.aload_n 1, 198, 0) else none) else (bif Nat.beq pc 198 then some (.invokevirtual 28, 201, 0) else none))) else (bif Nat.blt pc 205 then (bif Nat.blt pc 202 then (bif Nat.beq pc 201 then some (.aload_n 2, 202, 0) else none) else (bif Nat.beq pc 202 then some (.invokevirtual 31, 205, 0) else none)) else (bif Nat.blt pc 208 then (bif Nat.beq pc 205 then some (.if_icmp .eq 449, 208, 654) else none) else (bif Nat.beq pc 208 then some (.iconst 0, 209, 0) else none)))))) else (bif Nat.blt pc 234 then (bif Nat.blt pc 221 then (bif Nat.blt pc 214 then (bif Nat.blt pc 210 then (bif Nat.beq pc 209 then some (.ireturn, 210, 0) else none) else (bif Nat.blt pc 211 then (bif Nat.beq pc 210 then some (.aload_n 1, 211, 0) else none) else (bif Nat.beq pc 211 then some (.invokevirtual 32, 214, 0) else none))) else (bif Nat.blt pc 215 then (bif Nat.beq pc 214 then some (.aload_n 2, 215, 0) else none) else (bif Nat.blt pc 218 then (bif Nat.beq pc 215 then some (.invokevirtual 35, 218, 0) else none) else (bif Nat.beq pc 218 then some (.if_icmp .eq 436, 221, 654) else none)))) else (bif Nat.blt pc 224 then (bif Nat.blt pc 222 then (bif Nat.beq pc 221 then some (.iconst 0, 222, 0) else none) else (bif Nat.blt pc 223 then (bif Nat.beq pc 222 then some (.ireturn, 223, 0) else none) else (bif Nat.beq pc 223 then some (.aload_n 1, 224, 0) else none))) else (bif Nat.blt pc 228 then (bif Nat.blt pc 227 then (bif Nat.beq pc 224 then some (.invokevirtual 36, 227, 0) else none) else (bif Nat.beq pc 227 then some (.aload_n 2, 228, 0) else none)) else (bif Nat.blt pc 231 then (bif Nat.beq pc 228 then some (.invokevirtual 39, 231, 0) else none) else (bif Nat.beq pc 231 then some (.if_icmp .eq 423, 234, 654) else none))))) else (bif Nat.blt pc 247 then (bif Nat.blt pc 237 then (bif Nat.blt pc 235 then (bif Nat.beq pc 234 then some (.iconst 0, 235, 0) else none) else (bif Nat.blt pc 236 then (bif Nat.beq pc 235 then some (.ireturn, 236, 0) else none) else (bif Nat.beq pc 236 then some (.aload_n 1, 237, 0) else none))) else (bif Nat.blt pc 241 then (bif Nat.blt pc 240 then (bif Nat.beq pc 237 then some (.invokevirtual 40, 240, 0) else none) else (bif Nat.beq pc 240 then some (.aload_n 2, 241, 0) else none)) else (bif Nat.blt pc 244 then (bif Nat.beq pc 241 then some (.invokevirtual 43, 244, 0) else none) else (bif Nat.beq pc 244 then some (.if_icmp .eq 410, 247, 654) else none)))) else (bif Nat.blt pc 250 then (bif Nat.blt pc 248 then (bif Nat.beq pc 247 then some (.iconst 0, 248, 0) else none) else (bif Nat.blt pc 249 then (bif Nat.beq pc 248 then some (.ireturn, 249, 0) else none) else (bif Nat.beq pc 249 then some (.aload_n 1, 250, 0) else none))) else (bif Nat.blt pc 252 then (bif Nat.blt pc 251 then (bif Nat.beq pc 250 then some (.aload_n 0, 251, 0) else none) else (bif Nat.beq pc 251 then some (.iload_n 3, 252, 0) else none)) else (bif Nat.blt pc 253 then (bif Nat.beq pc 252 then some (.iconst 1, 253, 0) else none) else (bif Nat.beq pc 253 then some (.iadd, 254, 0) else none)))))))) else (bif Nat.blt pc 327 then (bif Nat.blt pc 290 then (bif Nat.blt pc 273 then (bif Nat.blt pc 262 then (bif Nat.blt pc 259 then (bif Nat.blt pc 255 then (bif Nat.beq pc 254 then some (.iaload, 255, 0) else none) else (bif Nat.blt pc 258 then (bif Nat.beq pc 255 then some (.invokevirtual 44, 258, 0) else none) else (bif Nat.beq pc 258 then some (.aload_n 2, 259, 0) else none))) else (bif Nat.blt pc 260 then (bif Nat.beq pc 259 then some (.aload_n 0, 260, 0) else none) else (bif Nat.blt pc 261 then (bif Nat.beq pc 260 then some (.iload_n 3, 261, 0) else none) else (bif Nat.beq pc 261 then some (.iconst 1, 262, 0) else none)))) else (bif Nat.blt pc 267 then (bif Nat.blt pc 263 then (bif Nat.beq pc 262 then some (.iadd, 263, 0) else none) else (bif Nat.blt pc 264 then (bif Nat.beq pc 263 then some (.iaload, 264, 0) else none) else (bif Nat.beq pc 264 then some (.invokevirtual 47, 267, 0) else none))) else (bif Nat.blt pc 271 then (bif Nat.blt pc 270 then (bif Nat.beq pc 267 then some (.if_icmp .eq 387, 270, 654) else none) else (bif Nat.beq pc 270 then some (.iconst 0, 271, 0) else none)) else (bif Nat.blt pc 272 then (bif Nat.beq pc 271 then some (.ireturn, 272, 0) else none) else (bif Nat.beq pc 272 then some (.aload_n 1, 273, 0) else none))))) else (bif Nat.blt pc 279 then (bif Nat.blt pc 276 then (bif Nat.blt pc 274 then (bif Nat.beq pc 273 then some (.aload_n 0, 274, 0) else none) else (bif Nat.blt pc 275 then (bif Nat.beq pc 274 then some (.iload_n 3, 275, 0) else none) else (bif Nat.beq pc 275 then some (.iconst 1, 276, 0) else none))) else (bif Nat.blt pc 277 then (bif Nat.beq pc 276 then some (.iadd, 277, 0) else none) else (bif Nat.blt pc 278 then (bif Nat.beq pc 277 then some (.iaload, 278, 0) else none) else (bif Nat.beq pc 278 then some (.aload_n 0, 279, 0) else none)))) else (bif Nat.blt pc 282 then (bif Nat.blt pc 280 then (bif Nat.beq pc 279 then some (.iload_n 3, 280, 0) else none) else (bif Nat.blt pc 281 then (bif Nat.beq pc 280 then some (.iconst 2, 281, 0) else none) else (bif Nat.beq pc 281 then some (.iadd, 282, 0) else none))) else (bif Nat.blt pc 286 then (bif Nat.blt pc 283 then (bif Nat.beq pc 282 then some (.iaload, 283, 0) else none) else (bif Nat.beq pc 283 then some (.ifCond .eq 7, 286, 290) else none)) else (bif Nat.blt pc 287 then (bif Nat.beq pc 286 then some (.iconst 1, 287, 0) else none) else (bif Nat.beq pc 287 then some (.goto 4, 290, 291) else none)))))) else (bif Nat.blt pc 305 then (bif Nat.blt pc 298 then (bif Nat.blt pc 295 then (bif Nat.blt pc 291 then (bif Nat.beq pc 290 then some (.iconst 0, 291, 0) else none) else (bif Nat.blt pc 294 then (bif Nat.beq pc 291 then some (.invokevirtual 48, 294, 0) else none) else (bif Nat.beq pc 294 then some (.aload_n 2, 295, 0) else none))) else (bif Nat.blt pc 296 then (bif Nat.beq pc 295 then some (.aload_n 0, 296, 0) else none) else (bif Nat.blt pc 297 then (bif Nat.beq pc 296 then some (.iload_n 3, 297, 0) else none) else (bif Nat.beq pc 297 then some (.iconst 1, 298, 0) else none)))) else (bif Nat.blt pc 301 then (bif Nat.blt pc 299 then (bif Nat.beq pc 298 then some (.iadd, 299, 0) else none) else (bif Nat.blt pc 300 then (bif Nat.beq pc 299 then some (.iaload, 300, 0) else none) else (bif Nat.beq pc 300 then some (.aload_n 0, 301, 0) else none))) else (bif Nat.blt pc 303 then (bif Nat.blt pc 302 then (bif Nat.beq pc 301 then some (.iload_n 3, 302, 0) else none) else (bif Nat.beq pc 302 then some (.iconst 2, 303, 0) else none)) else (bif Nat.blt pc 304 then (bif Nat.beq pc 303 then some (.iadd, 304, 0) else none) else (bif Nat.beq pc 304 then some (.iaload, 305, 0) else none))))) else (bif Nat.blt pc 320 then (bif Nat.blt pc 312 then (bif Nat.blt pc 308 then (bif Nat.beq pc 305 then some (.ifCond .eq 7, 308, 312) else none) else (bif Nat.blt pc 309 then (bif Nat.beq pc 308 then some (.iconst 1, 309, 0) else none) else (bif Nat.beq pc 309 then some (.goto 4, 312, 313) else none))) else (bif Nat.blt pc 316 then (bif Nat.blt pc 313 then (bif Nat.beq pc 312 then some (.iconst 0, 313, 0) else none) else (bif Nat.beq pc 313 then some (.invokevirtual 52, 316, 0) else none)) else (bif Nat.blt pc 319 then (bif Nat.beq pc 316 then some (.if_icmp .eq 338, 319, 654) else none) else (bif Nat.beq pc 319 then some (.iconst 0, 320, 0) else none)))) else (bif Nat.blt pc 323 then (bif Nat.blt pc 321 then (bif Nat.beq pc 320 then some (.ireturn, 321, 0) else none) else (bif Nat.blt pc 322 then (bif Nat.beq pc 321 then some (.aload_n 1, 322, 0) else none) else (bif Nat.beq pc 322 then some (.aload_n 0, 323, 0) else none))) else (bif Nat.blt pc 325 then (bif Nat.blt pc 324 then (bif Nat.beq pc 323 then some (.iload_n 3, 324, 0) else none) else (bif Nat.beq pc 324 then some (.iconst 1, 325, 0) else none)) else (bif Nat.blt pc 326 then (bif Nat.beq pc 325 then some (.iadd, 326, 0) else none) else (bif Nat.beq pc 326 then some (.iaload, 327, 0) else none))))))) else (bif Nat.blt pc 355 then (bif Nat.blt pc 342 then (bif Nat.blt pc 333 then (bif Nat.blt pc 330 then (bif Nat.blt pc 328 then (bif Nat.beq pc 327 then some (.aload_n 0, 328, 0) else none) else (bif Nat.blt pc 329 then (bif Nat.beq pc 328 then some (.iload_n 3, 329, 0) else none) else (bif Nat.beq pc 329 then some (.iconst 2, 330, 0) else none))) else (bif Nat.blt pc 331 then (bif Nat.beq pc 330 then some (.iadd, 331, 0) else none) else (bif Nat.blt pc 332 then (bif Nat.beq pc 331 then some (.iaload, 332, 0) else none) else (bif Nat.beq pc 332 then some (.aload_n 0, 333, 0) else none)))) else (bif Nat.blt pc 336 then (bif Nat.blt pc 334 then (bif Nat.beq pc 333 then some (.iload_n 3, 334, 0) else none) else (bif Nat.blt pc 335 then (bif Nat.beq pc 334 then some (.iconst 3, 335, 0) else none) else (bif Nat.beq pc 335 then some (.iadd, 336, 0) else none))) else (bif Nat.blt pc 340 then (bif Nat.blt pc 337 then (bif Nat.beq pc 336 then some (.iaload, 337, 0) else none) else (bif Nat.beq pc 337 then some (.invokevirtual 53, 340, 0) else none)) else (bif Nat.blt pc 341 then (bif Nat.beq pc 340 then some (.aload_n 2, 341, 0) else none) else (bif Nat.beq pc 341 then some (.aload_n 0, 342, 0) else none))))) else (bif Nat.blt pc 348 then (bif Nat.blt pc 345 then (bif Nat.blt pc 343 then (bif Nat.beq pc 342 then some (.iload_n 3, 343, 0) else none) else (bif Nat.blt pc 344 then (bif Nat.beq pc 343 then some (.iconst 1, 344, 0) else none) else (bif Nat.beq pc 344 then some (.iadd, 345, 0) else none))) else (bif Nat.blt pc 346 then (bif Nat.beq pc 345 then some (.iaload, 346, 0) else none) else (bif Nat.blt pc 347 then (bif Nat.beq pc 346 then some (.aload_n 0, 347, 0) else none) else (bif Nat.beq pc 347 then some (.iload_n 3, 348, 0) else none)))) else (bif Nat.blt pc 351 then (bif Nat.blt pc 349 then (bif Nat.beq pc 348 then some (.iconst 2, 349, 0) else none) else (bif Nat.blt pc 350 then (bif Nat.beq pc 349 then some (.iadd, 350, 0) else none) else (bif Nat.beq pc 350 then some (.iaload, 351, 0) else none))) else (bif Nat.blt pc 353 then (bif Nat.blt pc 352 then (bif Nat.beq pc 351 then some (.aload_n 0, 352, 0) else none) else (bif Nat.beq pc 352 then some (.iload_n 3, 353, 0) else none)) else (bif Nat.blt pc 354 then (bif Nat.beq pc 353 then some (.iconst 3, 354, 0) else none) else (bif Nat.beq pc 354 then some (.iadd, 355, 0) else none)))))) else (bif Nat.blt pc 374 then (bif Nat.blt pc 365 then (bif Nat.blt pc 362 then (bif Nat.blt pc 356 then (bif Nat.beq pc 355 then some (.iaload, 356, 0) else none) else (bif Nat.blt pc 359 then (bif Nat.beq pc 356 then some (.invokevirtual 57, 359, 0) else none) else (bif Nat.beq pc 359 then some (.if_icmp .eq 295, 362, 654) else none))) else (bif Nat.blt pc 363 then (bif Nat.beq pc 362 then some (.iconst 0, 363, 0) else none) else (bif Nat.blt pc 364 then (bif Nat.beq pc 363 then some (.ireturn, 364, 0) else none) else (bif Nat.beq pc 364 then some (.aload_n 1, 365, 0) else none)))) else (bif Nat.blt pc 368 then (bif Nat.blt pc 366 then (bif Nat.beq pc 365 then some (.aload_n 0, 366, 0) else none) else (bif Nat.blt pc 367 then (bif Nat.beq pc 366 then some (.iload_n 3, 367, 0) else none) else (bif Nat.beq pc 367 then some (.iconst 1, 368, 0) else none))) else (bif Nat.blt pc 370 then (bif Nat.blt pc 369 then (bif Nat.beq pc 368 then some (.iadd, 369, 0) else none) else (bif Nat.beq pc 369 then some (.iaload, 370, 0) else none)) else (bif Nat.blt pc 373 then (bif Nat.beq pc 370 then some (.invokevirtual 58, 373, 0) else none) else (bif Nat.beq pc 373 then some (.aload_n 2, 374, 0) else none))))) else (bif Nat.blt pc 385 then (bif Nat.blt pc 377 then (bif Nat.blt pc 375 then (bif Nat.beq pc 374 then some (.aload_n 0, 375, 0) else none) else (bif Nat.blt pc 376 then (bif Nat.beq pc 375 then some (.iload_n 3, 376, 0) else none) else (bif Nat.beq pc 376 then some (.iconst 1, 377, 0) else none))) else (bif Nat.blt pc 379 then (bif Nat.blt pc 378 then (bif Nat.beq pc 377 then some (.iadd, 378, 0) else none) else (bif Nat.beq pc 378 then some (.iaload, 379, 0) else none)) else (bif Nat.blt pc 382 then (bif Nat.beq pc 379 then some (.invokevirtual 62, 382, 0) else none) else (bif Nat.beq pc 382 then some (.if_icmp .eq 272, 385, 654) else none)))) else (bif Nat.blt pc 388 then (bif Nat.blt pc 386 then (bif Nat.beq pc 385 then some (.iconst 0, 386, 0) else none) else (bif Nat.blt pc 387 then (bif Nat.beq pc 386 then some (.ireturn, 387, 0) else none) else (bif Nat.beq pc 387 then some (.aload_n 1, 388, 0) else none))) else (bif Nat.blt pc 390 then (bif Nat.blt pc 389 then (bif Nat.beq pc 388 then some (.aload_n 0, 389, 0) else none) else (bif Nat.beq pc 389 then some (.iload_n 3, 390, 0) else none)) else (bif Nat.blt pc 391 then (bif Nat.beq pc 390 then some (.iconst 1, 391, 0) else none) else (bif Nat.beq pc 391 then some (.iadd, 392, 0) else none))))))))) else (bif Nat.blt pc 528 then (bif Nat.blt pc 459 then (bif Nat.blt pc 426 then (bif Nat.blt pc 411 then (bif Nat.blt pc 400 then (bif Nat.blt pc 397 then (bif Nat.blt pc 393 then (bif Nat.beq pc 392 then some (.iaload, 393, 0) else none) else (bif Nat.blt pc 396 then (bif Nat.beq pc 393 then some (.invokevirtual 63, 396, 0) else none) else (bif Nat.beq pc 396 then some (.aload_n 2, 397, 0) else none))) else (bif Nat.blt pc 398 then (bif Nat.beq pc 397 then some (.aload_n 0, 398, 0) else none) else (bif Nat.blt pc 399 then (bif Nat.beq pc 398 then some (.iload_n 3, 399, 0) else none) else (bif Nat.beq pc 399 then some (.iconst 1, 400, 0) else none)))) else (bif Nat.blt pc 405 then (bif Nat.blt pc 401 then (bif Nat.beq pc 400 then some (.iadd, 401, 0) else none) else (bif Nat.blt pc 402 then (bif Nat.beq pc 401 then some (.iaload, 402, 0) else none) else (bif Nat.beq pc 402 then some (.invokevirtual 66, 405, 0) else none))) else (bif Nat.blt pc 409 then (bif Nat.blt pc 408 then (bif Nat.beq pc 405 then some (.if_icmp .eq 249, 408, 654) else none) else (bif Nat.beq pc 408 then some (.iconst 0, 409, 0) else none)) else (bif Nat.blt pc 410 then (bif Nat.beq pc 409 then some (.ireturn, 410, 0) else none) else (bif Nat.beq pc 410 then some (.aload_n 1, 411, 0) else none))))) else (bif Nat.blt pc 417 then (bif Nat.blt pc 414 then (bif Nat.blt pc 412 then (bif Nat.beq pc 411 then some (.aload_n 0, 412, 0) else none) else (bif Nat.blt pc 413 then (bif Nat.beq pc 412 then some (.iload_n 3, 413, 0) else none) else (bif Nat.beq pc 413 then some (.iconst 1, 414, 0) else none))) else (bif Nat.blt pc 415 then (bif Nat.beq pc 414 then some (.iadd, 415, 0) else none) else (bif Nat.blt pc 416 then (bif Nat.beq pc 415 then some (.iaload, 416, 0) else none) else (bif Nat.beq pc 416 then some (.aload_n 0, 417, 0) else none)))) else (bif Nat.blt pc 420 then (bif Nat.blt pc 418 then (bif Nat.beq pc 417 then some (.iload_n 3, 418, 0) else none) else (bif Nat.blt pc 419 then (bif Nat.beq pc 418 then some (.iconst 2, 419, 0) else none) else (bif Nat.beq pc 419 then some (.iadd, 420, 0) else none))) else (bif Nat.blt pc 424 then (bif Nat.blt pc 421 then (bif Nat.beq pc 420 then some (.iaload, 421, 0) else none) else (bif Nat.beq pc 421 then some (.invokevirtual 67, 424, 0) else none)) else (bif Nat.blt pc 425 then (bif Nat.beq pc 424 then some (.aload_n 2, 425, 0) else none) else (bif Nat.beq pc 425 then some (.aload_n 0, 426, 0) else none)))))) else (bif Nat.blt pc 443 then (bif Nat.blt pc 432 then (bif Nat.blt pc 429 then (bif Nat.blt pc 427 then (bif Nat.beq pc 426 then some (.iload_n 3, 427, 0) else none) else (bif Nat.blt pc 428 then (bif Nat.beq pc 427 then some (.iconst 1, 428, 0) else none) else (bif Nat.beq pc 428 then some (.iadd, 429, 0) else none))) else (bif Nat.blt pc 430 then (bif Nat.beq pc 429 then some (.iaload, 430, 0) else none) else (bif Nat.blt pc 431 then (bif Nat.beq pc 430 then some (.aload_n 0, 431, 0) else none) else (bif Nat.beq pc 431 then some (.iload_n 3, 432, 0) else none)))) else (bif Nat.blt pc 435 then (bif Nat.blt pc 433 then (bif Nat.beq pc 432 then some (.iconst 2, 433, 0) else none) else (bif Nat.blt pc 434 then (bif Nat.beq pc 433 then some (.iadd, 434, 0) else none) else (bif Nat.beq pc 434 then some (.iaload, 435, 0) else none))) else (bif Nat.blt pc 441 then (bif Nat.blt pc 438 then (bif Nat.beq pc 435 then some (.invokevirtual 70, 438, 0) else none) else (bif Nat.beq pc 438 then some (.if_icmp .eq 216, 441, 654) else none)) else (bif Nat.blt pc 442 then (bif Nat.beq pc 441 then some (.iconst 0, 442, 0) else none) else (bif Nat.beq pc 442 then some (.ireturn, 443, 0) else none))))) else (bif Nat.blt pc 450 then (bif Nat.blt pc 446 then (bif Nat.blt pc 444 then (bif Nat.beq pc 443 then some (.aload_n 1, 444, 0) else none) else (bif Nat.blt pc 445 then (bif Nat.beq pc 444 then some (.aload_n 0, 445, 0) else none) else (bif Nat.beq pc 445 then some (.iload_n 3, 446, 0) else none))) else (bif Nat.blt pc 448 then (bif Nat.blt pc 447 then (bif Nat.beq pc 446 then some (.iconst 1, 447, 0) else none) else (bif Nat.beq pc 447 then some (.iadd, 448, 0) else none)) else (bif Nat.blt pc 449 then (bif Nat.beq pc 448 then some (.iaload, 449, 0) else none) else (bif Nat.beq pc 449 then some (.aload_n 0, 450, 0) else none)))) else (bif Nat.blt pc 453 then (bif Nat.blt pc 451 then (bif Nat.beq pc 450 then some (.iload_n 3, 451, 0) else none) else (bif Nat.blt pc 452 then (bif Nat.beq pc 451 then some (.iconst 2, 452, 0) else none) else (bif Nat.beq pc 452 then some (.iadd, 453, 0) else none))) else (bif Nat.blt pc 457 then (bif Nat.blt pc 454 then (bif Nat.beq pc 453 then some (.iaload, 454, 0) else none) else (bif Nat.beq pc 454 then some (.invokevirtual 71, 457, 0) else none)) else (bif Nat.blt pc 458 then (bif Nat.beq pc 457 then some (.aload_n 2, 458, 0) else none) else (bif Nat.beq pc 458 then some (.aload_n 0, 459, 0) else none))))))) else (bif Nat.blt pc 491 then (bif Nat.blt pc 476 then (bif Nat.blt pc 465 then (bif Nat.blt pc 462 then (bif Nat.blt pc 460 then (bif Nat.beq pc 459 then some (.iload_n 3, 460, 0) else none) else (bif Nat.blt pc 461 then (bif Nat.beq pc 460 then some (.iconst 1, 461, 0) else none) else (bif Nat.beq pc 461 then some (.iadd, 462, 0) else none))) else (bif Nat.blt pc 463 then (bif Nat.beq pc 462 then some (.iaload, 463, 0) else none) else (bif Nat.blt pc 464 then (bif Nat.beq pc 463 then some (.aload_n 0, 464, 0) else none) else (bif Nat.beq pc 464 then some (.iload_n 3, 465, 0) else none)))) else (bif Nat.blt pc 468 then (bif Nat.blt pc 466 then (bif Nat.beq pc 465 then some (.iconst 2, 466, 0) else none) else (bif Nat.blt pc 467 then (bif Nat.beq pc 466 then some (.iadd, 467, 0) else none) else (bif Nat.beq pc 467 then some (.iaload, 468, 0) else none))) else (bif Nat.blt pc 474 then (bif Nat.blt pc 471 then (bif Nat.beq pc 468 then some (.invokevirtual 74, 471, 0) else none) else (bif Nat.beq pc 471 then some (.if_icmp .eq 183, 474, 654) else none)) else (bif Nat.blt pc 475 then (bif Nat.beq pc 474 then some (.iconst 0, 475, 0) else none) else (bif Nat.beq pc 475 then some (.ireturn, 476, 0) else none))))) else (bif Nat.blt pc 482 then (bif Nat.blt pc 479 then (bif Nat.blt pc 477 then (bif Nat.beq pc 476 then some (.aload_n 1, 477, 0) else none) else (bif Nat.blt pc 478 then (bif Nat.beq pc 477 then some (.aload_n 0, 478, 0) else none) else (bif Nat.beq pc 478 then some (.iload_n 3, 479, 0) else none))) else (bif Nat.blt pc 480 then (bif Nat.beq pc 479 then some (.iconst 1, 480, 0) else none) else (bif Nat.blt pc 481 then (bif Nat.beq pc 480 then some (.iadd, 481, 0) else none) else (bif Nat.beq pc 481 then some (.iaload, 482, 0) else none)))) else (bif Nat.blt pc 485 then (bif Nat.blt pc 483 then (bif Nat.beq pc 482 then some (.aload_n 0, 483, 0) else none) else (bif Nat.blt pc 484 then (bif Nat.beq pc 483 then some (.iload_n 3, 484, 0) else none) else (bif Nat.beq pc 484 then some (.iconst 2, 485, 0) else none))) else (bif Nat.blt pc 487 then (bif Nat.blt pc 486 then (bif Nat.beq pc 485 then some (.iadd, 486, 0) else none) else (bif Nat.beq pc 486 then some (.iaload, 487, 0) else none)) else (bif Nat.blt pc 490 then (bif Nat.beq pc 487 then some (.invokevirtual 75, 490, 0) else none) else (bif Nat.beq pc 490 then some (.aload_n 2, 491, 0) else none)))))) else (bif Nat.blt pc 508 then (bif Nat.blt pc 497 then (bif Nat.blt pc 494 then (bif Nat.blt pc 492 then (bif Nat.beq pc 491 then some (.aload_n 0, 492, 0) else none) else (bif Nat.blt pc 493 then (bif Nat.beq pc 492 then some (.iload_n 3, 493, 0) else none) else (bif Nat.beq pc 493 then some (.iconst 1, 494, 0) else none))) else (bif Nat.blt pc 495 then (bif Nat.beq pc 494 then some (.iadd, 495, 0) else none) else (bif Nat.blt pc 496 then (bif Nat.beq pc 495 then some (.iaload, 496, 0) else none) else (bif Nat.beq pc 496 then some (.aload_n 0, 497, 0) else none)))) else (bif Nat.blt pc 500 then (bif Nat.blt pc 498 then (bif Nat.beq pc 497 then some (.iload_n 3, 498, 0) else none) else (bif Nat.blt pc 499 then (bif Nat.beq pc 498 then some (.iconst 2, 499, 0) else none) else (bif Nat.beq pc 499 then some (.iadd, 500, 0) else none))) else (bif Nat.blt pc 504 then (bif Nat.blt pc 501 then (bif Nat.beq pc 500 then some (.iaload, 501, 0) else none) else (bif Nat.beq pc 501 then some (.invokevirtual 79, 504, 0) else none)) else (bif Nat.blt pc 507 then (bif Nat.beq pc 504 then some (.if_icmp .eq 150, 507, 654) else none) else (bif Nat.beq pc 507 then some (.iconst 0, 508, 0) else none))))) else (bif Nat.blt pc 521 then (bif Nat.blt pc 513 then (bif Nat.blt pc 509 then (bif Nat.beq pc 508 then some (.ireturn, 509, 0) else none) else (bif Nat.blt pc 510 then (bif Nat.beq pc 509 then some (.aload_n 1, 510, 0) else none) else (bif Nat.beq pc 510 then some (.invokevirtual 80, 513, 0) else none))) else (bif Nat.blt pc 517 then (bif Nat.blt pc 514 then (bif Nat.beq pc 513 then some (.aload_n 2, 514, 0) else none) else (bif Nat.beq pc 514 then some (.invokevirtual 83, 517, 0) else none)) else (bif Nat.blt pc 520 then (bif Nat.beq pc 517 then some (.if_icmp .eq 137, 520, 654) else none) else (bif Nat.beq pc 520 then some (.iconst 0, 521, 0) else none)))) else (bif Nat.blt pc 524 then (bif Nat.blt pc 522 then (bif Nat.beq pc 521 then some (.ireturn, 522, 0) else none) else (bif Nat.blt pc 523 then (bif Nat.beq pc 522 then some (.aload_n 1, 523, 0) else none) else (bif Nat.beq pc 523 then some (.aload_n 0, 524, 0) else none))) else (bif Nat.blt pc 526 then (bif Nat.blt pc 525 then (bif Nat.beq pc 524 then some (.iload_n 3, 525, 0) else none) else (bif Nat.beq pc 525 then some (.iconst 1, 526, 0) else none)) else (bif Nat.blt pc 527 then (bif Nat.beq pc 526 then some (.iadd, 527, 0) else none) else (bif Nat.beq pc 527 then some (.iaload, 528, 0) else none)))))))) else (bif Nat.blt pc 589 then (bif Nat.blt pc 556 then (bif Nat.blt pc 543 then (bif Nat.blt pc 534 then (bif Nat.blt pc 531 then (bif Nat.blt pc 529 then (bif Nat.beq pc 528 then some (.aload_n 0, 529, 0) else none) else (bif Nat.blt pc 530 then (bif Nat.beq pc 529 then some (.iload_n 3, 530, 0) else none) else (bif Nat.beq pc 530 then some (.iconst 2, 531, 0) else none))) else (bif Nat.blt pc 532 then (bif Nat.beq pc 531 then some (.iadd, 532, 0) else none) else (bif Nat.blt pc 533 then (bif Nat.beq pc 532 then some (.iaload, 533, 0) else none) else (bif Nat.beq pc 533 then some (.aload_n 0, 534, 0) else none)))) else (bif Nat.blt pc 537 then (bif Nat.blt pc 535 then (bif Nat.beq pc 534 then some (.iload_n 3, 535, 0) else none) else (bif Nat.blt pc 536 then (bif Nat.beq pc 535 then some (.iconst 3, 536, 0) else none) else (bif Nat.beq pc 536 then some (.iadd, 537, 0) else none))) else (bif Nat.blt pc 541 then (bif Nat.blt pc 538 then (bif Nat.beq pc 537 then some (.iaload, 538, 0) else none) else (bif Nat.beq pc 538 then some (.invokevirtual 84, 541, 0) else none)) else (bif Nat.blt pc 542 then (bif Nat.beq pc 541 then some (.aload_n 2, 542, 0) else none) else (bif Nat.beq pc 542 then some (.aload_n 0, 543, 0) else none))))) else (bif Nat.blt pc 549 then (bif Nat.blt pc 546 then (bif Nat.blt pc 544 then (bif Nat.beq pc 543 then some (.iload_n 3, 544, 0) else none) else (bif Nat.blt pc 545 then (bif Nat.beq pc 544 then some (.iconst 1, 545, 0) else none) else (bif Nat.beq pc 545 then some (.iadd, 546, 0) else none))) else (bif Nat.blt pc 547 then (bif Nat.beq pc 546 then some (.iaload, 547, 0) else none) else (bif Nat.blt pc 548 then (bif Nat.beq pc 547 then some (.aload_n 0, 548, 0) else none) else (bif Nat.beq pc 548 then some (.iload_n 3, 549, 0) else none)))) else (bif Nat.blt pc 552 then (bif Nat.blt pc 550 then (bif Nat.beq pc 549 then some (.iconst 2, 550, 0) else none) else (bif Nat.blt pc 551 then (bif Nat.beq pc 550 then some (.iadd, 551, 0) else none) else (bif Nat.beq pc 551 then some (.iaload, 552, 0) else none))) else (bif Nat.blt pc 554 then (bif Nat.blt pc 553 then (bif Nat.beq pc 552 then some (.aload_n 0, 553, 0) else none) else (bif Nat.beq pc 553 then some (.iload_n 3, 554, 0) else none)) else (bif Nat.blt pc 555 then (bif Nat.beq pc 554 then some (.iconst 3, 555, 0) else none) else (bif Nat.beq pc 555 then some (.iadd, 556, 0) else none)))))) else (bif Nat.blt pc 573 then (bif Nat.blt pc 566 then (bif Nat.blt pc 563 then (bif Nat.blt pc 557 then (bif Nat.beq pc 556 then some (.iaload, 557, 0) else none) else (bif Nat.blt pc 560 then (bif Nat.beq pc 557 then some (.invokevirtual 88, 560, 0) else none) else (bif Nat.beq pc 560 then some (.if_icmp .eq 94, 563, 654) else none))) else (bif Nat.blt pc 564 then (bif Nat.beq pc 563 then some (.iconst 0, 564, 0) else none) else (bif Nat.blt pc 565 then (bif Nat.beq pc 564 then some (.ireturn, 565, 0) else none) else (bif Nat.beq pc 565 then some (.aload_n 1, 566, 0) else none)))) else (bif Nat.blt pc 569 then (bif Nat.blt pc 567 then (bif Nat.beq pc 566 then some (.aload_n 0, 567, 0) else none) else (bif Nat.blt pc 568 then (bif Nat.beq pc 567 then some (.iload_n 3, 568, 0) else none) else (bif Nat.beq pc 568 then some (.iconst 1, 569, 0) else none))) else (bif Nat.blt pc 571 then (bif Nat.blt pc 570 then (bif Nat.beq pc 569 then some (.iadd, 570, 0) else none) else (bif Nat.beq pc 570 then some (.iaload, 571, 0) else none)) else (bif Nat.blt pc 572 then (bif Nat.beq pc 571 then some (.aload_n 0, 572, 0) else none) else (bif Nat.beq pc 572 then some (.iload_n 3, 573, 0) else none))))) else (bif Nat.blt pc 582 then (bif Nat.blt pc 576 then (bif Nat.blt pc 574 then (bif Nat.beq pc 573 then some (.iconst 2, 574, 0) else none) else (bif Nat.blt pc 575 then (bif Nat.beq pc 574 then some (.iadd, 575, 0) else none) else (bif Nat.beq pc 575 then some (.iaload, 576, 0) else none))) else (bif Nat.blt pc 580 then (bif Nat.blt pc 579 then (bif Nat.beq pc 576 then some (.invokevirtual 89, 579, 0) else none) else (bif Nat.beq pc 579 then some (.aload_n 2, 580, 0) else none)) else (bif Nat.blt pc 581 then (bif Nat.beq pc 580 then some (.aload_n 0, 581, 0) else none) else (bif Nat.beq pc 581 then some (.iload_n 3, 582, 0) else none)))) else (bif Nat.blt pc 585 then (bif Nat.blt pc 583 then (bif Nat.beq pc 582 then some (.iconst 1, 583, 0) else none) else (bif Nat.blt pc 584 then (bif Nat.beq pc 583 then some (.iadd, 584, 0) else none) else (bif Nat.beq pc 584 then some (.iaload, 585, 0) else none))) else (bif Nat.blt pc 587 then (bif Nat.blt pc 586 then (bif Nat.beq pc 585 then some (.aload_n 0, 586, 0) else none) else (bif Nat.beq pc 586 then some (.iload_n 3, 587, 0) else none)) else (bif Nat.blt pc 588 then (bif Nat.beq pc 587 then some (.iconst 2, 588, 0) else none) else (bif Nat.beq pc 588 then some (.iadd, 589, 0) else none))))))) else (bif Nat.blt pc 625 then (bif Nat.blt pc 608 then (bif Nat.blt pc 599 then (bif Nat.blt pc 596 then (bif Nat.blt pc 590 then (bif Nat.beq pc 589 then some (.iaload, 590, 0) else none) else (bif Nat.blt pc 593 then (bif Nat.beq pc 590 then some (.invokevirtual 92, 593, 0) else none) else (bif Nat.beq pc 593 then some (.if_icmp .eq 61, 596, 654) else none))) else (bif Nat.blt pc 597 then (bif Nat.beq pc 596 then some (.iconst 0, 597, 0) else none) else (bif Nat.blt pc 598 then (bif Nat.beq pc 597 then some (.ireturn, 598, 0) else none) else (bif Nat.beq pc 598 then some (.aload_n 1, 599, 0) else none)))) else (bif Nat.blt pc 602 then (bif Nat.blt pc 600 then (bif Nat.beq pc 599 then some (.aload_n 0, 600, 0) else none) else (bif Nat.blt pc 601 then (bif Nat.beq pc 600 then some (.iload_n 3, 601, 0) else none) else (bif Nat.beq pc 601 then some (.iconst 1, 602, 0) else none))) else (bif Nat.blt pc 604 then (bif Nat.blt pc 603 then (bif Nat.beq pc 602 then some (.iadd, 603, 0) else none) else (bif Nat.beq pc 603 then some (.iaload, 604, 0) else none)) else (bif Nat.blt pc 607 then (bif Nat.beq pc 604 then some (.invokevirtual 93, 607, 0) else none) else (bif Nat.beq pc 607 then some (.aload_n 2, 608, 0) else none))))) else (bif Nat.blt pc 616 then (bif Nat.blt pc 611 then (bif Nat.blt pc 609 then (bif Nat.beq pc 608 then some (.aload_n 0, 609, 0) else none) else (bif Nat.blt pc 610 then (bif Nat.beq pc 609 then some (.iload_n 3, 610, 0) else none) else (bif Nat.beq pc 610 then some (.iconst 1, 611, 0) else none))) else (bif Nat.blt pc 612 then (bif Nat.beq pc 611 then some (.iadd, 612, 0) else none) else (bif Nat.blt pc 613 then (bif Nat.beq pc 612 then some (.iaload, 613, 0) else none) else (bif Nat.beq pc 613 then some (.invokevirtual 96, 616, 0) else none)))) else (bif Nat.blt pc 621 then (bif Nat.blt pc 619 then (bif Nat.beq pc 616 then some (.if_icmp .eq 38, 619, 654) else none) else (bif Nat.blt pc 620 then (bif Nat.beq pc 619 then some (.iconst 0, 620, 0) else none) else (bif Nat.beq pc 620 then some (.ireturn, 621, 0) else none))) else (bif Nat.blt pc 623 then (bif Nat.blt pc 622 then (bif Nat.beq pc 621 then some (.aload_n 1, 622, 0) else none) else (bif Nat.beq pc 622 then some (.aload_n 0, 623, 0) else none)) else (bif Nat.blt pc 624 then (bif Nat.beq pc 623 then some (.iload_n 3, 624, 0) else none) else (bif Nat.beq pc 624 then some (.iconst 1, 625, 0) else none)))))) else (bif Nat.blt pc 640 then (bif Nat.blt pc 631 then (bif Nat.blt pc 628 then (bif Nat.blt pc 626 then (bif Nat.beq pc 625 then some (.iadd, 626, 0) else none) else (bif Nat.blt pc 627 then (bif Nat.beq pc 626 then some (.iaload, 627, 0) else none) else (bif Nat.beq pc 627 then some (.aload_n 0, 628, 0) else none))) else (bif Nat.blt pc 629 then (bif Nat.beq pc 628 then some (.iload_n 3, 629, 0) else none) else (bif Nat.blt pc 630 then (bif Nat.beq pc 629 then some (.iconst 2, 630, 0) else none) else (bif Nat.beq pc 630 then some (.iadd, 631, 0) else none)))) else (bif Nat.blt pc 636 then (bif Nat.blt pc 632 then (bif Nat.beq pc 631 then some (.iaload, 632, 0) else none) else (bif Nat.blt pc 635 then (bif Nat.beq pc 632 then some (.invokevirtual 97, 635, 0) else none) else (bif Nat.beq pc 635 then some (.aload_n 2, 636, 0) else none))) else (bif Nat.blt pc 638 then (bif Nat.blt pc 637 then (bif Nat.beq pc 636 then some (.aload_n 0, 637, 0) else none) else (bif Nat.beq pc 637 then some (.iload_n 3, 638, 0) else none)) else (bif Nat.blt pc 639 then (bif Nat.beq pc 638 then some (.iconst 1, 639, 0) else none) else (bif Nat.beq pc 639 then some (.iadd, 640, 0) else none))))) else (bif Nat.blt pc 649 then (bif Nat.blt pc 643 then (bif Nat.blt pc 641 then (bif Nat.beq pc 640 then some (.iaload, 641, 0) else none) else (bif Nat.blt pc 642 then (bif Nat.beq pc 641 then some (.aload_n 0, 642, 0) else none) else (bif Nat.beq pc 642 then some (.iload_n 3, 643, 0) else none))) else (bif Nat.blt pc 645 then (bif Nat.blt pc 644 then (bif Nat.beq pc 643 then some (.iconst 2, 644, 0) else none) else (bif Nat.beq pc 644 then some (.iadd, 645, 0) else none)) else (bif Nat.blt pc 646 then (bif Nat.beq pc 645 then some (.iaload, 646, 0) else none) else (bif Nat.beq pc 646 then some (.invokevirtual 100, 649, 0) else none)))) else (bif Nat.blt pc 654 then (bif Nat.blt pc 652 then (bif Nat.beq pc 649 then some (.if_icmp .eq 5, 652, 654) else none) else (bif Nat.blt pc 653 then (bif Nat.beq pc 652 then some (.iconst 0, 653, 0) else none) else (bif Nat.beq pc 653 then some (.ireturn, 654, 0) else none))) else (bif Nat.blt pc 660 then (bif Nat.blt pc 657 then (bif Nat.beq pc 654 then some (.iinc 3 4, 657, 0) else none) else (bif Nat.beq pc 657 then some (.goto (-639), 660, 18) else none)) else (bif Nat.blt pc 661 then (bif Nat.beq pc 660 then some (.iconst 1, 661, 0) else none) else (bif Nat.beq pc 661 then some (.ireturn, 662, 0) else none))))))))))
noncomputable def am_cdT (mi pc : Nat) : Option (Instr × Nat × Nat) := (bif Nat.blt mi 77 then (bif Nat.blt mi 38 then (bif Nat.blt mi 19 then (bif Nat.blt mi 9 then (bif Nat.blt mi 4 then (bif Nat.blt mi 2 then (bif Nat.blt mi 1 then (bif Nat.beq mi 0 then am_cd_0 pc else none) else (bif Nat.beq mi 1 then am_cd_1 pc else none)) else (bif Nat.blt mi 3 then (bif Nat.beq mi 2 then am_cd_2 pc else none) else (bif Nat.beq mi 3 then am_cd_3 pc else none))) else (bif Nat.blt mi 6 then (bif Nat.blt mi 5 then (bif Nat.beq mi 4 then am_cd_4 pc else none) else (bif Nat.beq mi 5 then am_cd_5 pc else none)) else (bif Nat.blt mi 7 then (bif Nat.beq mi 6 then am_cd_6 pc else none) else (bif Nat.blt mi 8 then (bif Nat.beq mi 7 then am_cd_7 pc else none) else (bif Nat.beq mi 8 then am_cd_8 pc else none))))) else (bif Nat.blt mi 14 then (bif Nat.blt mi 11 then (bif Nat.blt mi 10 then (bif Nat.beq mi 9 then am_cd_9 pc else none) else (bif Nat.beq mi 10 then am_cd_10 pc else none)) else (bif Nat.blt mi 12 then (bif Nat.beq mi 11 then am_cd_11 pc else none) else (bif Nat.blt mi 13 then (bif Nat.beq mi 12 then am_cd_12 pc else none) else (bif Nat.beq mi 13 then am_cd_13 pc else none)))) else (bif Nat.blt mi 16 then (bif Nat.blt mi 15 then (bif Nat.beq mi 14 then am_cd_14 pc else none) else (bif Nat.beq mi 15 then am_cd_15 pc else none)) else (bif Nat.blt mi 17 then (bif Nat.beq mi 16 then am_cd_16 pc else none) else (bif Nat.blt mi 18 then (bif Nat.beq mi 17 then am_cd_17 pc else none) else (bif Nat.beq mi 18 then am_cd_18 pc else none)))))) else (bif Nat.blt mi 28 then (bif Nat.blt mi 23 then (bif Nat.blt mi 21 then (bif Nat.blt mi 20 then (bif Nat.beq mi 19 then am_cd_19 pc else none) else (bif Nat.beq mi 20 then am_cd_20 pc else none)) else (bif Nat.blt mi 22 then (bif Nat.beq mi 21 then am_cd_21 pc else none) else (bif Nat.beq mi 22 then am_cd_22 pc else none))) else (bif Nat.blt mi 25 then (bif Nat.blt mi 24 then (bif Nat.beq mi 23 then am_cd_23 pc else none) else (bif Nat.beq mi 24 then am_cd_24 pc else none)) else (bif Nat.blt mi 26 then (bif Nat.beq mi 25 then am_cd_25 pc else none) else (bif Nat.blt mi 27 then (bif Nat.beq mi 26 then am_cd_26 pc else none) else (bif Nat.beq mi 27 then am_cd_27 pc else none))))) else (bif Nat.blt mi 33 then (bif Nat.blt mi 30 then (bif Nat.blt mi 29 then (bif Nat.beq mi 28 then am_cd_28 pc else none) else (bif Nat.beq mi 29 then am_cd_29 pc else none)) else (bif Nat.blt mi 31 then (bif Nat.beq mi 30 then am_cd_30 pc else none) else (bif Nat.blt mi 32 then (bif Nat.beq mi 31 then am_cd_31 pc else none) else (bif Nat.beq mi 32 then am_cd_32 pc else none)))) else (bif Nat.blt mi 35 then (bif Nat.blt mi 34 then (bif Nat.beq mi 33 then am_cd_33 pc else none) else (bif Nat.beq mi 34 then am_cd_34 pc else none)) else (bif Nat.blt mi 36 then (bif Nat.beq mi 35 then am_cd_35 pc else none) else (bif Nat.blt mi 37 then (bif Nat.beq mi 36 then am_cd_36 pc else none) else (bif Nat.beq mi 37 then am_cd_37 pc else none))))))) else (bif Nat.blt mi 57 then (bif Nat.blt mi 47 then (bif Nat.blt mi 42 then (bif Nat.blt mi 40 then (bif Nat.blt mi 39 then (bif Nat.beq mi 38 then am_cd_38 pc else none) else (bif Nat.beq mi 39 then am_cd_39 pc else none)) else (bif Nat.blt mi 41 then (bif Nat.beq mi 40 then am_cd_40 pc else none) else (bif Nat.beq mi 41 then am_cd_41 pc else none))) else (bif Nat.blt mi 44 then (bif Nat.blt mi 43 then (bif Nat.beq mi 42 then am_cd_42 pc else none) else (bif Nat.beq mi 43 then am_cd_43 pc else none)) else (bif Nat.blt mi 45 then (bif Nat.beq mi 44 then am_cd_44 pc else none) else (bif Nat.blt mi 46 then (bif Nat.beq mi 45 then am_cd_45 pc else none) else (bif Nat.beq mi 46 then am_cd_46 pc else none))))) else (bif Nat.blt mi 52 then (bif Nat.blt mi 49 then (bif Nat.blt mi 48 then (bif Nat.beq mi 47 then am_cd_47 pc else none) else (bif Nat.beq mi 48 then am_cd_48 pc else none)) else (bif Nat.blt mi 50 then (bif Nat.beq mi 49 then am_cd_49 pc else none) else (bif Nat.blt mi 51 then (bif Nat.beq mi 50 then am_cd_50 pc else none) else (bif Nat.beq mi 51 then am_cd_51 pc else none)))) else (bif Nat.blt mi 54 then (bif Nat.blt mi 53 then (bif Nat.beq mi 52 then am_cd_52 pc else none) else (bif Nat.beq mi 53 then am_cd_53 pc else none)) else (bif Nat.blt mi 55 then (bif Nat.beq mi 54 then am_cd_54 pc else none) else (bif Nat.blt mi 56 then (bif Nat.beq mi 55 then am_cd_55 pc else none) else (bif Nat.beq mi 56 then am_cd_56 pc else none)))))) else (bif Nat.blt mi 67 then (bif Nat.blt mi 62 then (bif Nat.blt mi 59 then (bif Nat.blt mi 58 then (bif Nat.beq mi 57 then am_cd_57 pc else none) else (bif Nat.beq mi 58 then am_cd_58 pc else none)) else (bif Nat.blt mi 60 then (bif Nat.beq mi 59 then am_cd_59 pc else none) else (bif Nat.blt mi 61 then (bif Nat.beq mi 60 then am_cd_60 pc else none) else (bif Nat.beq mi 61 then am_cd_61 pc else none)))) else (bif Nat.blt mi 64 then (bif Nat.blt mi 63 then (bif Nat.beq mi 62 then am_cd_62 pc else none) else (bif Nat.beq mi 63 then am_cd_63 pc else none)) else (bif Nat.blt mi 65 then (bif Nat.beq mi 64 then am_cd_64 pc else none) else (bif Nat.blt mi 66 then (bif Nat.beq mi 65 then am_cd_65 pc else none) else (bif Nat.beq mi 66 then am_cd_66 pc else none))))) else (bif Nat.blt mi 72 then (bif Nat.blt mi 69 then (bif Nat.blt mi 68 then (bif Nat.beq mi 67 then am_cd_67 pc else none) else (bif Nat.beq mi 68 then am_cd_68 pc else none)) else (bif Nat.blt mi 70 then (bif Nat.beq mi 69 then am_cd_69 pc else none) else (bif Nat.blt mi 71 then (bif Nat.beq mi 70 then am_cd_70 pc else none) else (bif Nat.beq mi 71 then am_cd_71 pc else none)))) else (bif Nat.blt mi 74 then (bif Nat.blt mi 73 then (bif Nat.beq mi 72 then am_cd_72 pc else none) else (bif Nat.beq mi 73 then am_cd_73 pc else none)) else (bif Nat.blt mi 75 then (bif Nat.beq mi 74 then am_cd_74 pc else none) else (bif Nat.blt mi 76 then (bif Nat.beq mi 75 then am_cd_75 pc else none) else (bif Nat.beq mi 76 then am_cd_76 pc else none)))))))) else (bif Nat.blt mi 116 then (bif Nat.blt mi 96 then (bif Nat.blt mi 86 then (bif Nat.blt mi 81 then (bif Nat.blt mi 79 then (bif Nat.blt mi 78 then (bif Nat.beq mi 77 then am_cd_77 pc else none) else (bif Nat.beq mi 78 then am_cd_78 pc else none)) else (bif Nat.blt mi 80 then (bif Nat.beq mi 79 then am_cd_79 pc else none) else (bif Nat.beq mi 80 then am_cd_80 pc else none))) else (bif Nat.blt mi 83 then (bif Nat.blt mi 82 then (bif Nat.beq mi 81 then am_cd_81 pc else none) else (bif Nat.beq mi 82 then am_cd_82 pc else none)) else (bif Nat.blt mi 84 then (bif Nat.beq mi 83 then am_cd_83 pc else none) else (bif Nat.blt mi 85 then (bif Nat.beq mi 84 then am_cd_84 pc else none) else (bif Nat.beq mi 85 then am_cd_85 pc else none))))) else (bif Nat.blt mi 91 then (bif Nat.blt mi 88 then (bif Nat.blt mi 87 then (bif Nat.beq mi 86 then am_cd_86 pc else none) else (bif Nat.beq mi 87 then am_cd_87 pc else none)) else (bif Nat.blt mi 89 then (bif Nat.beq mi 88 then am_cd_88 pc else none) else (bif Nat.blt mi 90 then (bif Nat.beq mi 89 then am_cd_89 pc else none) else (bif Nat.beq mi 90 then am_cd_90 pc else none)))) else (bif Nat.blt mi 93 then (bif Nat.blt mi 92 then (bif Nat.beq mi 91 then am_cd_91 pc else none) else (bif Nat.beq mi 92 then am_cd_92 pc else none)) else (bif Nat.blt mi 94 then (bif Nat.beq mi 93 then am_cd_93 pc else none) else (bif Nat.blt mi 95 then (bif Nat.beq mi 94 then am_cd_94 pc else none) else (bif Nat.beq mi 95 then am_cd_95 pc else none)))))) else (bif Nat.blt mi 106 then (bif Nat.blt mi 101 then (bif Nat.blt mi 98 then (bif Nat.blt mi 97 then (bif Nat.beq mi 96 then am_cd_96 pc else none) else (bif Nat.beq mi 97 then am_cd_97 pc else none)) else (bif Nat.blt mi 99 then (bif Nat.beq mi 98 then am_cd_98 pc else none) else (bif Nat.blt mi 100 then (bif Nat.beq mi 99 then am_cd_99 pc else none) else (bif Nat.beq mi 100 then am_cd_100 pc else none)))) else (bif Nat.blt mi 103 then (bif Nat.blt mi 102 then (bif Nat.beq mi 101 then am_cd_101 pc else none) else (bif Nat.beq mi 102 then am_cd_102 pc else none)) else (bif Nat.blt mi 104 then (bif Nat.beq mi 103 then am_cd_103 pc else none) else (bif Nat.blt mi 105 then (bif Nat.beq mi 104 then am_cd_104 pc else none) else (bif Nat.beq mi 105 then am_cd_105 pc else none))))) else (bif Nat.blt mi 111 then (bif Nat.blt mi 108 then (bif Nat.blt mi 107 then (bif Nat.beq mi 106 then am_cd_106 pc else none) else (bif Nat.beq mi 107 then am_cd_107 pc else none)) else (bif Nat.blt mi 109 then (bif Nat.beq mi 108 then am_cd_108 pc else none) else (bif Nat.blt mi 110 then (bif Nat.beq mi 109 then am_cd_109 pc else none) else (bif Nat.beq mi 110 then am_cd_110 pc else none)))) else (bif Nat.blt mi 113 then (bif Nat.blt mi 112 then (bif Nat.beq mi 111 then am_cd_111 pc else none) else (bif Nat.beq mi 112 then am_cd_112 pc else none)) else (bif Nat.blt mi 114 then (bif Nat.beq mi 113 then am_cd_113 pc else none) else (bif Nat.blt mi 115 then (bif Nat.beq mi 114 then am_cd_114 pc else none) else (bif Nat.beq mi 115 then am_cd_115 pc else none))))))) else (bif Nat.blt mi 135 then (bif Nat.blt mi 125 then (bif Nat.blt mi 120 then (bif Nat.blt mi 118 then (bif Nat.blt mi 117 then (bif Nat.beq mi 116 then am_cd_116 pc else none) else (bif Nat.beq mi 117 then am_cd_117 pc else none)) else (bif Nat.blt mi 119 then (bif Nat.beq mi 118 then am_cd_118 pc else none) else (bif Nat.beq mi 119 then am_cd_119 pc else none))) else (bif Nat.blt mi 122 then (bif Nat.blt mi 121 then (bif Nat.beq mi 120 then am_cd_120 pc else none) else (bif Nat.beq mi 121 then am_cd_121 pc else none)) else (bif Nat.blt mi 123 then (bif Nat.beq mi 122 then am_cd_122 pc else none) else (bif Nat.blt mi 124 then (bif Nat.beq mi 123 then am_cd_123 pc else none) else (bif Nat.beq mi 124 then am_cd_124 pc else none))))) else (bif Nat.blt mi 130 then (bif Nat.blt mi 127 then (bif Nat.blt mi 126 then (bif Nat.beq mi 125 then am_cd_125 pc else none) else (bif Nat.beq mi 126 then am_cd_126 pc else none)) else (bif Nat.blt mi 128 then (bif Nat.beq mi 127 then am_cd_127 pc else none) else (bif Nat.blt mi 129 then (bif Nat.beq mi 128 then am_cd_128 pc else none) else (bif Nat.beq mi 129 then am_cd_129 pc else none)))) else (bif Nat.blt mi 132 then (bif Nat.blt mi 131 then (bif Nat.beq mi 130 then am_cd_130 pc else none) else (bif Nat.beq mi 131 then am_cd_131 pc else none)) else (bif Nat.blt mi 133 then (bif Nat.beq mi 132 then am_cd_132 pc else none) else (bif Nat.blt mi 134 then (bif Nat.beq mi 133 then am_cd_133 pc else none) else (bif Nat.beq mi 134 then am_cd_134 pc else none)))))) else (bif Nat.blt mi 145 then (bif Nat.blt mi 140 then (bif Nat.blt mi 137 then (bif Nat.blt mi 136 then (bif Nat.beq mi 135 then am_cd_135 pc else none) else (bif Nat.beq mi 136 then am_cd_136 pc else none)) else (bif Nat.blt mi 138 then (bif Nat.beq mi 137 then am_cd_137 pc else none) else (bif Nat.blt mi 139 then (bif Nat.beq mi 138 then am_cd_138 pc else none) else (bif Nat.beq mi 139 then am_cd_139 pc else none)))) else (bif Nat.blt mi 142 then (bif Nat.blt mi 141 then (bif Nat.beq mi 140 then am_cd_140 pc else none) else (bif Nat.beq mi 141 then am_cd_141 pc else none)) else (bif Nat.blt mi 143 then (bif Nat.beq mi 142 then am_cd_142 pc else none) else (bif Nat.blt mi 144 then (bif Nat.beq mi 143 then am_cd_143 pc else none) else (bif Nat.beq mi 144 then am_cd_144 pc else none))))) else (bif Nat.blt mi 150 then (bif Nat.blt mi 147 then (bif Nat.blt mi 146 then (bif Nat.beq mi 145 then am_cd_145 pc else none) else (bif Nat.beq mi 146 then am_cd_146 pc else none)) else (bif Nat.blt mi 148 then (bif Nat.beq mi 147 then am_cd_147 pc else none) else (bif Nat.blt mi 149 then (bif Nat.beq mi 148 then am_cd_148 pc else none) else (bif Nat.beq mi 149 then am_cd_149 pc else none)))) else (bif Nat.blt mi 152 then (bif Nat.blt mi 151 then (bif Nat.beq mi 150 then am_cd_150 pc else none) else (bif Nat.beq mi 151 then am_cd_151 pc else none)) else (bif Nat.blt mi 153 then (bif Nat.beq mi 152 then am_cd_152 pc else none) else (bif Nat.blt mi 154 then (bif Nat.beq mi 153 then am_cd_153 pc else none) else (bif Nat.beq mi 154 then am_cd_154 pc else none)))))))))
noncomputable def am_nM : Nat := 155
noncomputable def am_nC : Nat := 662
noncomputable def am_cd (mi pc : Nat) : Option (Instr × Nat × Nat) := am_b2 am_nM am_nC am_cdT mi pc
end
section
/-- a class's row, with a field of it -/
noncomputable def am_cf (ci : Nat) (g : vw_C → Bool) : Bool := match am_cl[ci]? with
  | none => false
  | some q => g q
theorem am_cf_of {ci : Nat} {g : vw_C → Bool} (h : am_cf ci g = true) : ∃ C T N, am_cl[ci]? = some (C, T, N) ∧ g (C, T, N) = true := by
  unfold am_cf at h
  split at h
  · cases h
  · next q hq => exact ⟨q.1, q.2.1, q.2.2, hq, h⟩
/-- a final field is written in a constructor of its owner alone -/
noncomputable def am_cx (mi : Nat) : Instr → Bool
  | .putfield j => match am_kP (am_mP mi) j with
    | some (ci, k, _) => am_cf ci fun q => !(q.2.1 k).2.2.2 || (am_mI mi && decide ((q.2.1 k).1 = am_pN (am_mP mi)))
    | none => true
  | _ => true
/-- a table's row against the bytes -/
noncomputable def am_cq (mi pc : Nat) (v : Instr × Nat × Nat) : Bool := match decode (am_mB mi) pc with
  | .ok (j, n) => decide (j = v.1) && am_ck (am_mL mi) pc v.2.1 v.2.2 n v.1 && am_cx mi v.1
  | _ => false
def am_cqr (a n : Nat) : Prop := ∀ k, k < n → ∀ pc, pc < am_nC → am_oq (am_cdT (a + k) pc) (am_cq (a + k) pc) = true
theorem am_cqr_0 : am_cqr 0 8 := by unfold am_cqr; decide +kernel
theorem am_cqr_8 : am_cqr 8 8 := by unfold am_cqr; decide +kernel
theorem am_cqr_16 : am_cqr 16 8 := by unfold am_cqr; decide +kernel
theorem am_cqr_24 : am_cqr 24 8 := by unfold am_cqr; decide +kernel
theorem am_cqr_32 : am_cqr 32 8 := by unfold am_cqr; decide +kernel
theorem am_cqr_40 : am_cqr 40 8 := by unfold am_cqr; decide +kernel
theorem am_cqr_48 : am_cqr 48 8 := by unfold am_cqr; decide +kernel
theorem am_cqr_56 : am_cqr 56 8 := by unfold am_cqr; decide +kernel
theorem am_cqr_64 : am_cqr 64 8 := by unfold am_cqr; decide +kernel
theorem am_cqr_72 : am_cqr 72 8 := by unfold am_cqr; decide +kernel
theorem am_cqr_80 : am_cqr 80 8 := by unfold am_cqr; decide +kernel
theorem am_cqr_88 : am_cqr 88 8 := by unfold am_cqr; decide +kernel
theorem am_cqr_96 : am_cqr 96 8 := by unfold am_cqr; decide +kernel
theorem am_cqr_104 : am_cqr 104 8 := by unfold am_cqr; decide +kernel
theorem am_cqr_112 : am_cqr 112 8 := by unfold am_cqr; decide +kernel
theorem am_cqr_120 : am_cqr 120 8 := by unfold am_cqr; decide +kernel
theorem am_cqr_128 : am_cqr 128 8 := by unfold am_cqr; decide +kernel
theorem am_cqr_136 : am_cqr 136 8 := by unfold am_cqr; decide +kernel
theorem am_cqr_144 : am_cqr 144 8 := by unfold am_cqr; decide +kernel
theorem am_cqr_152 : am_cqr 152 3 := by unfold am_cqr; decide +kernel
theorem am_cq_all : ∀ mi, mi < am_nM → ∀ pc, pc < am_nC → am_oq (am_cdT mi pc) (am_cq mi pc) = true := by
  intro mi h pc hpc
  have h : mi < 155 := h
  by_cases h0 : mi < 8
  · have := am_cqr_0 (mi - 0) (by omega) pc hpc
    rw [show 0 + (mi - 0) = mi by omega] at this
    exact this
  by_cases h8 : mi < 16
  · have := am_cqr_8 (mi - 8) (by omega) pc hpc
    rw [show 8 + (mi - 8) = mi by omega] at this
    exact this
  by_cases h16 : mi < 24
  · have := am_cqr_16 (mi - 16) (by omega) pc hpc
    rw [show 16 + (mi - 16) = mi by omega] at this
    exact this
  by_cases h24 : mi < 32
  · have := am_cqr_24 (mi - 24) (by omega) pc hpc
    rw [show 24 + (mi - 24) = mi by omega] at this
    exact this
  by_cases h32 : mi < 40
  · have := am_cqr_32 (mi - 32) (by omega) pc hpc
    rw [show 32 + (mi - 32) = mi by omega] at this
    exact this
  by_cases h40 : mi < 48
  · have := am_cqr_40 (mi - 40) (by omega) pc hpc
    rw [show 40 + (mi - 40) = mi by omega] at this
    exact this
  by_cases h48 : mi < 56
  · have := am_cqr_48 (mi - 48) (by omega) pc hpc
    rw [show 48 + (mi - 48) = mi by omega] at this
    exact this
  by_cases h56 : mi < 64
  · have := am_cqr_56 (mi - 56) (by omega) pc hpc
    rw [show 56 + (mi - 56) = mi by omega] at this
    exact this
  by_cases h64 : mi < 72
  · have := am_cqr_64 (mi - 64) (by omega) pc hpc
    rw [show 64 + (mi - 64) = mi by omega] at this
    exact this
  by_cases h72 : mi < 80
  · have := am_cqr_72 (mi - 72) (by omega) pc hpc
    rw [show 72 + (mi - 72) = mi by omega] at this
    exact this
  by_cases h80 : mi < 88
  · have := am_cqr_80 (mi - 80) (by omega) pc hpc
    rw [show 80 + (mi - 80) = mi by omega] at this
    exact this
  by_cases h88 : mi < 96
  · have := am_cqr_88 (mi - 88) (by omega) pc hpc
    rw [show 88 + (mi - 88) = mi by omega] at this
    exact this
  by_cases h96 : mi < 104
  · have := am_cqr_96 (mi - 96) (by omega) pc hpc
    rw [show 96 + (mi - 96) = mi by omega] at this
    exact this
  by_cases h104 : mi < 112
  · have := am_cqr_104 (mi - 104) (by omega) pc hpc
    rw [show 104 + (mi - 104) = mi by omega] at this
    exact this
  by_cases h112 : mi < 120
  · have := am_cqr_112 (mi - 112) (by omega) pc hpc
    rw [show 112 + (mi - 112) = mi by omega] at this
    exact this
  by_cases h120 : mi < 128
  · have := am_cqr_120 (mi - 120) (by omega) pc hpc
    rw [show 120 + (mi - 120) = mi by omega] at this
    exact this
  by_cases h128 : mi < 136
  · have := am_cqr_128 (mi - 128) (by omega) pc hpc
    rw [show 128 + (mi - 128) = mi by omega] at this
    exact this
  by_cases h136 : mi < 144
  · have := am_cqr_136 (mi - 136) (by omega) pc hpc
    rw [show 136 + (mi - 136) = mi by omega] at this
    exact this
  by_cases h144 : mi < 152
  · have := am_cqr_144 (mi - 144) (by omega) pc hpc
    rw [show 144 + (mi - 144) = mi by omega] at this
    exact this
  by_cases h152 : mi < 155
  · have := am_cqr_152 (mi - 152) (by omega) pc hpc
    rw [show 152 + (mi - 152) = mi by omega] at this
    exact this
  omega
theorem am_cd_ok {mi pc nx t : Nat} {i : Instr} (hd : am_cd mi pc = some (i, nx, t)) : ∃ n, decode (am_mB mi) pc = .ok (i, n) ∧ am_ck (am_mL mi) pc nx t n i = true ∧ am_cx mi i = true := by
  have h := am_b2_all am_cq_all hd
  unfold am_cq at h
  split at h
  · next j n hdec =>
    rw [Bool.and_eq_true, Bool.and_eq_true] at h
    have e : j = i := of_decide_eq_true h.1.1
    subst e
    exact ⟨n, hdec, h.1.2, h.2⟩
  · cases h
end
section
/-! where the words lie, laid by a program out of the Statement -/
noncomputable def am_cP (c : Nat) : Nat × Nat := (bif Nat.blt c 5 then (bif Nat.blt c 2 then (bif Nat.blt c 1 then (1042, 1025) else (1050, 1026)) else (bif Nat.blt c 3 then (1073, 1027) else (bif Nat.blt c 4 then (1087, 1028) else (1100, 1029)))) else (bif Nat.blt c 8 then (bif Nat.blt c 6 then (1119, 1030) else (bif Nat.blt c 7 then (1132, 1031) else (1138, 1032))) else (bif Nat.blt c 9 then (1169, 1033) else (bif Nat.blt c 10 then (1206, 1034) else (3289, 1035)))))
noncomputable def am_lp_0 (k : Nat) : Nat := (bif Nat.blt k 3 then (bif Nat.blt k 1 then 1250 else (bif Nat.blt k 2 then 1252 else 1254)) else (bif Nat.blt k 5 then (bif Nat.blt k 4 then 1256 else 1258) else (bif Nat.blt k 6 then 1260 else 1262)))
noncomputable def am_lp_1 (k : Nat) : Nat := (bif Nat.blt k 2 then (bif Nat.blt k 1 then 1060 else 1062) else (bif Nat.blt k 3 then 1064 else (bif Nat.blt k 4 then 1066 else 1068)))
noncomputable def am_lp_2 (k : Nat) : Nat := (bif Nat.blt k 1 then 1080 else 1082)
noncomputable def am_lp_3 (k : Nat) : Nat := (bif Nat.blt k 1 then 1094 else 1096)
noncomputable def am_lp_4 (k : Nat) : Nat := (bif Nat.blt k 2 then (bif Nat.blt k 1 then 1109 else 1111) else (bif Nat.blt k 3 then 1113 else 1115))
noncomputable def am_lp_5 (k : Nat) : Nat := (bif Nat.blt k 1 then 1126 else 1128)
noncomputable def am_lp_6 (k : Nat) : Nat := (bif Nat.blt k 1 then 1236 else (bif Nat.blt k 2 then 1238 else 1240))
noncomputable def am_lp_7 (k : Nat) : Nat := (bif Nat.blt k 4 then (bif Nat.blt k 2 then (bif Nat.blt k 1 then 1151 else 1153) else (bif Nat.blt k 3 then 1155 else 1157)) else (bif Nat.blt k 6 then (bif Nat.blt k 5 then 1159 else 1161) else (bif Nat.blt k 7 then 1163 else 1165)))
noncomputable def am_lp_8 (k : Nat) : Nat := (bif Nat.blt k 5 then (bif Nat.blt k 2 then (bif Nat.blt k 1 then 1184 else 1186) else (bif Nat.blt k 3 then 1188 else (bif Nat.blt k 4 then 1190 else 1192))) else (bif Nat.blt k 7 then (bif Nat.blt k 6 then 1194 else 1196) else (bif Nat.blt k 8 then 1198 else (bif Nat.blt k 9 then 1200 else 1202))))
noncomputable def am_lp_9 (k : Nat) : Nat := (bif Nat.blt k 3 then (bif Nat.blt k 1 then 1217 else (bif Nat.blt k 2 then 1219 else 1221)) else (bif Nat.blt k 4 then 1223 else (bif Nat.blt k 5 then 1225 else 1227)))
noncomputable def am_lp_10 (k : Nat) : Nat := (bif Nat.blt k 14 then (bif Nat.blt k 7 then (bif Nat.blt k 3 then (bif Nat.blt k 1 then 4107 else (bif Nat.blt k 2 then 4109 else 4111)) else (bif Nat.blt k 5 then (bif Nat.blt k 4 then 4113 else 4115) else (bif Nat.blt k 6 then 4117 else 4119))) else (bif Nat.blt k 10 then (bif Nat.blt k 8 then 4121 else (bif Nat.blt k 9 then 4123 else 4125)) else (bif Nat.blt k 12 then (bif Nat.blt k 11 then 4127 else 4129) else (bif Nat.blt k 13 then 4131 else 4133)))) else (bif Nat.blt k 21 then (bif Nat.blt k 17 then (bif Nat.blt k 15 then 4135 else (bif Nat.blt k 16 then 4137 else 4139)) else (bif Nat.blt k 19 then (bif Nat.blt k 18 then 4141 else 4143) else (bif Nat.blt k 20 then 4145 else 4147))) else (bif Nat.blt k 25 then (bif Nat.blt k 23 then (bif Nat.blt k 22 then 4149 else 4151) else (bif Nat.blt k 24 then 4153 else 4155)) else (bif Nat.blt k 27 then (bif Nat.blt k 26 then 4157 else 4159) else (bif Nat.blt k 28 then 4161 else 4163)))))
noncomputable def am_lp (c k : Nat) : Nat := (bif Nat.blt c 5 then (bif Nat.blt c 2 then (bif Nat.blt c 1 then am_lp_0 k else am_lp_1 k) else (bif Nat.blt c 3 then am_lp_2 k else (bif Nat.blt c 4 then am_lp_3 k else am_lp_4 k))) else (bif Nat.blt c 8 then (bif Nat.blt c 6 then am_lp_5 k else (bif Nat.blt c 7 then am_lp_6 k else am_lp_7 k)) else (bif Nat.blt c 9 then am_lp_8 k else (bif Nat.blt c 10 then am_lp_9 k else am_lp_10 k))))
noncomputable def am_pIt (j : Nat) : Nat := (bif Nat.blt j 77 then (bif Nat.blt j 38 then (bif Nat.blt j 19 then (bif Nat.blt j 9 then (bif Nat.blt j 4 then (bif Nat.blt j 2 then (bif Nat.blt j 1 then 1044 else 2050) else (bif Nat.blt j 3 then 2058 else 2287)) else (bif Nat.blt j 6 then (bif Nat.blt j 5 then 3079 else 3082) else (bif Nat.blt j 7 then 3090 else (bif Nat.blt j 8 then 3139 else 3143)))) else (bif Nat.blt j 14 then (bif Nat.blt j 11 then (bif Nat.blt j 10 then 3147 else 3152) else (bif Nat.blt j 12 then 3157 else (bif Nat.blt j 13 then 3161 else 3170))) else (bif Nat.blt j 16 then (bif Nat.blt j 15 then 3175 else 3200) else (bif Nat.blt j 17 then 3208 else (bif Nat.blt j 18 then 3220 else 3232))))) else (bif Nat.blt j 28 then (bif Nat.blt j 23 then (bif Nat.blt j 21 then (bif Nat.blt j 20 then 3240 else 3248) else (bif Nat.blt j 22 then 3258 else 3266)) else (bif Nat.blt j 25 then (bif Nat.blt j 24 then 3281 else 1052) else (bif Nat.blt j 26 then 2054 else (bif Nat.blt j 27 then 2078 else 2082)))) else (bif Nat.blt j 33 then (bif Nat.blt j 30 then (bif Nat.blt j 29 then 2086 else 2095) else (bif Nat.blt j 31 then 2109 else (bif Nat.blt j 32 then 2151 else 2164))) else (bif Nat.blt j 35 then (bif Nat.blt j 34 then 2251 else 2274) else (bif Nat.blt j 36 then 2278 else (bif Nat.blt j 37 then 1075 else 3075)))))) else (bif Nat.blt j 57 then (bif Nat.blt j 47 then (bif Nat.blt j 42 then (bif Nat.blt j 40 then (bif Nat.blt j 39 then 3086 else 3127) else (bif Nat.blt j 41 then 3131 else 1089)) else (bif Nat.blt j 44 then (bif Nat.blt j 43 then 2282 else 3212) else (bif Nat.blt j 45 then 3217 else (bif Nat.blt j 46 then 3224 else 3229)))) else (bif Nat.blt j 52 then (bif Nat.blt j 49 then (bif Nat.blt j 48 then 3236 else 1102) else (bif Nat.blt j 50 then 3244 else (bif Nat.blt j 51 then 3252 else 3262))) else (bif Nat.blt j 54 then (bif Nat.blt j 53 then 1121 else 3270) else (bif Nat.blt j 55 then 3276 else (bif Nat.blt j 56 then 3285 else 1134))))) else (bif Nat.blt j 67 then (bif Nat.blt j 62 then (bif Nat.blt j 59 then (bif Nat.blt j 58 then 2062 else 2091) else (bif Nat.blt j 60 then 2156 else (bif Nat.blt j 61 then 2176 else 2194))) else (bif Nat.blt j 64 then (bif Nat.blt j 63 then 2208 else 2230) else (bif Nat.blt j 65 then 2244 else (bif Nat.blt j 66 then 3094 else 3099)))) else (bif Nat.blt j 72 then (bif Nat.blt j 69 then (bif Nat.blt j 68 then 3107 else 1140) else (bif Nat.blt j 70 then 2066 else (bif Nat.blt j 71 then 2159 else 2168))) else (bif Nat.blt j 74 then (bif Nat.blt j 73 then 2179 else 2187) else (bif Nat.blt j 75 then 3102 else (bif Nat.blt j 76 then 3110 else 3115))))))) else (bif Nat.blt j 116 then (bif Nat.blt j 96 then (bif Nat.blt j 86 then (bif Nat.blt j 81 then (bif Nat.blt j 79 then (bif Nat.blt j 78 then 3123 else 3135) else (bif Nat.blt j 80 then 1171 else 2070)) else (bif Nat.blt j 83 then (bif Nat.blt j 82 then 2197 else 2201) else (bif Nat.blt j 84 then 2211 else (bif Nat.blt j 85 then 2215 else 2219)))) else (bif Nat.blt j 91 then (bif Nat.blt j 88 then (bif Nat.blt j 87 then 2223 else 2233) else (bif Nat.blt j 89 then 2237 else (bif Nat.blt j 90 then 3119 else 3166))) else (bif Nat.blt j 93 then (bif Nat.blt j 92 then 1208 else 2074) else (bif Nat.blt j 94 then 2247 else (bif Nat.blt j 95 then 2255 else 2260))))) else (bif Nat.blt j 106 then (bif Nat.blt j 101 then (bif Nat.blt j 98 then (bif Nat.blt j 97 then 2265 else 2269) else (bif Nat.blt j 99 then 3180 else (bif Nat.blt j 100 then 3185 else 3192))) else (bif Nat.blt j 103 then (bif Nat.blt j 102 then 3195 else 3204) else (bif Nat.blt j 104 then 3291 else (bif Nat.blt j 105 then 4168 else 4173)))) else (bif Nat.blt j 111 then (bif Nat.blt j 108 then (bif Nat.blt j 107 then 4176 else 4181) else (bif Nat.blt j 109 then 4184 else (bif Nat.blt j 110 then 4188 else 4193))) else (bif Nat.blt j 113 then (bif Nat.blt j 112 then 4198 else 4207) else (bif Nat.blt j 114 then 4211 else (bif Nat.blt j 115 then 4216 else 4220)))))) else (bif Nat.blt j 135 then (bif Nat.blt j 125 then (bif Nat.blt j 120 then (bif Nat.blt j 118 then (bif Nat.blt j 117 then 4224 else 4229) else (bif Nat.blt j 119 then 4233 else 4237)) else (bif Nat.blt j 122 then (bif Nat.blt j 121 then 4240 else 4244) else (bif Nat.blt j 123 then 4248 else (bif Nat.blt j 124 then 4252 else 4257)))) else (bif Nat.blt j 130 then (bif Nat.blt j 127 then (bif Nat.blt j 126 then 4261 else 4265) else (bif Nat.blt j 128 then 4269 else (bif Nat.blt j 129 then 4273 else 4277))) else (bif Nat.blt j 132 then (bif Nat.blt j 131 then 4281 else 4286) else (bif Nat.blt j 133 then 4291 else (bif Nat.blt j 134 then 4295 else 4298))))) else (bif Nat.blt j 145 then (bif Nat.blt j 140 then (bif Nat.blt j 137 then (bif Nat.blt j 136 then 4301 else 4304) else (bif Nat.blt j 138 then 4307 else (bif Nat.blt j 139 then 4311 else 4315))) else (bif Nat.blt j 142 then (bif Nat.blt j 141 then 4319 else 4323) else (bif Nat.blt j 143 then 4328 else (bif Nat.blt j 144 then 4332 else 5120)))) else (bif Nat.blt j 150 then (bif Nat.blt j 147 then (bif Nat.blt j 146 then 5124 else 5130) else (bif Nat.blt j 148 then 2099 else (bif Nat.blt j 149 then 2103 else 2113))) else (bif Nat.blt j 152 then (bif Nat.blt j 151 then 2117 else 2121) else (bif Nat.blt j 153 then 2124 else (bif Nat.blt j 154 then 2129 else 0))))))))
noncomputable def am_pI (mi : Nat) : Nat := am_pIt (am_sm mi)
noncomputable def am_pSt (j : Nat) : Nat := (bif Nat.blt j 77 then (bif Nat.blt j 38 then (bif Nat.blt j 19 then (bif Nat.blt j 9 then (bif Nat.blt j 4 then (bif Nat.blt j 2 then (bif Nat.blt j 1 then 0 else 2051) else (bif Nat.blt j 3 then 2059 else 3072)) else (bif Nat.blt j 6 then (bif Nat.blt j 5 then 0 else 3083) else (bif Nat.blt j 7 then 3091 else (bif Nat.blt j 8 then 3140 else 3144)))) else (bif Nat.blt j 14 then (bif Nat.blt j 11 then (bif Nat.blt j 10 then 3148 else 3153) else (bif Nat.blt j 12 then 3158 else (bif Nat.blt j 13 then 0 else 3171))) else (bif Nat.blt j 16 then (bif Nat.blt j 15 then 11 else 3201) else (bif Nat.blt j 17 then 3209 else (bif Nat.blt j 18 then 3221 else 3233))))) else (bif Nat.blt j 28 then (bif Nat.blt j 23 then (bif Nat.blt j 21 then (bif Nat.blt j 20 then 3241 else 3249) else (bif Nat.blt j 22 then 3259 else 3267)) else (bif Nat.blt j 25 then (bif Nat.blt j 24 then 3282 else 0) else (bif Nat.blt j 26 then 2055 else (bif Nat.blt j 27 then 2079 else 2083)))) else (bif Nat.blt j 33 then (bif Nat.blt j 30 then (bif Nat.blt j 29 then 2087 else 2096) else (bif Nat.blt j 31 then 2110 else (bif Nat.blt j 32 then 2152 else 2165))) else (bif Nat.blt j 35 then (bif Nat.blt j 34 then 2252 else 2275) else (bif Nat.blt j 36 then 2279 else (bif Nat.blt j 37 then 0 else 3076)))))) else (bif Nat.blt j 57 then (bif Nat.blt j 47 then (bif Nat.blt j 42 then (bif Nat.blt j 40 then (bif Nat.blt j 39 then 3087 else 3128) else (bif Nat.blt j 41 then 3132 else 0)) else (bif Nat.blt j 44 then (bif Nat.blt j 43 then 2283 else 3213) else (bif Nat.blt j 45 then 0 else (bif Nat.blt j 46 then 3225 else 14)))) else (bif Nat.blt j 52 then (bif Nat.blt j 49 then (bif Nat.blt j 48 then 3237 else 0) else (bif Nat.blt j 50 then 3245 else (bif Nat.blt j 51 then 3253 else 3263))) else (bif Nat.blt j 54 then (bif Nat.blt j 53 then 0 else 3271) else (bif Nat.blt j 55 then 3277 else (bif Nat.blt j 56 then 3286 else 0))))) else (bif Nat.blt j 67 then (bif Nat.blt j 62 then (bif Nat.blt j 59 then (bif Nat.blt j 58 then 2063 else 0) else (bif Nat.blt j 60 then 1 else (bif Nat.blt j 61 then 2 else 3))) else (bif Nat.blt j 64 then (bif Nat.blt j 63 then 4 else 5) else (bif Nat.blt j 65 then 6 else (bif Nat.blt j 66 then 3095 else 9)))) else (bif Nat.blt j 72 then (bif Nat.blt j 69 then (bif Nat.blt j 68 then 10 else 0) else (bif Nat.blt j 70 then 2067 else (bif Nat.blt j 71 then 2160 else 2169))) else (bif Nat.blt j 74 then (bif Nat.blt j 73 then 2180 else 2188) else (bif Nat.blt j 75 then 3103 else (bif Nat.blt j 76 then 3111 else 3116))))))) else (bif Nat.blt j 116 then (bif Nat.blt j 96 then (bif Nat.blt j 86 then (bif Nat.blt j 81 then (bif Nat.blt j 79 then (bif Nat.blt j 78 then 3124 else 0) else (bif Nat.blt j 80 then 0 else 2071)) else (bif Nat.blt j 83 then (bif Nat.blt j 82 then 2198 else 2202) else (bif Nat.blt j 84 then 2212 else (bif Nat.blt j 85 then 2216 else 2220)))) else (bif Nat.blt j 91 then (bif Nat.blt j 88 then (bif Nat.blt j 87 then 2224 else 2234) else (bif Nat.blt j 89 then 2238 else (bif Nat.blt j 90 then 3120 else 3167))) else (bif Nat.blt j 93 then (bif Nat.blt j 92 then 0 else 2075) else (bif Nat.blt j 94 then 2248 else (bif Nat.blt j 95 then 2256 else 7))))) else (bif Nat.blt j 106 then (bif Nat.blt j 101 then (bif Nat.blt j 98 then (bif Nat.blt j 97 then 8 else 2270) else (bif Nat.blt j 99 then 3181 else (bif Nat.blt j 100 then 12 else 13))) else (bif Nat.blt j 103 then (bif Nat.blt j 102 then 3196 else 3205) else (bif Nat.blt j 104 then 0 else (bif Nat.blt j 105 then 4169 else 0)))) else (bif Nat.blt j 111 then (bif Nat.blt j 108 then (bif Nat.blt j 107 then 4177 else 15) else (bif Nat.blt j 109 then 0 else (bif Nat.blt j 110 then 16 else 17))) else (bif Nat.blt j 113 then (bif Nat.blt j 112 then 18 else 19) else (bif Nat.blt j 114 then 20 else (bif Nat.blt j 115 then 21 else 22)))))) else (bif Nat.blt j 135 then (bif Nat.blt j 125 then (bif Nat.blt j 120 then (bif Nat.blt j 118 then (bif Nat.blt j 117 then 23 else 24) else (bif Nat.blt j 119 then 25 else 26)) else (bif Nat.blt j 122 then (bif Nat.blt j 121 then 4241 else 4245) else (bif Nat.blt j 123 then 4249 else (bif Nat.blt j 124 then 4253 else 27)))) else (bif Nat.blt j 130 then (bif Nat.blt j 127 then (bif Nat.blt j 126 then 28 else 29) else (bif Nat.blt j 128 then 4270 else (bif Nat.blt j 129 then 4274 else 4278))) else (bif Nat.blt j 132 then (bif Nat.blt j 131 then 4282 else 4287) else (bif Nat.blt j 133 then 30 else (bif Nat.blt j 134 then 31 else 0))))) else (bif Nat.blt j 145 then (bif Nat.blt j 140 then (bif Nat.blt j 137 then (bif Nat.blt j 136 then 0 else 0) else (bif Nat.blt j 138 then 4308 else (bif Nat.blt j 139 then 4312 else 0))) else (bif Nat.blt j 142 then (bif Nat.blt j 141 then 4320 else 4324) else (bif Nat.blt j 143 then 4329 else (bif Nat.blt j 144 then 4333 else 5121)))) else (bif Nat.blt j 150 then (bif Nat.blt j 147 then (bif Nat.blt j 146 then 5125 else 5131) else (bif Nat.blt j 148 then 2100 else (bif Nat.blt j 149 then 2104 else 2114))) else (bif Nat.blt j 152 then (bif Nat.blt j 151 then 2118 else 0) else (bif Nat.blt j 153 then 0 else (bif Nat.blt j 154 then 0 else 0))))))))
noncomputable def am_pS (mi : Nat) : Nat := am_pSt (am_sm mi)
noncomputable def am_pZt (j : Nat) : Nat := (bif Nat.blt j 77 then (bif Nat.blt j 38 then (bif Nat.blt j 19 then (bif Nat.blt j 9 then (bif Nat.blt j 4 then (bif Nat.blt j 2 then (bif Nat.blt j 1 then 1025 else 1025) else (bif Nat.blt j 3 then 1025 else 1025)) else (bif Nat.blt j 6 then (bif Nat.blt j 5 then 1025 else 1025) else (bif Nat.blt j 7 then 1025 else (bif Nat.blt j 8 then 1025 else 1025)))) else (bif Nat.blt j 14 then (bif Nat.blt j 11 then (bif Nat.blt j 10 then 1025 else 1025) else (bif Nat.blt j 12 then 1025 else (bif Nat.blt j 13 then 1025 else 1025))) else (bif Nat.blt j 16 then (bif Nat.blt j 15 then 1025 else 1025) else (bif Nat.blt j 17 then 1025 else (bif Nat.blt j 18 then 1025 else 1025))))) else (bif Nat.blt j 28 then (bif Nat.blt j 23 then (bif Nat.blt j 21 then (bif Nat.blt j 20 then 1025 else 1025) else (bif Nat.blt j 22 then 1025 else 1025)) else (bif Nat.blt j 25 then (bif Nat.blt j 24 then 1025 else 1026) else (bif Nat.blt j 26 then 1026 else (bif Nat.blt j 27 then 1026 else 1026)))) else (bif Nat.blt j 33 then (bif Nat.blt j 30 then (bif Nat.blt j 29 then 1026 else 1026) else (bif Nat.blt j 31 then 1026 else (bif Nat.blt j 32 then 1026 else 1026))) else (bif Nat.blt j 35 then (bif Nat.blt j 34 then 1026 else 1026) else (bif Nat.blt j 36 then 1026 else (bif Nat.blt j 37 then 1027 else 1027)))))) else (bif Nat.blt j 57 then (bif Nat.blt j 47 then (bif Nat.blt j 42 then (bif Nat.blt j 40 then (bif Nat.blt j 39 then 1027 else 1027) else (bif Nat.blt j 41 then 1027 else 1028)) else (bif Nat.blt j 44 then (bif Nat.blt j 43 then 1028 else 1028) else (bif Nat.blt j 45 then 1028 else (bif Nat.blt j 46 then 1028 else 1028)))) else (bif Nat.blt j 52 then (bif Nat.blt j 49 then (bif Nat.blt j 48 then 1028 else 1029) else (bif Nat.blt j 50 then 1029 else (bif Nat.blt j 51 then 1029 else 1029))) else (bif Nat.blt j 54 then (bif Nat.blt j 53 then 1030 else 1030) else (bif Nat.blt j 55 then 1030 else (bif Nat.blt j 56 then 1030 else 1031))))) else (bif Nat.blt j 67 then (bif Nat.blt j 62 then (bif Nat.blt j 59 then (bif Nat.blt j 58 then 1031 else 1031) else (bif Nat.blt j 60 then 1031 else (bif Nat.blt j 61 then 1031 else 1031))) else (bif Nat.blt j 64 then (bif Nat.blt j 63 then 1031 else 1031) else (bif Nat.blt j 65 then 1031 else (bif Nat.blt j 66 then 1031 else 1031)))) else (bif Nat.blt j 72 then (bif Nat.blt j 69 then (bif Nat.blt j 68 then 1031 else 1032) else (bif Nat.blt j 70 then 1032 else (bif Nat.blt j 71 then 1032 else 1032))) else (bif Nat.blt j 74 then (bif Nat.blt j 73 then 1032 else 1032) else (bif Nat.blt j 75 then 1032 else (bif Nat.blt j 76 then 1032 else 1032))))))) else (bif Nat.blt j 116 then (bif Nat.blt j 96 then (bif Nat.blt j 86 then (bif Nat.blt j 81 then (bif Nat.blt j 79 then (bif Nat.blt j 78 then 1032 else 1032) else (bif Nat.blt j 80 then 1033 else 1033)) else (bif Nat.blt j 83 then (bif Nat.blt j 82 then 1033 else 1033) else (bif Nat.blt j 84 then 1033 else (bif Nat.blt j 85 then 1033 else 1033)))) else (bif Nat.blt j 91 then (bif Nat.blt j 88 then (bif Nat.blt j 87 then 1033 else 1033) else (bif Nat.blt j 89 then 1033 else (bif Nat.blt j 90 then 1033 else 1033))) else (bif Nat.blt j 93 then (bif Nat.blt j 92 then 1034 else 1034) else (bif Nat.blt j 94 then 1034 else (bif Nat.blt j 95 then 1034 else 1034))))) else (bif Nat.blt j 106 then (bif Nat.blt j 101 then (bif Nat.blt j 98 then (bif Nat.blt j 97 then 1034 else 1034) else (bif Nat.blt j 99 then 1034 else (bif Nat.blt j 100 then 1034 else 1034))) else (bif Nat.blt j 103 then (bif Nat.blt j 102 then 1034 else 1034) else (bif Nat.blt j 104 then 1035 else (bif Nat.blt j 105 then 1035 else 1035)))) else (bif Nat.blt j 111 then (bif Nat.blt j 108 then (bif Nat.blt j 107 then 1035 else 1035) else (bif Nat.blt j 109 then 1035 else (bif Nat.blt j 110 then 1035 else 1035))) else (bif Nat.blt j 113 then (bif Nat.blt j 112 then 1035 else 1035) else (bif Nat.blt j 114 then 1035 else (bif Nat.blt j 115 then 1035 else 1035)))))) else (bif Nat.blt j 135 then (bif Nat.blt j 125 then (bif Nat.blt j 120 then (bif Nat.blt j 118 then (bif Nat.blt j 117 then 1035 else 1035) else (bif Nat.blt j 119 then 1035 else 1035)) else (bif Nat.blt j 122 then (bif Nat.blt j 121 then 1035 else 1035) else (bif Nat.blt j 123 then 1035 else (bif Nat.blt j 124 then 1035 else 1035)))) else (bif Nat.blt j 130 then (bif Nat.blt j 127 then (bif Nat.blt j 126 then 1035 else 1035) else (bif Nat.blt j 128 then 1035 else (bif Nat.blt j 129 then 1035 else 1035))) else (bif Nat.blt j 132 then (bif Nat.blt j 131 then 1035 else 1035) else (bif Nat.blt j 133 then 1035 else (bif Nat.blt j 134 then 1035 else 1035))))) else (bif Nat.blt j 145 then (bif Nat.blt j 140 then (bif Nat.blt j 137 then (bif Nat.blt j 136 then 1035 else 1035) else (bif Nat.blt j 138 then 1035 else (bif Nat.blt j 139 then 1035 else 1035))) else (bif Nat.blt j 142 then (bif Nat.blt j 141 then 1035 else 1035) else (bif Nat.blt j 143 then 1035 else (bif Nat.blt j 144 then 1035 else 1035)))) else (bif Nat.blt j 150 then (bif Nat.blt j 147 then (bif Nat.blt j 146 then 1035 else 1035) else (bif Nat.blt j 148 then 1036 else (bif Nat.blt j 149 then 1036 else 1036))) else (bif Nat.blt j 152 then (bif Nat.blt j 151 then 1036 else 1037) else (bif Nat.blt j 153 then 1036 else (bif Nat.blt j 154 then 1038 else 1024))))))))
noncomputable def am_pZ (mi : Nat) : Nat := am_pZt (am_sm mi)
noncomputable def am_pWt (j : Nat) : Nat := (bif Nat.blt j 77 then (bif Nat.blt j 38 then (bif Nat.blt j 19 then (bif Nat.blt j 9 then (bif Nat.blt j 4 then (bif Nat.blt j 2 then (bif Nat.blt j 1 then 1045 else 2052) else (bif Nat.blt j 3 then 2060 else 3073)) else (bif Nat.blt j 6 then (bif Nat.blt j 5 then 3080 else 3084) else (bif Nat.blt j 7 then 3092 else (bif Nat.blt j 8 then 3141 else 3145)))) else (bif Nat.blt j 14 then (bif Nat.blt j 11 then (bif Nat.blt j 10 then 3149 else 3154) else (bif Nat.blt j 12 then 3159 else (bif Nat.blt j 13 then 3162 else 3172))) else (bif Nat.blt j 16 then (bif Nat.blt j 15 then 3176 else 3202) else (bif Nat.blt j 17 then 3210 else (bif Nat.blt j 18 then 3222 else 3234))))) else (bif Nat.blt j 28 then (bif Nat.blt j 23 then (bif Nat.blt j 21 then (bif Nat.blt j 20 then 3242 else 3250) else (bif Nat.blt j 22 then 3260 else 3268)) else (bif Nat.blt j 25 then (bif Nat.blt j 24 then 3283 else 1053) else (bif Nat.blt j 26 then 2056 else (bif Nat.blt j 27 then 2080 else 2084)))) else (bif Nat.blt j 33 then (bif Nat.blt j 30 then (bif Nat.blt j 29 then 2088 else 2097) else (bif Nat.blt j 31 then 2111 else (bif Nat.blt j 32 then 2153 else 2166))) else (bif Nat.blt j 35 then (bif Nat.blt j 34 then 2253 else 2276) else (bif Nat.blt j 36 then 2280 else (bif Nat.blt j 37 then 1076 else 3077)))))) else (bif Nat.blt j 57 then (bif Nat.blt j 47 then (bif Nat.blt j 42 then (bif Nat.blt j 40 then (bif Nat.blt j 39 then 3088 else 3129) else (bif Nat.blt j 41 then 3133 else 1090)) else (bif Nat.blt j 44 then (bif Nat.blt j 43 then 2284 else 3214) else (bif Nat.blt j 45 then 3218 else (bif Nat.blt j 46 then 3226 else 3230)))) else (bif Nat.blt j 52 then (bif Nat.blt j 49 then (bif Nat.blt j 48 then 3238 else 1103) else (bif Nat.blt j 50 then 3246 else (bif Nat.blt j 51 then 3254 else 3264))) else (bif Nat.blt j 54 then (bif Nat.blt j 53 then 1122 else 3272) else (bif Nat.blt j 55 then 3278 else (bif Nat.blt j 56 then 3287 else 1135))))) else (bif Nat.blt j 67 then (bif Nat.blt j 62 then (bif Nat.blt j 59 then (bif Nat.blt j 58 then 2064 else 2092) else (bif Nat.blt j 60 then 2157 else (bif Nat.blt j 61 then 2177 else 2195))) else (bif Nat.blt j 64 then (bif Nat.blt j 63 then 2209 else 2231) else (bif Nat.blt j 65 then 2245 else (bif Nat.blt j 66 then 3096 else 3100)))) else (bif Nat.blt j 72 then (bif Nat.blt j 69 then (bif Nat.blt j 68 then 3108 else 1141) else (bif Nat.blt j 70 then 2068 else (bif Nat.blt j 71 then 2161 else 2170))) else (bif Nat.blt j 74 then (bif Nat.blt j 73 then 2181 else 2189) else (bif Nat.blt j 75 then 3104 else (bif Nat.blt j 76 then 3112 else 3117))))))) else (bif Nat.blt j 116 then (bif Nat.blt j 96 then (bif Nat.blt j 86 then (bif Nat.blt j 81 then (bif Nat.blt j 79 then (bif Nat.blt j 78 then 3125 else 3136) else (bif Nat.blt j 80 then 1172 else 2072)) else (bif Nat.blt j 83 then (bif Nat.blt j 82 then 2199 else 2203) else (bif Nat.blt j 84 then 2213 else (bif Nat.blt j 85 then 2217 else 2221)))) else (bif Nat.blt j 91 then (bif Nat.blt j 88 then (bif Nat.blt j 87 then 2225 else 2235) else (bif Nat.blt j 89 then 2239 else (bif Nat.blt j 90 then 3121 else 3168))) else (bif Nat.blt j 93 then (bif Nat.blt j 92 then 1209 else 2076) else (bif Nat.blt j 94 then 2249 else (bif Nat.blt j 95 then 2257 else 2261))))) else (bif Nat.blt j 106 then (bif Nat.blt j 101 then (bif Nat.blt j 98 then (bif Nat.blt j 97 then 2266 else 2271) else (bif Nat.blt j 99 then 3182 else (bif Nat.blt j 100 then 3186 else 3193))) else (bif Nat.blt j 103 then (bif Nat.blt j 102 then 3197 else 3206) else (bif Nat.blt j 104 then 3292 else (bif Nat.blt j 105 then 4170 else 4174)))) else (bif Nat.blt j 111 then (bif Nat.blt j 108 then (bif Nat.blt j 107 then 4178 else 4182) else (bif Nat.blt j 109 then 4185 else (bif Nat.blt j 110 then 4189 else 4194))) else (bif Nat.blt j 113 then (bif Nat.blt j 112 then 4199 else 4208) else (bif Nat.blt j 114 then 4212 else (bif Nat.blt j 115 then 4217 else 4221)))))) else (bif Nat.blt j 135 then (bif Nat.blt j 125 then (bif Nat.blt j 120 then (bif Nat.blt j 118 then (bif Nat.blt j 117 then 4225 else 4230) else (bif Nat.blt j 119 then 4234 else 4238)) else (bif Nat.blt j 122 then (bif Nat.blt j 121 then 4242 else 4246) else (bif Nat.blt j 123 then 4250 else (bif Nat.blt j 124 then 4254 else 4258)))) else (bif Nat.blt j 130 then (bif Nat.blt j 127 then (bif Nat.blt j 126 then 4262 else 4266) else (bif Nat.blt j 128 then 4271 else (bif Nat.blt j 129 then 4275 else 4279))) else (bif Nat.blt j 132 then (bif Nat.blt j 131 then 4283 else 4288) else (bif Nat.blt j 133 then 4292 else (bif Nat.blt j 134 then 4296 else 4299))))) else (bif Nat.blt j 145 then (bif Nat.blt j 140 then (bif Nat.blt j 137 then (bif Nat.blt j 136 then 4302 else 4305) else (bif Nat.blt j 138 then 4309 else (bif Nat.blt j 139 then 4313 else 4316))) else (bif Nat.blt j 142 then (bif Nat.blt j 141 then 4321 else 4325) else (bif Nat.blt j 143 then 4330 else (bif Nat.blt j 144 then 4334 else 5122)))) else (bif Nat.blt j 150 then (bif Nat.blt j 147 then (bif Nat.blt j 146 then 5126 else 5132) else (bif Nat.blt j 148 then 2101 else (bif Nat.blt j 149 then 2105 else 2115))) else (bif Nat.blt j 152 then (bif Nat.blt j 151 then 2119 else 2122) else (bif Nat.blt j 153 then 2125 else (bif Nat.blt j 154 then 2130 else 0))))))))
noncomputable def am_pW (mi : Nat) : Nat := am_pWt (am_sm mi)
noncomputable def am_ps_0 (j : Nat) : Nat × Bool × String := (bif Nat.blt j 75 then (bif Nat.blt j 37 then (bif Nat.blt j 19 then (bif Nat.blt j 10 then (bif Nat.blt j 7 then (1046, false, "") else (bif Nat.blt j 9 then (1049, false, "") else (1051, true, "CodeRules"))) else (bif Nat.blt j 16 then (1243, false, "") else (bif Nat.blt j 18 then (1072, false, "") else (1074, true, "CodeRules")))) else (bif Nat.blt j 26 then (bif Nat.blt j 23 then (1244, false, "") else (bif Nat.blt j 25 then (1086, false, "") else (1088, true, "CodeRules"))) else (bif Nat.blt j 32 then (bif Nat.blt j 30 then (1245, false, "") else (1099, false, "")) else (bif Nat.blt j 33 then (1101, true, "CodeRules") else (1246, false, ""))))) else (bif Nat.blt j 51 then (bif Nat.blt j 44 then (bif Nat.blt j 39 then (1118, false, "") else (bif Nat.blt j 40 then (1120, true, "CodeRules") else (1247, false, ""))) else (bif Nat.blt j 46 then (1131, false, "") else (bif Nat.blt j 47 then (1133, true, "CodeRules") else (1248, false, "")))) else (bif Nat.blt j 62 then (bif Nat.blt j 54 then (1249, false, "") else (bif Nat.blt j 58 then (2053, false, "") else (2061, false, ""))) else (bif Nat.blt j 68 then (bif Nat.blt j 65 then (2277, false, "") else (2281, false, "")) else (bif Nat.blt j 72 then (3074, false, "") else (3085, false, "")))))) else (bif Nat.blt j 125 then (bif Nat.blt j 102 then (bif Nat.blt j 89 then (bif Nat.blt j 79 then (3093, false, "") else (bif Nat.blt j 83 then (1231, true, "CodeRules") else (3137, false, ""))) else (bif Nat.blt j 93 then (1233, true, "CodeRules") else (bif Nat.blt j 98 then (3150, false, "") else (3155, false, "")))) else (bif Nat.blt j 112 then (bif Nat.blt j 105 then (3160, false, "") else (bif Nat.blt j 108 then (3164, false, "") else (3165, false, ""))) else (bif Nat.blt j 119 then (bif Nat.blt j 116 then (1235, true, "CodeRules") else (3173, false, "")) else (bif Nat.blt j 122 then (3194, false, "") else (3203, false, ""))))) else (bif Nat.blt j 148 then (bif Nat.blt j 135 then (bif Nat.blt j 128 then (3211, false, "") else (bif Nat.blt j 131 then (3223, false, "") else (3235, false, ""))) else (bif Nat.blt j 142 then (bif Nat.blt j 138 then (3243, false, "") else (3251, false, "")) else (bif Nat.blt j 145 then (3261, false, "") else (3269, false, "")))) else (bif Nat.blt j 157 then (bif Nat.blt j 151 then (3274, false, "") else (bif Nat.blt j 154 then (3275, false, "") else (3284, false, ""))) else (bif Nat.blt j 164 then (bif Nat.blt j 160 then (3177, false, "") else (3178, false, "")) else (bif Nat.blt j 168 then (3179, false, "") else (3163, false, "")))))))
noncomputable def am_ps_1 (j : Nat) : Nat × Bool × String := (bif Nat.blt j 25 then (bif Nat.blt j 15 then (bif Nat.blt j 9 then (1054, false, "") else (1055, false, "")) else (bif Nat.blt j 19 then (1056, false, "") else (bif Nat.blt j 22 then (1058, false, "") else (1059, false, "")))) else (bif Nat.blt j 37 then (bif Nat.blt j 28 then (2081, false, "") else (bif Nat.blt j 31 then (1057, false, "") else (2098, false, ""))) else (bif Nat.blt j 38 then (2108, false, "") else (bif Nat.blt j 42 then (2112, false, "") else (2150, false, "")))))
noncomputable def am_ps_2 (j : Nat) : Nat × Bool × String := (bif Nat.blt j 15 then (bif Nat.blt j 9 then (1077, false, "") else (1078, false, "")) else (bif Nat.blt j 19 then (1079, false, "") else (3078, true, "CodeRules")))
noncomputable def am_ps_3 (j : Nat) : Nat × Bool × String := (bif Nat.blt j 18 then (bif Nat.blt j 9 then (1091, false, "") else (bif Nat.blt j 15 then (1092, false, "") else (1093, false, ""))) else (bif Nat.blt j 22 then (3215, true, "CodeRules") else (bif Nat.blt j 25 then (3216, false, "") else (3227, false, ""))))
noncomputable def am_ps_4 (j : Nat) : Nat × Bool × String := (bif Nat.blt j 18 then (bif Nat.blt j 9 then (1104, false, "") else (bif Nat.blt j 15 then (1105, false, "") else (1106, false, ""))) else (bif Nat.blt j 25 then (bif Nat.blt j 21 then (1107, false, "") else (1108, false, "")) else (bif Nat.blt j 29 then (3255, true, "CodeRules") else (3256, true, "CodeRules"))))
noncomputable def am_ps_5 (j : Nat) : Nat × Bool × String := (bif Nat.blt j 15 then (bif Nat.blt j 9 then (1123, false, "") else (1124, false, "")) else (bif Nat.blt j 18 then (1125, false, "") else (bif Nat.blt j 22 then (3273, true, "CodeRules") else (3279, false, ""))))
noncomputable def am_ps_6 (j : Nat) : Nat × Bool × String := (bif Nat.blt j 86 then (bif Nat.blt j 42 then (bif Nat.blt j 25 then (bif Nat.blt j 12 then (bif Nat.blt j 9 then (1136, false, "") else (bif Nat.blt j 11 then (1137, false, "") else (1139, true, "CodeRules"))) else (bif Nat.blt j 20 then (bif Nat.blt j 18 then (1230, false, "") else (1168, false, "")) else (bif Nat.blt j 21 then (1170, true, "CodeRules") else (1232, false, "")))) else (bif Nat.blt j 32 then (bif Nat.blt j 27 then (1205, false, "") else (bif Nat.blt j 28 then (1207, true, "CodeRules") else (1234, false, ""))) else (bif Nat.blt j 36 then (bif Nat.blt j 35 then (2065, false, "") else (2069, false, "")) else (bif Nat.blt j 37 then (2073, false, "") else (2077, false, ""))))) else (bif Nat.blt j 65 then (bif Nat.blt j 54 then (bif Nat.blt j 46 then (2085, false, "") else (bif Nat.blt j 50 then (2089, false, "") else (2273, false, ""))) else (bif Nat.blt j 60 then (bif Nat.blt j 56 then (0, false, "") else (2094, false, "")) else (bif Nat.blt j 63 then (2154, false, "") else (5, false, "")))) else (bif Nat.blt j 75 then (bif Nat.blt j 70 then (bif Nat.blt j 68 then (2192, false, "") else (6, false, "")) else (bif Nat.blt j 73 then (2206, false, "") else (7, false, ""))) else (bif Nat.blt j 80 then (bif Nat.blt j 78 then (2228, false, "") else (8, false, "")) else (bif Nat.blt j 83 then (2242, false, "") else (2158, false, "")))))) else (bif Nat.blt j 129 then (bif Nat.blt j 106 then (bif Nat.blt j 95 then (bif Nat.blt j 87 then (2162, false, "") else (bif Nat.blt j 91 then (2163, false, "") else (2167, false, ""))) else (bif Nat.blt j 100 then (bif Nat.blt j 98 then (2172, false, "") else (1, false, "")) else (bif Nat.blt j 103 then (2174, false, "") else (2178, false, "")))) else (bif Nat.blt j 115 then (bif Nat.blt j 110 then (bif Nat.blt j 108 then (2, false, "") else (3, false, "")) else (bif Nat.blt j 112 then (4, false, "") else (2185, false, ""))) else (bif Nat.blt j 122 then (bif Nat.blt j 119 then (2186, false, "") else (2196, false, "")) else (bif Nat.blt j 126 then (2200, false, "") else (2210, false, ""))))) else (bif Nat.blt j 150 then (bif Nat.blt j 139 then (bif Nat.blt j 133 then (2214, false, "") else (bif Nat.blt j 136 then (2222, false, "") else (2232, false, ""))) else (bif Nat.blt j 144 then (bif Nat.blt j 143 then (2236, false, "") else (2246, false, "")) else (bif Nat.blt j 147 then (2250, false, "") else (2254, false, "")))) else (bif Nat.blt j 163 then (bif Nat.blt j 157 then (bif Nat.blt j 153 then (2268, false, "") else (3097, false, "")) else (bif Nat.blt j 160 then (3114, false, "") else (3118, false, ""))) else (bif Nat.blt j 169 then (bif Nat.blt j 166 then (3109, false, "") else (3101, false, "")) else (bif Nat.blt j 173 then (3105, false, "") else (3122, false, "")))))))
noncomputable def am_ps_7 (j : Nat) : Nat × Bool × String := (bif Nat.blt j 30 then (bif Nat.blt j 18 then (bif Nat.blt j 9 then (1142, false, "") else (bif Nat.blt j 15 then (1143, false, "") else (1144, false, ""))) else (bif Nat.blt j 24 then (bif Nat.blt j 21 then (1145, false, "") else (1146, false, "")) else (bif Nat.blt j 27 then (1147, false, "") else (1148, false, "")))) else (bif Nat.blt j 44 then (bif Nat.blt j 37 then (bif Nat.blt j 34 then (1149, false, "") else (1150, false, "")) else (bif Nat.blt j 41 then (2171, false, "") else (2190, false, ""))) else (bif Nat.blt j 54 then (bif Nat.blt j 48 then (3113, true, "CodeRules") else (3126, false, "")) else (bif Nat.blt j 58 then (3130, false, "") else (3134, false, "")))))
noncomputable def am_ps_8 (j : Nat) : Nat × Bool × String := (bif Nat.blt j 30 then (bif Nat.blt j 18 then (bif Nat.blt j 9 then (1173, false, "") else (bif Nat.blt j 15 then (1174, false, "") else (1175, false, ""))) else (bif Nat.blt j 24 then (bif Nat.blt j 21 then (1176, false, "") else (1177, false, "")) else (bif Nat.blt j 27 then (1178, false, "") else (1179, false, "")))) else (bif Nat.blt j 43 then (bif Nat.blt j 37 then (bif Nat.blt j 33 then (1180, false, "") else (1181, false, "")) else (bif Nat.blt j 40 then (1182, false, "") else (1183, false, ""))) else (bif Nat.blt j 50 then (bif Nat.blt j 47 then (2204, false, "") else (2226, false, "")) else (bif Nat.blt j 53 then (2240, false, "") else (2218, false, "")))))
noncomputable def am_ps_9 (j : Nat) : Nat × Bool × String := (bif Nat.blt j 35 then (bif Nat.blt j 21 then (bif Nat.blt j 15 then (bif Nat.blt j 9 then (1210, false, "") else (1211, false, "")) else (bif Nat.blt j 18 then (1212, false, "") else (1213, false, ""))) else (bif Nat.blt j 27 then (bif Nat.blt j 24 then (1214, false, "") else (1215, false, "")) else (bif Nat.blt j 31 then (1216, false, "") else (2272, false, "")))) else (bif Nat.blt j 53 then (bif Nat.blt j 45 then (bif Nat.blt j 41 then (2262, false, "") else (2267, false, "")) else (bif Nat.blt j 49 then (2258, false, "") else (3198, true, "CodeRules"))) else (bif Nat.blt j 60 then (bif Nat.blt j 57 then (3183, false, "") else (3190, false, "")) else (bif Nat.blt j 64 then (2263, false, "") else (3187, false, "")))))
noncomputable def am_ps_10 (j : Nat) : Nat × Bool × String := (bif Nat.blt j 110 then (bif Nat.blt j 60 then (bif Nat.blt j 31 then (bif Nat.blt j 19 then (bif Nat.blt j 13 then (bif Nat.blt j 7 then (3293, false, "") else (3294, false, "")) else (bif Nat.blt j 16 then (3298, false, "") else (3299, false, ""))) else (bif Nat.blt j 25 then (bif Nat.blt j 22 then (3300, false, "") else (3301, false, "")) else (bif Nat.blt j 28 then (3302, false, "") else (3303, false, "")))) else (bif Nat.blt j 44 then (bif Nat.blt j 37 then (bif Nat.blt j 34 then (3304, false, "") else (3305, false, "")) else (bif Nat.blt j 40 then (3306, false, "") else (3307, false, ""))) else (bif Nat.blt j 51 then (bif Nat.blt j 48 then (3308, false, "") else (3309, false, "")) else (bif Nat.blt j 54 then (3310, false, "") else (bif Nat.blt j 57 then (3311, false, "") else (4097, false, "")))))) else (bif Nat.blt j 85 then (bif Nat.blt j 72 then (bif Nat.blt j 66 then (bif Nat.blt j 63 then (4098, false, "") else (4099, false, "")) else (bif Nat.blt j 69 then (4100, false, "") else (4102, false, ""))) else (bif Nat.blt j 77 then (bif Nat.blt j 75 then (4103, false, "") else (4171, false, "")) else (bif Nat.blt j 81 then (4172, false, "") else (3295, false, "")))) else (bif Nat.blt j 97 then (bif Nat.blt j 91 then (bif Nat.blt j 88 then (3297, false, "") else (3296, false, "")) else (bif Nat.blt j 95 then (4183, false, "") else (4195, false, ""))) else (bif Nat.blt j 101 then (bif Nat.blt j 99 then (4226, false, "") else (4200, false, "")) else (bif Nat.blt j 105 then (4191, false, "") else (bif Nat.blt j 108 then (4105, false, "") else (4201, false, ""))))))) else (bif Nat.blt j 159 then (bif Nat.blt j 131 then (bif Nat.blt j 119 then (bif Nat.blt j 114 then (bif Nat.blt j 112 then (4202, false, "") else (4203, false, "")) else (bif Nat.blt j 116 then (4204, false, "") else (4104, false, ""))) else (bif Nat.blt j 124 then (bif Nat.blt j 121 then (4213, false, "") else (4106, false, "")) else (bif Nat.blt j 127 then (4218, false, "") else (4222, false, "")))) else (bif Nat.blt j 143 then (bif Nat.blt j 137 then (bif Nat.blt j 134 then (4227, false, "") else (4231, false, "")) else (bif Nat.blt j 139 then (4190, false, "") else (4196, false, ""))) else (bif Nat.blt j 150 then (bif Nat.blt j 147 then (4205, false, "") else (4209, false, "")) else (bif Nat.blt j 153 then (4214, false, "") else (bif Nat.blt j 156 then (4179, false, "") else (4186, false, "")))))) else (bif Nat.blt j 187 then (bif Nat.blt j 171 then (bif Nat.blt j 165 then (bif Nat.blt j 162 then (4235, false, "") else (4263, false, "")) else (bif Nat.blt j 168 then (4101, false, "") else (4259, false, ""))) else (bif Nat.blt j 177 then (bif Nat.blt j 174 then (4267, false, "") else (4255, false, "")) else (bif Nat.blt j 179 then (4284, false, "") else (bif Nat.blt j 183 then (4297, false, "") else (4300, false, ""))))) else (bif Nat.blt j 201 then (bif Nat.blt j 195 then (bif Nat.blt j 191 then (4303, false, "") else (4293, false, "")) else (bif Nat.blt j 199 then (4289, false, "") else (4317, false, ""))) else (bif Nat.blt j 208 then (bif Nat.blt j 205 then (4314, false, "") else (4322, false, "")) else (bif Nat.blt j 211 then (4096, false, "") else (bif Nat.blt j 213 then (5127, false, "") else (5128, false, ""))))))))
noncomputable def am_ps_11 (j : Nat) : Nat × Bool × String := (bif Nat.blt j 492 then (bif Nat.blt j 38 then (bif Nat.blt j 15 then (5133, false, "") else (5134, false, "")) else (bif Nat.blt j 335 then (2106, false, "") else (2102, false, ""))) else (bif Nat.blt j 498 then (bif Nat.blt j 495 then (2116, false, "") else (2120, false, "")) else (bif Nat.blt j 1053 then (2131, false, "") else (bif Nat.blt j 1059 then (2126, false, "x") else (2128, false, "")))))
noncomputable def am_ps_12 (j : Nat) : Nat × Bool × String := (2123, false, "")
noncomputable def am_ps_14 (j : Nat) : Nat × Bool × String := (bif Nat.blt j 53 then (bif Nat.blt j 31 then (bif Nat.blt j 17 then (bif Nat.blt j 10 then (bif Nat.blt j 9 then (1041, false, "") else (1043, false, "")) else (bif Nat.blt j 12 then (3288, false, "") else (bif Nat.blt j 13 then (3290, false, "") else (2049, false, "")))) else (bif Nat.blt j 23 then (bif Nat.blt j 18 then (4167, false, "") else (bif Nat.blt j 22 then (2057, false, "") else (4175, false, ""))) else (bif Nat.blt j 27 then (2286, false, "") else (bif Nat.blt j 28 then (4239, false, "") else (3081, false, ""))))) else (bif Nat.blt j 40 then (bif Nat.blt j 35 then (bif Nat.blt j 32 then (4243, false, "") else (3089, false, "")) else (bif Nat.blt j 36 then (4251, false, "") else (bif Nat.blt j 39 then (3138, false, "") else (4268, false, "")))) else (bif Nat.blt j 47 then (bif Nat.blt j 43 then (3142, false, "") else (bif Nat.blt j 44 then (4272, false, "") else (3146, false, ""))) else (bif Nat.blt j 48 then (4247, false, "") else (bif Nat.blt j 52 then (3151, false, "") else (4276, false, "")))))) else (bif Nat.blt j 79 then (bif Nat.blt j 66 then (bif Nat.blt j 58 then (bif Nat.blt j 57 then (3156, false, "") else (4280, false, "")) else (bif Nat.blt j 62 then (3169, false, "") else (bif Nat.blt j 63 then (4285, false, "") else (3199, false, "")))) else (bif Nat.blt j 71 then (bif Nat.blt j 67 then (4306, false, "") else (bif Nat.blt j 70 then (3207, false, "") else (4310, false, ""))) else (bif Nat.blt j 74 then (3219, false, "") else (bif Nat.blt j 75 then (4318, false, "") else (3231, false, ""))))) else (bif Nat.blt j 89 then (bif Nat.blt j 83 then (bif Nat.blt j 80 then (4326, false, "") else (3239, false, "")) else (bif Nat.blt j 84 then (4327, false, "") else (bif Nat.blt j 88 then (3247, false, "") else (4331, false, "")))) else (bif Nat.blt j 96 then (bif Nat.blt j 92 then (3257, false, "") else (bif Nat.blt j 93 then (4335, false, "") else (3265, false, ""))) else (bif Nat.blt j 97 then (5123, false, "") else (bif Nat.blt j 100 then (3280, false, "") else (5129, false, "")))))))
noncomputable def am_ps (p j : Nat) : Nat × Bool × String := (bif Nat.blt p 7 then (bif Nat.blt p 3 then (bif Nat.blt p 1 then am_ps_0 j else (bif Nat.blt p 2 then am_ps_1 j else am_ps_2 j)) else (bif Nat.blt p 5 then (bif Nat.blt p 4 then am_ps_3 j else am_ps_4 j) else (bif Nat.blt p 6 then am_ps_5 j else am_ps_6 j))) else (bif Nat.blt p 10 then (bif Nat.blt p 8 then am_ps_7 j else (bif Nat.blt p 9 then am_ps_8 j else am_ps_9 j)) else (bif Nat.blt p 12 then (bif Nat.blt p 11 then am_ps_10 j else am_ps_11 j) else (bif Nat.blt p 14 then am_ps_12 j else am_ps_14 j))))
noncomputable def am_wO : Nat × Nat := (1047, 1048)
noncomputable def am_wM : Nat × Nat × Nat := (3188, 1040, 3189)
noncomputable def am_wA : Nat × Nat × Nat := (1071, 1085, 4166)
noncomputable def am_rT (_ k : Nat) : String × String × String := (bif Nat.blt k 1 then ("java/lang/String", "value", "[B") else ("java/lang/String", "coder", "B"))
/-- texts: class, place in its pool, text, the cell from before that it is -/
noncomputable def am_sk : List (String × Nat × String × Nat) := [("CodeRules$Rules", 54, "code", 1), ("CodeRules$Rules", 98, "when", 3), ("CodeRules$Rules", 106, "<", 5), ("CodeRules$Rules", 108, "=", 7), ("CodeRules$Rules", 110, ">", 9), ("CodeRules$Rules", 63, "general", 11), ("CodeRules$Rules", 68, "mirror", 13), ("CodeRules$Rules", 73, "map", 15), ("CodeRules$Rules", 78, "name", 17)]
end
section
/-! what the tables keep -/
def am_isN : Cond → Bool
  | .fieldLinkNest _ _ _ _ _ _ => true
  | .methodLinkNest _ _ _ _ => true
  | _ => false
noncomputable def am_TB : List Cond := lw_tbl.filter goodWord
noncomputable def am_NW : List Cond := lw_tbl.filter am_isN
/-- the words in their five lists, behind those of private methods -/
noncomputable def am_chk (c : Nat) : List Cond := bif Nat.blt c 3 then (bif Nat.blt c 1 then k2_sels lw_privs else bif Nat.blt c 2 then tables_1_1 else tables_1_2) else bif Nat.blt c 4 then tables_1_3 else bif Nat.blt c 5 then tables_1_4 else tables_1_5
theorem am_chk_in {c : Nat} {w : Cond} (h : w ∈ am_chk c) : w ∈ lw_tbl := by
  unfold am_chk at h
  unfold lw_tbl tables_1
  cases h1 : Nat.blt c 3 <;> cases h2 : Nat.blt c 1 <;> cases h3 : Nat.blt c 2 <;> cases h4 : Nat.blt c 4 <;> cases h5 : Nat.blt c 5 <;> simp only [h1, h2, h3, h4, h5, cond_true, cond_false] at h <;> simp only [List.mem_append, h, true_or, or_true]
/-- the word at a place: the list's number times 1024, and the place in it -/
noncomputable def am_at (k : Nat) : Option Cond := (am_chk (k / 1024))[k % 1024]?
theorem am_at_in {k : Nat} {w : Cond} (h : am_at k = some w) : w ∈ lw_tbl := am_chk_in (List.mem_of_getElem? h)
noncomputable def am_isw (k : Nat) (w : Cond) : Bool := decide (am_at k = some w) && goodWord w
noncomputable def am_isn (k : Nat) (w : Cond) : Bool := decide (am_at k = some w) && am_isN w
theorem am_isw_of {k : Nat} {w : Cond} (h : am_isw k w = true) : w ∈ am_TB := by
  unfold am_isw at h
  rw [Bool.and_eq_true] at h
  exact List.mem_filter.mpr ⟨am_at_in (of_decide_eq_true h.1), h.2⟩
theorem am_isn_of {k : Nat} {w : Cond} (h : am_isn k w = true) : w ∈ am_NW := by
  unfold am_isn at h
  rw [Bool.and_eq_true] at h
  exact List.mem_filter.mpr ⟨am_at_in (of_decide_eq_true h.1), h.2⟩
noncomputable def am_mO (mi : Nat) : String := (am_mN mi).cls
noncomputable def am_lkF (own : String) (j : Nat) (f : String × String × String × Bool) (q : Nat × Bool × String) : Bool := match q.2.1 with
  | false => am_isw q.1 (.fieldLink own j f.1 f.2.1 f.2.2.1)
  | true => am_isn q.1 (.fieldLinkNest own j f.1 f.2.1 f.2.2.1 q.2.2)
theorem am_lkF_of {own : String} {j : Nat} {f : String × String × String × Bool} {q : Nat × Bool × String} (h : am_lkF own j f q = true) : Cond.fieldLink own j f.1 f.2.1 f.2.2.1 ∈ am_TB ∨ ∃ host, Cond.fieldLinkNest own j f.1 f.2.1 f.2.2.1 host ∈ am_NW := by
  unfold am_lkF at h
  split at h
  · exact Or.inl (am_isw_of h)
  · exact Or.inr ⟨_, am_isn_of h⟩
noncomputable def am_lkM (own : String) (j : Nat) (y : MethodName) (q : Nat × Bool × String) : Bool := match q.2.1 with
  | false => am_isw q.1 (.methodLink own j y)
  | true => am_isn q.1 (.methodLinkNest own j y q.2.2)
theorem am_lkM_of {own : String} {j : Nat} {y : MethodName} {q : Nat × Bool × String} (h : am_lkM own j y q = true) : Cond.methodLink own j y ∈ am_TB ∨ ∃ host, Cond.methodLinkNest own j y host ∈ am_NW := by
  unfold am_lkM at h
  split at h
  · exact Or.inl (am_isw_of h)
  · exact Or.inr ⟨_, am_isn_of h⟩
noncomputable def am_qF (p j : Nat) (v : Nat × Nat) : Bool := am_cf v.1 fun q => Nat.blt v.2 q.2.2 && am_lkF (am_pN p) j (q.2.1 v.2) (am_ps p j)
theorem am_qF_ok : ∀ p, p < am_nP → ∀ j, j < am_nJ → am_oq (am_kF0 p j) (am_qF p j) = true := by decide +kernel
theorem am_mP_ok (mi : Nat) : am_pN (am_mP mi) = am_mO mi := of_decide_eq_true (am_mall (fun j => decide (am_pN (am_mPt j) = (am_mNt j).cls)) (by decide +kernel) mi)
theorem am_kF_ok {mi j ci k : Nat} (h : am_kF (am_mP mi) j = some (ci, k)) : ∃ C T N, am_cl[ci]? = some (C, T, N) ∧ k < N ∧ (Cond.fieldLink (am_mO mi) j (T k).1 (T k).2.1 (T k).2.2.1 ∈ am_TB ∨ ∃ host, Cond.fieldLinkNest (am_mO mi) j (T k).1 (T k).2.1 (T k).2.2.1 host ∈ am_NW) := by
  have h1 := am_b2_all am_qF_ok h
  obtain ⟨C, T, N, h2, h3⟩ := am_cf_of h1
  rw [Bool.and_eq_true] at h3
  have h4 := am_lkF_of h3.2
  rw [am_mP_ok] at h4
  exact ⟨C, T, N, h2, Nat.le_of_ble_eq_true h3.1, h4⟩
noncomputable def am_qP (p j : Nat) (v : Nat × Nat × FieldType) : Bool := am_cf v.1 fun q => Nat.blt v.2.1 q.2.2 && am_isw (am_ps p j).1 (.fieldLink (am_pN p) j (q.2.1 v.2.1).1 (q.2.1 v.2.1).2.1 (q.2.1 v.2.1).2.2.1) && decide (parseFieldDescriptor (q.2.1 v.2.1).2.2.1 = some v.2.2)
theorem am_qP_ok : ∀ p, p < am_nP → ∀ j, j < am_nJ → am_oq (am_kP0 p j) (am_qP p j) = true := by decide +kernel
theorem am_kP_ok {mi pc nx t j ci k : Nat} {ty : FieldType} (hd : am_cd mi pc = some (.putfield j, nx, t)) (h : am_kP (am_mP mi) j = some (ci, k, ty)) : ∃ C T N, am_cl[ci]? = some (C, T, N) ∧ k < N ∧ Cond.fieldLink (am_mO mi) j (T k).1 (T k).2.1 (T k).2.2.1 ∈ am_TB ∧ ((T k).2.2.2 = false ∨ ((T k).2.2.2 = true ∧ am_mI mi = true ∧ (T k).1 = am_mO mi)) ∧ parseFieldDescriptor (T k).2.2.1 = some ty := by
  have h1 := am_b2_all am_qP_ok h
  obtain ⟨C, T, N, h2, h3⟩ := am_cf_of h1
  rw [Bool.and_eq_true, Bool.and_eq_true] at h3
  have h4 := am_isw_of h3.1.2
  rw [am_mP_ok] at h4
  refine ⟨C, T, N, h2, Nat.le_of_ble_eq_true h3.1.1, h4, ?_, of_decide_eq_true h3.2⟩
  obtain ⟨n, -, -, h5⟩ := am_cd_ok hd
  replace h5 : (match am_kP (am_mP mi) j with
    | some (ci, k, _) => am_cf ci fun q => !(q.2.1 k).2.2.2 || (am_mI mi && decide ((q.2.1 k).1 = am_pN (am_mP mi)))
    | none => true) = true := h5
  rw [h] at h5
  obtain ⟨C', T', N', h6, h7⟩ := am_cf_of h5
  rw [h2] at h6
  cases h6
  cases hf : (T k).2.2.2 with
  | false => exact Or.inl rfl
  | true =>
    simp only [hf, Bool.not_true, Bool.false_or, Bool.and_eq_true, decide_eq_true_eq] at h7
    exact Or.inr ⟨rfl, h7.1, h7.2.trans (am_mP_ok mi)⟩
/-- a new object's fields are plain values -/
noncomputable def am_pl : Value → Bool
  | .ref _ => false
  | .retAddr _ => false
  | _ => true
noncomputable def am_qD (ci : Nat) (q : vw_C) : Bool := Nat.beq (am_df ci).length q.2.2 && (List.range q.2.2).all fun k => match parseFieldDescriptor (q.2.1 k).2.2.1, (am_df ci)[k]? with
  | some ty, some v => decide (defaultValue ty = v) && am_pl v
  | _, _ => false
noncomputable def am_qC (p j : Nat) (ci : Nat) : Bool := am_cf ci fun q => am_isw (am_ps p j).1 (.classLink (am_pN p) j q.1) && am_isw (am_cP ci).1 (.instantiable q.1 q.2.2) && am_isw (am_cP ci).2 (.initialized q.1) && am_qD ci q
theorem am_qC_ok : ∀ p, p < am_nP → ∀ j, j < am_nJ → am_oq (am_kC0 p j) (am_qC p j) = true := by decide +kernel
theorem am_cv_pl {bs : Nat} {ad : Nat → Nat} {v : Value} (h : am_pl v = true) : am_cv bs ad v = v := by
  cases v <;> first | rfl | cases h
theorem am_kC_ok {mi j ci : Nat} (h : am_kC (am_mP mi) j = some ci) : ∃ C T N, am_cl[ci]? = some (C, T, N) ∧ Cond.classLink (am_mO mi) j C ∈ am_TB ∧ Cond.instantiable C N ∈ am_TB ∧ Cond.initialized C ∈ am_TB ∧ (am_df ci).length = N ∧ ∀ (bs : Nat) (ad : Nat → Nat) (ty : Nat → FieldType), (∀ k, k < N → parseFieldDescriptor (T k).2.2.1 = some (ty k)) → ∀ k, k < N → defaultValue (ty k) = vp_V ((am_df ci).map (am_cv bs ad)) k := by
  have h1 := am_b2_all am_qC_ok h
  obtain ⟨C, T, N, h2, h3⟩ := am_cf_of h1
  rw [Bool.and_eq_true, Bool.and_eq_true, Bool.and_eq_true] at h3
  have h4 := am_isw_of h3.1.1.1
  rw [am_mP_ok] at h4
  have h5 := h3.2
  unfold am_qD at h5
  rw [Bool.and_eq_true, List.all_eq_true] at h5
  refine ⟨C, T, N, h2, h4, am_isw_of h3.1.1.2, am_isw_of h3.1.2, Nat.eq_of_beq_eq_true h5.1, fun bs ad ty hty k hk => ?_⟩
  have h6 := h5.2 k (List.mem_range.mpr hk)
  rw [hty k hk] at h6
  split at h6
  · next ty1 v e1 e2 =>
    cases e1
    rw [Bool.and_eq_true] at h6
    simp only [vp_V, List.getD_eq_getElem?_getD, List.getElem?_map, e2, Option.map_some, Option.getD_some, am_cv_pl h6.2]
    exact of_decide_eq_true h6.1
  · cases h6
noncomputable def am_qQ (p j : Nat) (v : Nat × Nat) : Bool := am_isw (am_ps p j).1 (.fieldLink (am_pN p) j (am_rT v.1 v.2).1 (am_rT v.1 v.2).2.1 (am_rT v.1 v.2).2.2)
theorem am_qQ_ok : ∀ p, p < am_nP → ∀ j, j < am_nJ → am_oq (am_kQ0 p j) (am_qQ p j) = true := by decide +kernel
theorem am_kQ_ok {mi j ci k : Nat} (h : am_kQ (am_mP mi) j = some (ci, k)) : Cond.fieldLink (am_mO mi) j (am_rT ci k).1 (am_rT ci k).2.1 (am_rT ci k).2.2 ∈ am_TB := by
  have h1 := am_isw_of (am_b2_all am_qQ_ok h)
  rw [am_mP_ok] at h1
  exact h1
noncomputable def am_qI (p j : Nat) (v : Value) : Bool := match v with
  | .int x => am_isw (am_ps p j).1 (.constant (am_pN p) j x)
  | .retAddr n => match am_sk[(am_ps p j).1]? with
    | some q => decide (q.1 = am_pN p) && Nat.beq q.2.1 j && Nat.beq n (q.2.2.2 + 1)
    | none => false
  | _ => false
theorem am_qI_ok : ∀ p, p < am_nP → ∀ j, j < am_nJ → am_oq (am_kI0 p j) (am_qI p j) = true := by decide +kernel
theorem am_kI_ok {mi j : Nat} {v : Value} (h : am_kI (am_mP mi) j = some v) : (∃ x, v = .int x ∧ Cond.constant (am_mO mi) j x ∈ am_TB) ∨ ∃ q ∈ am_sk, q.1 = am_mO mi ∧ q.2.1 = j ∧ v = .retAddr (q.2.2.2 + 1) := by
  have h1 := am_b2_all am_qI_ok h
  unfold am_qI at h1
  split at h1
  · next x =>
    have h2 := am_isw_of h1
    rw [am_mP_ok] at h2
    exact Or.inl ⟨x, rfl, h2⟩
  · next n =>
    split at h1
    · next q hq =>
      rw [Bool.and_eq_true, Bool.and_eq_true] at h1
      exact Or.inr ⟨q, List.mem_of_getElem? hq, (of_decide_eq_true h1.1.1).trans (am_mP_ok mi), Nat.eq_of_beq_eq_true h1.1.2, by rw [Nat.eq_of_beq_eq_true h1.2]⟩
    · cases h1
  · cases h1
noncomputable def am_qL (p j : Nat) (v : Int64) : Bool := am_isw (am_ps p j).1 (.constantLong (am_pN p) j v)
theorem am_qL_ok : ∀ p, p < am_nP → ∀ j, j < am_nJ → am_oq (am_kL0 p j) (am_qL p j) = true := by decide +kernel
theorem am_kL_ok {mi j : Nat} {v : Int64} (h : am_kL (am_mP mi) j = some v) : Cond.constantLong (am_mO mi) j v ∈ am_TB := by
  have h1 := am_isw_of (am_b2_all am_qL_ok h)
  rw [am_mP_ok] at h1
  exact h1
/-- statics: the place in am_gs -/
noncomputable def am_qG (p j : Nat) (v : Value) : Bool := match am_gs[(am_ps p j).2.2.length]? with
  | some q => am_isw (am_ps p j).1 (.fieldLink (am_pN p) j q.1 q.2.1 q.2.2.1) && decide (v = q.2.2.2)
  | none => false
theorem am_qG_ok : ∀ p, p < am_nP → ∀ j, j < am_nJ → am_oq (am_kG0 p j) (am_qG p j) = true := by decide +kernel
theorem am_kG_ok {mi j : Nat} {v : Value} (h : am_kG (am_mP mi) j = some v) : ∃ q ∈ am_gs, Cond.fieldLink (am_mO mi) j q.1 q.2.1 q.2.2.1 ∈ am_TB ∧ v = q.2.2.2 := by
  have h1 := am_b2_all am_qG_ok h
  unfold am_qG at h1
  split at h1
  · next q hq =>
    rw [Bool.and_eq_true] at h1
    have h2 := am_isw_of h1.1
    rw [am_mP_ok] at h2
    exact ⟨q, List.mem_of_getElem? hq, h2, of_decide_eq_true h1.2⟩
  · cases h1
/-- Object's constructor, Math.min -/
noncomputable def am_qO (p j : Nat) (_ : Unit) : Bool := am_isw (am_ps p j).1 (.methodLink (am_pN p) j Lib.objectInit)
theorem am_qO_ok : ∀ p, p < am_nP → ∀ j, j < am_nJ → am_oq (am_kO0 p j) (am_qO p j) = true := by decide +kernel
theorem am_kO_ok {mi j : Nat} (h : (am_kOo (am_mP mi) j).isSome = true) : Cond.methodLink (am_mO mi) j Lib.objectInit ∈ am_TB := by
  obtain ⟨u, hu⟩ := Option.isSome_iff_exists.mp h
  have h1 := am_isw_of (am_b2_all am_qO_ok hu)
  rw [am_mP_ok] at h1
  exact h1
noncomputable def am_qN (p j : Nat) (_ : Unit) : Bool := am_isw (am_ps p j).1 (.methodLink (am_pN p) j Lib.Math.min.name)
theorem am_qN_ok : ∀ p, p < am_nP → ∀ j, j < am_nJ → am_oq (am_kN0 p j) (am_qN p j) = true := by decide +kernel
theorem am_kN_w : am_isw am_wM.1 (.static Lib.Math.min.name) = true ∧ am_isw am_wM.2.1 (.initialized "java/lang/Math") = true ∧ am_isw am_wM.2.2 (.code Lib.Math.min.name Lib.Math.min.code 2 (some .int)) = true := by decide +kernel
theorem am_kN_ok {mi j : Nat} (h : (am_kNo (am_mP mi) j).isSome = true) : Cond.methodLink (am_mO mi) j Lib.Math.min.name ∈ am_TB ∧ Cond.static Lib.Math.min.name ∈ am_TB ∧ Cond.initialized "java/lang/Math" ∈ am_TB ∧ Cond.code Lib.Math.min.name Lib.Math.min.code 2 (some .int) ∈ am_TB := by
  obtain ⟨u, hu⟩ := Option.isSome_iff_exists.mp h
  have h1 := am_isw_of (am_b2_all am_qN_ok hu)
  rw [am_mP_ok] at h1
  exact ⟨h1, am_isw_of am_kN_w.1, am_isw_of am_kN_w.2.1, am_isw_of am_kN_w.2.2⟩
theorem am_ob_i : Cond.instanceMethod Lib.objectInit ∈ am_TB := am_isw_of (k := am_wO.1) (by decide +kernel)
theorem am_ob_c : Cond.code Lib.objectInit ⟨#[0xb1]⟩ 1 none ∈ am_TB := am_isw_of (k := am_wO.2) (by decide +kernel)
theorem am_ac_int : Cond.arrayClass .int ∈ am_TB := am_isw_of (k := am_wA.1) (by decide +kernel)
theorem am_ac_boolean : Cond.arrayClass .boolean ∈ am_TB := am_isw_of (k := am_wA.2.1) (by decide +kernel)
theorem am_ac_long : Cond.arrayClass .long ∈ am_TB := am_isw_of (k := am_wA.2.2) (by decide +kernel)
end
section
/-! the words of the methods' code, by their places -/
theorem am_w_in {k : Nat} {w : Cond} (h : am_at k = some w) (g : goodWord w = true) : w ∈ am_TB := List.mem_filter.mpr ⟨am_at_in h, g⟩
def am_cwP (j : Nat) : Prop := Cond.code (am_mNt j) (am_mBt j) (am_mLt j) (am_mRt j) ∈ am_TB
theorem am_cw_0 : am_cwP 0 := am_w_in (k := 1045) rfl rfl
theorem am_cw_1 : am_cwP 1 := am_w_in (k := 2052) rfl rfl
theorem am_cw_2 : am_cwP 2 := am_w_in (k := 2060) rfl rfl
theorem am_cw_3 : am_cwP 3 := am_w_in (k := 3073) rfl rfl
theorem am_cw_4 : am_cwP 4 := am_w_in (k := 3080) rfl rfl
theorem am_cw_5 : am_cwP 5 := am_w_in (k := 3084) rfl rfl
theorem am_cw_6 : am_cwP 6 := am_w_in (k := 3092) rfl rfl
theorem am_cw_7 : am_cwP 7 := am_w_in (k := 3141) rfl rfl
theorem am_cw_8 : am_cwP 8 := am_w_in (k := 3145) rfl rfl
theorem am_cw_9 : am_cwP 9 := am_w_in (k := 3149) rfl rfl
theorem am_cw_10 : am_cwP 10 := am_w_in (k := 3154) rfl rfl
theorem am_cw_11 : am_cwP 11 := am_w_in (k := 3159) rfl rfl
theorem am_cw_12 : am_cwP 12 := am_w_in (k := 3162) rfl rfl
theorem am_cw_13 : am_cwP 13 := am_w_in (k := 3172) rfl rfl
theorem am_cw_14 : am_cwP 14 := am_w_in (k := 3176) rfl rfl
theorem am_cw_15 : am_cwP 15 := am_w_in (k := 3202) rfl rfl
theorem am_cw_16 : am_cwP 16 := am_w_in (k := 3210) rfl rfl
theorem am_cw_17 : am_cwP 17 := am_w_in (k := 3222) rfl rfl
theorem am_cw_18 : am_cwP 18 := am_w_in (k := 3234) rfl rfl
theorem am_cw_19 : am_cwP 19 := am_w_in (k := 3242) rfl rfl
theorem am_cw_20 : am_cwP 20 := am_w_in (k := 3250) rfl rfl
theorem am_cw_21 : am_cwP 21 := am_w_in (k := 3260) rfl rfl
theorem am_cw_22 : am_cwP 22 := am_w_in (k := 3268) rfl rfl
theorem am_cw_23 : am_cwP 23 := am_w_in (k := 3283) rfl rfl
theorem am_cw_24 : am_cwP 24 := am_w_in (k := 1053) rfl rfl
theorem am_cw_25 : am_cwP 25 := am_w_in (k := 2056) rfl rfl
theorem am_cw_26 : am_cwP 26 := am_w_in (k := 2080) rfl rfl
theorem am_cw_27 : am_cwP 27 := am_w_in (k := 2084) rfl rfl
theorem am_cw_28 : am_cwP 28 := am_w_in (k := 2088) rfl rfl
theorem am_cw_29 : am_cwP 29 := am_w_in (k := 2097) rfl rfl
theorem am_cw_30 : am_cwP 30 := am_w_in (k := 2111) rfl rfl
theorem am_cw_31 : am_cwP 31 := am_w_in (k := 2153) rfl rfl
theorem am_cw_32 : am_cwP 32 := am_w_in (k := 2166) rfl rfl
theorem am_cw_33 : am_cwP 33 := am_w_in (k := 2253) rfl rfl
theorem am_cw_34 : am_cwP 34 := am_w_in (k := 2276) rfl rfl
theorem am_cw_35 : am_cwP 35 := am_w_in (k := 2280) rfl rfl
theorem am_cw_36 : am_cwP 36 := am_w_in (k := 1076) rfl rfl
theorem am_cw_37 : am_cwP 37 := am_w_in (k := 3077) rfl rfl
theorem am_cw_38 : am_cwP 38 := am_w_in (k := 3088) rfl rfl
theorem am_cw_39 : am_cwP 39 := am_w_in (k := 3129) rfl rfl
theorem am_cw_40 : am_cwP 40 := am_w_in (k := 3133) rfl rfl
theorem am_cw_41 : am_cwP 41 := am_w_in (k := 1090) rfl rfl
theorem am_cw_42 : am_cwP 42 := am_w_in (k := 2284) rfl rfl
theorem am_cw_43 : am_cwP 43 := am_w_in (k := 3214) rfl rfl
theorem am_cw_44 : am_cwP 44 := am_w_in (k := 3218) rfl rfl
theorem am_cw_45 : am_cwP 45 := am_w_in (k := 3226) rfl rfl
theorem am_cw_46 : am_cwP 46 := am_w_in (k := 3230) rfl rfl
theorem am_cw_47 : am_cwP 47 := am_w_in (k := 3238) rfl rfl
theorem am_cw_48 : am_cwP 48 := am_w_in (k := 1103) rfl rfl
theorem am_cw_49 : am_cwP 49 := am_w_in (k := 3246) rfl rfl
theorem am_cw_50 : am_cwP 50 := am_w_in (k := 3254) rfl rfl
theorem am_cw_51 : am_cwP 51 := am_w_in (k := 3264) rfl rfl
theorem am_cw_52 : am_cwP 52 := am_w_in (k := 1122) rfl rfl
theorem am_cw_53 : am_cwP 53 := am_w_in (k := 3272) rfl rfl
theorem am_cw_54 : am_cwP 54 := am_w_in (k := 3278) rfl rfl
theorem am_cw_55 : am_cwP 55 := am_w_in (k := 3287) rfl rfl
theorem am_cw_56 : am_cwP 56 := am_w_in (k := 1135) rfl rfl
theorem am_cw_57 : am_cwP 57 := am_w_in (k := 2064) rfl rfl
theorem am_cw_58 : am_cwP 58 := am_w_in (k := 2092) rfl rfl
theorem am_cw_59 : am_cwP 59 := am_w_in (k := 2157) rfl rfl
theorem am_cw_60 : am_cwP 60 := am_w_in (k := 2177) rfl rfl
theorem am_cw_61 : am_cwP 61 := am_w_in (k := 2195) rfl rfl
theorem am_cw_62 : am_cwP 62 := am_w_in (k := 2209) rfl rfl
theorem am_cw_63 : am_cwP 63 := am_w_in (k := 2231) rfl rfl
theorem am_cw_64 : am_cwP 64 := am_w_in (k := 2245) rfl rfl
theorem am_cw_65 : am_cwP 65 := am_w_in (k := 3096) rfl rfl
theorem am_cw_66 : am_cwP 66 := am_w_in (k := 3100) rfl rfl
theorem am_cw_67 : am_cwP 67 := am_w_in (k := 3108) rfl rfl
theorem am_cw_68 : am_cwP 68 := am_w_in (k := 1141) rfl rfl
theorem am_cw_69 : am_cwP 69 := am_w_in (k := 2068) rfl rfl
theorem am_cw_70 : am_cwP 70 := am_w_in (k := 2161) rfl rfl
theorem am_cw_71 : am_cwP 71 := am_w_in (k := 2170) rfl rfl
theorem am_cw_72 : am_cwP 72 := am_w_in (k := 2181) rfl rfl
theorem am_cw_73 : am_cwP 73 := am_w_in (k := 2189) rfl rfl
theorem am_cw_74 : am_cwP 74 := am_w_in (k := 3104) rfl rfl
theorem am_cw_75 : am_cwP 75 := am_w_in (k := 3112) rfl rfl
theorem am_cw_76 : am_cwP 76 := am_w_in (k := 3117) rfl rfl
theorem am_cw_77 : am_cwP 77 := am_w_in (k := 3125) rfl rfl
theorem am_cw_78 : am_cwP 78 := am_w_in (k := 3136) rfl rfl
theorem am_cw_79 : am_cwP 79 := am_w_in (k := 1172) rfl rfl
theorem am_cw_80 : am_cwP 80 := am_w_in (k := 2072) rfl rfl
theorem am_cw_81 : am_cwP 81 := am_w_in (k := 2199) rfl rfl
theorem am_cw_82 : am_cwP 82 := am_w_in (k := 2203) rfl rfl
theorem am_cw_83 : am_cwP 83 := am_w_in (k := 2213) rfl rfl
theorem am_cw_84 : am_cwP 84 := am_w_in (k := 2217) rfl rfl
theorem am_cw_85 : am_cwP 85 := am_w_in (k := 2221) rfl rfl
theorem am_cw_86 : am_cwP 86 := am_w_in (k := 2225) rfl rfl
theorem am_cw_87 : am_cwP 87 := am_w_in (k := 2235) rfl rfl
theorem am_cw_88 : am_cwP 88 := am_w_in (k := 2239) rfl rfl
theorem am_cw_89 : am_cwP 89 := am_w_in (k := 3121) rfl rfl
theorem am_cw_90 : am_cwP 90 := am_w_in (k := 3168) rfl rfl
theorem am_cw_91 : am_cwP 91 := am_w_in (k := 1209) rfl rfl
theorem am_cw_92 : am_cwP 92 := am_w_in (k := 2076) rfl rfl
theorem am_cw_93 : am_cwP 93 := am_w_in (k := 2249) rfl rfl
theorem am_cw_94 : am_cwP 94 := am_w_in (k := 2257) rfl rfl
theorem am_cw_95 : am_cwP 95 := am_w_in (k := 2261) rfl rfl
theorem am_cw_96 : am_cwP 96 := am_w_in (k := 2266) rfl rfl
theorem am_cw_97 : am_cwP 97 := am_w_in (k := 2271) rfl rfl
theorem am_cw_98 : am_cwP 98 := am_w_in (k := 3182) rfl rfl
theorem am_cw_99 : am_cwP 99 := am_w_in (k := 3186) rfl rfl
theorem am_cw_100 : am_cwP 100 := am_w_in (k := 3193) rfl rfl
theorem am_cw_101 : am_cwP 101 := am_w_in (k := 3197) rfl rfl
theorem am_cw_102 : am_cwP 102 := am_w_in (k := 3206) rfl rfl
theorem am_cw_103 : am_cwP 103 := am_w_in (k := 3292) rfl rfl
theorem am_cw_104 : am_cwP 104 := am_w_in (k := 4170) rfl rfl
theorem am_cw_105 : am_cwP 105 := am_w_in (k := 4174) rfl rfl
theorem am_cw_106 : am_cwP 106 := am_w_in (k := 4178) rfl rfl
theorem am_cw_107 : am_cwP 107 := am_w_in (k := 4182) rfl rfl
theorem am_cw_108 : am_cwP 108 := am_w_in (k := 4185) rfl rfl
theorem am_cw_109 : am_cwP 109 := am_w_in (k := 4189) rfl rfl
theorem am_cw_110 : am_cwP 110 := am_w_in (k := 4194) rfl rfl
theorem am_cw_111 : am_cwP 111 := am_w_in (k := 4199) rfl rfl
theorem am_cw_112 : am_cwP 112 := am_w_in (k := 4208) rfl rfl
theorem am_cw_113 : am_cwP 113 := am_w_in (k := 4212) rfl rfl
theorem am_cw_114 : am_cwP 114 := am_w_in (k := 4217) rfl rfl
theorem am_cw_115 : am_cwP 115 := am_w_in (k := 4221) rfl rfl
theorem am_cw_116 : am_cwP 116 := am_w_in (k := 4225) rfl rfl
theorem am_cw_117 : am_cwP 117 := am_w_in (k := 4230) rfl rfl
theorem am_cw_118 : am_cwP 118 := am_w_in (k := 4234) rfl rfl
theorem am_cw_119 : am_cwP 119 := am_w_in (k := 4238) rfl rfl
theorem am_cw_120 : am_cwP 120 := am_w_in (k := 4242) rfl rfl
theorem am_cw_121 : am_cwP 121 := am_w_in (k := 4246) rfl rfl
theorem am_cw_122 : am_cwP 122 := am_w_in (k := 4250) rfl rfl
theorem am_cw_123 : am_cwP 123 := am_w_in (k := 4254) rfl rfl
theorem am_cw_124 : am_cwP 124 := am_w_in (k := 4258) rfl rfl
theorem am_cw_125 : am_cwP 125 := am_w_in (k := 4262) rfl rfl
theorem am_cw_126 : am_cwP 126 := am_w_in (k := 4266) rfl rfl
theorem am_cw_127 : am_cwP 127 := am_w_in (k := 4271) rfl rfl
theorem am_cw_128 : am_cwP 128 := am_w_in (k := 4275) rfl rfl
theorem am_cw_129 : am_cwP 129 := am_w_in (k := 4279) rfl rfl
theorem am_cw_130 : am_cwP 130 := am_w_in (k := 4283) rfl rfl
theorem am_cw_131 : am_cwP 131 := am_w_in (k := 4288) rfl rfl
theorem am_cw_132 : am_cwP 132 := am_w_in (k := 4292) rfl rfl
theorem am_cw_133 : am_cwP 133 := am_w_in (k := 4296) rfl rfl
theorem am_cw_134 : am_cwP 134 := am_w_in (k := 4299) rfl rfl
theorem am_cw_135 : am_cwP 135 := am_w_in (k := 4302) rfl rfl
theorem am_cw_136 : am_cwP 136 := am_w_in (k := 4305) rfl rfl
theorem am_cw_137 : am_cwP 137 := am_w_in (k := 4309) rfl rfl
theorem am_cw_138 : am_cwP 138 := am_w_in (k := 4313) rfl rfl
theorem am_cw_139 : am_cwP 139 := am_w_in (k := 4316) rfl rfl
theorem am_cw_140 : am_cwP 140 := am_w_in (k := 4321) rfl rfl
theorem am_cw_141 : am_cwP 141 := am_w_in (k := 4325) rfl rfl
theorem am_cw_142 : am_cwP 142 := am_w_in (k := 4330) rfl rfl
theorem am_cw_143 : am_cwP 143 := am_w_in (k := 4334) rfl rfl
theorem am_cw_144 : am_cwP 144 := am_w_in (k := 5122) rfl rfl
theorem am_cw_145 : am_cwP 145 := am_w_in (k := 5126) rfl rfl
theorem am_cw_146 : am_cwP 146 := am_w_in (k := 5132) rfl rfl
theorem am_cw_147 : am_cwP 147 := am_w_in (k := 2101) rfl rfl
theorem am_cw_148 : am_cwP 148 := am_w_in (k := 2105) rfl rfl
theorem am_cw_149 : am_cwP 149 := am_w_in (k := 2115) rfl rfl
theorem am_cw_150 : am_cwP 150 := am_w_in (k := 2119) rfl rfl
theorem am_cw_151 : am_cwP 151 := am_w_in (k := 2122) rfl rfl
theorem am_cw_152 : am_cwP 152 := am_w_in (k := 2125) rfl rfl
theorem am_cw_153 : am_cwP 153 := am_w_in (k := 2130) rfl rfl
theorem am_cwA : ∀ j, j < 154 → am_cwP j := by
  intro j h
  by_cases h77 : j < 77
  · skip
    by_cases h38 : j < 38
    · skip
      by_cases h19 : j < 19
      · skip
        by_cases h9 : j < 9
        · skip
          by_cases h4 : j < 4
          · skip
            by_cases h2 : j < 2
            · skip
              by_cases h1 : j < 1
              · skip
                have e : j = 0 := by omega
                subst e
                exact am_cw_0
              · skip
                have e : j = 1 := by omega
                subst e
                exact am_cw_1
            · skip
              by_cases h3 : j < 3
              · skip
                have e : j = 2 := by omega
                subst e
                exact am_cw_2
              · skip
                have e : j = 3 := by omega
                subst e
                exact am_cw_3
          · skip
            by_cases h6 : j < 6
            · skip
              by_cases h5 : j < 5
              · skip
                have e : j = 4 := by omega
                subst e
                exact am_cw_4
              · skip
                have e : j = 5 := by omega
                subst e
                exact am_cw_5
            · skip
              by_cases h7 : j < 7
              · skip
                have e : j = 6 := by omega
                subst e
                exact am_cw_6
              · skip
                by_cases h8 : j < 8
                · skip
                  have e : j = 7 := by omega
                  subst e
                  exact am_cw_7
                · skip
                  have e : j = 8 := by omega
                  subst e
                  exact am_cw_8
        · skip
          by_cases h14 : j < 14
          · skip
            by_cases h11 : j < 11
            · skip
              by_cases h10 : j < 10
              · skip
                have e : j = 9 := by omega
                subst e
                exact am_cw_9
              · skip
                have e : j = 10 := by omega
                subst e
                exact am_cw_10
            · skip
              by_cases h12 : j < 12
              · skip
                have e : j = 11 := by omega
                subst e
                exact am_cw_11
              · skip
                by_cases h13 : j < 13
                · skip
                  have e : j = 12 := by omega
                  subst e
                  exact am_cw_12
                · skip
                  have e : j = 13 := by omega
                  subst e
                  exact am_cw_13
          · skip
            by_cases h16 : j < 16
            · skip
              by_cases h15 : j < 15
              · skip
                have e : j = 14 := by omega
                subst e
                exact am_cw_14
              · skip
                have e : j = 15 := by omega
                subst e
                exact am_cw_15
            · skip
              by_cases h17 : j < 17
              · skip
                have e : j = 16 := by omega
                subst e
                exact am_cw_16
              · skip
                by_cases h18 : j < 18
                · skip
                  have e : j = 17 := by omega
                  subst e
                  exact am_cw_17
                · skip
                  have e : j = 18 := by omega
                  subst e
                  exact am_cw_18
      · skip
        by_cases h28 : j < 28
        · skip
          by_cases h23 : j < 23
          · skip
            by_cases h21 : j < 21
            · skip
              by_cases h20 : j < 20
              · skip
                have e : j = 19 := by omega
                subst e
                exact am_cw_19
              · skip
                have e : j = 20 := by omega
                subst e
                exact am_cw_20
            · skip
              by_cases h22 : j < 22
              · skip
                have e : j = 21 := by omega
                subst e
                exact am_cw_21
              · skip
                have e : j = 22 := by omega
                subst e
                exact am_cw_22
          · skip
            by_cases h25 : j < 25
            · skip
              by_cases h24 : j < 24
              · skip
                have e : j = 23 := by omega
                subst e
                exact am_cw_23
              · skip
                have e : j = 24 := by omega
                subst e
                exact am_cw_24
            · skip
              by_cases h26 : j < 26
              · skip
                have e : j = 25 := by omega
                subst e
                exact am_cw_25
              · skip
                by_cases h27 : j < 27
                · skip
                  have e : j = 26 := by omega
                  subst e
                  exact am_cw_26
                · skip
                  have e : j = 27 := by omega
                  subst e
                  exact am_cw_27
        · skip
          by_cases h33 : j < 33
          · skip
            by_cases h30 : j < 30
            · skip
              by_cases h29 : j < 29
              · skip
                have e : j = 28 := by omega
                subst e
                exact am_cw_28
              · skip
                have e : j = 29 := by omega
                subst e
                exact am_cw_29
            · skip
              by_cases h31 : j < 31
              · skip
                have e : j = 30 := by omega
                subst e
                exact am_cw_30
              · skip
                by_cases h32 : j < 32
                · skip
                  have e : j = 31 := by omega
                  subst e
                  exact am_cw_31
                · skip
                  have e : j = 32 := by omega
                  subst e
                  exact am_cw_32
          · skip
            by_cases h35 : j < 35
            · skip
              by_cases h34 : j < 34
              · skip
                have e : j = 33 := by omega
                subst e
                exact am_cw_33
              · skip
                have e : j = 34 := by omega
                subst e
                exact am_cw_34
            · skip
              by_cases h36 : j < 36
              · skip
                have e : j = 35 := by omega
                subst e
                exact am_cw_35
              · skip
                by_cases h37 : j < 37
                · skip
                  have e : j = 36 := by omega
                  subst e
                  exact am_cw_36
                · skip
                  have e : j = 37 := by omega
                  subst e
                  exact am_cw_37
    · skip
      by_cases h57 : j < 57
      · skip
        by_cases h47 : j < 47
        · skip
          by_cases h42 : j < 42
          · skip
            by_cases h40 : j < 40
            · skip
              by_cases h39 : j < 39
              · skip
                have e : j = 38 := by omega
                subst e
                exact am_cw_38
              · skip
                have e : j = 39 := by omega
                subst e
                exact am_cw_39
            · skip
              by_cases h41 : j < 41
              · skip
                have e : j = 40 := by omega
                subst e
                exact am_cw_40
              · skip
                have e : j = 41 := by omega
                subst e
                exact am_cw_41
          · skip
            by_cases h44 : j < 44
            · skip
              by_cases h43 : j < 43
              · skip
                have e : j = 42 := by omega
                subst e
                exact am_cw_42
              · skip
                have e : j = 43 := by omega
                subst e
                exact am_cw_43
            · skip
              by_cases h45 : j < 45
              · skip
                have e : j = 44 := by omega
                subst e
                exact am_cw_44
              · skip
                by_cases h46 : j < 46
                · skip
                  have e : j = 45 := by omega
                  subst e
                  exact am_cw_45
                · skip
                  have e : j = 46 := by omega
                  subst e
                  exact am_cw_46
        · skip
          by_cases h52 : j < 52
          · skip
            by_cases h49 : j < 49
            · skip
              by_cases h48 : j < 48
              · skip
                have e : j = 47 := by omega
                subst e
                exact am_cw_47
              · skip
                have e : j = 48 := by omega
                subst e
                exact am_cw_48
            · skip
              by_cases h50 : j < 50
              · skip
                have e : j = 49 := by omega
                subst e
                exact am_cw_49
              · skip
                by_cases h51 : j < 51
                · skip
                  have e : j = 50 := by omega
                  subst e
                  exact am_cw_50
                · skip
                  have e : j = 51 := by omega
                  subst e
                  exact am_cw_51
          · skip
            by_cases h54 : j < 54
            · skip
              by_cases h53 : j < 53
              · skip
                have e : j = 52 := by omega
                subst e
                exact am_cw_52
              · skip
                have e : j = 53 := by omega
                subst e
                exact am_cw_53
            · skip
              by_cases h55 : j < 55
              · skip
                have e : j = 54 := by omega
                subst e
                exact am_cw_54
              · skip
                by_cases h56 : j < 56
                · skip
                  have e : j = 55 := by omega
                  subst e
                  exact am_cw_55
                · skip
                  have e : j = 56 := by omega
                  subst e
                  exact am_cw_56
      · skip
        by_cases h67 : j < 67
        · skip
          by_cases h62 : j < 62
          · skip
            by_cases h59 : j < 59
            · skip
              by_cases h58 : j < 58
              · skip
                have e : j = 57 := by omega
                subst e
                exact am_cw_57
              · skip
                have e : j = 58 := by omega
                subst e
                exact am_cw_58
            · skip
              by_cases h60 : j < 60
              · skip
                have e : j = 59 := by omega
                subst e
                exact am_cw_59
              · skip
                by_cases h61 : j < 61
                · skip
                  have e : j = 60 := by omega
                  subst e
                  exact am_cw_60
                · skip
                  have e : j = 61 := by omega
                  subst e
                  exact am_cw_61
          · skip
            by_cases h64 : j < 64
            · skip
              by_cases h63 : j < 63
              · skip
                have e : j = 62 := by omega
                subst e
                exact am_cw_62
              · skip
                have e : j = 63 := by omega
                subst e
                exact am_cw_63
            · skip
              by_cases h65 : j < 65
              · skip
                have e : j = 64 := by omega
                subst e
                exact am_cw_64
              · skip
                by_cases h66 : j < 66
                · skip
                  have e : j = 65 := by omega
                  subst e
                  exact am_cw_65
                · skip
                  have e : j = 66 := by omega
                  subst e
                  exact am_cw_66
        · skip
          by_cases h72 : j < 72
          · skip
            by_cases h69 : j < 69
            · skip
              by_cases h68 : j < 68
              · skip
                have e : j = 67 := by omega
                subst e
                exact am_cw_67
              · skip
                have e : j = 68 := by omega
                subst e
                exact am_cw_68
            · skip
              by_cases h70 : j < 70
              · skip
                have e : j = 69 := by omega
                subst e
                exact am_cw_69
              · skip
                by_cases h71 : j < 71
                · skip
                  have e : j = 70 := by omega
                  subst e
                  exact am_cw_70
                · skip
                  have e : j = 71 := by omega
                  subst e
                  exact am_cw_71
          · skip
            by_cases h74 : j < 74
            · skip
              by_cases h73 : j < 73
              · skip
                have e : j = 72 := by omega
                subst e
                exact am_cw_72
              · skip
                have e : j = 73 := by omega
                subst e
                exact am_cw_73
            · skip
              by_cases h75 : j < 75
              · skip
                have e : j = 74 := by omega
                subst e
                exact am_cw_74
              · skip
                by_cases h76 : j < 76
                · skip
                  have e : j = 75 := by omega
                  subst e
                  exact am_cw_75
                · skip
                  have e : j = 76 := by omega
                  subst e
                  exact am_cw_76
  · skip
    by_cases h115 : j < 115
    · skip
      by_cases h96 : j < 96
      · skip
        by_cases h86 : j < 86
        · skip
          by_cases h81 : j < 81
          · skip
            by_cases h79 : j < 79
            · skip
              by_cases h78 : j < 78
              · skip
                have e : j = 77 := by omega
                subst e
                exact am_cw_77
              · skip
                have e : j = 78 := by omega
                subst e
                exact am_cw_78
            · skip
              by_cases h80 : j < 80
              · skip
                have e : j = 79 := by omega
                subst e
                exact am_cw_79
              · skip
                have e : j = 80 := by omega
                subst e
                exact am_cw_80
          · skip
            by_cases h83 : j < 83
            · skip
              by_cases h82 : j < 82
              · skip
                have e : j = 81 := by omega
                subst e
                exact am_cw_81
              · skip
                have e : j = 82 := by omega
                subst e
                exact am_cw_82
            · skip
              by_cases h84 : j < 84
              · skip
                have e : j = 83 := by omega
                subst e
                exact am_cw_83
              · skip
                by_cases h85 : j < 85
                · skip
                  have e : j = 84 := by omega
                  subst e
                  exact am_cw_84
                · skip
                  have e : j = 85 := by omega
                  subst e
                  exact am_cw_85
        · skip
          by_cases h91 : j < 91
          · skip
            by_cases h88 : j < 88
            · skip
              by_cases h87 : j < 87
              · skip
                have e : j = 86 := by omega
                subst e
                exact am_cw_86
              · skip
                have e : j = 87 := by omega
                subst e
                exact am_cw_87
            · skip
              by_cases h89 : j < 89
              · skip
                have e : j = 88 := by omega
                subst e
                exact am_cw_88
              · skip
                by_cases h90 : j < 90
                · skip
                  have e : j = 89 := by omega
                  subst e
                  exact am_cw_89
                · skip
                  have e : j = 90 := by omega
                  subst e
                  exact am_cw_90
          · skip
            by_cases h93 : j < 93
            · skip
              by_cases h92 : j < 92
              · skip
                have e : j = 91 := by omega
                subst e
                exact am_cw_91
              · skip
                have e : j = 92 := by omega
                subst e
                exact am_cw_92
            · skip
              by_cases h94 : j < 94
              · skip
                have e : j = 93 := by omega
                subst e
                exact am_cw_93
              · skip
                by_cases h95 : j < 95
                · skip
                  have e : j = 94 := by omega
                  subst e
                  exact am_cw_94
                · skip
                  have e : j = 95 := by omega
                  subst e
                  exact am_cw_95
      · skip
        by_cases h105 : j < 105
        · skip
          by_cases h100 : j < 100
          · skip
            by_cases h98 : j < 98
            · skip
              by_cases h97 : j < 97
              · skip
                have e : j = 96 := by omega
                subst e
                exact am_cw_96
              · skip
                have e : j = 97 := by omega
                subst e
                exact am_cw_97
            · skip
              by_cases h99 : j < 99
              · skip
                have e : j = 98 := by omega
                subst e
                exact am_cw_98
              · skip
                have e : j = 99 := by omega
                subst e
                exact am_cw_99
          · skip
            by_cases h102 : j < 102
            · skip
              by_cases h101 : j < 101
              · skip
                have e : j = 100 := by omega
                subst e
                exact am_cw_100
              · skip
                have e : j = 101 := by omega
                subst e
                exact am_cw_101
            · skip
              by_cases h103 : j < 103
              · skip
                have e : j = 102 := by omega
                subst e
                exact am_cw_102
              · skip
                by_cases h104 : j < 104
                · skip
                  have e : j = 103 := by omega
                  subst e
                  exact am_cw_103
                · skip
                  have e : j = 104 := by omega
                  subst e
                  exact am_cw_104
        · skip
          by_cases h110 : j < 110
          · skip
            by_cases h107 : j < 107
            · skip
              by_cases h106 : j < 106
              · skip
                have e : j = 105 := by omega
                subst e
                exact am_cw_105
              · skip
                have e : j = 106 := by omega
                subst e
                exact am_cw_106
            · skip
              by_cases h108 : j < 108
              · skip
                have e : j = 107 := by omega
                subst e
                exact am_cw_107
              · skip
                by_cases h109 : j < 109
                · skip
                  have e : j = 108 := by omega
                  subst e
                  exact am_cw_108
                · skip
                  have e : j = 109 := by omega
                  subst e
                  exact am_cw_109
          · skip
            by_cases h112 : j < 112
            · skip
              by_cases h111 : j < 111
              · skip
                have e : j = 110 := by omega
                subst e
                exact am_cw_110
              · skip
                have e : j = 111 := by omega
                subst e
                exact am_cw_111
            · skip
              by_cases h113 : j < 113
              · skip
                have e : j = 112 := by omega
                subst e
                exact am_cw_112
              · skip
                by_cases h114 : j < 114
                · skip
                  have e : j = 113 := by omega
                  subst e
                  exact am_cw_113
                · skip
                  have e : j = 114 := by omega
                  subst e
                  exact am_cw_114
    · skip
      by_cases h134 : j < 134
      · skip
        by_cases h124 : j < 124
        · skip
          by_cases h119 : j < 119
          · skip
            by_cases h117 : j < 117
            · skip
              by_cases h116 : j < 116
              · skip
                have e : j = 115 := by omega
                subst e
                exact am_cw_115
              · skip
                have e : j = 116 := by omega
                subst e
                exact am_cw_116
            · skip
              by_cases h118 : j < 118
              · skip
                have e : j = 117 := by omega
                subst e
                exact am_cw_117
              · skip
                have e : j = 118 := by omega
                subst e
                exact am_cw_118
          · skip
            by_cases h121 : j < 121
            · skip
              by_cases h120 : j < 120
              · skip
                have e : j = 119 := by omega
                subst e
                exact am_cw_119
              · skip
                have e : j = 120 := by omega
                subst e
                exact am_cw_120
            · skip
              by_cases h122 : j < 122
              · skip
                have e : j = 121 := by omega
                subst e
                exact am_cw_121
              · skip
                by_cases h123 : j < 123
                · skip
                  have e : j = 122 := by omega
                  subst e
                  exact am_cw_122
                · skip
                  have e : j = 123 := by omega
                  subst e
                  exact am_cw_123
        · skip
          by_cases h129 : j < 129
          · skip
            by_cases h126 : j < 126
            · skip
              by_cases h125 : j < 125
              · skip
                have e : j = 124 := by omega
                subst e
                exact am_cw_124
              · skip
                have e : j = 125 := by omega
                subst e
                exact am_cw_125
            · skip
              by_cases h127 : j < 127
              · skip
                have e : j = 126 := by omega
                subst e
                exact am_cw_126
              · skip
                by_cases h128 : j < 128
                · skip
                  have e : j = 127 := by omega
                  subst e
                  exact am_cw_127
                · skip
                  have e : j = 128 := by omega
                  subst e
                  exact am_cw_128
          · skip
            by_cases h131 : j < 131
            · skip
              by_cases h130 : j < 130
              · skip
                have e : j = 129 := by omega
                subst e
                exact am_cw_129
              · skip
                have e : j = 130 := by omega
                subst e
                exact am_cw_130
            · skip
              by_cases h132 : j < 132
              · skip
                have e : j = 131 := by omega
                subst e
                exact am_cw_131
              · skip
                by_cases h133 : j < 133
                · skip
                  have e : j = 132 := by omega
                  subst e
                  exact am_cw_132
                · skip
                  have e : j = 133 := by omega
                  subst e
                  exact am_cw_133
      · skip
        by_cases h144 : j < 144
        · skip
          by_cases h139 : j < 139
          · skip
            by_cases h136 : j < 136
            · skip
              by_cases h135 : j < 135
              · skip
                have e : j = 134 := by omega
                subst e
                exact am_cw_134
              · skip
                have e : j = 135 := by omega
                subst e
                exact am_cw_135
            · skip
              by_cases h137 : j < 137
              · skip
                have e : j = 136 := by omega
                subst e
                exact am_cw_136
              · skip
                by_cases h138 : j < 138
                · skip
                  have e : j = 137 := by omega
                  subst e
                  exact am_cw_137
                · skip
                  have e : j = 138 := by omega
                  subst e
                  exact am_cw_138
          · skip
            by_cases h141 : j < 141
            · skip
              by_cases h140 : j < 140
              · skip
                have e : j = 139 := by omega
                subst e
                exact am_cw_139
              · skip
                have e : j = 140 := by omega
                subst e
                exact am_cw_140
            · skip
              by_cases h142 : j < 142
              · skip
                have e : j = 141 := by omega
                subst e
                exact am_cw_141
              · skip
                by_cases h143 : j < 143
                · skip
                  have e : j = 142 := by omega
                  subst e
                  exact am_cw_142
                · skip
                  have e : j = 143 := by omega
                  subst e
                  exact am_cw_143
        · skip
          by_cases h149 : j < 149
          · skip
            by_cases h146 : j < 146
            · skip
              by_cases h145 : j < 145
              · skip
                have e : j = 144 := by omega
                subst e
                exact am_cw_144
              · skip
                have e : j = 145 := by omega
                subst e
                exact am_cw_145
            · skip
              by_cases h147 : j < 147
              · skip
                have e : j = 146 := by omega
                subst e
                exact am_cw_146
              · skip
                by_cases h148 : j < 148
                · skip
                  have e : j = 147 := by omega
                  subst e
                  exact am_cw_147
                · skip
                  have e : j = 148 := by omega
                  subst e
                  exact am_cw_148
          · skip
            by_cases h151 : j < 151
            · skip
              by_cases h150 : j < 150
              · skip
                have e : j = 149 := by omega
                subst e
                exact am_cw_149
              · skip
                have e : j = 150 := by omega
                subst e
                exact am_cw_150
            · skip
              by_cases h152 : j < 152
              · skip
                have e : j = 151 := by omega
                subst e
                exact am_cw_151
              · skip
                by_cases h153 : j < 153
                · skip
                  have e : j = 152 := by omega
                  subst e
                  exact am_cw_152
                · skip
                  have e : j = 153 := by omega
                  subst e
                  exact am_cw_153
end
section
/-! calls -/
noncomputable def am_dsc (y : MethodName) (n : Nat) : Bool := decide (y.cls ≠ "java/lang/invoke/MethodHandle") && decide (y.cls ≠ "java/lang/invoke/VarHandle") && decide ((parseMethodDescriptor y.desc).map (fun d => d.parameters.length) = some n)
theorem am_dsc_of {y : MethodName} {n : Nat} (h : am_dsc y n = true) : y.cls ≠ "java/lang/invoke/MethodHandle" ∧ y.cls ≠ "java/lang/invoke/VarHandle" ∧ (parseMethodDescriptor y.desc).map (fun d => d.parameters.length) = some n := by
  unfold am_dsc at h
  rw [Bool.and_eq_true, Bool.and_eq_true] at h
  exact ⟨of_decide_eq_true h.1.1, of_decide_eq_true h.1.2, of_decide_eq_true h.2⟩
noncomputable def am_isLaw (y : MethodName) : Bool := decide (y = ⟨"CodeRulesLaw", "law", "([I)Z"⟩)
theorem am_law_j : ∀ j, j < 102 → am_isLaw (am_mNt (154 + j)) = true := by decide +kernel
theorem am_ini_j : ∀ j, j < 256 → am_isw (am_pZt j) (.initialized (am_mNt j).cls) = true := by decide +kernel
theorem am_cw_sm (mj : Nat) : am_sm mj < 256 := Nat.and_lt_two_pow mj (show 255 < 2 ^ 8 by decide)
theorem am_qW_of {mj : Nat} (h : am_isLaw (am_mN mj) = false) : Cond.initialized (am_mN mj).cls ∈ am_TB ∧ Cond.code (am_mN mj) (am_mB mj) (am_mL mj) (am_mR mj) ∈ am_TB := by
  refine ⟨am_isw_of (am_ini_j _ (am_cw_sm mj)), ?_⟩
  by_cases hq : am_sm mj < 154
  · exact am_cwA _ hq
  · have h1 := am_law_j (am_sm mj - 154) (by have := am_cw_sm mj; omega)
    rw [show 154 + (am_sm mj - 154) = am_sm mj by omega] at h1
    exact absurd (show am_isLaw (am_mN mj) = true from h1) (by rw [h]; decide)
noncomputable def am_qV (p j : Nat) (v : Nat × Nat) : Bool := am_lkM (am_pN p) j (am_mN v.1) (am_ps p j) && am_isw (am_pI v.1) (.instanceMethod (am_mN v.1)) && am_isw (am_pS v.1) (.selects (am_mN v.1).cls (am_mN v.1) (am_mN v.1)) && !am_isLaw (am_mN v.1) && am_dsc (am_mN v.1) v.2
theorem am_qV_ok1 : ∀ p, p < 8 → ∀ j, j < am_nJ → am_oq (am_kV0 p j) (am_qV p j) = true := by decide +kernel
theorem am_qV_ok2 : ∀ p, p < 8 → ∀ j, j < am_nJ → am_oq (am_kV0 (8 + p) j) (am_qV (8 + p) j) = true := by decide +kernel
theorem am_qV_ok : ∀ p, p < am_nP → ∀ j, j < am_nJ → am_oq (am_kV0 p j) (am_qV p j) = true := by
  intro p h j hj
  replace h : p < 16 := h
  by_cases h1 : p < 8
  · exact am_qV_ok1 p h1 j hj
  · have := am_qV_ok2 (p - 8) (by omega) j hj
    rw [show 8 + (p - 8) = p by omega] at this
    exact this
theorem am_kV_ok {mi j mj n : Nat} (h : am_kV (am_mP mi) j = some (mj, n)) : (Cond.methodLink (am_mO mi) j (am_mN mj) ∈ am_TB ∨ ∃ host, Cond.methodLinkNest (am_mO mi) j (am_mN mj) host ∈ am_NW) ∧ Cond.instanceMethod (am_mN mj) ∈ am_TB ∧ Cond.selects (am_mN mj).cls (am_mN mj) (am_mN mj) ∈ am_TB ∧ Cond.initialized (am_mN mj).cls ∈ am_TB ∧ Cond.code (am_mN mj) (am_mB mj) (am_mL mj) (am_mR mj) ∈ am_TB ∧ ((am_mN mj).cls ≠ "java/lang/invoke/MethodHandle" ∧ (am_mN mj).cls ≠ "java/lang/invoke/VarHandle" ∧ (parseMethodDescriptor (am_mN mj).desc).map (fun d => d.parameters.length) = some n) := by
  have h1 := am_b2_all am_qV_ok h
  unfold am_qV at h1
  simp only [Bool.and_eq_true, Bool.not_eq_true'] at h1
  obtain ⟨⟨⟨⟨h1, h2⟩, h3⟩, h4⟩, h6⟩ := h1
  have h7 := am_lkM_of h1
  rw [am_mP_ok] at h7
  exact ⟨h7, am_isw_of h2, am_isw_of h3, (am_qW_of h4).1, (am_qW_of h4).2, am_dsc_of h6⟩
noncomputable def am_qT (p j : Nat) (v : Nat × Nat) : Bool := am_lkM (am_pN p) j (am_mN v.1) (am_ps p j) && am_isw (am_pI v.1) (.static (am_mN v.1)) && !am_isLaw (am_mN v.1) && am_dsc (am_mN v.1) v.2
theorem am_qT_ok : ∀ p, p < am_nP → ∀ j, j < am_nJ → am_oq (am_kT0 p j) (am_qT p j) = true := by decide +kernel
theorem am_kT_ok {mi j mj n : Nat} (h : am_kT (am_mP mi) j = some (mj, n)) : (Cond.methodLink (am_mO mi) j (am_mN mj) ∈ am_TB ∨ ∃ host, Cond.methodLinkNest (am_mO mi) j (am_mN mj) host ∈ am_NW) ∧ Cond.static (am_mN mj) ∈ am_TB ∧ Cond.initialized (am_mN mj).cls ∈ am_TB ∧ Cond.code (am_mN mj) (am_mB mj) (am_mL mj) (am_mR mj) ∈ am_TB ∧ ((am_mN mj).cls ≠ "java/lang/invoke/MethodHandle" ∧ (am_mN mj).cls ≠ "java/lang/invoke/VarHandle" ∧ (parseMethodDescriptor (am_mN mj).desc).map (fun d => d.parameters.length) = some n) := by
  have h1 := am_b2_all am_qT_ok h
  unfold am_qT at h1
  simp only [Bool.and_eq_true, Bool.not_eq_true'] at h1
  obtain ⟨⟨⟨h1, h2⟩, h4⟩, h6⟩ := h1
  have h7 := am_lkM_of h1
  rw [am_mP_ok] at h7
  exact ⟨h7, am_isw_of h2, (am_qW_of h4).1, (am_qW_of h4).2, am_dsc_of h6⟩
noncomputable def am_qX (p j : Nat) (v : Nat × Nat) : Bool := am_lkM (am_pN p) j (am_mN v.1) (am_ps p j) && am_isw (am_pI v.1) (.instanceMethod (am_mN v.1)) && decide ((am_mN v.1).name = "<init>") && !am_isLaw (am_mN v.1) && am_dsc (am_mN v.1) v.2 && decide (am_mR v.1 = none)
theorem am_qX_ok : ∀ p, p < am_nP → ∀ j, j < am_nJ → am_oq (am_kX0 p j) (am_qX p j) = true := by decide +kernel
theorem am_kX_ok {mi j mj n : Nat} (h : am_kX (am_mP mi) j = some (mj, n)) : (Cond.methodLink (am_mO mi) j (am_mN mj) ∈ am_TB ∨ ∃ host, Cond.methodLinkNest (am_mO mi) j (am_mN mj) host ∈ am_NW) ∧ Cond.instanceMethod (am_mN mj) ∈ am_TB ∧ (am_mN mj).name = "<init>" ∧ Cond.initialized (am_mN mj).cls ∈ am_TB ∧ Cond.code (am_mN mj) (am_mB mj) (am_mL mj) (am_mR mj) ∈ am_TB ∧ ((am_mN mj).cls ≠ "java/lang/invoke/MethodHandle" ∧ (am_mN mj).cls ≠ "java/lang/invoke/VarHandle" ∧ (parseMethodDescriptor (am_mN mj).desc).map (fun d => d.parameters.length) = some n) ∧ am_mR mj = none := by
  have h1 := am_b2_all am_qX_ok h
  unfold am_qX at h1
  simp only [Bool.and_eq_true, Bool.not_eq_true', decide_eq_true_eq] at h1
  obtain ⟨⟨⟨⟨⟨h1, h2⟩, h3⟩, h4⟩, h6⟩, h8⟩ := h1
  have h7 := am_lkM_of h1
  rw [am_mP_ok] at h7
  exact ⟨h7, am_isw_of h2, h3, (am_qW_of h4).1, (am_qW_of h4).2, am_dsc_of h6, h8⟩
end
section
/-! classes -/
noncomputable def am_qK (ci : Nat) : Bool := am_cf ci fun q => decide (q.1 = am_cN ci) && (List.range q.2.2).all fun k => am_isw (am_lp ci k) (u_lay q.1 q.2.1 k) && (parseFieldDescriptor (q.2.1 k).2.2.1).isSome && (List.range q.2.2).all fun b => Nat.beq k b || !decide ((q.2.1 k).2.1 = (q.2.1 b).2.1)
theorem am_qK_ok : ∀ ci, ci < am_cl.length → am_qK ci = true := by decide +kernel
theorem am_cl_ok {ci : Nat} {C : String} {T : u_T} {N : Nat} (h : am_cl[ci]? = some (C, T, N)) : (∀ w ∈ u_ws C T N, w ∈ am_TB) ∧ ∃ ty : Nat → FieldType, (∀ k, k < N → parseFieldDescriptor (T k).2.2.1 = some (ty k)) ∧ ∀ a, a < N → ∀ b, b < N → a ≠ b → (T a).2.1 ≠ (T b).2.1 := by
  obtain ⟨C', T', N', h2, h3⟩ := am_cf_of (am_qK_ok ci (List.getElem?_eq_some_iff.mp h).1)
  rw [h] at h2
  cases h2
  rw [Bool.and_eq_true, List.all_eq_true] at h3
  have h4 : ∀ k, k < N → (am_isw (am_lp ci k) (u_lay C T k) = true ∧ (parseFieldDescriptor (T k).2.2.1).isSome = true) ∧ ∀ b, b < N → (Nat.beq k b || !decide ((T k).2.1 = (T b).2.1)) = true := by
    intro k hk
    have := h3.2 k (List.mem_range.mpr hk)
    simp only [Bool.and_eq_true] at this
    exact ⟨this.1, fun b hb => (List.all_eq_true.mp this.2) b (List.mem_range.mpr hb)⟩
  refine ⟨fun w hw => ?_, fun k => (parseFieldDescriptor (T k).2.2.1).getD .int, fun k hk => ?_, fun a ha b hb hab e => ?_⟩
  · obtain ⟨k, hk, rfl⟩ := List.mem_map.mp hw
    exact am_isw_of (h4 k (List.mem_range.mp hk)).1.1
  · obtain ⟨v, hv⟩ := Option.isSome_iff_exists.mp (h4 k hk).1.2
    show _ = some ((parseFieldDescriptor (T k).2.2.1).getD .int)
    rw [hv]
    rfl
  · have := (h4 a ha).2 b hb
    rw [Bool.or_eq_true] at this
    rcases this with q | q
    · exact hab (Nat.eq_of_beq_eq_true q)
    · rw [decide_eq_true e] at q
      cases q
theorem am_cl_nm {ci : Nat} {q : vw_C} (h : am_cl[ci]? = some q) : q.1 = am_cN ci := by
  obtain ⟨C', T', N', h2, h3⟩ := am_cf_of (am_qK_ok ci (List.getElem?_eq_some_iff.mp h).1)
  rw [h] at h2
  cases h2
  rw [Bool.and_eq_true] at h3
  exact of_decide_eq_true h3.1
theorem am_mC_ok {mi : Nat} : am_cN (am_mC mi) = (am_mN mi).cls := of_decide_eq_true (am_mall (fun j => decide (am_cN (am_mCt j) = (am_mNt j).cls)) (by decide +kernel) mi)
theorem am_mN_plain (mi : Nat) : plainFor (am_mN mi) = true := am_mall (fun j => plainFor (am_mNt j)) (by decide +kernel) mi
theorem am_mI_ok {mi : Nat} (h : am_mI mi = true) : (am_mN mi).name = "<init>" := by
  have := am_mall (fun j => !am_mIt j || decide ((am_mNt j).name = "<init>")) (by decide +kernel) mi
  simp only [Bool.or_eq_true, Bool.not_eq_true', decide_eq_true_eq] at this
  rcases this with q | q
  · rw [show am_mIt (am_sm mi) = am_mI mi from rfl, h] at q
    cases q
  · exact q
theorem am_mL_le (mi : Nat) : am_mL mi ≤ 13 := Nat.le_of_ble_eq_true (am_mall (fun j => Nat.ble (am_mLt j) 13) (by decide +kernel) mi)
end
section
/-! AN ABSTRACT MACHINE of our own over this claim's methods: ints and longs are as they are, a reference is the place of its cell in a row of cells; .retAddr (k + 1) is a reference to the k-th of the cells that lay there before (the script, texts), .retAddr 0 is nothing. One step is a function; the soundness of a step over the kit's rows stands in the next parts. -/
abbrev am_C : Type := (FieldType × vp_A) ⊕ (Nat × List Value)
abbrev am_H : Type := List am_C
abbrev am_R : Type := Nat × List Value × List Value × am_H × Option Prop
noncomputable def am_ph : Option Prop → Prop
  | none => True
  | some c => c
noncomputable def am_ce (bs : Nat) (ad : Nat → Nat) (dA : FieldType → ClassId) : am_C → va_E
  | .inl (ty, a) => .inl (dA ty, a)
  | .inr (ci, fs) => .inr (ci, fs.map (am_cv bs ad))
/-- slots of a cell, of a row of cells -/
noncomputable def am_cs : am_C → Nat
  | .inl (_, a) => a.1
  | .inr (_, fs) => fs.length
noncomputable def am_sz : am_H → Nat
  | [] => 0
  | c :: r => am_cs c + am_sz r
/-- the heap from bs on is the row of cells -/
noncomputable def am_rp (D : va_G) (bs : Nat) (ad : Nat → Nat) (dA : FieldType → ClassId) (hp : am_H) (H : Heap) : Prop :=
  H.size = bs + hp.length ∧ ∀ (i : Nat) (c : am_C), hp[i]? = some c → va_at D am_cl (bs + i, am_ce bs ad dA c) H
/-- locals: a place that holds nothing is .retAddr 0 -/
noncomputable def am_okv : Value → Bool
  | .retAddr 0 => false
  | _ => true
noncomputable def am_un : Value := .retAddr 0
noncomputable def am_en (bs : Nat) (ad : Nat → Nat) (L : List Value) : List (Nat × Value) :=
  (List.range L.length).filterMap (fun i => match L[i]? with
    | some v => if am_okv v = true then some (i, am_cv bs ad v) else none
    | none => none)
-- inversions are cheap this way: each piece of the stack or of the locals is taken off by a function of its own
noncomputable def am_i1 {α : Type} (st : List Value) (f : Int32 → List Value → Option α) : Option α := match st with
  | .int x :: r => f x r
  | _ => none
noncomputable def am_i2 {α : Type} (st : List Value) (f : Int32 → Int32 → List Value → Option α) : Option α := match st with
  | .int y :: .int x :: r => f x y r
  | _ => none
noncomputable def am_l1 (st : List Value) (f : Int64 → List Value → Option am_R) : Option am_R := match st with
  | .long x :: r => f x r
  | _ => none
noncomputable def am_l2 (st : List Value) (f : Int64 → Int64 → List Value → Option am_R) : Option am_R := match st with
  | .long y :: .long x :: r => f x y r
  | _ => none
noncomputable def am_ok1 : Value → Bool
  | .ref _ => true
  | .retAddr (k + 1) => !Nat.beq k 99
  | _ => false
noncomputable def am_a1 (st : List Value) (f : Value → List Value → Option am_R) : Option am_R := match st with
  | v :: r => match am_ok1 v with
    | true => f v r
    | false => none
  | _ => none
noncomputable def am_v1 (st : List Value) (f : Value → List Value → Option am_R) : Option am_R := match st with
  | v :: r => f v r
  | _ => none
noncomputable def am_v2 (st : List Value) (f : Value → Value → List Value → Option am_R) : Option am_R := match st with
  | v :: w :: r => f v w r
  | _ => none
noncomputable def am_ia (st : List Value) (f : Int32 → Value → List Value → Option am_R) : Option am_R := match st with
  | .int i :: a :: r => f i a r
  | _ => none
noncomputable def am_iia (st : List Value) (f : Int32 → Int32 → Nat → List Value → Option am_R) : Option am_R := match st with
  | .int x :: .int i :: .ref a :: r => f x i a r
  | _ => none
noncomputable def am_lia (st : List Value) (f : Int64 → Int32 → Nat → List Value → Option am_R) : Option am_R := match st with
  | .long x :: .int i :: .ref a :: r => f x i a r
  | _ => none
noncomputable def am_va (st : List Value) (f : Value → Nat → List Value → Option am_R) : Option am_R := match st with
  | v :: .ref a :: r => f v a r
  | _ => none
noncomputable def am_li (L : List Value) (i : Nat) (f : Int32 → Option am_R) : Option am_R := match L[i]? with
  | some (.int x) => f x
  | _ => none
noncomputable def am_ll (L : List Value) (i : Nat) (f : Int64 → Option am_R) : Option am_R := match L[i]? with
  | some (.long x) => f x
  | _ => none
noncomputable def am_la (L : List Value) (i : Nat) (f : Value → Option am_R) : Option am_R := match L[i]? with
  | some v => match am_ok1 v with
    | true => f v
    | false => none
  | _ => none
/-- no long begins just below i -/
noncomputable def am_pr (L : List Value) : Nat → Bool
  | 0 => true
  | j + 1 => match L[j]? with
    | some v => Nat.beq v.category 1
    | none => true
noncomputable def am_s1 (L : List Value) (i : Nat) (v : Value) (f : List Value → Option am_R) : Option am_R :=
  match am_pr L i with
  | true => f (L.set i v)
  | false => none
noncomputable def am_s2 (L : List Value) (i : Nat) (v : Value) (f : List Value → Option am_R) : Option am_R :=
  match am_pr L i with
  | true => f ((L.set i v).set (i + 1) am_un)
  | false => none
/-- a jump's target -/
noncomputable def am_tg (pc : Nat) (off : Int) : Nat := ((pc : Int) + off).toNat
noncomputable def am_rm (r : List Value) : Bool := Nat.ble ((r.map Value.category).sum) 8
noncomputable def am_na (t : ArrayType) (n : Nat) : Option am_C := match t with
  | .int => some (.inl (.int, n, .inl fun _ => 0))
  | .boolean => some (.inl (.boolean, n, .inl fun _ => 0))
  | .long => some (.inl (.long, n, .inr (.inl fun _ => 0)))
  | _ => none
/-- a cell read: one of the row, or one from before -/
noncomputable def am_gi (ro : Nat → Option am_C) (hp : am_H) : Value → Option am_C
  | .ref a => hp[a]?
  | .retAddr (k + 1) => ro k
  | _ => none
noncomputable def am_ai (o : Option am_C) (f : Nat → (Nat → Int32) → Option am_R) : Option am_R := match o with
  | some (.inl (.int, n, .inl g)) => f n g
  | _ => none
noncomputable def am_az (o : Option am_C) (f : Nat → (Nat → Int32) → Option am_R) : Option am_R := match o with
  | some (.inl (.boolean, n, .inl g)) => f n g
  | _ => none
noncomputable def am_ab (ro : Nat → Option am_C) (hp : am_H) (v : Value) (f : Nat → (Nat → Int32) → Option am_R) : Option am_R := match v with
  | .ref a => am_az (hp[a]?) f
  | .retAddr (k + 1) => match ro k with
    | some (.inl (.byte, n, .inl g)) => f n g
    | _ => none
  | _ => none
noncomputable def am_al (o : Option am_C) (f : Nat → (Nat → Int64) → Option am_R) : Option am_R := match o with
  | some (.inl (.long, n, .inr (.inl g))) => f n g
  | _ => none
noncomputable def am_an (ro : Nat → Option am_C) (hp : am_H) (v : Value) (f : Nat → Option am_R) : Option am_R := match v with
  | .ref a => match hp[a]? with
    | some (.inl (.int, n, _)) => f n
    | _ => none
  | .retAddr (k + 1) => match ro k with
    | some (.inl (_, n, .inl _)) => f n
    | _ => none
  | _ => none
/-- an object's fields, its class being the one asked for -/
noncomputable def am_ob (o : Option am_C) (ci : Nat) : Option (List Value) := match o with
  | some (.inr (cj, fs)) => match Nat.beq cj ci with
    | true => some fs
    | false => none
  | _ => none
/-- a field read: of a cell of the row, or of one from before -/
noncomputable def am_gf (ro : Nat → Option am_C) (hp : am_H) (v : Value) (kF : Option (Nat × Nat)) (kQ : Option (Nat × Nat)) : Option Value := match v with
  | .ref a => match kF with
    | some (ci, k) => match am_ob (hp[a]?) ci with
      | some fs => fs[k]?
      | none => none
    | none => none
  | .retAddr (j + 1) => match kQ with
    | some (ci, k) => match am_ob (ro j) ci with
      | some fs => fs[k]?
      | none => none
    | none => none
  | _ => none
noncomputable def am_kf (o : Option (Nat × Nat × FieldType)) (f : Nat → Nat → FieldType → Option am_R) : Option am_R := match o with
  | some (ci, k, ty) => f ci k ty
  | none => none
noncomputable def am_ov {α : Type} (o : Option α) (f : α → Option am_R) : Option am_R := match o with
  | some v => f v
  | none => none
noncomputable def am_bt (b : Bool) (o : Option am_R) : Option am_R := match b with
  | true => o
  | false => none
/-- where a switch goes -/
noncomputable def am_ts (pc : Nat) (x : Int32) (dflt lo hi : Int) (offs : Array Int) : Nat := if x.toInt < lo ∨ hi < x.toInt then am_tg pc dflt else am_tg pc (offs.getD (x.toInt - lo).toNat dflt)
/-- a value that fits a field as it is needs no word -/
noncomputable def am_nf (ty : FieldType) (v : Value) : Option Prop := match ty, v with
  | .int, .int _ => none
  | .long, .long _ => none
  | .object _, .ref _ => none
  | .array _, .ref _ => none
  | ty, v => some (narrow ty v = v ∧ fits ty v = true)
/-- a branch: what it asks, and the stack behind it -/
noncomputable def am_bc (st : List Value) : Instr → Option (Prop × List Value)
  | .ifCond .eq _ => am_i1 st fun x r => some (x = 0, r)
  | .ifCond .ne _ => am_i1 st fun x r => some (¬ x = 0, r)
  | .ifCond .lt _ => am_i1 st fun x r => some (x < 0, r)
  | .ifCond .ge _ => am_i1 st fun x r => some (0 ≤ x, r)
  | .ifCond .gt _ => am_i1 st fun x r => some (0 < x, r)
  | .ifCond .le _ => am_i1 st fun x r => some (x ≤ 0, r)
  | .if_icmp .eq _ => am_i2 st fun x y r => some (x = y, r)
  | .if_icmp .ne _ => am_i2 st fun x y r => some (¬ x = y, r)
  | .if_icmp .lt _ => am_i2 st fun x y r => some (x < y, r)
  | .if_icmp .ge _ => am_i2 st fun x y r => some (y ≤ x, r)
  | .if_icmp .gt _ => am_i2 st fun x y r => some (y < x, r)
  | .if_icmp .le _ => am_i2 st fun x y r => some (x ≤ y, r)
  | _ => none
/-- ONE STEP: where it goes, and what must hold for it -/
noncomputable def am_st (ro : Nat → Option am_C) (mi pc nx t : Nat) (L st : List Value) (hp : am_H) : Instr → Option am_R
  | .iconst n => some (nx, L, .int (am_ki n) :: st, hp, none)
  | .bipush n => some (nx, L, .int (am_ki n) :: st, hp, none)
  | .sipush n => some (nx, L, .int (am_ki n) :: st, hp, none)
  | .lconst n => some (nx, L, .long (Int64.ofNat n.val) :: st, hp, none)
  | .ldc i => am_ov (am_kI (am_mP mi) i) fun v => some (nx, L, v :: st, hp, none)
  | .ldc2_w i => am_ov (am_kL (am_mP mi) i) fun v => some (nx, L, .long v :: st, hp, none)
  | .iload i => am_li L i fun x => some (nx, L, .int x :: st, hp, none)
  | .iload_n i => am_li L i.val fun x => some (nx, L, .int x :: st, hp, none)
  | .lload i => am_ll L i fun x => some (nx, L, .long x :: st, hp, none)
  | .lload_n i => am_ll L i.val fun x => some (nx, L, .long x :: st, hp, none)
  | .aload i => am_la L i fun x => some (nx, L, x :: st, hp, none)
  | .aload_n i => am_la L i.val fun x => some (nx, L, x :: st, hp, none)
  | .istore i => am_i1 st fun x r => am_s1 L i (.int x) fun L' => some (nx, L', r, hp, none)
  | .istore_n i => am_i1 st fun x r => am_s1 L i.val (.int x) fun L' => some (nx, L', r, hp, none)
  | .lstore i => am_l1 st fun x r => am_s2 L i (.long x) fun L' => some (nx, L', r, hp, none)
  | .lstore_n i => am_l1 st fun x r => am_s2 L i.val (.long x) fun L' => some (nx, L', r, hp, none)
  | .astore i => am_a1 st fun x r => am_s1 L i x fun L' => some (nx, L', r, hp, none)
  | .astore_n i => am_a1 st fun x r => am_s1 L i.val x fun L' => some (nx, L', r, hp, none)
  | .iinc i n => am_li L i fun x => am_s1 L i (.int (x + am_ki n)) fun L' => some (nx, L', st, hp, none)
  | .iadd => am_i2 st fun x y r => some (nx, L, .int (x + y) :: r, hp, none)
  | .isub => am_i2 st fun x y r => some (nx, L, .int (x - y) :: r, hp, none)
  | .imul => am_i2 st fun x y r => some (nx, L, .int (x * y) :: r, hp, none)
  | .iand => am_i2 st fun x y r => some (nx, L, .int (x &&& y) :: r, hp, none)
  | .ior => am_i2 st fun x y r => some (nx, L, .int (x ||| y) :: r, hp, none)
  | .ixor => am_i2 st fun x y r => some (nx, L, .int (x ^^^ y) :: r, hp, none)
  | .ishl => am_i2 st fun x y r => some (nx, L, .int (x <<< (y &&& 31)) :: r, hp, none)
  | .ishr => am_i2 st fun x y r => some (nx, L, .int (x >>> (y &&& 31)) :: r, hp, none)
  | .idiv => am_i2 st fun x y r => some (nx, L, .int (x / y) :: r, hp, some (¬ y = 0))
  | .irem => am_i2 st fun x y r => some (nx, L, .int (x - x / y * y) :: r, hp, some (¬ y = 0))
  | .ladd => am_l2 st fun x y r => some (nx, L, .long (x + y) :: r, hp, none)
  | .lsub => am_l2 st fun x y r => some (nx, L, .long (x - y) :: r, hp, none)
  | .lmul => am_l2 st fun x y r => some (nx, L, .long (x * y) :: r, hp, none)
  | .ldiv => am_l2 st fun x y r => some (nx, L, .long (x / y) :: r, hp, some (¬ y = 0))
  | .lrem => am_l2 st fun x y r => some (nx, L, .long (x - x / y * y) :: r, hp, some (¬ y = 0))
  | .lcmp => am_l2 st fun x y r => some (nx, L, .int (lg_cmp x y) :: r, hp, none)
  | .i2l => am_i1 st fun x r => some (nx, L, .long x.toInt64 :: r, hp, none)
  | .l2i => am_l1 st fun x r => some (nx, L, .int x.toInt32 :: r, hp, none)
  | .i2c => am_i1 st fun x r => some (nx, L, .int (x.toUInt32 % 65536).toInt32 :: r, hp, none)
  | .dup => am_v1 st fun v r => am_bt (Nat.beq v.category 1) (some (nx, L, v :: v :: r, hp, none))
  | .pop => am_v1 st fun v r => am_bt (Nat.beq v.category 1) (some (nx, L, r, hp, none))
  | .dup_x1 => am_v2 st fun v w r => am_bt (Nat.beq v.category 1 && Nat.beq w.category 1) (some (nx, L, v :: w :: v :: r, hp, none))
  | .dup2 => am_v2 st fun v w r => am_bt (Nat.beq v.category 1 && Nat.beq w.category 1) (some (nx, L, v :: w :: v :: w :: r, hp, none))
  | .goto _ => some (t, L, st, hp, none)
  | .tableswitch dflt lo hi offs => am_i1 st fun x r => some (am_ts pc x dflt lo hi offs, L, r, hp, some (0 ≤ (pc : Int) + dflt ∧ (∀ o ∈ offs.toList, 0 ≤ (pc : Int) + o) ∧ hi - lo < (offs.size : Int)))
  | .getstatic i => am_ov (am_kG (am_mP mi) i) fun v => some (nx, L, v :: st, hp, none)
  | .getfield i => am_a1 st fun a r => am_ov (am_gf ro hp a (am_kF (am_mP mi) i) (am_kQ (am_mP mi) i)) fun v => some (nx, L, v :: r, hp, none)
  | .putfield i => am_va st fun v a r => am_kf (am_kP (am_mP mi) i) fun ci k ty => am_ov (am_ob (hp[a]?) ci) fun fs => am_bt (Nat.blt k fs.length) (some (nx, L, r, hp.set a (.inr (ci, fs.set k v)), am_nf ty v))
  | .iaload => am_ia st fun i a r => am_ai (am_gi ro hp a) fun n g => some (nx, L, .int (g i.toNatClampNeg) :: r, hp, some (vp_in i n))
  | .baload => am_ia st fun i a r => am_ab ro hp a fun n g => some (nx, L, .int (g i.toNatClampNeg) :: r, hp, some (vp_in i n))
  | .laload => am_ia st fun i a r => am_al (am_gi (fun _ => none) hp a) fun n g => some (nx, L, .long (g i.toNatClampNeg) :: r, hp, some (vp_in i n))
  | .iastore => am_iia st fun x i a r => am_ai (hp[a]?) fun n g => some (nx, L, r, hp.set a (.inl (.int, n, .inl (upd g i.toNatClampNeg x))), some (vp_in i n))
  | .bastore => am_iia st fun x i a r => am_az (hp[a]?) fun n g => some (nx, L, r, hp.set a (.inl (.boolean, n, .inl (upd g i.toNatClampNeg (vp_nar .boolean x)))), some (vp_in i n))
  | .lastore => am_lia st fun x i a r => am_al (hp[a]?) fun n g => some (nx, L, r, hp.set a (.inl (.long, n, .inr (.inl (vp_updL g i.toNatClampNeg x)))), some (vp_in i n))
  | .arraylength => am_a1 st fun a r => am_an ro hp a fun n => some (nx, L, .int (Int32.ofNat n) :: r, hp, none)
  | .newarray t => am_i1 st fun n r => am_ov (am_na t n.toNatClampNeg) fun c => some (nx, L, .ref hp.length :: r, hp ++ [c], some (¬ n < 0 ∧ n.toNatClampNeg ≤ 60000000))
  | .new i => am_ov (am_kC (am_mP mi) i) fun ci => some (nx, L, .ref hp.length :: st, hp ++ [.inr (ci, am_df ci)], none)
  | .invokespecial i => am_bt (am_kO (am_mP mi) i) (am_a1 st fun _ r => am_bt (am_rm r) (some (nx, L, r, hp, none)))
  | .invokestatic i => am_bt (am_kN (am_mP mi) i) (am_i2 st fun x y r => am_bt (am_rm r) (some (nx, L, .int (if y < x then y else x) :: r, hp, none)))
  | _ => none
end
section
/-! inversions -/
theorem am_sk_99 : ∀ q ∈ am_sk, Nat.beq q.2.2.2 99 = false := by decide +kernel
theorem am_i1_inv {α : Type} {st : List Value} {f : Int32 → List Value → Option α} {z : α} (h : am_i1 st f = some z) : ∃ x r, st = .int x :: r ∧ f x r = some z := by
  unfold am_i1 at h
  split at h
  · exact ⟨_, _, rfl, h⟩
  · cases h
theorem am_i2_inv {α : Type} {st : List Value} {f : Int32 → Int32 → List Value → Option α} {z : α} (h : am_i2 st f = some z) : ∃ x y r, st = .int y :: .int x :: r ∧ f x y r = some z := by
  unfold am_i2 at h
  split at h
  · exact ⟨_, _, _, rfl, h⟩
  · cases h
theorem am_l1_inv {st : List Value} {f : Int64 → List Value → Option am_R} {z : am_R} (h : am_l1 st f = some z) : ∃ x r, st = .long x :: r ∧ f x r = some z := by
  unfold am_l1 at h
  split at h
  · exact ⟨_, _, rfl, h⟩
  · cases h
theorem am_l2_inv {st : List Value} {f : Int64 → Int64 → List Value → Option am_R} {z : am_R} (h : am_l2 st f = some z) : ∃ x y r, st = .long y :: .long x :: r ∧ f x y r = some z := by
  unfold am_l2 at h
  split at h
  · exact ⟨_, _, _, rfl, h⟩
  · cases h
theorem am_a1_inv {st : List Value} {f : Value → List Value → Option am_R} {z : am_R} (h : am_a1 st f = some z) : ∃ x r, st = x :: r ∧ am_ok1 x = true ∧ f x r = some z := by
  unfold am_a1 at h
  split at h
  · split at h
    · next e => exact ⟨_, _, rfl, e, h⟩
    · cases h
  · cases h
theorem am_cv_ra {bs k : Nat} {ad : Nat → Nat} (h : Nat.beq k 99 = false) : am_cv bs ad (.retAddr (k + 1)) = .ref (ad k) := by
  show (bif Nat.beq k 99 then _ else _) = _
  rw [h]
  rfl
/-- a reference is one of the row, or one from before -/
theorem am_ok1_or {v : Value} (h : am_ok1 v = true) : (∃ a, v = .ref a) ∨ ∃ k, v = .retAddr (k + 1) ∧ Nat.beq k 99 = false := by
  unfold am_ok1 at h
  split at h
  · exact Or.inl ⟨_, rfl⟩
  · next k => exact Or.inr ⟨_, rfl, by simpa using h⟩
  · cases h
theorem am_ok1_cv {bs : Nat} {ad : Nat → Nat} {v : Value} (h : am_ok1 v = true) : ∃ a, am_cv bs ad v = .ref a := by
  rcases am_ok1_or h with ⟨a, rfl⟩ | ⟨k, rfl, hk⟩
  · exact ⟨_, rfl⟩
  · exact ⟨_, am_cv_ra hk⟩
theorem am_ok1_okv {v : Value} (h : am_ok1 v = true) : am_okv v = true := by
  rcases am_ok1_or h with ⟨a, rfl⟩ | ⟨k, rfl, hk⟩ <;> rfl
theorem am_v1_inv {st : List Value} {f : Value → List Value → Option am_R} {z : am_R} (h : am_v1 st f = some z) : ∃ x r, st = x :: r ∧ f x r = some z := by
  unfold am_v1 at h
  split at h
  · exact ⟨_, _, rfl, h⟩
  · cases h
theorem am_v2_inv {st : List Value} {f : Value → Value → List Value → Option am_R} {z : am_R} (h : am_v2 st f = some z) : ∃ x y r, st = x :: y :: r ∧ f x y r = some z := by
  unfold am_v2 at h
  split at h
  · exact ⟨_, _, _, rfl, h⟩
  · cases h
theorem am_ia_inv {st : List Value} {f : Int32 → Value → List Value → Option am_R} {z : am_R} (h : am_ia st f = some z) : ∃ x y r, st = .int x :: y :: r ∧ f x y r = some z := by
  unfold am_ia at h
  split at h
  · exact ⟨_, _, _, rfl, h⟩
  · cases h
theorem am_iia_inv {st : List Value} {f : Int32 → Int32 → Nat → List Value → Option am_R} {z : am_R} (h : am_iia st f = some z) : ∃ x i a r, st = .int x :: .int i :: .ref a :: r ∧ f x i a r = some z := by
  unfold am_iia at h
  split at h
  · exact ⟨_, _, _, _, rfl, h⟩
  · cases h
theorem am_lia_inv {st : List Value} {f : Int64 → Int32 → Nat → List Value → Option am_R} {z : am_R} (h : am_lia st f = some z) : ∃ x i a r, st = .long x :: .int i :: .ref a :: r ∧ f x i a r = some z := by
  unfold am_lia at h
  split at h
  · exact ⟨_, _, _, _, rfl, h⟩
  · cases h
theorem am_va_inv {st : List Value} {f : Value → Nat → List Value → Option am_R} {z : am_R} (h : am_va st f = some z) : ∃ x y r, st = x :: .ref y :: r ∧ f x y r = some z := by
  unfold am_va at h
  split at h
  · exact ⟨_, _, _, rfl, h⟩
  · cases h
theorem am_li_inv {L : List Value} {i : Nat} {f : Int32 → Option am_R} {z : am_R} (h : am_li L i f = some z) : ∃ x, L[i]? = some (.int x) ∧ f x = some z := by
  unfold am_li at h
  split at h
  · next e => exact ⟨_, e, h⟩
  · cases h
theorem am_ll_inv {L : List Value} {i : Nat} {f : Int64 → Option am_R} {z : am_R} (h : am_ll L i f = some z) : ∃ x, L[i]? = some (.long x) ∧ f x = some z := by
  unfold am_ll at h
  split at h
  · next e => exact ⟨_, e, h⟩
  · cases h
theorem am_la_inv {L : List Value} {i : Nat} {f : Value → Option am_R} {z : am_R} (h : am_la L i f = some z) : ∃ x, L[i]? = some x ∧ am_ok1 x = true ∧ f x = some z := by
  unfold am_la at h
  split at h
  · next e =>
    split at h
    · next e2 => exact ⟨_, e, e2, h⟩
    · cases h
  · cases h
theorem am_s1_inv {L : List Value} {i : Nat} {v : Value} {f : List Value → Option am_R} {z : am_R} (h : am_s1 L i v f = some z) : am_pr L i = true ∧ f (L.set i v) = some z := by
  unfold am_s1 at h
  split at h
  · next e => exact ⟨e, h⟩
  · cases h
theorem am_s2_inv {L : List Value} {i : Nat} {v : Value} {f : List Value → Option am_R} {z : am_R} (h : am_s2 L i v f = some z) : am_pr L i = true ∧ f ((L.set i v).set (i + 1) am_un) = some z := by
  unfold am_s2 at h
  split at h
  · next e => exact ⟨e, h⟩
  · cases h
theorem am_ov_inv {α : Type} {o : Option α} {f : α → Option am_R} {z : am_R} (h : am_ov o f = some z) : ∃ v, o = some v ∧ f v = some z := by
  unfold am_ov at h
  split at h
  · exact ⟨_, rfl, h⟩
  · cases h
theorem am_bt_inv {b : Bool} {o : Option am_R} {z : am_R} (h : am_bt b o = some z) : b = true ∧ o = some z := by
  unfold am_bt at h
  split at h
  · exact ⟨rfl, h⟩
  · cases h
theorem am_kf_inv {o : Option (Nat × Nat × FieldType)} {f : Nat → Nat → FieldType → Option am_R} {z : am_R} (h : am_kf o f = some z) : ∃ ci k ty, o = some (ci, k, ty) ∧ f ci k ty = some z := by
  unfold am_kf at h
  split at h
  · exact ⟨_, _, _, rfl, h⟩
  · cases h
theorem am_ob_inv {o : Option am_C} {ci : Nat} {fs : List Value} (h : am_ob o ci = some fs) : o = some (.inr (ci, fs)) := by
  unfold am_ob at h
  split at h
  · split at h
    · next e => cases h; rw [Nat.eq_of_beq_eq_true e]
    · cases h
  · cases h
theorem am_ai_inv {o : Option am_C} {f : Nat → (Nat → Int32) → Option am_R} {z : am_R} (h : am_ai o f = some z) : ∃ n g, o = some (.inl (.int, n, .inl g)) ∧ f n g = some z := by
  unfold am_ai at h
  split at h
  · exact ⟨_, _, rfl, h⟩
  · cases h
theorem am_az_inv {o : Option am_C} {f : Nat → (Nat → Int32) → Option am_R} {z : am_R} (h : am_az o f = some z) : ∃ n g, o = some (.inl (.boolean, n, .inl g)) ∧ f n g = some z := by
  unfold am_az at h
  split at h
  · exact ⟨_, _, rfl, h⟩
  · cases h
theorem am_al_inv {o : Option am_C} {f : Nat → (Nat → Int64) → Option am_R} {z : am_R} (h : am_al o f = some z) : ∃ n g, o = some (.inl (.long, n, .inr (.inl g))) ∧ f n g = some z := by
  unfold am_al at h
  split at h
  · exact ⟨_, _, rfl, h⟩
  · cases h
theorem am_ab_inv {ro : Nat → Option am_C} {hp : am_H} {v : Value} {f : Nat → (Nat → Int32) → Option am_R} {z : am_R} (h : am_ab ro hp v f = some z) : ∃ n g, ((∃ a, v = .ref a ∧ hp[a]? = some (.inl (.boolean, n, .inl g))) ∨ (∃ k, v = .retAddr (k + 1) ∧ ro k = some (.inl (.byte, n, .inl g)))) ∧ f n g = some z := by
  unfold am_ab at h
  split at h
  · obtain ⟨n, g, e, h⟩ := am_az_inv h
    exact ⟨n, g, Or.inl ⟨_, rfl, e⟩, h⟩
  · split at h
    · next e => exact ⟨_, _, Or.inr ⟨_, rfl, e⟩, h⟩
    · cases h
  · cases h
theorem am_an_inv {ro : Nat → Option am_C} {hp : am_H} {v : Value} {f : Nat → Option am_R} {z : am_R} (h : am_an ro hp v f = some z) : ∃ n, ((∃ a g, v = .ref a ∧ hp[a]? = some (.inl (.int, n, g))) ∨ (∃ k ty g, v = .retAddr (k + 1) ∧ ro k = some (.inl (ty, n, .inl g)))) ∧ f n = some z := by
  unfold am_an at h
  split at h
  · split at h
    · next e => exact ⟨_, Or.inl ⟨_, _, rfl, e⟩, h⟩
    · cases h
  · split at h
    · next e => exact ⟨_, Or.inr ⟨_, _, _, rfl, e⟩, h⟩
    · cases h
  · cases h
theorem am_gf_inv {ro : Nat → Option am_C} {hp : am_H} {v : Value} {kF kQ : Option (Nat × Nat)} {w : Value} (h : am_gf ro hp v kF kQ = some w) : ∃ ci k fs, ((∃ a, v = .ref a ∧ kF = some (ci, k) ∧ hp[a]? = some (.inr (ci, fs))) ∨ (∃ j, v = .retAddr (j + 1) ∧ kQ = some (ci, k) ∧ ro j = some (.inr (ci, fs)))) ∧ fs[k]? = some w := by
  unfold am_gf at h
  split at h
  · split at h
    · split at h
      · next e => exact ⟨_, _, _, Or.inl ⟨_, rfl, rfl, am_ob_inv e⟩, h⟩
      · cases h
    · cases h
  · split at h
    · split at h
      · next e => exact ⟨_, _, _, Or.inr ⟨_, rfl, rfl, am_ob_inv e⟩, h⟩
      · cases h
    · cases h
  · cases h
theorem am_gi_any {ro : Nat → Option am_C} {hp : am_H} {v : Value} {c : am_C} (h : am_gi ro hp v = some c) : (∃ a, v = .ref a ∧ hp[a]? = some c) ∨ (∃ k, v = .retAddr (k + 1) ∧ ro k = some c) := by
  unfold am_gi at h
  split at h
  · exact Or.inl ⟨_, rfl, h⟩
  · exact Or.inr ⟨_, rfl, h⟩
  · cases h
theorem am_blt_t {a b : Nat} (h : Nat.blt a b = true) : a < b := Nat.le_of_ble_eq_true h
theorem am_nf_ok {ty : FieldType} {v : Value} (h : am_ph (am_nf ty v)) : narrow ty v = v ∧ fits ty v = true := by
  unfold am_nf at h
  split at h
  · exact ⟨rfl, rfl⟩
  · exact ⟨rfl, rfl⟩
  · exact ⟨rfl, rfl⟩
  · exact ⟨rfl, rfl⟩
  · exact h
/-! what the table's check gives -/
theorem am_dcl {mi pc nx t k : Nat} {i : Instr} (hd : am_cd mi pc = some (i, nx, t)) (hk : am_len i = k + 1) : decode (am_mB mi) pc = .ok (i, k + 1) ∧ nx = pc + (k + 1) := by
  obtain ⟨n, h1, h2, -⟩ := am_cd_ok hd
  have : n = k + 1 ∧ nx = pc + (k + 1) := by
    cases i <;> simp [am_len] at hk <;> subst hk <;> simp_all [am_ck, am_len]
  exact ⟨by rw [← this.1]; exact h1, this.2⟩
theorem am_dc {mi pc nx t k : Nat} {i : Instr} (hd : am_cd mi pc = some (i, nx, t)) (hk : am_len i = k + 1) : decode (am_mB mi) pc = .ok (i, k + 1) := (am_dcl hd hk).1
theorem am_nx {mi pc nx t k : Nat} {i : Instr} (hd : am_cd mi pc = some (i, nx, t)) (hk : am_len i = k + 1) : nx = pc + (k + 1) := (am_dcl hd hk).2
theorem am_ck_of {mi pc nx t : Nat} {i : Instr} (hd : am_cd mi pc = some (i, nx, t)) : ∃ n, am_ck (am_mL mi) pc nx t n i = true := by
  obtain ⟨n, h1, h2, -⟩ := am_cd_ok hd
  exact ⟨n, h2⟩
theorem am_kc_iconst {mi pc nx t : Nat} {v : Int} (hd : am_cd mi pc = some (.iconst v, nx, t)) : Int32.ofInt v = am_ki v := by
  obtain ⟨n, h⟩ := am_ck_of hd
  simp only [am_ck, Bool.and_eq_true, decide_eq_true_eq] at h
  exact h.2
theorem am_kc_bipush {mi pc nx t : Nat} {v : Int} (hd : am_cd mi pc = some (.bipush v, nx, t)) : (Int8.ofInt v).toInt32 = am_ki v := by
  obtain ⟨n, h⟩ := am_ck_of hd
  simp only [am_ck, Bool.and_eq_true, decide_eq_true_eq] at h
  exact h.2
theorem am_kc_sipush {mi pc nx t : Nat} {v : Int} (hd : am_cd mi pc = some (.sipush v, nx, t)) : (Int16.ofInt v).toInt32 = am_ki v := by
  obtain ⟨n, h⟩ := am_ck_of hd
  simp only [am_ck, Bool.and_eq_true, decide_eq_true_eq] at h
  exact h.2
theorem am_kc_iinc {mi pc nx t j : Nat} {v : Int} (hd : am_cd mi pc = some (.iinc j v, nx, t)) : Int32.ofInt v = am_ki v ∧ j < am_mL mi := by
  obtain ⟨n, h⟩ := am_ck_of hd
  simp only [am_ck, Bool.and_eq_true, decide_eq_true_eq] at h
  exact ⟨h.1.2, am_blt_t h.2⟩
theorem am_kc_istore {mi pc nx t : Nat} {j : Nat} (hd : am_cd mi pc = some (.istore j, nx, t)) : j < am_mL mi := by
  obtain ⟨n, h⟩ := am_ck_of hd
  simp only [am_ck, Bool.and_eq_true] at h
  exact am_blt_t h.2
theorem am_kc_astore {mi pc nx t : Nat} {j : Nat} (hd : am_cd mi pc = some (.astore j, nx, t)) : j < am_mL mi := by
  obtain ⟨n, h⟩ := am_ck_of hd
  simp only [am_ck, Bool.and_eq_true] at h
  exact am_blt_t h.2
theorem am_kc_lstore {mi pc nx t : Nat} {j : Nat} (hd : am_cd mi pc = some (.lstore j, nx, t)) : j + 1 < am_mL mi := by
  obtain ⟨n, h⟩ := am_ck_of hd
  simp only [am_ck, Bool.and_eq_true] at h
  exact am_blt_t h.2
theorem am_kc_istore_n {mi pc nx t : Nat} {j : Fin 4} (hd : am_cd mi pc = some (.istore_n j, nx, t)) : j.val < am_mL mi := by
  obtain ⟨n, h⟩ := am_ck_of hd
  simp only [am_ck, Bool.and_eq_true] at h
  exact am_blt_t h.2
theorem am_kc_astore_n {mi pc nx t : Nat} {j : Fin 4} (hd : am_cd mi pc = some (.astore_n j, nx, t)) : j.val < am_mL mi := by
  obtain ⟨n, h⟩ := am_ck_of hd
  simp only [am_ck, Bool.and_eq_true] at h
  exact am_blt_t h.2
theorem am_kc_lstore_n {mi pc nx t : Nat} {j : Fin 4} (hd : am_cd mi pc = some (.lstore_n j, nx, t)) : j.val + 1 < am_mL mi := by
  obtain ⟨n, h⟩ := am_ck_of hd
  simp only [am_ck, Bool.and_eq_true] at h
  exact am_blt_t h.2
theorem am_kc_goto {mi pc nx t : Nat} {off : Int} (hd : am_cd mi pc = some (.goto off, nx, t)) : (pc : Int) + off = (t : Int) := by
  obtain ⟨n, h⟩ := am_ck_of hd
  simp only [am_ck, Bool.and_eq_true, decide_eq_true_eq] at h
  exact h.2
theorem am_kc_ifCond {mi pc nx t : Nat} {cn : Jvm.ClassFile.Cond} {off : Int} (hd : am_cd mi pc = some (.ifCond cn off, nx, t)) : (pc : Int) + off = (t : Int) := by
  obtain ⟨n, h⟩ := am_ck_of hd
  simp only [am_ck, Bool.and_eq_true, decide_eq_true_eq] at h
  exact h.2
theorem am_kc_if_icmp {mi pc nx t : Nat} {cn : Jvm.ClassFile.Cond} {off : Int} (hd : am_cd mi pc = some (.if_icmp cn off, nx, t)) : (pc : Int) + off = (t : Int) := by
  obtain ⟨n, h⟩ := am_ck_of hd
  simp only [am_ck, Bool.and_eq_true, decide_eq_true_eq] at h
  exact h.2
/-! locals -/
theorem am_en_mem {bs : Nat} {ad : Nat → Nat} {L : List Value} {i : Nat} {v : Value} (h : L[i]? = some v) (hv : am_okv v = true) : (i, am_cv bs ad v) ∈ am_en bs ad L := by
  refine List.mem_filterMap.mpr ⟨i, List.mem_range.mpr (List.getElem?_eq_some_iff.mp h).1, ?_⟩
  simp [h, hv]
theorem am_en_of {bs : Nat} {ad : Nat → Nat} {L : List Value} {q : Nat × Value} (h : q ∈ am_en bs ad L) : ∃ v, L[q.1]? = some v ∧ am_okv v = true ∧ q.2 = am_cv bs ad v := by
  obtain ⟨i, -, hi⟩ := List.mem_filterMap.mp h
  split at hi
  · next v hv =>
    split at hi
    · next ho =>
      cases hi
      exact ⟨v, hv, ho, rfl⟩
    · cases hi
  · cases hi
theorem am_cv_cat {bs : Nat} {ad : Nat → Nat} (v : Value) : (am_cv bs ad v).category = v.category := by
  cases v with
  | retAddr n =>
    cases n with
    | zero => rfl
    | succ k =>
      show (bif Nat.beq k 99 then (match ad 99 with | 0 => Value.null | a + 1 => .ref a) else .ref (ad k)).category = 1
      cases Nat.beq k 99 with
      | false => rfl
      | true => show (match ad 99 with | 0 => Value.null | a + 1 => .ref a).category = 1; split <;> rfl
  | _ => rfl
theorem am_load {bs : Nat} {ad : Nat → Nat} {n : Nat} {L : List Value} {ls : Array Slot} (h : lv_has ls n (am_en bs ad L)) {i : Nat} {v : Value} (hi : L[i]? = some v) (hv : am_okv v = true) : ls[i]? = some (.val (am_cv bs ad v)) := h.2.2 _ (am_en_mem hi hv)
theorem am_pr_spec {L : List Value} {i j : Nat} (h : am_pr L i = true) (hj : j + 1 = i) {v : Value} (hv : L[j]? = some v) : v.category = 1 := by
  subst hj
  simp only [am_pr, hv] at h
  exact Nat.eq_of_beq_eq_true h
theorem am_store1 {bs : Nat} {ad : Nat → Nat} {n : Nat} {L : List Value} {ls' : Array Slot} {i : Nat} {v : Value} (hp : am_pr L i = true) (h : lv_has ls' n ((i, am_cv bs ad v) :: (am_en bs ad L).filter (fun q => !(q.1 == i) && !(q.1 + 1 == i && q.2.category == 2)))) : lv_has ls' n (am_en bs ad (L.set i v)) := by
  refine ⟨h.1, h.2.1, fun q hq => ?_⟩
  obtain ⟨w, hw, ho, he⟩ := am_en_of hq
  by_cases hi : q.1 = i
  · have hs : (L.set i v)[i]? = some w := hi ▸ hw
    have hlt : i < L.length := by
      have := (List.getElem?_eq_some_iff.mp hs).1
      simpa using this
    rw [List.getElem?_set_self hlt] at hs
    cases hs
    have := h.2.2 (i, am_cv bs ad v) List.mem_cons_self
    rw [hi, he]
    exact this
  · rw [List.getElem?_set_ne (fun e => hi e.symm)] at hw
    refine h.2.2 q (List.mem_cons_of_mem _ (List.mem_filter.mpr ⟨?_, ?_⟩))
    · have hm := am_en_mem (bs := bs) (ad := ad) hw ho
      rw [← he] at hm
      exact hm
    · have hc : q.1 + 1 = i → q.2.category = 1 := fun e => by rw [he, am_cv_cat]; exact am_pr_spec hp e hw
      by_cases e : q.1 + 1 = i
      · simp [hi, hc e]
      · simp [hi, e]
theorem am_store2 {bs : Nat} {ad : Nat → Nat} {n : Nat} {L : List Value} {ls' : Array Slot} {i : Nat} {v : Value} (hp : am_pr L i = true) (h : lv_has ls' n ((i, am_cv bs ad v) :: (am_en bs ad L).filter (fun q => !(q.1 == i) && (!(q.1 == i + 1) && !(q.1 + 1 == i && q.2.category == 2))))) : lv_has ls' n (am_en bs ad ((L.set i v).set (i + 1) am_un)) := by
  refine ⟨h.1, h.2.1, fun q hq => ?_⟩
  obtain ⟨w, hw, ho, he⟩ := am_en_of hq
  by_cases h1 : q.1 = i + 1
  · have hs : ((L.set i v).set (i + 1) am_un)[i + 1]? = some w := h1 ▸ hw
    have hlt : i + 1 < (L.set i v).length := by
      have := (List.getElem?_eq_some_iff.mp hs).1
      simpa using this
    rw [List.getElem?_set_self hlt] at hs
    cases hs
    cases ho
  · rw [List.getElem?_set_ne (fun e => h1 e.symm)] at hw
    by_cases hi : q.1 = i
    · have hs : (L.set i v)[i]? = some w := hi ▸ hw
      have hlt : i < L.length := by
        have := (List.getElem?_eq_some_iff.mp hs).1
        simpa using this
      rw [List.getElem?_set_self hlt] at hs
      cases hs
      have := h.2.2 (i, am_cv bs ad v) List.mem_cons_self
      rw [hi, he]
      exact this
    · rw [List.getElem?_set_ne (fun e => hi e.symm)] at hw
      refine h.2.2 q (List.mem_cons_of_mem _ (List.mem_filter.mpr ⟨?_, ?_⟩))
      · have hm := am_en_mem (bs := bs) (ad := ad) hw ho
        rw [← he] at hm
        exact hm
      · have hc : q.1 + 1 = i → q.2.category = 1 := fun e => by rw [he, am_cv_cat]; exact am_pr_spec hp e hw
        by_cases e : q.1 + 1 = i
        · simp [hi, h1, hc e]
        · simp [hi, h1, e]
/-! cells -/
theorem am_rp.set {D : va_G} {bs : Nat} {ad : Nat → Nat} {dA : FieldType → ClassId} {hp : am_H} {H H1 : Heap} {i : Nat} {c : am_C} (h : am_rp D bs ad dA hp H) (hc : va_at D am_cl (bs + i, am_ce bs ad dA c) H1) (hz : H1.size = H.size) (ho : ∀ q, q ≠ bs + i → H1[q]? = H[q]?) : am_rp D bs ad dA (hp.set i c) H1 := by
  refine ⟨by rw [hz, h.1, List.length_set], fun j d hj => ?_⟩
  by_cases e : j = i
  · subst e
    have hlt : j < hp.length := by
      have := (List.getElem?_eq_some_iff.mp hj).1
      simpa using this
    rw [List.getElem?_set_self hlt] at hj
    cases hj
    exact hc
  · rw [List.getElem?_set_ne (fun q => e q.symm)] at hj
    exact (h.2 j d hj).kept (ho _ (by show bs + j ≠ bs + i; omega))
theorem am_rp.push {D : va_G} {bs : Nat} {ad : Nat → Nat} {dA : FieldType → ClassId} {hp : am_H} {H H1 : Heap} {c : am_C} (h : am_rp D bs ad dA hp H) (hc : va_at D am_cl (H.size, am_ce bs ad dA c) H1) (hz : H1.size = H.size + 1) (ho : ∀ q, q < H.size → H1[q]? = H[q]?) : am_rp D bs ad dA (hp ++ [c]) H1 := by
  refine ⟨by rw [hz, h.1]; simp; omega, fun j d hj => ?_⟩
  by_cases e : j < hp.length
  · rw [List.getElem?_append_left e] at hj
    exact (h.2 j d hj).kept (ho _ (by show bs + j < _; rw [h.1]; omega))
  · rw [List.getElem?_append_right (by omega)] at hj
    have hz1 : j - hp.length < 1 := (List.getElem?_eq_some_iff.mp hj).1
    have hj0 : j = hp.length := by omega
    subst hj0
    simp at hj
    subst hj
    rw [← h.1]
    exact hc
theorem am_sz_set {c d : am_C} (hs : am_cs d = am_cs c) : ∀ {hp : am_H} {i : Nat}, hp[i]? = some c → am_sz (hp.set i d) = am_sz hp := by
  intro hp
  induction hp with
  | nil => intro i h; cases h
  | cons a r ih =>
    intro i h
    cases i with
    | zero =>
      simp at h
      subst h
      simp [am_sz, hs]
    | succ i =>
      simp at h
      simp [am_sz, ih h]
theorem am_sz_app (c : am_C) : ∀ hp : am_H, am_sz (hp ++ [c]) = am_sz hp + am_cs c := by
  intro hp
  induction hp with
  | nil => simp [am_sz]
  | cons a r ih => simp [am_sz, ih]; omega
theorem am_P1 {D : va_G} {q : Nat × va_E} {H : Heap} (h : va_at D am_cl q H) : va_P D am_cl [q] H := by
  intro k x hx
  cases k with
  | zero => cases hx; exact h
  | succ k => simp at hx
end
section
/-! ONE STEP IS SOUND -/
noncomputable def am_tys (dA : FieldType → ClassId) : List (ClassId × FieldType) := [(dA .int, .int), (dA .boolean, .boolean), (dA .long, .long)]
/-- cells from before -/
noncomputable def am_rc (ro : Nat → Option am_C) (bs : Nat) (ad : Nat → Nat) (U : State) (H : Heap) (k : Nat) : am_C → Prop
  | .inl (ty, n, .inl g) => va_T ty (ad k) n (fun j => .int (g j)) (fun q => bs ≤ q) U H
  | .inl _ => False
  | .inr (ci, fs) => va_O (am_cN ci) (ad k) (fun q => bs ≤ q) U H ∧ ∀ (j : Nat) (v : Value), fs[j]? = some v → va_OF (am_rT ci j).1 (am_rT ci j).2.1 (am_rT ci j).2.2 (am_cv bs ad v) (ad k) (fun q => bs ≤ q) U H
noncomputable def am_KF (D : va_G) (bs : Nat) (ad : Nat → Nat) (dA : FieldType → ClassId) (ro : Nat → Option am_C) (U : State) (H : Heap) : Prop :=
  va_K D am_cl (am_tys dA) U ∧ (∀ w ∈ am_NW, va_Nw w U) ∧ (∀ k c, ro k = some c → Nat.beq k 99 = false ∧ am_rc ro bs ad U H k c) ∧ (∀ q ∈ am_sk, vk_R q.1 q.2.1 q.2.2.1 (ad q.2.2.2) U) ∧ (∀ q ∈ am_gs, va_Z q.1 q.2.1 q.2.2.1 (am_cv bs ad q.2.2.2) (fun q => bs ≤ q) U H)
/-- what holds during a method -/
noncomputable def am_Cx (p : Program) (s : State) (m : MethodId) (args : Array Value) (meth : Method) (c : Code) (R : Room) (D : va_G) (bs : Nat) (ad : Nat → Nat) (dA : FieldType → ClassId) (ro : Nat → Option am_C) (mi : Nat) : Prop :=
  p.tables.exec = Jvm.exec ∧ c.code = am_mB mi ∧ c.maxLocals = am_mL mi ∧ s.vm.findClass (am_mO mi) = some m.cls ∧ (∀ w ∈ am_TB, w.before args s = true) ∧ am_KF D bs ad dA ro s s.heap ∧ (am_mI mi = true → meth.name = "<init>") ∧ (1 ≤ R.frames ∧ 21 ≤ R.locals) ∧ bs ≤ s.heap.size
noncomputable def am_W (p : Program) (l : Launch) (e : Env) (R : Room) (s : State) (m : MethodId) (args : Array Value) (below : List Frame) (meth : Method) (c : Code) (Q : State → Prop) (D : va_G) (bs : Nat) (ad : Nat → Nat) (dA : FieldType → ClassId) (mi n0 z0 : Nat) (pc : Nat) (L st : List Value) (hp : am_H) : Prop :=
  ∀ (H : Heap) (locs : List Loc) (ls : Array Slot), lv_has ls (am_mL mi) (am_en bs ad L) → am_rp D bs ad dA hp H → va_S (fun q => bs ≤ q) s.heap H locs →
    W p l e R s m args below meth c H locs (hp.length - n0) (am_sz hp - z0) Q (F0 m pc ls (st.map (am_cv bs ad)))
theorem am_cv_nar {bs : Nat} {ad : Nat → Nat} {ty : FieldType} {v : Value} (h : narrow ty v = v ∧ fits ty v = true) : narrow ty (am_cv bs ad v) = am_cv bs ad v ∧ fits ty (am_cv bs ad v) = true := by
  cases v with
  | ref a => cases ty <;> first | exact ⟨rfl, rfl⟩ | (exact absurd h.2 (by simp [fits]))
  | retAddr n => exact absurd h.2 (by cases ty <;> simp [fits])
  | _ => exact h
section AMS
variable {p : Program} {l : Launch} {e : Env} {R : Room} {s : State} {m : MethodId} {args : Array Value} {below : List Frame} {meth : Method} {c : Code} {H : Heap} {locs : List Loc} {cells slots : Nat} {Q : State → Prop} {D : va_G} {bs : Nat} {ad : Nat → Nat} {dA : FieldType → ClassId} {ro : Nat → Option am_C} {mi : Nat} {hp : am_H}
/-- a write to a field that isn't final -/
theorem am_put {ls : Array Slot} {pc index ci k N a : Nat} {C : String} {T : u_T} {ty : FieldType} {fs rest : List Value} {v : Value} (hX : am_Cx p s m args meth c R D bs ad dA ro mi) (hcl : am_cl[ci]? = some (C, T, N)) (hk : k < N) (hlink : Cond.fieldLink (am_mO mi) index (T k).1 (T k).2.1 (T k).2.2.1 ∈ am_TB) (hfin : (T k).2.2.2 = false ∨ ((T k).2.2.2 = true ∧ am_mI mi = true ∧ (T k).1 = am_mO mi)) (hd : parseFieldDescriptor (T k).2.2.1 = some ty) (hv : narrow ty v = v ∧ fits ty v = true) (hl : k < fs.length)
    (hr : am_rp D bs ad dA hp H) (hS : va_S (fun q => bs ≤ q) s.heap H locs) (hc : hp[a]? = some (.inr (ci, fs))) (hdg : decode (am_mB mi) pc = .ok (.putfield index, 3))
    (kk : ∀ (H1 : Heap) (locs1 : List Loc), am_rp D bs ad dA (hp.set a (.inr (ci, fs.set k v))) H1 → va_S (fun q => bs ≤ q) s.heap H1 locs1 → W p l e R s m args below meth c H1 locs1 cells slots Q (F0 m (pc + 3) ls rest)) : W p l e R s m args below meth c H locs cells slots Q (F0 m pc ls (am_cv bs ad v :: .ref (bs + a) :: rest)) := by
  obtain ⟨hx, hb, hml, hown, hts, hKF, hin, hR, hbs⟩ := hX
  obtain ⟨hws, ty0, hty, hnm⟩ := am_cl_ok hcl
  have hv := am_cv_nar (bs := bs) (ad := ad) hv
  have hK := hKF.1
  have hap := va_apart (own := am_mO mi) hts hws ty0 hty hnm hK hcl
  obtain ⟨r, h1, cell, q1, q2, q3, q4⟩ := hr.2 a _ hc
  have hr1 : r = (C, T, N) := Option.some.inj (h1.symm.trans hcl)
  subst hr1
  obtain ⟨hSl, hfc, kC, hkC, hkind⟩ := hK.1 ci _ hcl
  obtain ⟨cf, kf, fi, f, hi, hsl⟩ := hSl k hk
  have hst := (u_facts hfc hkC (u_lays hts hws hk) hi).1
  have hlen : k < (fs.map (am_cv bs ad)).length := by rw [List.length_map]; exact hl
  have fin : ∀ H' : Heap, H'[bs + a]? = some (cell.setSlot f.slot (am_cv bs ad v)) → H'.size = H.size → (∀ q, q ≠ bs + a → H'[q]? = H[q]?) → W p l e R s m args below meth c H' (locs ++ [⟨bs + a, f.slot⟩]) cells slots Q (F0 m (pc + 3) ls rest) := by
    intro H' e1 e2 e3
    rw [hsl] at e1 ⊢
    refine kk H' _ (hr.set ?_ e2 e3) (hS.put e2 e3 (by show bs ≤ bs + a; omega))
    show va_at D am_cl (bs + a, .inr (ci, (fs.set k v).map (am_cv bs ad))) H'
    refine ⟨_, hcl, t_OB.to (V := updV (vp_V (fs.map (am_cv bs ad))) k (am_cv bs ad v)) ⟨_, e1, q2, q3, t_set q4 hap hk _⟩ (fun j _ => ?_)⟩
    rw [vp_updV_set hlen, List.map_set]
  rcases hfin with hfin | ⟨hfin, hmi, hdecl⟩
  · have hlay := hts _ (hws _ (u_in_lay hk))
    unfold u_lay at hlay
    rw [if_neg (by rw [hfin]; decide)] at hlay
    have h6 := u_store hfc hkC hkind hlay hi hd hv.1 hv.2
    exact W.putK hx hb (f := f) ⟨hown, hts _ hlink, ⟨_, _, _, hi⟩, hst⟩ (by rw [q2]; exact h6) q1 q3 (by rw [hsl]; exact k2_hasslot (q4 k hk)) rfl rfl hdg fin
  · have hlay := hts _ (hws _ (u_in_lay hk))
    unfold u_lay at hlay
    rw [if_pos hfin] at hlay
    have hcf : m.cls = cf := by
      obtain ⟨_, _, c', _, _, _, -, -, hf', -, -, -, hown2, -⟩ := Cond.laysFinal_spec hlay
      have e1 : c' = cf := by have := hi.symm.trans hf'; simp at this; exact this.1.symm
      rw [hdecl] at hown2
      rw [← e1]; exact Option.some.inj (hown.symm.trans hown2)
    have h6 := u_fits hfc hkC hkind (Or.inr hlay) hi hd hv.1 hv.2
    exact W.putFinK hx hb hown (hts _ hlink) hi hst hcf (hin hmi) (by rw [q2]; exact h6) q1 q3 (by rw [hsl]; exact k2_hasslot (q4 k hk)) rfl rfl hdg fin
theorem am_iast {ls : Array Slot} {pc n a : Nat} {g : Nat → Int32} {rest : List Value} {x i : Int32} (hX : am_Cx p s m args meth c R D bs ad dA ro mi) (hr : am_rp D bs ad dA hp H) (hS : va_S (fun q => bs ≤ q) s.heap H locs) (hc : hp[a]? = some (.inl (.int, n, .inl g))) (hin : vp_in i n) (hdg : decode (am_mB mi) pc = .ok (.iastore, 1))
    (kk : ∀ (H1 : Heap) (locs1 : List Loc), am_rp D bs ad dA (hp.set a (.inl (.int, n, .inl (upd g i.toNatClampNeg x)))) H1 → va_S (fun q => bs ≤ q) s.heap H1 locs1 → W p l e R s m args below meth c H1 locs1 cells slots Q (F0 m (pc + 1) ls rest)) : W p l e R s m args below meth c H locs cells slots Q (F0 m pc ls (.int x :: .int i :: .ref (bs + a) :: rest)) := by
  obtain ⟨hx, hb, hml, hown, hts, hKF, -⟩ := hX
  have hat : H[bs + a]? = some (vp_cell (dA .int) (n, .inl g)) := hr.2 a _ hc
  refine W.iast hx hb hat ((hKF.1.2 0 _ rfl).1 n (fun j => .int (g j))) (fun q => by cases q) (by show ¬ (i < 0 ∨ (arrV _ _ _).slots.size ≤ _); rw [arrV_size]; exact hin) rfl rfl hdg fun H1 e z oq => ?_
  refine kk H1 _ (hr.set ?_ z oq) (hS.put z oq (by show bs ≤ bs + a; omega))
  show H1[bs + a]? = some (vp_cell (dA .int) (n, .inl (upd g i.toNatClampNeg x)))
  rw [e, vp_cell_i, vp_cell_i, arrV_store]
  congr 2
  funext q
  by_cases hq : q = i.toNatClampNeg
  · subst hq
    simp [updV, upd]
  · simp [updV, upd, hq]
theorem am_zast {ls : Array Slot} {pc n a : Nat} {g : Nat → Int32} {rest : List Value} {x i : Int32} (hX : am_Cx p s m args meth c R D bs ad dA ro mi) (hr : am_rp D bs ad dA hp H) (hS : va_S (fun q => bs ≤ q) s.heap H locs) (hc : hp[a]? = some (.inl (.boolean, n, .inl g))) (hin : vp_in i n) (hdg : decode (am_mB mi) pc = .ok (.bastore, 1))
    (kk : ∀ (H1 : Heap) (locs1 : List Loc), am_rp D bs ad dA (hp.set a (.inl (.boolean, n, .inl (upd g i.toNatClampNeg (vp_nar .boolean x))))) H1 → va_S (fun q => bs ≤ q) s.heap H1 locs1 → W p l e R s m args below meth c H1 locs1 cells slots Q (F0 m (pc + 1) ls rest)) : W p l e R s m args below meth c H locs cells slots Q (F0 m pc ls (.int x :: .int i :: .ref (bs + a) :: rest)) := by
  obtain ⟨hx, hb, hml, hown, hts, hKF, -⟩ := hX
  have hat : H[bs + a]? = some (vp_cell (dA .boolean) (n, .inl g)) := hr.2 a _ hc
  refine W.zast hx hb hat ((hKF.1.2 1 _ rfl).1 n (fun j => .int (g j))) (fun q => by cases q) (by show ¬ (i < 0 ∨ (arrV _ _ _).slots.size ≤ _); rw [arrV_size]; exact hin) rfl rfl hdg fun H1 e z oq => ?_
  refine kk H1 _ (hr.set ?_ z oq) (hS.put z oq (by show bs ≤ bs + a; omega))
  show H1[bs + a]? = some (vp_cell (dA .boolean) (n, .inl (upd g i.toNatClampNeg (vp_nar .boolean x))))
  rw [e, vp_cell_i, vp_cell_i, arrV_store]
  congr 2
  funext q
  by_cases hq : q = i.toNatClampNeg
  · subst hq
    simp [updV, upd, vp_nar, narrow]
  · simp [updV, upd, hq]
theorem am_last {ls : Array Slot} {pc n a : Nat} {g : Nat → Int64} {rest : List Value} {x : Int64} {i : Int32} (hX : am_Cx p s m args meth c R D bs ad dA ro mi) (hr : am_rp D bs ad dA hp H) (hS : va_S (fun q => bs ≤ q) s.heap H locs) (hc : hp[a]? = some (.inl (.long, n, .inr (.inl g)))) (hin : vp_in i n) (hdg : decode (am_mB mi) pc = .ok (.lastore, 1))
    (kk : ∀ (H1 : Heap) (locs1 : List Loc), am_rp D bs ad dA (hp.set a (.inl (.long, n, .inr (.inl (vp_updL g i.toNatClampNeg x))))) H1 → va_S (fun q => bs ≤ q) s.heap H1 locs1 → W p l e R s m args below meth c H1 locs1 cells slots Q (F0 m (pc + 1) ls rest)) : W p l e R s m args below meth c H locs cells slots Q (F0 m pc ls (.long x :: .int i :: .ref (bs + a) :: rest)) := by
  obtain ⟨hx, hb, hml, hown, hts, hKF, -⟩ := hX
  have hat : H[bs + a]? = some (vp_cell (dA .long) (n, .inr (.inl g))) := hr.2 a _ hc
  refine W.last hx hb hat ((hKF.1.2 2 _ rfl).1 n (fun j => .long (g j))) (fun q => by cases q) (by show ¬ (i < 0 ∨ (arrV _ _ _).slots.size ≤ _); rw [arrV_size]; exact hin) rfl rfl hdg fun H1 e z oq => ?_
  refine kk H1 _ (hr.set ?_ z oq) (hS.put z oq (by show bs ≤ bs + a; omega))
  show H1[bs + a]? = some (vp_cell (dA .long) (n, .inr (.inl (vp_updL g i.toNatClampNeg x))))
  rw [e, vp_cell_l, vp_cell_l, arrV_store]
  congr 2
  funext q
  by_cases hq : q = i.toNatClampNeg
  · subst hq
    simp [updV, vp_updL]
  · simp [updV, vp_updL, hq]
/-- a new array -/
theorem am_newa {ls : Array Slot} {pc N : Nat} {t : ArrayType} {ty : FieldType} {t0 : Nat} {n : Int32} {ca : am_C} {a0 : vp_A} {rest : List Value} (hX : am_Cx p s m args meth c R D bs ad dA ro mi) (hr : am_rp D bs ad dA hp H) (hS : va_S (fun q => bs ≤ q) s.heap H locs) (hty : newarray.typeOf t = ty) (hac : Cond.arrayClass ty ∈ am_TB) (ht0 : (am_tys dA)[t0]? = some (dA ty, ty)) (hRA : va_RA s (dA ty) ty → s.vm.findClass ("[" ++ ty.toString) = some (dA ty)) (hca : ca = .inl (ty, a0)) (ha : ∀ cA : ClassId, vp_cell cA a0 = arrV cA N (fun _ => defaultValue ty)) (hn : ¬ n < 0) (hN : n.toNatClampNeg = N) (hbytes : N * componentBytes ty ≤ 536870912) (hcells : cells + 1 ≤ R.cells) (hslots : slots + N ≤ R.slots) (hdg : decode (am_mB mi) pc = .ok (.newarray t, 2))
    (kk : ∀ (H1 : Heap), am_rp D bs ad dA (hp ++ [ca]) H1 → va_S (fun q => bs ≤ q) s.heap H1 locs → W p l e R s m args below meth c H1 locs (cells + 1) (slots + N) Q (F0 m (pc + 2) ls (.ref (bs + hp.length) :: rest))) : W p l e R s m args below meth c H locs cells slots Q (F0 m pc ls (.int n :: rest)) := by
  obtain ⟨hx, hb, hml, hown, hts, hKF, -⟩ := hX
  subst hty
  subst hca
  refine va_newaK hx hb (hts _ hac) rfl hdg rfl hn hN hbytes hcells hslots hr.1 fun H1 cA e1 z1 o1 hAr hNm => ?_
  have e : cA = dA (newarray.typeOf t) := Option.some.inj (hNm.symm.trans (hRA (hKF.1.2 t0 _ ht0).2))
  subst e
  refine kk H1 (hr.push ?_ (by rw [z1, hr.1]) (fun q hq => o1 q (by rw [← hr.1]; exact hq))) ⟨Nat.le_trans hS.1 (by rw [z1, hr.1]; omega), fun q h1 h2 => (o1 q (by have := hS.1; rw [hr.1] at this; omega)).trans (hS.2.1 q h1 h2), hS.2.2⟩
  show H1[H.size]? = some (vp_cell _ _)
  rw [ha, hr.1]
  exact e1
/-- a new object -/
theorem am_newo {ls : Array Slot} {pc N ci index : Nat} {C : String} {T : u_T} {rest : List Value} (hX : am_Cx p s m args meth c R D bs ad dA ro mi) (hr : am_rp D bs ad dA hp H) (hS : va_S (fun q => bs ≤ q) s.heap H locs) (hcl : am_cl[ci]? = some (C, T, N)) (h1 : Cond.classLink (am_mO mi) index C ∈ am_TB) (h2 : Cond.instantiable C N ∈ am_TB) (h3 : Cond.initialized C ∈ am_TB) (hdf : ∀ ty : Nat → FieldType, (∀ k, k < N → parseFieldDescriptor (T k).2.2.1 = some (ty k)) → ∀ j, j < N → defaultValue (ty j) = vp_V ((am_df ci).map (am_cv bs ad)) j) (hcells : cells + 1 ≤ R.cells) (hslots : slots + N ≤ R.slots) (hdg : decode (am_mB mi) pc = .ok (.new index, 3))
    (kk : ∀ (H1 : Heap), am_rp D bs ad dA (hp ++ [.inr (ci, am_df ci)]) H1 → va_S (fun q => bs ≤ q) s.heap H1 locs → W p l e R s m args below meth c H1 locs (cells + 1) (slots + N) Q (F0 m (pc + 3) ls (.ref (bs + hp.length) :: rest))) : W p l e R s m args below meth c H locs cells slots Q (F0 m pc ls rest) := by
  obtain ⟨hx, hb, hml, hown, hts, hKF, -⟩ := hX
  obtain ⟨hws, ty0, hty, hnm⟩ := am_cl_ok hcl
  have hKn := hKF.1.1 ci _ hcl
  refine W.newcK hx hb hown (hts _ h1) (hts _ h2) (hts _ h3) rfl hdg hcells hslots hKn.2.1 hr.1 fun H1 kC hkC e1 z1 o1 => ?_
  refine kk H1 (hr.push ?_ (by rw [z1, hr.1]) (fun q hq => o1 q (by rw [← hr.1]; exact hq))) ⟨Nat.le_trans hS.1 (by rw [z1, hr.1]; omega), fun q h1 h2 => (o1 q (by have := hS.1; rw [hr.1] at this; omega)).trans (hS.2.1 q h1 h2), hS.2.2⟩
  rw [hr.1]
  exact ⟨_, hcl, (u_born ty0 hts hws hKn hkC e1 hty).to (hdf ty0 hty)⟩
end AMS
end
section
/-! THE STEP, instruction by instruction -/
set_option maxHeartbeats 4000000 in
set_option maxRecDepth 100000 in
theorem am_step {p : Program} {l : Launch} {e : Env} {R : Room} {s : State} {m : MethodId} {args : Array Value} {below : List Frame} {meth : Method} {c : Code} {Q : State → Prop} {D : va_G} {bs : Nat} {ad : Nat → Nat} {dA : FieldType → ClassId} {ro : Nat → Option am_C} {mi n0 z0 : Nat}
    (hX : am_Cx p s m args meth c R D bs ad dA ro mi) {pc nx t : Nat} {L st : List Value} {hp : am_H} {i : Instr} (hd : am_cd mi pc = some (i, nx, t)) {pc' : Nat} {L' st' : List Value} {hp' : am_H} {φ : Option Prop} (h : am_st ro mi pc nx t L st hp i = some (pc', L', st', hp', φ)) (hφ : am_ph φ)
    (hn0 : n0 ≤ hp.length ∧ z0 ≤ am_sz hp) (hR0 : hp'.length - n0 ≤ R.cells ∧ am_sz hp' - z0 ≤ R.slots)
    (k : am_W p l e R s m args below meth c Q D bs ad dA mi n0 z0 pc' L' st' hp') : am_W p l e R s m args below meth c Q D bs ad dA mi n0 z0 pc L st hp := by
  have hX0 := hX
  obtain ⟨hx, hb, hml, hown, hts, hKF, hin, hR, hbs⟩ := hX
  cases i with
  | iconst v =>
    obtain rfl := am_nx hd rfl
    have hk := am_kc_iconst hd
    cases h
    intro H locs ls hl hr hS
    exact lv_iconst hx hb (am_dc hd rfl) hk (k H locs ls hl hr hS)
  | bipush v =>
    obtain rfl := am_nx hd rfl
    have hk := am_kc_bipush hd
    cases h
    intro H locs ls hl hr hS
    exact lv_bipush hx hb (am_dc hd rfl) hk (k H locs ls hl hr hS)
  | sipush v =>
    obtain rfl := am_nx hd rfl
    have hk := am_kc_sipush hd
    cases h
    intro H locs ls hl hr hS
    exact lv_sipush hx hb (am_dc hd rfl) hk (k H locs ls hl hr hS)
  | lconst v =>
    obtain rfl := am_nx hd rfl
    cases h
    intro H locs ls hl hr hS
    exact lv_lconst hx hb (am_dc hd rfl) rfl (k H locs ls hl hr hS)
  | ldc j =>
    obtain rfl := am_nx hd rfl
    obtain ⟨v, hv, h⟩ := am_ov_inv h
    cases h
    intro H locs ls hl hr hS
    rcases am_kI_ok hv with ⟨x, rfl, hc⟩ | ⟨q, hq, e1, e2, rfl⟩
    · exact lv_ldc hx hb hown (hts _ hc) (am_dc hd rfl) (k H locs ls hl hr hS)
    · have k1 := k H locs ls hl hr hS
      rw [List.map_cons, am_cv_ra (am_sk_99 q hq)] at k1
      exact va_ldcS (own := am_mO mi) (tx := q.2.2.1) hx hb hown (by have := hKF.2.2.2.1 q hq; rw [e1, e2] at this; exact this) (am_dc hd rfl) k1
  | ldc2_w j =>
    obtain rfl := am_nx hd rfl
    obtain ⟨v, hv, h⟩ := am_ov_inv h
    cases h
    intro H locs ls hl hr hS
    exact lv_ldc2 hx hb hown (hts _ (am_kL_ok hv)) (am_dc hd rfl) (k H locs ls hl hr hS)
  | aload j =>
    obtain rfl := am_nx hd rfl
    obtain ⟨x, hL, ho, h⟩ := am_la_inv h
    cases h
    intro H locs ls hl hr hS
    obtain ⟨a, ha⟩ := am_ok1_cv (bs := bs) (ad := ad) ho
    have k1 := k H locs ls hl hr hS
    have hq := am_load hl hL (am_ok1_okv ho)
    rw [List.map_cons] at k1
    rw [ha] at k1 hq
    exact lv_aload hx hb (am_dc hd rfl) hq k1
  | aload_n j =>
    obtain rfl := am_nx hd rfl
    obtain ⟨x, hL, ho, h⟩ := am_la_inv h
    cases h
    intro H locs ls hl hr hS
    obtain ⟨a, ha⟩ := am_ok1_cv (bs := bs) (ad := ad) ho
    have k1 := k H locs ls hl hr hS
    have hq := am_load hl hL (am_ok1_okv ho)
    rw [List.map_cons] at k1
    rw [ha] at k1 hq
    exact lv_aload_n hx hb (am_dc hd rfl) rfl hq k1
  | iload j =>
    obtain rfl := am_nx hd rfl
    obtain ⟨x, hL, h⟩ := am_li_inv h
    cases h
    intro H locs ls hl hr hS
    exact lv_iload hx hb (am_dc hd rfl) (am_load hl hL rfl) (k H locs ls hl hr hS)
  | iload_n j =>
    obtain rfl := am_nx hd rfl
    obtain ⟨x, hL, h⟩ := am_li_inv h
    cases h
    intro H locs ls hl hr hS
    exact lv_iload_n hx hb (am_dc hd rfl) rfl (am_load hl hL rfl) (k H locs ls hl hr hS)
  | lload j =>
    obtain rfl := am_nx hd rfl
    obtain ⟨x, hL, h⟩ := am_ll_inv h
    cases h
    intro H locs ls hl hr hS
    exact lv_lload hx hb (am_dc hd rfl) (am_load hl hL rfl) (k H locs ls hl hr hS)
  | lload_n j =>
    obtain rfl := am_nx hd rfl
    obtain ⟨x, hL, h⟩ := am_ll_inv h
    cases h
    intro H locs ls hl hr hS
    exact lv_lload_n hx hb (am_dc hd rfl) rfl (am_load hl hL rfl) (k H locs ls hl hr hS)
  | astore j =>
    obtain rfl := am_nx hd rfl
    obtain ⟨x, r, rfl, ho, h⟩ := am_a1_inv h
    obtain ⟨hp1, h⟩ := am_s1_inv h
    have hlt := am_kc_astore hd
    cases h
    intro H locs ls hl hr hS
    obtain ⟨a, ha⟩ := am_ok1_cv (bs := bs) (ad := ad) ho
    rw [List.map_cons, ha]
    exact lv_astore hx hb (am_dc hd rfl) hl hlt rfl (fun ls1 hl1 => k H locs ls1 (am_store1 (v := x) hp1 (by rw [ha]; exact hl1)) hr hS)
  | astore_n j =>
    obtain rfl := am_nx hd rfl
    obtain ⟨x, r, rfl, ho, h⟩ := am_a1_inv h
    obtain ⟨hp1, h⟩ := am_s1_inv h
    have hlt := am_kc_astore_n hd
    cases h
    intro H locs ls hl hr hS
    obtain ⟨a, ha⟩ := am_ok1_cv (bs := bs) (ad := ad) ho
    rw [List.map_cons, ha]
    exact lv_astore_n hx hb (am_dc hd rfl) rfl hl hlt rfl (fun ls1 hl1 => k H locs ls1 (am_store1 (v := x) hp1 (by rw [ha]; exact hl1)) hr hS)
  | istore j =>
    obtain rfl := am_nx hd rfl
    obtain ⟨x, r, e0, g0⟩ := am_i1_inv h
    subst e0
    replace h := g0
    obtain ⟨hp1, h⟩ := am_s1_inv h
    have hlt := am_kc_istore hd
    cases h
    intro H locs ls hl hr hS
    exact lv_istore hx hb (am_dc hd rfl) hl hlt rfl (fun ls1 hl1 => k H locs ls1 (am_store1 (v := .int x) hp1 hl1) hr hS)
  | istore_n j =>
    obtain rfl := am_nx hd rfl
    obtain ⟨x, r, e0, g0⟩ := am_i1_inv h
    subst e0
    replace h := g0
    obtain ⟨hp1, h⟩ := am_s1_inv h
    have hlt := am_kc_istore_n hd
    cases h
    intro H locs ls hl hr hS
    exact lv_istore_n hx hb (am_dc hd rfl) rfl hl hlt rfl (fun ls1 hl1 => k H locs ls1 (am_store1 (v := .int x) hp1 hl1) hr hS)
  | lstore j =>
    obtain rfl := am_nx hd rfl
    obtain ⟨x, r, e0, g0⟩ := am_l1_inv h
    subst e0
    replace h := g0
    obtain ⟨hp1, h⟩ := am_s2_inv h
    have hlt := am_kc_lstore hd
    cases h
    intro H locs ls hl hr hS
    exact lv_lstore hx hb (am_dc hd rfl) hl hlt rfl (fun ls1 hl1 => k H locs ls1 (am_store2 (v := .long x) hp1 hl1) hr hS)
  | lstore_n j =>
    obtain rfl := am_nx hd rfl
    obtain ⟨x, r, e0, g0⟩ := am_l1_inv h
    subst e0
    replace h := g0
    obtain ⟨hp1, h⟩ := am_s2_inv h
    have hlt := am_kc_lstore_n hd
    cases h
    intro H locs ls hl hr hS
    exact lv_lstore_n hx hb (am_dc hd rfl) rfl hl hlt rfl (fun ls1 hl1 => k H locs ls1 (am_store2 (v := .long x) hp1 hl1) hr hS)
  | iinc j v =>
    obtain rfl := am_nx hd rfl
    obtain ⟨x, hL, h⟩ := am_li_inv h
    obtain ⟨hp1, h⟩ := am_s1_inv h
    have hk := am_kc_iinc hd
    have hlt := hk.2
    cases h
    intro H locs ls hl hr hS
    obtain ⟨q, hq⟩ := List.getElem?_of_mem (am_en_mem (bs := bs) (ad := ad) hL rfl)
    exact lv_iinc hx hb (am_dc hd rfl) hl (k := q) hq (congrArg (x + ·) hk.1) hlt rfl (fun ls1 hl1 => k H locs ls1 (am_store1 (v := .int (x + am_ki v)) hp1 hl1) hr hS)
  | iadd =>
    obtain rfl := am_nx hd rfl
    obtain ⟨x, y, r, e0, g0⟩ := am_i2_inv h
    subst e0
    replace h := g0
    cases h
    intro H locs ls hl hr hS
    exact lv_iadd hx hb (am_dc hd rfl) (k H locs ls hl hr hS)
  | isub =>
    obtain rfl := am_nx hd rfl
    obtain ⟨x, y, r, e0, g0⟩ := am_i2_inv h
    subst e0
    replace h := g0
    cases h
    intro H locs ls hl hr hS
    exact lv_isub hx hb (am_dc hd rfl) (k H locs ls hl hr hS)
  | imul =>
    obtain rfl := am_nx hd rfl
    obtain ⟨x, y, r, e0, g0⟩ := am_i2_inv h
    subst e0
    replace h := g0
    cases h
    intro H locs ls hl hr hS
    exact lv_imul hx hb (am_dc hd rfl) (k H locs ls hl hr hS)
  | iand =>
    obtain rfl := am_nx hd rfl
    obtain ⟨x, y, r, e0, g0⟩ := am_i2_inv h
    subst e0
    replace h := g0
    cases h
    intro H locs ls hl hr hS
    exact lv_iand hx hb (am_dc hd rfl) (k H locs ls hl hr hS)
  | ior =>
    obtain rfl := am_nx hd rfl
    obtain ⟨x, y, r, e0, g0⟩ := am_i2_inv h
    subst e0
    replace h := g0
    cases h
    intro H locs ls hl hr hS
    exact lv_ior hx hb (am_dc hd rfl) (k H locs ls hl hr hS)
  | ixor =>
    obtain rfl := am_nx hd rfl
    obtain ⟨x, y, r, e0, g0⟩ := am_i2_inv h
    subst e0
    replace h := g0
    cases h
    intro H locs ls hl hr hS
    exact lv_ixor hx hb (am_dc hd rfl) (k H locs ls hl hr hS)
  | ishl =>
    obtain rfl := am_nx hd rfl
    obtain ⟨x, y, r, e0, g0⟩ := am_i2_inv h
    subst e0
    replace h := g0
    cases h
    intro H locs ls hl hr hS
    exact lv_ishl hx hb (am_dc hd rfl) (k H locs ls hl hr hS)
  | ishr =>
    obtain rfl := am_nx hd rfl
    obtain ⟨x, y, r, e0, g0⟩ := am_i2_inv h
    subst e0
    replace h := g0
    cases h
    intro H locs ls hl hr hS
    exact lv_ishr hx hb (am_dc hd rfl) (k H locs ls hl hr hS)
  | idiv =>
    obtain rfl := am_nx hd rfl
    obtain ⟨x, y, r, e0, g0⟩ := am_i2_inv h
    subst e0
    replace h := g0
    cases h
    intro H locs ls hl hr hS
    exact lv_idiv hx hb (am_dc hd rfl) hφ (k H locs ls hl hr hS)
  | irem =>
    obtain rfl := am_nx hd rfl
    obtain ⟨x, y, r, e0, g0⟩ := am_i2_inv h
    subst e0
    replace h := g0
    cases h
    intro H locs ls hl hr hS
    exact lv_irem hx hb (am_dc hd rfl) hφ (k H locs ls hl hr hS)
  | ladd =>
    obtain rfl := am_nx hd rfl
    obtain ⟨x, y, r, e0, g0⟩ := am_l2_inv h
    subst e0
    replace h := g0
    cases h
    intro H locs ls hl hr hS
    exact lv_ladd hx hb (am_dc hd rfl) (k H locs ls hl hr hS)
  | lsub =>
    obtain rfl := am_nx hd rfl
    obtain ⟨x, y, r, e0, g0⟩ := am_l2_inv h
    subst e0
    replace h := g0
    cases h
    intro H locs ls hl hr hS
    exact lv_lsub hx hb (am_dc hd rfl) (k H locs ls hl hr hS)
  | lmul =>
    obtain rfl := am_nx hd rfl
    obtain ⟨x, y, r, e0, g0⟩ := am_l2_inv h
    subst e0
    replace h := g0
    cases h
    intro H locs ls hl hr hS
    exact lv_lmul hx hb (am_dc hd rfl) (k H locs ls hl hr hS)
  | ldiv =>
    obtain rfl := am_nx hd rfl
    obtain ⟨x, y, r, e0, g0⟩ := am_l2_inv h
    subst e0
    replace h := g0
    cases h
    intro H locs ls hl hr hS
    exact lv_ldiv hx hb (am_dc hd rfl) hφ (k H locs ls hl hr hS)
  | lrem =>
    obtain rfl := am_nx hd rfl
    obtain ⟨x, y, r, e0, g0⟩ := am_l2_inv h
    subst e0
    replace h := g0
    cases h
    intro H locs ls hl hr hS
    exact lv_lrem hx hb (am_dc hd rfl) hφ (k H locs ls hl hr hS)
  | lcmp =>
    obtain rfl := am_nx hd rfl
    obtain ⟨x, y, r, e0, g0⟩ := am_l2_inv h
    subst e0
    replace h := g0
    cases h
    intro H locs ls hl hr hS
    exact W.lcmp hx hb (am_dc hd rfl) (k H locs ls hl hr hS)
  | i2l =>
    obtain rfl := am_nx hd rfl
    obtain ⟨x, r, e0, g0⟩ := am_i1_inv h
    subst e0
    replace h := g0
    cases h
    intro H locs ls hl hr hS
    exact lv_i2l hx hb (am_dc hd rfl) rfl (k H locs ls hl hr hS)
  | l2i =>
    obtain rfl := am_nx hd rfl
    obtain ⟨x, r, e0, g0⟩ := am_l1_inv h
    subst e0
    replace h := g0
    cases h
    intro H locs ls hl hr hS
    exact lv_l2i hx hb (am_dc hd rfl) rfl (k H locs ls hl hr hS)
  | i2c =>
    obtain rfl := am_nx hd rfl
    obtain ⟨x, r, e0, g0⟩ := am_i1_inv h
    subst e0
    replace h := g0
    cases h
    intro H locs ls hl hr hS
    exact lv_i2c hx hb (am_dc hd rfl) rfl (k H locs ls hl hr hS)
  | dup =>
    obtain rfl := am_nx hd rfl
    obtain ⟨v, r, e0, g0⟩ := am_v1_inv h
    subst e0
    replace h := g0
    obtain ⟨hc, h⟩ := am_bt_inv h
    cases h
    intro H locs ls hl hr hS
    exact lv_dup hx hb (am_dc hd rfl) (by rw [am_cv_cat]; exact Nat.eq_of_beq_eq_true hc) (k H locs ls hl hr hS)
  | pop =>
    obtain rfl := am_nx hd rfl
    obtain ⟨v, r, e0, g0⟩ := am_v1_inv h
    subst e0
    replace h := g0
    obtain ⟨hc, h⟩ := am_bt_inv h
    cases h
    intro H locs ls hl hr hS
    exact lv_pop hx hb (am_dc hd rfl) (by rw [am_cv_cat]; exact Nat.eq_of_beq_eq_true hc) (k H locs ls hl hr hS)
  | dup_x1 =>
    obtain rfl := am_nx hd rfl
    obtain ⟨v, w, r, e0, g0⟩ := am_v2_inv h
    subst e0
    replace h := g0
    obtain ⟨hc, h⟩ := am_bt_inv h
    rw [Bool.and_eq_true] at hc
    cases h
    intro H locs ls hl hr hS
    exact lv_dup_x1 hx hb (am_dc hd rfl) (by rw [am_cv_cat]; exact Nat.eq_of_beq_eq_true hc.1) (by rw [am_cv_cat]; exact Nat.eq_of_beq_eq_true hc.2) (k H locs ls hl hr hS)
  | dup2 =>
    obtain rfl := am_nx hd rfl
    obtain ⟨v, w, r, e0, g0⟩ := am_v2_inv h
    subst e0
    replace h := g0
    obtain ⟨hc, h⟩ := am_bt_inv h
    rw [Bool.and_eq_true] at hc
    cases h
    intro H locs ls hl hr hS
    exact lv_dup2_11 hx hb (am_dc hd rfl) (by rw [am_cv_cat]; exact Nat.eq_of_beq_eq_true hc.1) (by rw [am_cv_cat]; exact Nat.eq_of_beq_eq_true hc.2) (k H locs ls hl hr hS)
  | goto off =>
    have ht := am_kc_goto hd
    cases h
    intro H locs ls hl hr hS
    exact lv_goto hx hb (am_dc hd rfl) ht (k H locs ls hl hr hS)
  | tableswitch dflt lo hi offs =>
    obtain ⟨x, r, e0, g0⟩ := am_i1_inv h
    subst e0
    replace h := g0
    cases h
    intro H locs ls hl hr hS
    obtain ⟨f1, f2, f3⟩ := hφ
    have k1 := k H locs ls hl hr hS
    unfold am_ts at k1
    obtain ⟨ln, hdd, -, -⟩ := am_cd_ok hd
    by_cases q : x.toInt < lo ∨ hi < x.toInt
    · rw [if_pos q] at k1
      exact lv_tableOut hx hb hdd q (Int.toNat_of_nonneg f1).symm k1
    · rw [if_neg q] at k1
      have hlt : (x.toInt - lo).toNat < offs.size := by omega
      have hg : offs[(x.toInt - lo).toNat]? = some (offs.getD (x.toInt - lo).toNat dflt) := by simp [Array.getD, hlt]
      exact lv_tableIn hx hb hdd (fun z => q (Or.inl z)) (fun z => q (Or.inr z)) hg (Int.toNat_of_nonneg (f2 _ (Array.mem_toList_iff.mpr (Array.mem_of_getElem? hg)))).symm k1
  | getstatic j =>
    obtain rfl := am_nx hd rfl
    obtain ⟨v, hv, h⟩ := am_ov_inv h
    cases h
    intro H locs ls hl hr hS
    obtain ⟨q, hq, hlk, rfl⟩ := am_kG_ok hv
    have k1 := k H locs ls hl hr hS
    exact va_gets (C := q.1) (n := q.2.1) (d := q.2.2.1) (ref := q.1) hx hb (hKF.2.2.2.2 q hq) hS hown (hts _ hlk) (fun _ z => z) (am_dc hd rfl) k1
  | getfield j =>
    obtain rfl := am_nx hd rfl
    obtain ⟨v0, r, rfl, ho, h⟩ := am_a1_inv h
    obtain ⟨v, hg, h⟩ := am_ov_inv h
    obtain ⟨ci, kx, fs, hc, hv⟩ := am_gf_inv hg
    cases h
    intro H locs ls hl hr hS
    have k1 := k H locs ls hl hr hS
    rcases hc with ⟨a, rfl, hkf, hc⟩ | ⟨a, rfl, hkq, hc⟩
    · obtain ⟨C, T, N, hcl, hkN, hlk⟩ := am_kF_ok hkf
      have hP := am_P1 (hr.2 a _ hc)
      have hv2 : (fs.map (am_cv bs ad))[kx]? = some (am_cv bs ad v) := by simp [hv]
      rcases hlk with hlk | ⟨host, hlk⟩
      · exact va_get (C := C) (T := T) (N := N) (ci := ci) hx hb hts (am_cl_ok hcl).1 hown hKF.1 hP 0 rfl hcl kx hkN (hts _ hlk) (fun _ z => z) hv2 (am_dc hd rfl) k1
      · exact va_getN (C := C) (T := T) (N := N) (ci := ci) (host := host) hx hb hts (am_cl_ok hcl).1 hown hKF.1 hP 0 rfl hcl kx hkN (va_Nw.use rfl (hKF.2.1 _ hlk)) (fun _ z => z) hv2 (am_dc hd rfl) k1
    · have hro := (hKF.2.2.1 _ _ hc).2.2 kx v hv
      rw [List.map_cons, am_cv_ra (hKF.2.2.1 _ _ hc).1]
      exact va_getX (N := 1) (i := 0) (v := fun _ => am_cv bs ad v) (ad := fun _ => ad a) (ref := (am_rT ci kx).1) hx hb (fun _ _ => hro) (Nat.lt_succ_self 0) hS hown (hts _ (am_kQ_ok hkq)) (fun _ z => z) (am_dc hd rfl) k1
  | putfield j =>
    obtain rfl := am_nx hd rfl
    obtain ⟨v, a, r, e0, g0⟩ := am_va_inv h
    subst e0
    replace h := g0
    obtain ⟨ci, kx, ty, hkp, h⟩ := am_kf_inv h
    obtain ⟨fs, hob, h⟩ := am_ov_inv h
    have hc := am_ob_inv hob
    obtain ⟨hlt, h⟩ := am_bt_inv h
    cases h
    intro H locs ls hl hr hS
    obtain ⟨C, T, N, hcl, hkN, hlk, hfin, hpd⟩ := am_kP_ok hd hkp
    refine am_put hX0 hcl hkN hlk hfin hpd (am_nf_ok hφ) (am_blt_t hlt) hr hS hc (am_dc hd rfl) (fun H1 locs1 hr1 hS1 => ?_)
    have k1 := k H1 locs1 ls hl hr1 hS1
    rw [List.length_set, am_sz_set (c := .inr (ci, fs)) (by simp [am_cs]) hc] at k1
    exact k1
  | iaload =>
    obtain rfl := am_nx hd rfl
    obtain ⟨x, v0, r, e0, g0⟩ := am_ia_inv h
    subst e0
    replace h := g0
    obtain ⟨N, g, hc, h⟩ := am_ai_inv h
    cases h
    intro H locs ls hl hr hS
    have k1 := k H locs ls hl hr hS
    rcases am_gi_any hc with ⟨a, rfl, hc⟩ | ⟨a, rfl, hc⟩
    · exact va_iald hx hb hKF.1 (am_P1 (hr.2 a _ hc)) 0 0 rfl rfl hφ (am_dc hd rfl) k1
    · rw [List.map_cons, List.map_cons, am_cv_ra (hKF.2.2.1 _ _ hc).1]
      exact va_ti hx hb (hKF.2.2.1 _ _ hc).2 hS hφ rfl (am_dc hd rfl) k1
  | baload =>
    obtain rfl := am_nx hd rfl
    obtain ⟨x, v0, r, e0, g0⟩ := am_ia_inv h
    subst e0
    replace h := g0
    obtain ⟨N, g, hc, h⟩ := am_ab_inv h
    cases h
    intro H locs ls hl hr hS
    have k1 := k H locs ls hl hr hS
    rcases hc with ⟨a, rfl, hc⟩ | ⟨a, rfl, hc⟩
    · exact va_zald hx hb hKF.1 (am_P1 (hr.2 a _ hc)) 0 1 rfl rfl hφ (am_dc hd rfl) k1
    · rw [List.map_cons, List.map_cons, am_cv_ra (hKF.2.2.1 _ _ hc).1]
      exact va_tb hx hb (hKF.2.2.1 _ _ hc).2 hS hφ rfl (am_dc hd rfl) k1
  | laload =>
    obtain rfl := am_nx hd rfl
    obtain ⟨x, v0, r, e0, g0⟩ := am_ia_inv h
    subst e0
    replace h := g0
    obtain ⟨N, g, hc, h⟩ := am_al_inv h
    cases h
    intro H locs ls hl hr hS
    have k1 := k H locs ls hl hr hS
    rcases am_gi_any hc with ⟨a, rfl, hc⟩ | ⟨a, rfl, hc⟩
    · exact va_lald hx hb hKF.1 (am_P1 (hr.2 a _ hc)) 0 2 rfl rfl hφ (am_dc hd rfl) k1
    · cases hc
  | iastore =>
    obtain rfl := am_nx hd rfl
    obtain ⟨x, j, a, r, e0, g0⟩ := am_iia_inv h
    subst e0
    replace h := g0
    obtain ⟨N, g, hc, h⟩ := am_ai_inv h
    cases h
    intro H locs ls hl hr hS
    refine am_iast hX0 hr hS hc hφ (am_dc hd rfl) (fun H1 locs1 hr1 hS1 => ?_)
    have k1 := k H1 locs1 ls hl hr1 hS1
    rw [List.length_set, am_sz_set (c := .inl (.int, N, .inl g)) (d := .inl (.int, N, .inl (upd g j.toNatClampNeg x))) rfl hc] at k1
    exact k1
  | bastore =>
    obtain rfl := am_nx hd rfl
    obtain ⟨x, j, a, r, e0, g0⟩ := am_iia_inv h
    subst e0
    replace h := g0
    obtain ⟨N, g, hc, h⟩ := am_az_inv h
    cases h
    intro H locs ls hl hr hS
    refine am_zast hX0 hr hS hc hφ (am_dc hd rfl) (fun H1 locs1 hr1 hS1 => ?_)
    have k1 := k H1 locs1 ls hl hr1 hS1
    rw [List.length_set, am_sz_set (c := .inl (.boolean, N, .inl g)) (d := .inl (.boolean, N, .inl (upd g j.toNatClampNeg (vp_nar .boolean x)))) rfl hc] at k1
    exact k1
  | lastore =>
    obtain rfl := am_nx hd rfl
    obtain ⟨x, j, a, r, e0, g0⟩ := am_lia_inv h
    subst e0
    replace h := g0
    obtain ⟨N, g, hc, h⟩ := am_al_inv h
    cases h
    intro H locs ls hl hr hS
    refine am_last hX0 hr hS hc hφ (am_dc hd rfl) (fun H1 locs1 hr1 hS1 => ?_)
    have k1 := k H1 locs1 ls hl hr1 hS1
    rw [List.length_set, am_sz_set (c := .inl (.long, N, .inr (.inl g))) (d := .inl (.long, N, .inr (.inl (vp_updL g j.toNatClampNeg x)))) rfl hc] at k1
    exact k1
  | arraylength =>
    obtain rfl := am_nx hd rfl
    obtain ⟨v0, r, rfl, ho, h⟩ := am_a1_inv h
    obtain ⟨N, hc, h⟩ := am_an_inv h
    cases h
    intro H locs ls hl hr hS
    have k1 := k H locs ls hl hr hS
    rcases hc with ⟨a, g, rfl, hc⟩ | ⟨a, ty, g, rfl, hc⟩
    · exact va_alen hx hb hKF.1 (am_P1 (hr.2 a _ hc)) 0 0 rfl rfl rfl (am_dc hd rfl) k1
    · rw [List.map_cons, am_cv_ra (hKF.2.2.1 _ _ hc).1]
      exact va_tlen hx hb (hKF.2.2.1 _ _ hc).2 hS rfl (am_dc hd rfl) k1
  | newarray t =>
    obtain rfl := am_nx hd rfl
    obtain ⟨x, r, e0, g0⟩ := am_i1_inv h
    subst e0
    replace h := g0
    obtain ⟨ca, hca, h⟩ := am_ov_inv h
    cases h
    intro H locs ls hl hr hS
    obtain ⟨f1, f2⟩ := hφ
    rw [List.length_append, am_sz_app] at hR0
    have hk : ∀ H1 : Heap, am_rp D bs ad dA (hp ++ [ca]) H1 → va_S (fun q => bs ≤ q) s.heap H1 locs → W p l e R s m args below meth c H1 locs (hp.length - n0 + 1) (am_sz hp - z0 + am_cs ca) Q (F0 m (pc + 2) ls (.ref (bs + hp.length) :: r.map (am_cv bs ad))) := by
      intro H1 hr1 hS1
      have k1 := k H1 locs ls hl hr1 hS1
      rw [List.length_append, am_sz_app, show hp.length + [ca].length - n0 = hp.length - n0 + 1 from by simp; omega, show am_sz hp + am_cs ca - z0 = am_sz hp - z0 + am_cs ca from by omega] at k1
      exact k1
    have hc1 : hp.length - n0 + 1 ≤ R.cells := by have := hR0.1; simp at this; omega
    have hc2 : am_sz hp - z0 + am_cs ca ≤ R.slots := by have := hR0.2; omega
    cases t with
    | int =>
      cases hca
      exact am_newa (ty := .int) (t0 := 0) (N := x.toNatClampNeg) hX0 hr hS rfl am_ac_int rfl (fun z => z) rfl (fun _ => rfl) f1 rfl (by show _ * _ ≤ _; simp [componentBytes]; omega) hc1 hc2 (am_dc hd rfl) hk
    | boolean =>
      cases hca
      exact am_newa (ty := .boolean) (t0 := 1) (N := x.toNatClampNeg) hX0 hr hS rfl am_ac_boolean rfl (fun z => z) rfl (fun _ => rfl) f1 rfl (by show _ * _ ≤ _; simp [componentBytes]; omega) hc1 hc2 (am_dc hd rfl) hk
    | long =>
      cases hca
      exact am_newa (ty := .long) (t0 := 2) (N := x.toNatClampNeg) hX0 hr hS rfl am_ac_long rfl (fun z => z) rfl (fun _ => rfl) f1 rfl (by show _ * _ ≤ _; simp [componentBytes]; omega) hc1 hc2 (am_dc hd rfl) hk
    | _ => cases hca
  | new j =>
    obtain rfl := am_nx hd rfl
    obtain ⟨ci, hkc, h⟩ := am_ov_inv h
    cases h
    intro H locs ls hl hr hS
    obtain ⟨C, T, N, hcl, h1, h2, h3, hdl, hdf⟩ := am_kC_ok hkc
    rw [List.length_append, am_sz_app] at hR0
    have hcs : am_cs (.inr (ci, am_df ci)) = N := hdl
    refine am_newo (N := N) hX0 hr hS hcl h1 h2 h3 (hdf bs ad) (by have := hR0.1; simp at this; omega) (by have := hR0.2; rw [hcs] at this; omega) (am_dc hd rfl) (fun H1 hr1 hS1 => ?_)
    have k1 := k H1 locs ls hl hr1 hS1
    rw [List.length_append, am_sz_app, hcs, show hp.length + [(Sum.inr (ci, am_df ci) : am_C)].length - n0 = hp.length - n0 + 1 from by simp; omega, show am_sz hp + N - z0 = am_sz hp - z0 + N from by omega] at k1
    exact k1
  | invokespecial j =>
    obtain rfl := am_nx hd rfl
    obtain ⟨hko, h⟩ := am_bt_inv h
    obtain ⟨v0, r, rfl, ho, h⟩ := am_a1_inv h
    obtain ⟨hrm, h⟩ := am_bt_inv h
    cases h
    intro H locs ls hl hr hS
    obtain ⟨a, ha⟩ := am_ok1_cv (bs := bs) (ad := ad) ho
    rw [List.map_cons, ha]
    have hsum : ((st'.map (am_cv bs ad)).map fun v => v.category).sum ≤ 8 := by rw [List.map_map, show ((fun v : Value => v.category) ∘ am_cv bs ad) = Value.category from funext am_cv_cat]; exact Nat.le_of_ble_eq_true hrm
    exact W.objInit (a := a) (rest := st'.map (am_cv bs ad)) hx hb hown (hts _ (am_kO_ok hko)) (hts _ am_ob_i) (hts _ am_ob_c) rfl (by rw [hml]; exact hl.1) rfl (am_dc hd rfl) hR.1 (by have := lv_room (m := m) (pc := pc) (ls := ls) (rest := []) hsum; have := hR.2; show 2 * 0 + _ + 12 ≤ _; omega) (k H locs ls hl hr hS)
  | invokestatic j =>
    obtain rfl := am_nx hd rfl
    obtain ⟨hko, h⟩ := am_bt_inv h
    obtain ⟨x, y, r, e0, g0⟩ := am_i2_inv h
    subst e0
    replace h := g0
    obtain ⟨hrm, h⟩ := am_bt_inv h
    cases h
    intro H locs ls hl hr hS
    have hsum : ((r.map (am_cv bs ad)).map fun v => v.category).sum ≤ 8 := by rw [List.map_map, show ((fun v : Value => v.category) ∘ am_cv bs ad) = Value.category from funext am_cv_cat]; exact Nat.le_of_ble_eq_true hrm
    obtain ⟨w1, w2, w3, w4⟩ := am_kN_ok hko
    exact va_mmin hx hb (by rw [hml]; exact hl.1.symm) hown (hts _ w1) (hts _ w2) (hts _ w3) (hts _ w4) hR.1 (by have := hR.2; omega) hR0.1 hR0.2 (am_dc hd rfl) (k H locs ls hl hr hS)
  | _ => cases h
set_option maxHeartbeats 4000000 in
/-- a branch -/
theorem am_brs {p : Program} {l : Launch} {e : Env} {R : Room} {s : State} {m : MethodId} {args : Array Value} {below : List Frame} {meth : Method} {c : Code} {Q : State → Prop} {D : va_G} {bs : Nat} {ad : Nat → Nat} {dA : FieldType → ClassId} {ro : Nat → Option am_C} {mi n0 z0 : Nat}
    (hX : am_Cx p s m args meth c R D bs ad dA ro mi) {pc nx t : Nat} {L st : List Value} {hp : am_H} {i : Instr} (hd : am_cd mi pc = some (i, nx, t)) {q : Prop} {st' : List Value} (h : am_bc st i = some (q, st'))
    (k : (q ∧ am_W p l e R s m args below meth c Q D bs ad dA mi n0 z0 t L st' hp) ∨ (¬ q ∧ am_W p l e R s m args below meth c Q D bs ad dA mi n0 z0 nx L st' hp)) : am_W p l e R s m args below meth c Q D bs ad dA mi n0 z0 pc L st hp := by
  obtain ⟨hx, hb, -⟩ := hX
  cases i with
  | ifCond cnd off =>
    obtain rfl := am_nx hd rfl
    have ht := am_kc_ifCond hd
    cases cnd with
    | eq =>
      obtain ⟨x, r, e0, g0⟩ := am_i1_inv h
      subst e0
      replace h := g0
      cases h
      intro H locs ls hl hr hS
      rcases k with ⟨hq, k⟩ | ⟨hq, k⟩
      · exact lv_if_eq hx hb (am_dc hd rfl) ht (fun _ => k H locs ls hl hr hS) (fun z => absurd hq z)
      · exact lv_if_eq hx hb (am_dc hd rfl) ht (fun z => absurd z hq) (fun _ => k H locs ls hl hr hS)
    | ne =>
      obtain ⟨x, r, e0, g0⟩ := am_i1_inv h
      subst e0
      replace h := g0
      cases h
      intro H locs ls hl hr hS
      rcases k with ⟨hq, k⟩ | ⟨hq, k⟩
      · exact lv_if_ne hx hb (am_dc hd rfl) ht (fun _ => k H locs ls hl hr hS) (fun z => absurd z hq)
      · exact lv_if_ne hx hb (am_dc hd rfl) ht (fun z => absurd z hq) (fun _ => k H locs ls hl hr hS)
    | lt =>
      obtain ⟨x, r, e0, g0⟩ := am_i1_inv h
      subst e0
      replace h := g0
      cases h
      intro H locs ls hl hr hS
      rcases k with ⟨hq, k⟩ | ⟨hq, k⟩
      · exact lv_if_lt hx hb (am_dc hd rfl) ht (fun _ => k H locs ls hl hr hS) (fun z => absurd hq z)
      · exact lv_if_lt hx hb (am_dc hd rfl) ht (fun z => absurd z hq) (fun _ => k H locs ls hl hr hS)
    | ge =>
      obtain ⟨x, r, e0, g0⟩ := am_i1_inv h
      subst e0
      replace h := g0
      cases h
      intro H locs ls hl hr hS
      rcases k with ⟨hq, k⟩ | ⟨hq, k⟩
      · exact lv_if_ge hx hb (am_dc hd rfl) ht (fun _ => k H locs ls hl hr hS) (fun z => absurd hq z)
      · exact lv_if_ge hx hb (am_dc hd rfl) ht (fun z => absurd z hq) (fun _ => k H locs ls hl hr hS)
    | gt =>
      obtain ⟨x, r, e0, g0⟩ := am_i1_inv h
      subst e0
      replace h := g0
      cases h
      intro H locs ls hl hr hS
      rcases k with ⟨hq, k⟩ | ⟨hq, k⟩
      · exact lv_if_gt hx hb (am_dc hd rfl) ht (fun _ => k H locs ls hl hr hS) (fun z => absurd hq z)
      · exact lv_if_gt hx hb (am_dc hd rfl) ht (fun z => absurd z hq) (fun _ => k H locs ls hl hr hS)
    | le =>
      obtain ⟨x, r, e0, g0⟩ := am_i1_inv h
      subst e0
      replace h := g0
      cases h
      intro H locs ls hl hr hS
      rcases k with ⟨hq, k⟩ | ⟨hq, k⟩
      · exact lv_if_le hx hb (am_dc hd rfl) ht (fun _ => k H locs ls hl hr hS) (fun z => absurd hq z)
      · exact lv_if_le hx hb (am_dc hd rfl) ht (fun z => absurd z hq) (fun _ => k H locs ls hl hr hS)
  | if_icmp cnd off =>
    obtain rfl := am_nx hd rfl
    have ht := am_kc_if_icmp hd
    cases cnd with
    | eq =>
      obtain ⟨x, y, r, e0, g0⟩ := am_i2_inv h
      subst e0
      replace h := g0
      cases h
      intro H locs ls hl hr hS
      rcases k with ⟨hq, k⟩ | ⟨hq, k⟩
      · exact lv_icmp_eq hx hb (am_dc hd rfl) ht (fun _ => k H locs ls hl hr hS) (fun z => absurd hq z)
      · exact lv_icmp_eq hx hb (am_dc hd rfl) ht (fun z => absurd z hq) (fun _ => k H locs ls hl hr hS)
    | ne =>
      obtain ⟨x, y, r, e0, g0⟩ := am_i2_inv h
      subst e0
      replace h := g0
      cases h
      intro H locs ls hl hr hS
      rcases k with ⟨hq, k⟩ | ⟨hq, k⟩
      · exact lv_icmp_ne hx hb (am_dc hd rfl) ht (fun _ => k H locs ls hl hr hS) (fun z => absurd z hq)
      · exact lv_icmp_ne hx hb (am_dc hd rfl) ht (fun z => absurd z hq) (fun _ => k H locs ls hl hr hS)
    | lt =>
      obtain ⟨x, y, r, e0, g0⟩ := am_i2_inv h
      subst e0
      replace h := g0
      cases h
      intro H locs ls hl hr hS
      rcases k with ⟨hq, k⟩ | ⟨hq, k⟩
      · exact lv_icmp_lt hx hb (am_dc hd rfl) ht (fun _ => k H locs ls hl hr hS) (fun z => absurd hq z)
      · exact lv_icmp_lt hx hb (am_dc hd rfl) ht (fun z => absurd z hq) (fun _ => k H locs ls hl hr hS)
    | ge =>
      obtain ⟨x, y, r, e0, g0⟩ := am_i2_inv h
      subst e0
      replace h := g0
      cases h
      intro H locs ls hl hr hS
      rcases k with ⟨hq, k⟩ | ⟨hq, k⟩
      · exact lv_icmp_ge hx hb (am_dc hd rfl) ht (fun _ => k H locs ls hl hr hS) (fun z => absurd hq z)
      · exact lv_icmp_ge hx hb (am_dc hd rfl) ht (fun z => absurd z hq) (fun _ => k H locs ls hl hr hS)
    | gt =>
      obtain ⟨x, y, r, e0, g0⟩ := am_i2_inv h
      subst e0
      replace h := g0
      cases h
      intro H locs ls hl hr hS
      rcases k with ⟨hq, k⟩ | ⟨hq, k⟩
      · exact lv_icmp_gt hx hb (am_dc hd rfl) ht (fun _ => k H locs ls hl hr hS) (fun z => absurd hq z)
      · exact lv_icmp_gt hx hb (am_dc hd rfl) ht (fun z => absurd z hq) (fun _ => k H locs ls hl hr hS)
    | le =>
      obtain ⟨x, y, r, e0, g0⟩ := am_i2_inv h
      subst e0
      replace h := g0
      cases h
      intro H locs ls hl hr hS
      rcases k with ⟨hq, k⟩ | ⟨hq, k⟩
      · exact lv_icmp_le hx hb (am_dc hd rfl) ht (fun _ => k H locs ls hl hr hS) (fun z => absurd hq z)
      · exact lv_icmp_le hx hb (am_dc hd rfl) ht (fun z => absurd z hq) (fun _ => k H locs ls hl hr hS)
  | _ => cases h
end
section
/-! RUNS: steps and calls, up to a return -/
noncomputable def am_fn (st : List Value) : Instr → Option (Option Value)
  | .ireturn => match st with
    | [.int x] => some (some (.int x))
    | _ => none
  | .lreturn => match st with
    | [.long x] => some (some (.long x))
    | _ => none
  | .return_ => match st with
    | [] => some none
    | _ => none
  | _ => none
/-- the answer is one of the method's type -/
noncomputable def am_fk (mi : Nat) (r : Option Value) : Prop := match r with
  | some (.int x) => ∃ ty, am_mR mi = some ty ∧ narrow ty (.int x) = .int x
  | some (.long _) => am_mR mi = some .long
  | none => am_mR mi = none
  | _ => False
noncomputable def am_rv (ro : Nat → Option am_C) (hp : am_H) (b : Value) (ci : Nat) : Bool := match am_gi ro hp b with
  | some (.inr (cj, _)) => Nat.beq cj ci
  | _ => false
noncomputable def am_iv (ro : Nat → Option am_C) (mi : Nat) (st : List Value) (hp : am_H) : Instr → Option (Nat × List Value × List Value)
  | .invokevirtual i => match am_kV (am_mP mi) i with
    | some (mj, n) => match st.drop n with
      | b :: rest => match am_rv ro hp b (am_mC mj) && am_rm rest && Nat.beq (st.take n).length n with
        | true => some (mj, b :: (st.take n).reverse, rest)
        | false => none
      | _ => none
    | none => none
  | .invokestatic i => match am_kT (am_mP mi) i with
    | some (mj, n) => match am_rm (st.drop n) && Nat.beq (st.take n).length n with
      | true => some (mj, (st.take n).reverse, st.drop n)
      | false => none
    | none => none
  | .invokespecial i => match am_kX (am_mP mi) i with
    | some (mj, n) => match st.drop n with
      | .ref b :: rest => match am_rm rest && Nat.beq (st.take n).length n with
        | true => some (mj, .ref b :: (st.take n).reverse, rest)
        | false => none
      | _ => none
    | none => none
  | _ => none
noncomputable def am_ev (ro : Nat → Option am_C) (call : Nat → List Value → am_H → Option Value → am_H → Prop) (mi : Nat) : Nat → Nat → List Value → List Value → am_H → Option Value → am_H → Prop
  | 0, pc, _, st, hp, r, hp' => ∃ i nx t, am_cd mi pc = some (i, nx, t) ∧ am_fn st i = some r ∧ am_fk mi r ∧ hp' = hp
  | k + 1, pc, L, st, hp, r, hp' => ∃ i nx t, am_cd mi pc = some (i, nx, t) ∧
      ((∃ pc1 L1 st1 hp1 φ, am_st ro mi pc nx t L st hp i = some (pc1, L1, st1, hp1, φ) ∧ am_ph φ ∧ am_ev ro call mi k pc1 L1 st1 hp1 r hp') ∨
       (∃ q st1, am_bc st i = some (q, st1) ∧ ((q ∧ am_ev ro call mi k t L st1 hp r hp') ∨ (¬ q ∧ am_ev ro call mi k nx L st1 hp r hp'))) ∨
       (∃ mj as rest r1 hp1, am_iv ro mi st hp i = some (mj, as, rest) ∧ call mj as hp r1 hp1 ∧ am_ev ro call mi k nx L (r1.toList ++ rest) hp1 r hp'))
/-- locals at the entry -/
noncomputable def am_lay : List Value → List Value
  | [] => []
  | v :: r => if v.category = 2 then v :: am_un :: am_lay r else v :: am_lay r
noncomputable def am_l0 (mi : Nat) (as : List Value) : List Value := am_lay as ++ List.replicate (am_mL mi - (am_lay as).length) am_un
/-- a method's run, at most d calls deep -/
noncomputable def am_run (ro : Nat → Option am_C) : Nat → Nat → List Value → am_H → Option Value → am_H → Prop
  | 0, _, _, _, _, _ => False
  | d + 1, mi, as, hp, r, hp' => (am_lay as).length ≤ am_mL mi ∧ ∃ k, am_ev ro (am_run ro d) mi k 0 (am_l0 mi as) [] hp r hp'
/-! the row of cells only grows -/
noncomputable def am_le (hp hp' : am_H) : Prop := hp.length ≤ hp'.length ∧ am_sz hp ≤ am_sz hp'
theorem am_le.rf {hp : am_H} : am_le hp hp := ⟨Nat.le_refl _, Nat.le_refl _⟩
theorem am_le.tr {a b d : am_H} (h : am_le a b) (g : am_le b d) : am_le a d := ⟨Nat.le_trans h.1 g.1, Nat.le_trans h.2 g.2⟩
theorem am_le.st {hp : am_H} {i : Nat} {x y : am_C} (h : hp[i]? = some x) (hs : am_cs y = am_cs x) : am_le hp (hp.set i y) := ⟨by rw [List.length_set]; exact Nat.le_refl _, by rw [am_sz_set hs h]; exact Nat.le_refl _⟩
theorem am_le.ap {hp : am_H} {x : am_C} : am_le hp (hp ++ [x]) := ⟨by simp, by rw [am_sz_app]; omega⟩
set_option maxHeartbeats 4000000 in
theorem am_st_le {ro : Nat → Option am_C} {mi pc nx t : Nat} {L st : List Value} {hp : am_H} {i : Instr} {pc' : Nat} {L' st' : List Value} {hp' : am_H} {φ : Option Prop} (h : am_st ro mi pc nx t L st hp i = some (pc', L', st', hp', φ)) : am_le hp hp' := by
  cases i with
  | putfield j =>
    obtain ⟨v, a, r, -, h⟩ := am_va_inv h
    obtain ⟨ci, kx, ty, hkp, h⟩ := am_kf_inv h
    obtain ⟨fs, hob, h⟩ := am_ov_inv h
    have hc := am_ob_inv hob
    obtain ⟨hlt, h⟩ := am_bt_inv h
    cases h
    exact am_le.st hc (by simp [am_cs])
  | iastore =>
    obtain ⟨x, j, a, r, -, h⟩ := am_iia_inv h
    obtain ⟨N, g, hc, h⟩ := am_ai_inv h
    cases h
    exact am_le.st hc rfl
  | lastore =>
    obtain ⟨x, j, a, r, -, h⟩ := am_lia_inv h
    obtain ⟨N, g, hc, h⟩ := am_al_inv h
    cases h
    exact am_le.st hc rfl
  | bastore =>
    obtain ⟨x, j, a, r, -, h⟩ := am_iia_inv h
    obtain ⟨N, g, hc, h⟩ := am_az_inv h
    cases h
    exact am_le.st hc rfl
  | newarray t =>
    obtain ⟨x, r, -, h⟩ := am_i1_inv h
    obtain ⟨ca, hca, h⟩ := am_ov_inv h
    cases h
    exact am_le.ap
  | new j =>
    obtain ⟨ci, hkc, h⟩ := am_ov_inv h
    cases h
    exact am_le.ap
  | _ => first
    | (cases h; done)
    | (cases h; exact am_le.rf)
    | (obtain ⟨v, hv, h⟩ := am_ov_inv h; cases h; exact am_le.rf)
    | (obtain ⟨x, hL, h⟩ := am_li_inv h; cases h; exact am_le.rf)
    | (obtain ⟨x, hL, h⟩ := am_ll_inv h; cases h; exact am_le.rf)
    | (obtain ⟨x, hL, ho, h⟩ := am_la_inv h; cases h; exact am_le.rf)
    | (obtain ⟨x, r, -, h⟩ := am_i1_inv h; cases h; exact am_le.rf)
    | (obtain ⟨x, r, -, h⟩ := am_l1_inv h; cases h; exact am_le.rf)
    | (obtain ⟨x, y, r, -, h⟩ := am_i2_inv h; cases h; exact am_le.rf)
    | (obtain ⟨x, y, r, -, h⟩ := am_l2_inv h; cases h; exact am_le.rf)
    | (obtain ⟨x, r, -, h⟩ := am_i1_inv h; obtain ⟨hp1, h⟩ := am_s1_inv h; cases h; exact am_le.rf)
    | (obtain ⟨x, r, -, ho, h⟩ := am_a1_inv h; obtain ⟨hp1, h⟩ := am_s1_inv h; cases h; exact am_le.rf)
    | (obtain ⟨x, r, -, h⟩ := am_l1_inv h; obtain ⟨hp1, h⟩ := am_s2_inv h; cases h; exact am_le.rf)
    | (obtain ⟨x, hL, h⟩ := am_li_inv h; obtain ⟨hp1, h⟩ := am_s1_inv h; cases h; exact am_le.rf)
    | (obtain ⟨v, r, -, h⟩ := am_v1_inv h; obtain ⟨hc, h⟩ := am_bt_inv h; cases h; exact am_le.rf)
    | (obtain ⟨v, w, r, -, h⟩ := am_v2_inv h; obtain ⟨hc, h⟩ := am_bt_inv h; cases h; exact am_le.rf)
    | (obtain ⟨v0, r, -, ho, h⟩ := am_a1_inv h; obtain ⟨v, hg, h⟩ := am_ov_inv h; cases h; exact am_le.rf)
    | (obtain ⟨x, v0, r, -, h⟩ := am_ia_inv h; obtain ⟨N, g, hc, h⟩ := am_ai_inv h; cases h; exact am_le.rf)
    | (obtain ⟨x, v0, r, -, h⟩ := am_ia_inv h; obtain ⟨N, g, hc, h⟩ := am_ab_inv h; cases h; exact am_le.rf)
    | (obtain ⟨x, v0, r, -, h⟩ := am_ia_inv h; obtain ⟨N, g, hc, h⟩ := am_al_inv h; cases h; exact am_le.rf)
    | (obtain ⟨v0, r, -, ho, h⟩ := am_a1_inv h; obtain ⟨N, hc, h⟩ := am_an_inv h; cases h; exact am_le.rf)
    | (obtain ⟨hko, h⟩ := am_bt_inv h; obtain ⟨v0, r, -, ho, h⟩ := am_a1_inv h; obtain ⟨hrm, h⟩ := am_bt_inv h; cases h; exact am_le.rf)
    | (obtain ⟨hko, h⟩ := am_bt_inv h; obtain ⟨x, y, r, -, h⟩ := am_i2_inv h; obtain ⟨hrm, h⟩ := am_bt_inv h; cases h; exact am_le.rf)
theorem am_ev_le {ro : Nat → Option am_C} {call : Nat → List Value → am_H → Option Value → am_H → Prop} (hcall : ∀ mj as hp r hp', call mj as hp r hp' → am_le hp hp') {mi : Nat} {r : Option Value} {hp' : am_H} : ∀ (k pc : Nat) (L st : List Value) (hp : am_H), am_ev ro call mi k pc L st hp r hp' → am_le hp hp' := by
  intro k
  induction k with
  | zero =>
    intro pc L st hp h
    obtain ⟨i, nx, t, -, -, -, rfl⟩ := h
    exact am_le.rf
  | succ k ih =>
    intro pc L st hp h
    obtain ⟨i, nx, t, hd, h | h | h⟩ := h
    · obtain ⟨pc1, L1, st1, hp1, φ, hs, -, h⟩ := h
      exact (am_st_le hs).tr (ih _ _ _ _ h)
    · obtain ⟨q, st1, -, ⟨-, h⟩ | ⟨-, h⟩⟩ := h
      · exact ih _ _ _ _ h
      · exact ih _ _ _ _ h
    · obtain ⟨mj, as, rest, r1, hp1, -, hc, h⟩ := h
      exact (hcall _ _ _ _ _ hc).tr (ih _ _ _ _ h)
theorem am_run_le {ro : Nat → Option am_C} : ∀ (d mi : Nat) (as : List Value) (hp : am_H) (r : Option Value) (hp' : am_H), am_run ro d mi as hp r hp' → am_le hp hp' := by
  intro d
  induction d with
  | zero => intro mi as hp r hp' h; cases h
  | succ d ih =>
    intro mi as hp r hp' h
    obtain ⟨-, k, h⟩ := h
    exact am_ev_le ih k _ _ _ _ h
end
section
/-! A RUN IS SOUND: the method's contract -/
noncomputable def am_ws (mi : Nat) : List Cond := .code (am_mN mi) (am_mB mi) (am_mL mi) (am_mR mi) :: am_TB
noncomputable def am_ro (d mc ms : Nat) : Room := { frames := d, cells := mc, slots := ms, locals := d * 32 }
noncomputable def am_Pc (D : va_G) (bs : Nat) (ad : Nat → Nat) (dA : FieldType → ClassId) (ro : Nat → Option am_C) (as : List Value) (hp : am_H) : Array Value → State → Prop := fun v U => v = (as.map (am_cv bs ad)).toArray ∧ am_rp D bs ad dA hp U.heap ∧ am_KF D bs ad dA ro U U.heap ∧ bs ≤ U.heap.size
noncomputable def am_Qc (D : va_G) (bs : Nat) (ad : Nat → Nat) (dA : FieldType → ClassId) (r : Option Value) (hp' : am_H) : Array Value → State → Outcome → State → Prop := fun _ st o t => o = .returned (r.map (am_cv bs ad)) ∧ am_rp D bs ad dA hp' t.heap ∧ va_F (fun q => bs ≤ q) st t
theorem am_NW_warm {s U : State} (hW : s.WarmedH U.vm) {w : Cond} (hw : w ∈ am_NW) (h : va_Nw w s) : va_Nw w U := by
  have hn := (List.mem_filter.mp hw).2
  cases w <;> first | (cases hn; done) | exact va_Nw.warmF hW h | exact va_Nw.warmM hW h
theorem am_NW_same {u U : State} (hv : u.vm = U.vm) {w : Cond} (hw : w ∈ am_NW) (h : va_Nw w u) : va_Nw w U := by
  have hn := (List.mem_filter.mp hw).2
  cases w <;> first | (cases hn; done) | exact va_Nw.same rfl hv h
theorem am_rc_moved {ro : Nat → Option am_C} {bs : Nat} {ad : Nat → Nat} {u U : State} {H H1 : Heap} {k : Nat} (hvm : u.vm.Alike U.vm) (hq : ∀ a : Nat, a < H.size → ¬ bs ≤ a → H1[a]? = H[a]?) : ∀ {c : am_C}, am_rc ro bs ad u H k c → am_rc ro bs ad U H1 k c := by
  intro c h
  match c, h with
  | .inl (ty, n, .inl g), h => exact va_T.moved hvm (va_T.kept (A := fun q => bs ≤ q) h hq)
  | .inl (ty, n, .inr g), h => exact h
  | .inr (ci, fs), h => exact ⟨va_O.moved hvm (va_O.kept (A := fun q => bs ≤ q) h.1 hq), fun j v hv => va_OF.moved hvm (va_OF.kept (A := fun q => bs ≤ q) (h.2 j v hv) hq)⟩
theorem am_KF.warm {D : va_G} {bs : Nat} {ad : Nat → Nat} {dA : FieldType → ClassId} {ro : Nat → Option am_C} {s U : State} {H : Heap} (h : am_KF D bs ad dA ro s H) (hW : s.WarmedH U.vm) {H1 : Heap} (hq : ∀ a : Nat, a < H.size → ¬ bs ≤ a → H1[a]? = H[a]?) : am_KF D bs ad dA ro U H1 := by
  obtain ⟨h1, h2, h3, h4, h5⟩ := h
  exact ⟨va_K.moved hW.alike h1, fun w hw => am_NW_warm hW hw (h2 w hw), fun k c hc => ⟨(h3 k c hc).1, am_rc_moved hW.alike hq (h3 k c hc).2⟩, fun q hq1 => vk_R.warm hW (h4 q hq1), fun q hq1 => va_Z.moved hW.alike (va_Z.kept (A := fun q => bs ≤ q) (h5 q hq1) hq)⟩
theorem am_KF.same {D : va_G} {bs : Nat} {ad : Nat → Nat} {dA : FieldType → ClassId} {ro : Nat → Option am_C} {u U : State} {H : Heap} (h : am_KF D bs ad dA ro u H) (hv : u.vm = U.vm) : am_KF D bs ad dA ro U H := by
  obtain ⟨h1, h2, h3, h4, h5⟩ := h
  have ha : u.vm.Alike U.vm := by rw [hv]; exact Vm.Alike.refl _
  exact ⟨va_K.moved ha h1, fun w hw => am_NW_same hv hw (h2 w hw), fun k c hc => ⟨(h3 k c hc).1, am_rc_moved ha (fun _ _ _ => rfl) (h3 k c hc).2⟩, fun q hq1 => vk_R.same hv.symm (h4 q hq1), fun q hq1 => va_Z.moved ha (h5 q hq1)⟩
theorem am_Pc_blind {D : va_G} {bs : Nat} {ad : Nat → Nat} {dA : FieldType → ClassId} {ro : Nat → Option am_C} {as : List Value} {hp : am_H} : FrameBlind (am_Pc D bs ad dA ro as hp) := by
  intro a U g mk h
  obtain ⟨h1, h2, h3, h4⟩ := h
  exact ⟨h1, h2, h3.same rfl, h4⟩
theorem am_good (mi : Nat) (Ts : List Cond) (h : ∀ w ∈ am_TB, w ∈ Ts) (hc : Cond.code (am_mN mi) (am_mB mi) (am_mL mi) (am_mR mi) ∈ am_TB) : GoodIn Ts (am_ws mi) := by
  intro w hw
  have hw2 : w ∈ am_TB := by
    rcases List.mem_cons.mp hw with e | e
    · rw [e]; exact hc
    · exact e
  exact ⟨h w hw2, good_of_word (List.mem_filter.mp hw2).2⟩
section AMC
variable {p : Program} {l : Launch} {e : Env} {R : Room} {s : State} {m : MethodId} {args : Array Value} {below : List Frame} {meth : Method} {c : Code} {H : Heap} {locs : List Loc} {cells slots : Nat} {Q : State → Prop} {D : va_G} {bs : Nat} {ad : Nat → Nat} {dA : FieldType → ClassId} {ro : Nat → Option am_C} {mi : Nat} {hp : am_H}
theorem am_go {pc mc ms : Nat} {ls : Array Slot} {rest st0 : List Value} {a : Array Value} {r1 : Option Value} {hp1 : am_H} (hr : va_Run p l e R s m args below meth c H locs cells slots mc ms (F0 m pc ls st0) rest (am_Qc D bs ad dA r1 hp1 a) (fun q => bs ≤ q)) (hS : va_S (fun q => bs ≤ q) s.heap H locs)
    (kk : ∀ (H1 : Heap) (locs1 : List Loc), am_rp D bs ad dA hp1 H1 → va_S (fun q => bs ≤ q) s.heap H1 locs1 → W p l e R s m args below meth c H1 locs1 (cells + mc) (slots + ms) Q (F0 m (pc + 3) ls ((r1.map (am_cv bs ad)).toList ++ rest))) : W p l e R s m args below meth c H locs cells slots Q (F0 m pc ls st0) := by
  intro T hT X
  obtain ⟨v, st₀, t, T', L, h0, X', hL, e1, e2, ⟨hv, hp, hz, hk⟩, st⟩ := hr T hT X
  cases hv
  rw [h0] at hz hk
  obtain ⟨t2, a1, b1⟩ := kk T'.heap (locs ++ L) (by rw [e1]; exact hp)
    ⟨Nat.le_trans hS.1 (by rw [e1]; exact hz), fun q h1 h2 => by rw [e1, hk q (Nat.lt_of_lt_of_le h1 hS.1) h2]; exact hS.2.1 q h1 h2, fun q hq => by
      rcases List.mem_append.mp hq with h | h
      · exact hS.2.2 q h
      · exact hL q h⟩ T' rfl X'
  exact ⟨t2, st t2 a1, b1⟩
theorem am_sum {r : List Value} (h : am_rm r = true) : ((r.map (am_cv bs ad)).map fun v => v.category).sum ≤ 8 := by
  rw [List.map_map, show ((fun v : Value => v.category) ∘ am_cv bs ad) = Value.category from funext am_cv_cat]
  exact Nat.le_of_ble_eq_true h
set_option maxHeartbeats 4000000 in
/-- a call -/
theorem am_call {n0 z0 d mj mc ms : Nat} (hX : am_Cx p s m args meth c R D bs ad dA ro mi) {pc nx t : Nat} {L st rest as : List Value} {i : Instr} (hd : am_cd mi pc = some (i, nx, t)) {r1 : Option Value} {hp1 : am_H} (hi : am_iv ro mi st hp i = some (mj, as, rest))
    (hM : Met l (am_mN mj) (am_ws mj) (am_ro d mc ms) (am_Pc D bs ad dA ro as hp) (am_Qc D bs ad dA r1 hp1) mc ms (fun q => bs ≤ q)) (hmc : hp.length - n0 + mc = hp1.length - n0) (hms : am_sz hp - z0 + ms = am_sz hp1 - z0) (hRd : d + 1 ≤ R.frames ∧ d * 32 + 32 ≤ R.locals) (hR0 : hp1.length - n0 ≤ R.cells ∧ am_sz hp1 - z0 ≤ R.slots)
    (k : am_W p l e R s m args below meth c Q D bs ad dA mi n0 z0 nx L (r1.toList ++ rest) hp1) : am_W p l e R s m args below meth c Q D bs ad dA mi n0 z0 pc L st hp := by
  obtain ⟨hx, hb, hml, hown, hts, hKF, hin, hR, hbs⟩ := hX
  intro H locs ls hl hr hS
  have hml9 := am_mL_le mj
  have hroom : (am_ro d mc ms).frames + 1 ≤ R.frames ∧ 8 + (am_mL mj + 11) + (am_ro d mc ms).locals ≤ R.locals := ⟨hRd.1, by show 8 + (am_mL mj + 11) + d * 32 ≤ R.locals; omega⟩
  have hf : hp.length - n0 + mc ≤ R.cells ∧ am_sz hp - z0 + ms ≤ R.slots := ⟨by rw [hmc]; exact hR0.1, by rw [hms]; exact hR0.2⟩
  have hfix : CallFix p m c (am_mB mi) (am_mL mi) s args am_TB (am_mO mi) := ⟨hx, hb, hml, hown, hts⟩
  have hpre : ∀ U : State, U.heap = H → s.WarmedH U.vm → am_Pc D bs ad dA ro as hp (as.map (am_cv bs ad)).toArray U := fun U hU hW => ⟨rfl, by rw [hU]; exact hr, by rw [hU]; exact hKF.warm hW (fun a h1 h2 => hS.2.1 a h1 h2), by rw [hU]; exact Nat.le_trans hbs hS.1⟩
  have kk : ∀ (H1 : Heap) (locs1 : List Loc), am_rp D bs ad dA hp1 H1 → va_S (fun q => bs ≤ q) s.heap H1 locs1 → W p l e R s m args below meth c H1 locs1 (hp.length - n0 + mc) (am_sz hp - z0 + ms) Q (F0 m nx ls ((r1.map (am_cv bs ad)).toList ++ rest.map (am_cv bs ad))) := by
    intro H1 locs1 hr1 hS1
    have k1 := k H1 locs1 ls hl hr1 hS1
    rw [hmc, hms]
    rw [show (r1.toList ++ rest).map (am_cv bs ad) = (r1.map (am_cv bs ad)).toList ++ rest.map (am_cv bs ad) from by cases r1 <;> simp] at k1
    exact k1
  cases i with
  | invokevirtual j =>
    obtain rfl := am_nx hd rfl
    simp only [am_iv] at hi
    split at hi
    · next mj1 n1 hkv =>
      split at hi
      · next b rest1 hdr =>
        split at hi
        · next hcnd =>
          cases hi
          rw [Bool.and_eq_true, Bool.and_eq_true] at hcnd
          obtain ⟨⟨hrv, hrm⟩, hln⟩ := hcnd
          have hln := Nat.eq_of_beq_eq_true hln
          obtain ⟨hlk, w1, w2, w3, w4, w5⟩ := am_kV_ok hkv
          have hrecv : ∃ b1 : Nat, am_cv bs ad b = .ref b1 ∧ ∃ cellB : Cell, H[b1]? = some cellB ∧ cellB.vm.isStatics = false ∧ s.vm.findClass (am_mN mj).cls = some cellB.cls := by
            unfold am_rv at hrv
            split at hrv
            · next cj fs hg =>
              have hcj := Nat.eq_of_beq_eq_true hrv
              subst hcj
              rcases am_gi_any hg with ⟨a, rfl, hc⟩ | ⟨a, rfl, hc⟩
              · refine ⟨bs + a, rfl, ?_⟩
                have hat := hr.2 a _ hc
                obtain ⟨q, hq, hob⟩ := id hat
                have := va_recv hKF.1 (am_P1 hat) hq (q0 := 0) (fs := fs.map (am_cv bs ad)) rfl
                rw [am_cl_nm hq, am_mC_ok] at this
                exact this
              · refine ⟨ad a, am_cv_ra (hKF.2.2.1 _ _ hc).1, ?_⟩
                have := va_Orecv (hKF.2.2.1 _ _ hc).2.1 hS
                rw [am_mC_ok] at this
                exact this
            · cases hrv
          obtain ⟨b1, hb1, hrecv⟩ := hrecv
          have hst : st.map (am_cv bs ad) = ((st.take n1).reverse.map (am_cv bs ad)).reverse ++ .ref b1 :: rest.map (am_cv bs ad) := by
            conv => lhs; rw [← List.take_append_drop n1 st, hdr]
            simp [hb1]
          rw [List.map_cons, hb1] at hpre
          have hp3 : PreV s H (am_mN mj).cls b1 (am_Pc D bs ad dA ro (b :: (st.take n1).reverse) hp) ((st.take n1).reverse.map (am_cv bs ad)) := ⟨am_Pc_blind, hrecv, hpre⟩
          rw [hst]
          rcases hlk with hlk | ⟨host, hlk⟩
          · exact am_go (va_runV (bytes := am_mB mj) (maxL := am_mL mj) (ret := am_mR mj) (n := n1) (nL := am_mL mi) hfix hM ⟨callB_of n1 hts (am_good mj _ (fun _ h => h) w4) rfl rfl rfl (hts _ w3) (hts _ hlk) w5 hroom, hts _ w1, hts _ w2⟩ hp3 rfl (by rw [List.length_map, List.length_reverse]; exact hln) hl.1 rfl (lv_room (am_sum hrm)) (am_dc hd rfl) hf) hS kk
          · exact am_go (va_runVN (bytes := am_mB mj) (maxL := am_mL mj) (ret := am_mR mj) (n := n1) (nL := am_mL mi) hfix hM ⟨va_cnB n1 hts (am_good mj _ (fun _ h => h) w4) rfl rfl rfl (hKF.2.1 _ hlk) (hts _ w3) w5 hroom, hts _ w1, hts _ w2⟩ hp3 rfl (by rw [List.length_map, List.length_reverse]; exact hln) hl.1 rfl (lv_room (am_sum hrm)) (am_dc hd rfl) hf) hS kk
        · cases hi
      · cases hi
    · cases hi
  | invokestatic j =>
    obtain rfl := am_nx hd rfl
    simp only [am_iv] at hi
    split at hi
    · next mj1 n1 hkv =>
      split at hi
      · next hcnd =>
        cases hi
        rw [Bool.and_eq_true] at hcnd
        obtain ⟨hrm, hln⟩ := hcnd
        have hln := Nat.eq_of_beq_eq_true hln
        obtain ⟨hlk, w1, w3, w4, w5⟩ := am_kT_ok hkv
        have hst : st.map (am_cv bs ad) = ((st.take n1).reverse.map (am_cv bs ad)).reverse ++ (st.drop n1).map (am_cv bs ad) := by
          conv => lhs; rw [← List.take_append_drop n1 st]
          simp
        have hp3 : PreS s H (am_Pc D bs ad dA ro (st.take n1).reverse hp) ((st.take n1).reverse.map (am_cv bs ad)) := ⟨am_Pc_blind, hpre⟩
        rw [hst]
        rcases hlk with hlk | ⟨host, hlk⟩
        · exact am_go (va_runS (bytes := am_mB mj) (maxL := am_mL mj) (ret := am_mR mj) (n := n1) (nL := am_mL mi) hfix hM ⟨callB_of n1 hts (am_good mj _ (fun _ h => h) w4) rfl rfl rfl (hts _ w3) (hts _ hlk) w5 hroom, hts _ w1⟩ hp3 rfl (by rw [List.length_map, List.length_reverse]; exact hln) hl.1 rfl (lv_room (am_sum hrm)) (am_dc hd rfl) hf) hS kk
        · exact am_go (va_runSN (bytes := am_mB mj) (maxL := am_mL mj) (ret := am_mR mj) (n := n1) (nL := am_mL mi) hfix hM ⟨va_cnB n1 hts (am_good mj _ (fun _ h => h) w4) rfl rfl rfl (hKF.2.1 _ hlk) (hts _ w3) w5 hroom, hts _ w1, trivial⟩ hp3 rfl (by rw [List.length_map, List.length_reverse]; exact hln) hl.1 rfl (lv_room (am_sum hrm)) (am_dc hd rfl) hf) hS kk
      · cases hi
    · cases hi
  | invokespecial j =>
    obtain rfl := am_nx hd rfl
    simp only [am_iv] at hi
    split at hi
    · next mj1 n1 hkv =>
      split at hi
      · next b rest1 hdr =>
        split at hi
        · next hcnd =>
          cases hi
          rw [Bool.and_eq_true] at hcnd
          obtain ⟨hrm, hln⟩ := hcnd
          have hln := Nat.eq_of_beq_eq_true hln
          obtain ⟨hlk, w1, w2, w3, w4, w5, w6⟩ := am_kX_ok hkv
          have hst : st.map (am_cv bs ad) = ((st.take n1).reverse.map (am_cv bs ad)).reverse ++ .ref (bs + b) :: rest.map (am_cv bs ad) := by
            conv => lhs; rw [← List.take_append_drop n1 st, hdr]
            simp [am_cv]
          have hp3 : PreS s H (am_Pc D bs ad dA ro (.ref b :: (st.take n1).reverse) hp) (.ref (bs + b) :: (st.take n1).reverse.map (am_cv bs ad)) := ⟨am_Pc_blind, hpre⟩
          have hM2 := hM
          rw [hst]
          rcases hlk with hlk | ⟨host, hlk⟩
          · exact am_go (va_runI (bytes := am_mB mj) (maxL := am_mL mj) (n := n1) (nL := am_mL mi) hfix hM ⟨callB_of n1 hts (am_good mj _ (fun _ h => h) w4) (by rw [am_ws, w6]) rfl rfl (hts _ w3) (hts _ hlk) w5 hroom, w2, hts _ w1⟩ hp3 rfl (by rw [List.length_map, List.length_reverse]; exact hln) hl.1 rfl (lv_room (am_sum hrm)) (am_dc hd rfl) hf) hS kk
          · exact am_go (va_runIN (bytes := am_mB mj) (maxL := am_mL mj) (n := n1) (nL := am_mL mi) hfix hM ⟨va_cnB n1 hts (am_good mj _ (fun _ h => h) w4) (by rw [am_ws, w6]) rfl rfl (hKF.2.1 _ hlk) (hts _ w3) w5 hroom, w2, hts _ w1⟩ hp3 rfl (by rw [List.length_map, List.length_reverse]; exact hln) hl.1 rfl (lv_room (am_sum hrm)) (am_dc hd rfl) hf) hS kk
        · cases hi
      · cases hi
    · cases hi
  | _ => cases hi
/-- a run of one body -/
theorem am_evW {n0 z0 d : Nat} (hX : am_Cx p s m args meth c R D bs ad dA ro mi) {call : Nat → List Value → am_H → Option Value → am_H → Prop} (hcall : ∀ mj as hp r hp', call mj as hp r hp' → am_le hp hp' ∧ Met l (am_mN mj) (am_ws mj) (am_ro d (hp'.length - hp.length) (am_sz hp' - am_sz hp)) (am_Pc D bs ad dA ro as hp) (am_Qc D bs ad dA r hp') (hp'.length - hp.length) (am_sz hp' - am_sz hp) (fun q => bs ≤ q)) (hRd : d + 1 ≤ R.frames ∧ d * 32 + 32 ≤ R.locals) {r : Option Value} {hp' : am_H} (hR0 : hp'.length - n0 ≤ R.cells ∧ am_sz hp' - z0 ≤ R.slots)
    (fin : ∀ (pc nx t : Nat) (L st : List Value) (i : Instr), am_cd mi pc = some (i, nx, t) → am_fn st i = some r → am_fk mi r → am_W p l e R s m args below meth c Q D bs ad dA mi n0 z0 pc L st hp') :
    ∀ (k pc : Nat) (L st : List Value) (hp : am_H), n0 ≤ hp.length ∧ z0 ≤ am_sz hp → am_ev ro call mi k pc L st hp r hp' → am_W p l e R s m args below meth c Q D bs ad dA mi n0 z0 pc L st hp := by
  intro k
  induction k with
  | zero =>
    intro pc L st hp hn h
    obtain ⟨i, nx, t, hd, hf, hk, rfl⟩ := h
    exact fin pc nx t L st i hd hf hk
  | succ k ih =>
    intro pc L st hp hn h
    obtain ⟨i, nx, t, hd, h | h | h⟩ := h
    · obtain ⟨pc1, L1, st1, hp1, φ, hs, hφ, h⟩ := h
      have l1 := am_st_le hs
      have l2 := am_ev_le (fun _ _ _ _ _ z => (hcall _ _ _ _ _ z).1) k _ _ _ _ h
      exact am_step hX hd hs hφ hn ⟨by have := l2.1; omega, by have := l2.2; omega⟩ (ih pc1 L1 st1 hp1 ⟨Nat.le_trans hn.1 l1.1, Nat.le_trans hn.2 l1.2⟩ h)
    · obtain ⟨q, st1, hb, ⟨hq, h⟩ | ⟨hq, h⟩⟩ := h
      · exact am_brs hX hd hb (Or.inl ⟨hq, ih t L st1 hp hn h⟩)
      · exact am_brs hX hd hb (Or.inr ⟨hq, ih nx L st1 hp hn h⟩)
    · obtain ⟨mj, as, rest, r1, hp1, hi, hc, h⟩ := h
      obtain ⟨l1, hM⟩ := hcall _ _ _ _ _ hc
      have l2 := am_ev_le (fun _ _ _ _ _ z => (hcall _ _ _ _ _ z).1) k _ _ _ _ h
      have a1 := l1.1; have a2 := l1.2; have a3 := l2.1; have a4 := l2.2; have a5 := hn.1; have a6 := hn.2
      exact am_call hX hd hi hM (by omega) (by omega) hRd ⟨by omega, by omega⟩ (ih nx L _ hp1 ⟨by omega, by omega⟩ h)
end AMC
theorem am_lay_len (bs : Nat) (ad : Nat → Nat) : ∀ as : List Value, (lg_sl (as.map (am_cv bs ad))).length = (am_lay as).length := by
  intro as
  induction as with
  | nil => rfl
  | cons v r ih =>
    simp only [lg_sl, List.map_cons, List.flatMap_cons, am_lay, am_cv_cat] at ih ⊢
    split <;> simp [ih] <;> omega
theorem am_lay_in {bs : Nat} {ad : Nat → Nat} : ∀ (as : List Value) (i j : Nat) (v : Value), (am_lay as)[i]? = some v → am_okv v = true → (j + i, am_cv bs ad v) ∈ lv_args j (as.map (am_cv bs ad)) := by
  intro as
  induction as with
  | nil => intro i j v h; simp [am_lay] at h
  | cons w r ih =>
    intro i j v h ho
    simp only [am_lay] at h
    simp only [List.map_cons, lv_args, am_cv_cat]
    split at h
    · next hc =>
      rw [if_pos hc]
      match i, h with
      | 0, h => cases h; exact List.mem_cons_self
      | 1, h => cases h; cases ho
      | i + 2, h =>
        have := ih i (j + 2) v (by simpa using h) ho
        rw [show j + 2 + i = j + (i + 2) by omega] at this
        exact List.mem_cons_of_mem _ this
    · next hc =>
      rw [if_neg hc]
      match i, h with
      | 0, h => cases h; exact List.mem_cons_self
      | i + 1, h =>
        have := ih i (j + 1) v (by simpa using h) ho
        rw [show j + 1 + i = j + (i + 1) by omega] at this
        exact List.mem_cons_of_mem _ this
theorem am_l0_has {bs : Nat} {ad : Nat → Nat} {mi : Nat} {as : List Value} {ls : Array Slot} (h : lv_has ls (am_mL mi) (lv_args 0 (as.map (am_cv bs ad)))) : lv_has ls (am_mL mi) (am_en bs ad (am_l0 mi as)) := by
  refine ⟨h.1, h.2.1, fun q hq => h.2.2 q ?_⟩
  obtain ⟨v, hv, ho, he⟩ := am_en_of hq
  unfold am_l0 at hv
  by_cases hi : q.1 < (am_lay as).length
  · rw [List.getElem?_append_left hi] at hv
    have := am_lay_in (bs := bs) (ad := ad) as q.1 0 v hv ho
    rw [Nat.zero_add, ← he] at this
    exact this
  · rw [List.getElem?_append_right (by omega)] at hv
    have := List.mem_of_getElem? hv
    rw [List.mem_replicate] at this
    rw [this.2] at ho
    cases ho
set_option maxHeartbeats 4000000 in
theorem am_met {ro : Nat → Option am_C} {l : Launch} {D : va_G} {bs : Nat} {ad : Nat → Nat} {dA : FieldType → ClassId} : ∀ (d mi : Nat) (as : List Value) (hp : am_H) (r : Option Value) (hp' : am_H), am_run ro d mi as hp r hp' → am_le hp hp' ∧ Met l (am_mN mi) (am_ws mi) (am_ro d (hp'.length - hp.length) (am_sz hp' - am_sz hp)) (am_Pc D bs ad dA ro as hp) (am_Qc D bs ad dA r hp') (hp'.length - hp.length) (am_sz hp' - am_sz hp) (fun q => bs ≤ q) := by
  intro d
  induction d with
  | zero => intro mi as hp r hp' h; cases h
  | succ d ih =>
    intro mi as hp r hp' h
    refine ⟨am_run_le _ _ _ _ _ _ h, ?_⟩
    obtain ⟨hlen, k, h⟩ := h
    refine va_MetF (cc := am_mB mi) (maxL := am_mL mi) (ret := am_mR mi) (am_mN_plain mi) rfl ?_
    intro p e s m args below meth c s₁ B hml hv
    obtain ⟨rfl, hr, hKF, hbs⟩ := hv
    have hts := atoms_spec (ws := am_ws mi) B.pre
    have hX : am_Cx p s m (as.map (am_cv bs ad)).toArray meth c (headSpec (am_ws mi) (am_ro (d + 1) (hp'.length - hp.length) (am_sz hp' - am_sz hp))).room D bs ad dA ro mi := by
      refine ⟨B.exec, B.bytes, hml, findClass_of_methodNamed B.named, fun w hw => hts w (List.mem_cons_of_mem _ hw), hKF, fun hi => ?_, ⟨?_, ?_⟩, hbs⟩
      · exact ((name_of_methodNamed B.named B.method).1).trans (am_mI_ok hi)
      · show 1 ≤ d + 1; omega
      · show 21 ≤ (d + 1) * 32; omega
    have hl := lv_entry (as.map (am_cv bs ad)) (n := am_mL mi) (by rw [am_lay_len]; exact hlen)
    rw [lg_entry_eq]
    generalize (lg_sl (as.map (am_cv bs ad)) ++ List.replicate (am_mL mi - (lg_sl (as.map (am_cv bs ad))).length) Slot.unset).toArray = ls at hl ⊢
    have hW := am_evW (Q := MQ below (am_Qc D bs ad dA r hp') (as.map (am_cv bs ad)).toArray s (hp'.length - hp.length) (am_sz hp' - am_sz hp) (fun q => bs ≤ q)) (below := below) (e := e) (n0 := hp.length) (z0 := am_sz hp) hX (fun mj as1 hp1 r1 hp2 z => ih mj as1 hp1 r1 hp2 z) ⟨Nat.le_refl _, by show d * 32 + 32 ≤ (d + 1) * 32; omega⟩ (r := r) (hp' := hp') ⟨Nat.le_refl _, Nat.le_refl _⟩ ?_ k 0 (am_l0 mi as) [] hp ⟨Nat.le_refl _, Nat.le_refl _⟩ h
    · have := hW s.heap [] ls (am_l0_has hl) hr va_S.rf
      rw [Nat.sub_self, Nat.sub_self] at this
      exact this
    · intro pc nx t L st i hd hf hk H locs ls1 hl1 hr1 hS1
      have hq : ∀ t : State, t.heap = H → s.WarmedH t.vm → am_Qc D bs ad dA r hp' (as.map (am_cv bs ad)).toArray s (.returned (r.map (am_cv bs ad))) t := fun t ht hw => ⟨rfl, by rw [ht]; exact hr1, hS1.F ht⟩
      have hlocks := B.notSynchronized
      cases i with
      | ireturn =>
        simp only [am_fn] at hf
        split at hf
        · cases hf
          obtain ⟨ty, h1, h2⟩ := hk
          exact W.zret B.exec B.bytes (B.returns.trans h1) h2 hq hS1.2.2 (am_dc hd rfl)
        · cases hf
      | lreturn =>
        simp only [am_fn] at hf
        split at hf
        · cases hf
          exact W.lret B.exec B.bytes (B.returns.trans hk) hq hS1.2.2 (am_dc hd rfl)
        · cases hf
      | return_ =>
        simp only [am_fn] at hf
        split at hf
        · cases hf
          exact W.vret B.exec B.bytes (B.returns.trans hk) hq hS1.2.2 (am_dc hd rfl)
        · cases hf
      | _ => cases hf
end
section
/-! WHAT IS TO BE SHOWN OF A STRETCH OF CODE: am_wp reads the code off the table and says, step by step, what must hold -/
/-- from here the method ends, with an answer and a row of cells that K takes -/
noncomputable def am_T (ro : Nat → Option am_C) (d mi pc : Nat) (L st : List Value) (hp : am_H) (K : Option Value → am_H → Prop) : Prop := ∃ r hp', (∃ k, am_ev ro (am_run ro d) mi k pc L st hp r hp') ∧ K r hp'
theorem am_T.mono {ro : Nat → Option am_C} {d mi pc : Nat} {L st : List Value} {hp : am_H} {K K' : Option Value → am_H → Prop} (h : am_T ro d mi pc L st hp K) (g : ∀ r hp', K r hp' → K' r hp') : am_T ro d mi pc L st hp K' := by
  obtain ⟨r, hp', h1, h2⟩ := h
  exact ⟨r, hp', h1, g r hp' h2⟩
noncomputable def am_fk' (mi : Nat) (r : Option Value) (K : Prop) : Prop := match r with
  | some (.int x) => match am_mR mi with
    | some .int => K
    | some ty => narrow ty (.int x) = .int x ∧ K
    | none => False
  | some (.long _) => match am_mR mi with
    | some .long => K
    | _ => False
  | none => match am_mR mi with
    | none => K
    | _ => False
  | _ => False
theorem am_fk_of {mi : Nat} {r : Option Value} {K : Prop} (h : am_fk' mi r K) : am_fk mi r ∧ K := by
  unfold am_fk' at h
  split at h
  · split at h
    · next e => exact ⟨⟨.int, e, rfl⟩, h⟩
    · next e => exact ⟨⟨_, e, h.1⟩, h.2⟩
    · cases h
  · split at h
    · next e => exact ⟨e, h⟩
    · cases h
  · split at h
    · next e => exact ⟨e, h⟩
    · cases h
  · cases h
/-- a condition, where there is one, and what follows -/
noncomputable def am_an' (φ : Option Prop) (X : Prop) : Prop := match φ with
  | none => X
  | some c => c ∧ X
theorem am_an'_of {φ : Option Prop} {X : Prop} (h : am_an' φ X) : am_ph φ ∧ X := by
  cases φ with
  | none => exact ⟨trivial, h⟩
  | some c => exact h
/-- inl: the methods that are walked through at a call; the others are named by their run -/
noncomputable def am_wp (ro : Nat → Option am_C) (inl : List Nat) : Nat → Nat → Nat → List Nat → Nat → List Value → List Value → am_H → (Option Value → am_H → Prop) → Prop
  | 0, d, mi, _, pc, L, st, hp, K => am_T ro d mi pc L st hp K
  | n + 1, d, mi, stop, pc, L, st, hp, K => match am_cd mi pc with
    | none => False
    | some (i, nx, t) => match am_st ro mi pc nx t L st hp i with
      | some (pc1, L1, st1, hp1, φ) => am_an' φ (bif stop.elem pc1 then am_T ro d mi pc1 L1 st1 hp1 K else am_wp ro inl n d mi stop pc1 L1 st1 hp1 K)
      | none => match am_bc st i with
        | some (q, st1) => (q → bif stop.elem t then am_T ro d mi t L st1 hp K else am_wp ro inl n d mi stop t L st1 hp K) ∧ (¬ q → bif stop.elem nx then am_T ro d mi nx L st1 hp K else am_wp ro inl n d mi stop nx L st1 hp K)
        | none => match am_iv ro mi st hp i with
          | some (mj, as, rest) => bif inl.elem mj then (match d with
              | 0 => False
              | e + 1 => match Nat.ble (am_lay as).length (am_mL mj) with
                | true => am_wp ro inl n e mj [] 0 (am_l0 mj as) [] hp (fun r hp1 => bif stop.elem nx then am_T ro d mi nx L (r.toList ++ rest) hp1 K else am_wp ro inl n d mi stop nx L (r.toList ++ rest) hp1 K)
                | false => False)
            else ∃ r hp1, am_run ro d mj as hp r hp1 ∧ (bif stop.elem nx then am_T ro d mi nx L (r.toList ++ rest) hp1 K else am_wp ro inl n d mi stop nx L (r.toList ++ rest) hp1 K)
          | none => match am_fn st i with
            | some r => am_fk' mi r (K r hp)
            | none => False
theorem am_T.step {ro : Nat → Option am_C} {d mi pc nx t : Nat} {L st : List Value} {hp : am_H} {K : Option Value → am_H → Prop} {i : Instr} (hd : am_cd mi pc = some (i, nx, t)) {pc1 : Nat} {L1 st1 : List Value} {hp1 : am_H} {φ : Option Prop} (hs : am_st ro mi pc nx t L st hp i = some (pc1, L1, st1, hp1, φ)) (hφ : am_ph φ) (h : am_T ro d mi pc1 L1 st1 hp1 K) : am_T ro d mi pc L st hp K := by
  obtain ⟨r, hp', ⟨k, h1⟩, h2⟩ := h
  exact ⟨r, hp', ⟨k + 1, i, nx, t, hd, Or.inl ⟨pc1, L1, st1, hp1, φ, hs, hφ, h1⟩⟩, h2⟩
theorem am_T.brt {ro : Nat → Option am_C} {d mi pc nx t : Nat} {L st : List Value} {hp : am_H} {K : Option Value → am_H → Prop} {i : Instr} (hd : am_cd mi pc = some (i, nx, t)) {q : Prop} {st1 : List Value} (hs : am_bc st i = some (q, st1)) (hq : q) (h : am_T ro d mi t L st1 hp K) : am_T ro d mi pc L st hp K := by
  obtain ⟨r, hp', ⟨k, h1⟩, h2⟩ := h
  exact ⟨r, hp', ⟨k + 1, i, nx, t, hd, Or.inr (Or.inl ⟨q, st1, hs, Or.inl ⟨hq, h1⟩⟩)⟩, h2⟩
theorem am_T.brf {ro : Nat → Option am_C} {d mi pc nx t : Nat} {L st : List Value} {hp : am_H} {K : Option Value → am_H → Prop} {i : Instr} (hd : am_cd mi pc = some (i, nx, t)) {q : Prop} {st1 : List Value} (hs : am_bc st i = some (q, st1)) (hq : ¬ q) (h : am_T ro d mi nx L st1 hp K) : am_T ro d mi pc L st hp K := by
  obtain ⟨r, hp', ⟨k, h1⟩, h2⟩ := h
  exact ⟨r, hp', ⟨k + 1, i, nx, t, hd, Or.inr (Or.inl ⟨q, st1, hs, Or.inr ⟨hq, h1⟩⟩)⟩, h2⟩
theorem am_T.call {ro : Nat → Option am_C} {d mi pc nx t : Nat} {L st : List Value} {hp : am_H} {K : Option Value → am_H → Prop} {i : Instr} (hd : am_cd mi pc = some (i, nx, t)) {mj : Nat} {as rest : List Value} (hs : am_iv ro mi st hp i = some (mj, as, rest)) {r1 : Option Value} {hp1 : am_H} (hc : am_run ro d mj as hp r1 hp1) (h : am_T ro d mi nx L (r1.toList ++ rest) hp1 K) : am_T ro d mi pc L st hp K := by
  obtain ⟨r, hp', ⟨k, h1⟩, h2⟩ := h
  exact ⟨r, hp', ⟨k + 1, i, nx, t, hd, Or.inr (Or.inr ⟨mj, as, rest, r1, hp1, hs, hc, h1⟩)⟩, h2⟩
theorem am_bif {b : Bool} {X Y : Prop} (h : bif b then X else Y) (g : Y → X) : X := by
  cases b
  · exact g h
  · exact h
theorem am_wp_ok {ro : Nat → Option am_C} {inl : List Nat} : ∀ (n d mi : Nat) (stop : List Nat) (pc : Nat) (L st : List Value) (hp : am_H) (K : Option Value → am_H → Prop), am_wp ro inl n d mi stop pc L st hp K → am_T ro d mi pc L st hp K := by
  intro n
  induction n with
  | zero => intro d mi stop pc L st hp K h; exact h
  | succ n ih =>
    intro d mi stop pc L st hp K h
    unfold am_wp at h
    split at h
    · cases h
    · next i nx t hd =>
      split at h
      · next pc1 L1 st1 hp1 φ hs =>
        obtain ⟨h1, h2⟩ := am_an'_of h
        exact am_T.step hd hs h1 (am_bif h2 (ih _ _ _ _ _ _ _ _))
      · split at h
        · next q st1 hs =>
          by_cases hq : q
          · exact am_T.brt hd hs hq (am_bif (h.1 hq) (ih _ _ _ _ _ _ _ _))
          · exact am_T.brf hd hs hq (am_bif (h.2 hq) (ih _ _ _ _ _ _ _ _))
        · split at h
          · next mj as rest hs =>
            cases hin : inl.elem mj with
            | true =>
              rw [hin, cond_true] at h
              cases d with
              | zero => exact False.elim h
              | succ e =>
                dsimp only at h
                split at h
                · next hle =>
                  obtain ⟨r1, hp1, hk, h⟩ := ih _ _ _ _ _ _ _ _ h
                  exact am_T.call hd hs (r1 := r1) (hp1 := hp1) ⟨Nat.le_of_ble_eq_true hle, hk⟩ (am_bif h (ih _ _ _ _ _ _ _ _))
                · exact False.elim h
            | false =>
              rw [hin, cond_false] at h
              obtain ⟨r1, hp1, hk, h⟩ := h
              exact am_T.call hd hs hk (am_bif h (ih _ _ _ _ _ _ _ _))
          · split at h
            · next r hf =>
              obtain ⟨h1, h2⟩ := am_fk_of h
              exact ⟨r, hp, ⟨0, i, nx, t, hd, hf, h1, rfl⟩, h2⟩
            · cases h
/-- a method's run out of its code -/
theorem am_run_of {ro : Nat → Option am_C} {d mi : Nat} {as : List Value} {hp : am_H} {r : Option Value} {hp' : am_H} (hl : Nat.ble (am_lay as).length (am_mL mi) = true) (h : am_T ro d mi 0 (am_l0 mi as) [] hp (fun r1 hp1 => r1 = r ∧ hp1 = hp')) : am_run ro (d + 1) mi as hp r hp' := by
  obtain ⟨r1, hp1, hk, rfl, rfl⟩ := h
  exact ⟨Nat.le_of_ble_eq_true hl, hk⟩
theorem am_br_t {q X Y : Prop} (h : q) (k : X) : (q → X) ∧ (¬ q → Y) := ⟨fun _ => k, fun z => absurd h z⟩
theorem am_br_f {q X Y : Prop} (h : ¬ q) (k : Y) : (q → X) ∧ (¬ q → Y) := ⟨fun z => absurd z h, fun _ => k⟩
/-- deeper is no harm -/
theorem am_ev_up {ro : Nat → Option am_C} {c1 c2 : Nat → List Value → am_H → Option Value → am_H → Prop} (hc : ∀ mj as hp r hp', c1 mj as hp r hp' → c2 mj as hp r hp') {mi : Nat} {r : Option Value} {hp' : am_H} : ∀ (k pc : Nat) (L st : List Value) (hp : am_H), am_ev ro c1 mi k pc L st hp r hp' → am_ev ro c2 mi k pc L st hp r hp' := by
  intro k
  induction k with
  | zero => intro pc L st hp h; exact h
  | succ k ih =>
    intro pc L st hp h
    obtain ⟨i, nx, t, hd, h | h | h⟩ := h
    · obtain ⟨pc1, L1, st1, hp1, φ, hs, hφ, h⟩ := h
      exact ⟨i, nx, t, hd, Or.inl ⟨pc1, L1, st1, hp1, φ, hs, hφ, ih _ _ _ _ h⟩⟩
    · obtain ⟨q, st1, hb, ⟨hq, h⟩ | ⟨hq, h⟩⟩ := h
      · exact ⟨i, nx, t, hd, Or.inr (Or.inl ⟨q, st1, hb, Or.inl ⟨hq, ih _ _ _ _ h⟩⟩)⟩
      · exact ⟨i, nx, t, hd, Or.inr (Or.inl ⟨q, st1, hb, Or.inr ⟨hq, ih _ _ _ _ h⟩⟩)⟩
    · obtain ⟨mj, as, rest, r1, hp1, hi, hc1, h⟩ := h
      exact ⟨i, nx, t, hd, Or.inr (Or.inr ⟨mj, as, rest, r1, hp1, hi, hc _ _ _ _ _ hc1, ih _ _ _ _ h⟩)⟩
theorem am_run_up1 {ro : Nat → Option am_C} : ∀ (d mi : Nat) (as : List Value) (hp : am_H) (r : Option Value) (hp' : am_H), am_run ro d mi as hp r hp' → am_run ro (d + 1) mi as hp r hp' := by
  intro d
  induction d with
  | zero => intro mi as hp r hp' h; cases h
  | succ d ih =>
    intro mi as hp r hp' h
    obtain ⟨h1, k, h⟩ := h
    exact ⟨h1, k, am_ev_up ih k _ _ _ _ h⟩
theorem am_run_up {ro : Nat → Option am_C} {d e mi : Nat} {as : List Value} {hp : am_H} {r : Option Value} {hp' : am_H} (h : am_run ro d mi as hp r hp') (hd : d ≤ e) : am_run ro e mi as hp r hp' := by
  induction e with
  | zero =>
    cases d with
    | zero => exact h
    | succ d => omega
  | succ e ih =>
    by_cases hq : d ≤ e
    · exact am_run_up1 _ _ _ _ _ _ (ih hq)
    · have : d = e + 1 := by omega
      rw [← this]
      exact h
end
section
/-! THE CELLS behind the two constructors: arrays a (by cell), the one row of longs l, fields f (by cell and place); c says which of the two rule sets is in force -/
noncomputable def wd (c : Bool) (a : Nat → Nat → Int32) (l : Nat → Int64) (f : Nat → Nat → Int32) : am_H := [
  .inr (0, [.ref 1, .ref 3, .ref 6, .ref 9, .ref 13, .ref (bif c then 38 else 16), .ref (bif c then 16 else 38)]),
  .inr (1, [.ref 2, .int (f 1 1), .int (f 1 2), .int (f 1 3), .int (f 1 4)]),
  .inl (.int, 900, .inl (a 2)),
  .inr (2, [.ref 4, .ref 5]),
  .inl (.boolean, 10, .inl (a 4)),
  .inl (.int, 10, .inl (a 5)),
  .inr (3, [.ref 7, .ref 8]),
  .inl (.int, 6, .inl (a 7)),
  .inl (.int, 6, .inl (a 8)),
  .inr (4, [.ref 10, .ref 11, .ref 12, .int (f 9 3)]),
  .inl (.int, 6, .inl (a 10)),
  .inl (.int, 30, .inl (a 11)),
  .inl (.int, 30, .inl (a 12)),
  .inr (5, [.ref 14, .ref 15]),
  .inl (.int, 8, .inl (a 14)),
  .inl (.int, 96, .inl (a 15)),
  .inr (6, [.ref 17, .ref 24, .ref 32]),
  .inr (7, [.ref 18, .ref 19, .ref 20, .ref 21, .ref 22, .ref 23, .int (f 17 6), .int (f 17 7)]),
  .inl (.int, 30, .inl (a 18)),
  .inl (.int, 30, .inl (a 19)),
  .inl (.int, 30, .inl (a 20)),
  .inl (.int, 60, .inl (a 21)),
  .inl (.int, 60, .inl (a 22)),
  .inl (.int, 60, .inl (a 23)),
  .inr (8, [.ref 25, .ref 26, .ref 27, .ref 28, .ref 29, .ref 30, .ref 31, .int (f 24 7), .int (f 24 8), .int (f 24 9)]),
  .inl (.int, 16, .inl (a 25)),
  .inl (.int, 16, .inl (a 26)),
  .inl (.int, 16, .inl (a 27)),
  .inl (.int, 20, .inl (a 28)),
  .inl (.int, 20, .inl (a 29)),
  .inl (.int, 20, .inl (a 30)),
  .inl (.int, 20, .inl (a 31)),
  .inr (9, [.ref 33, .ref 34, .ref 35, .ref 36, .ref 37, .int (f 32 5)]),
  .inl (.int, 20, .inl (a 33)),
  .inl (.int, 20, .inl (a 34)),
  .inl (.int, 160, .inl (a 35)),
  .inl (.int, 20, .inl (a 36)),
  .inl (.int, 9, .inl (a 37)),
  .inr (6, [.ref 39, .ref 46, .ref 54]),
  .inr (7, [.ref 40, .ref 41, .ref 42, .ref 43, .ref 44, .ref 45, .int (f 39 6), .int (f 39 7)]),
  .inl (.int, 30, .inl (a 40)),
  .inl (.int, 30, .inl (a 41)),
  .inl (.int, 30, .inl (a 42)),
  .inl (.int, 60, .inl (a 43)),
  .inl (.int, 60, .inl (a 44)),
  .inl (.int, 60, .inl (a 45)),
  .inr (8, [.ref 47, .ref 48, .ref 49, .ref 50, .ref 51, .ref 52, .ref 53, .int (f 46 7), .int (f 46 8), .int (f 46 9)]),
  .inl (.int, 16, .inl (a 47)),
  .inl (.int, 16, .inl (a 48)),
  .inl (.int, 16, .inl (a 49)),
  .inl (.int, 20, .inl (a 50)),
  .inl (.int, 20, .inl (a 51)),
  .inl (.int, 20, .inl (a 52)),
  .inl (.int, 20, .inl (a 53)),
  .inr (9, [.ref 55, .ref 56, .ref 57, .ref 58, .ref 59, .int (f 54 5)]),
  .inl (.int, 20, .inl (a 55)),
  .inl (.int, 20, .inl (a 56)),
  .inl (.int, 160, .inl (a 57)),
  .inl (.int, 20, .inl (a 58)),
  .inl (.int, 9, .inl (a 59)),
  .inr (10, [.ref 61, .int (f 60 1), .int (f 60 2), .int (f 60 3), .ref 62, .ref 63, .ref 64, .ref 65, .ref 66, .ref 67, .ref 68, .ref 69, .ref 70, .ref 71, .ref 72, .ref 73, .ref 74, .ref 75, .int (f 60 18), .ref 76, .ref 77, .ref 78, .ref 79, .int (f 60 23), .ref 80, .ref 81, .int (f 60 26), .int (f 60 27), .int (f 60 28)]),
  .inl (.int, 900, .inl (a 61)),
  .inl (.int, 12, .inl (a 62)),
  .inl (.int, 60, .inl (a 63)),
  .inl (.int, 60, .inl (a 64)),
  .inl (.int, 62, .inl (a 65)),
  .inl (.int, 360, .inl (a 66)),
  .inl (.int, 32, .inl (a 67)),
  .inl (.int, 64, .inl (a 68)),
  .inl (.int, 160, .inl (a 69)),
  .inl (.int, 40, .inl (a 70)),
  .inl (.long, 40, .inr (.inl l)),
  .inl (.boolean, 10, .inl (a 72)),
  .inl (.int, 10, .inl (a 73)),
  .inl (.boolean, 60, .inl (a 74)),
  .inl (.boolean, 60, .inl (a 75)),
  .inl (.int, 6, .inl (a 76)),
  .inl (.int, 60, .inl (a 77)),
  .inl (.int, 8, .inl (a 78)),
  .inl (.int, 96, .inl (a 79)),
  .inl (.int, 9, .inl (a 80)),
  .inl (.int, 20, .inl (a 81))]
/-- writing one of many -/
def u2 {α : Type} (a : Nat → α) (k : Nat) (v : α) : Nat → α := fun j => bif Nat.beq j k then v else a j
def u3 (f : Nat → Nat → Int32) (i k : Nat) (v : Int32) : Nat → Nat → Int32 := fun x y => bif Nat.beq x i && Nat.beq y k then v else f x y
theorem u2_same {α : Type} {a : Nat → α} {k : Nat} {v : α} : u2 a k v k = v := by simp [u2]
theorem u2_ne {α : Type} {a : Nat → α} {k j : Nat} {v : α} (h : j ≠ k) : u2 a k v j = a j := by
  have : Nat.beq j k = false := by
    cases e : Nat.beq j k with
    | false => rfl
    | true => exact absurd (Nat.eq_of_beq_eq_true e) h
  simp [u2, this]
/-- the cells from before: the script, the texts and their bytes -/
noncomputable def wd_ro (n : Nat) (xs : Nat → Int32) : Nat → Option am_C := am_in 19 fun k => (bif Nat.blt k 9 then (bif Nat.blt k 4 then (bif Nat.blt k 2 then (bif Nat.blt k 1 then (bif Nat.beq k 0 then some (.inl (.int, n, .inl xs)) else none) else (bif Nat.beq k 1 then some (.inr (100, [.retAddr 3, .int 0])) else none)) else (bif Nat.blt k 3 then (bif Nat.beq k 2 then some (.inl (.byte, 4, .inl (fun j => ([99, 111, 100, 101] : List Int32).getD j 0))) else none) else (bif Nat.beq k 3 then some (.inr (100, [.retAddr 5, .int 0])) else none))) else (bif Nat.blt k 6 then (bif Nat.blt k 5 then (bif Nat.beq k 4 then some (.inl (.byte, 4, .inl (fun j => ([119, 104, 101, 110] : List Int32).getD j 0))) else none) else (bif Nat.beq k 5 then some (.inr (100, [.retAddr 7, .int 0])) else none)) else (bif Nat.blt k 7 then (bif Nat.beq k 6 then some (.inl (.byte, 1, .inl (fun j => ([60] : List Int32).getD j 0))) else none) else (bif Nat.blt k 8 then (bif Nat.beq k 7 then some (.inr (100, [.retAddr 9, .int 0])) else none) else (bif Nat.beq k 8 then some (.inl (.byte, 1, .inl (fun j => ([61] : List Int32).getD j 0))) else none))))) else (bif Nat.blt k 14 then (bif Nat.blt k 11 then (bif Nat.blt k 10 then (bif Nat.beq k 9 then some (.inr (100, [.retAddr 11, .int 0])) else none) else (bif Nat.beq k 10 then some (.inl (.byte, 1, .inl (fun j => ([62] : List Int32).getD j 0))) else none)) else (bif Nat.blt k 12 then (bif Nat.beq k 11 then some (.inr (100, [.retAddr 13, .int 0])) else none) else (bif Nat.blt k 13 then (bif Nat.beq k 12 then some (.inl (.byte, 7, .inl (fun j => ([103, 101, 110, 101, 114, 97, 108] : List Int32).getD j 0))) else none) else (bif Nat.beq k 13 then some (.inr (100, [.retAddr 15, .int 0])) else none)))) else (bif Nat.blt k 16 then (bif Nat.blt k 15 then (bif Nat.beq k 14 then some (.inl (.byte, 6, .inl (fun j => ([109, 105, 114, 114, 111, 114] : List Int32).getD j 0))) else none) else (bif Nat.beq k 15 then some (.inr (100, [.retAddr 17, .int 0])) else none)) else (bif Nat.blt k 17 then (bif Nat.beq k 16 then some (.inl (.byte, 3, .inl (fun j => ([109, 97, 112] : List Int32).getD j 0))) else none) else (bif Nat.blt k 18 then (bif Nat.beq k 17 then some (.inr (100, [.retAddr 19, .int 0])) else none) else (bif Nat.beq k 18 then some (.inl (.byte, 4, .inl (fun j => ([110, 97, 109, 101] : List Int32).getD j 0))) else none))))))
-- text 0: code, object 2
-- text 1: when, object 4
-- text 2: <, object 6
-- text 3: =, object 8
-- text 4: >, object 10
-- text 5: general, object 12
-- text 6: mirror, object 14
-- text 7: map, object 16
-- text 8: name, object 18
end
section
/-! THE CLAIM OUT OF ONE WALK OF THE LAW'S BODY. Your part is whole_start (and what it stands on); all else here is the same for every law, but numbers. -/
def R_law : String := "CodeRulesLaw"
def lw_P (b : Addr) (xs : List Int32) (args : Array Value) (s : State) : Prop := args = #[.ref b] ∧ s.IntsAt b xs ∧ xs.length ≤ 2048 ∧ (Jvm.Cond.and given_1 narrow_1).before args s = true
def lw_Q (_ : Array Value) (s : State) (o : Outcome) (t : State) : Prop := o = .returned (some (.int 1)) ∧ Framed s o t [] 82 4590
def lw_Z (below : List Frame) (a : Array Value) (s : State) : State → Prop := fun t => ∃ o, t.status = .running ∧ Ended t below o ∧ lw_Q a s o t
/-- the law's own end, with 1 on the stack, nothing written that was there before, its room as the claim has it -/
theorem lw_ret {p : Program} {l : Launch} {e : Env} {s : State} {m : MethodId} {below : List Frame} {meth : Method} {c : Code} {b : Nat} (hx : p.tables.exec = Jvm.exec) (hb : c.code = code) (hr : meth.sig.returnType = ret) (hlocks : meth.locks = false) {pc : Nat} {H : Heap} {ls : Array Slot} (hdg : decode code pc = .ok (.ireturn, 1)) : W p l e room_1 s m #[Value.ref b] below meth c H [] 82 4590 (lw_Z below #[Value.ref b] s) (F0 m pc ls [.int 1]) := by
  intro T hT X
  obtain ⟨fs, hret, hrun, hended, hW, hframe⟩ := X.leave (v := some (.int 1)) (hlocks := hlocks) (fun h => by rw [hr] at h; cases h)
  have hmeth' : T.vm.method? m = some meth := X.method'
  refine ⟨T.setFrames fs, ?_, .returned (some (.int 1)), hrun, hended, rfl, ⟨_, rfl⟩, hW, hframe⟩
  jvm_step X.here [X.here.top, hx, hb, hdg, hmeth', hr, ret, narrow_b1]
  (try refine ⟨rfl, ?_⟩); (try refine ⟨rfl, ?_⟩)
  first | (intro acts; rw [hret _ acts rfl rfl rfl]) | rw [hret _ _ rfl rfl rfl]
  exact Steps.refl _
/-- what holds at the law's entry: the machine, the code, the tables' words (any of lw_tbl by 'hts w (by decide +kernel)'), the script of L ints xs at the cell b, what the Statement gives of the start (any of its parts by flat_of_before) -/
def lw_At (p : Program) (s : State) (m : MethodId) (meth : Method) (c : Code) (b L : Nat) (xs : Nat → Int32) : Prop :=
  p.tables.exec = Jvm.exec ∧ c.code = code ∧ meth.sig.returnType = ret ∧ c.maxLocals = 4 ∧ s.vm.findClass R_law = some m.cls ∧ (∀ w ∈ lw_tbl, w.before #[Value.ref b] s = true) ∧ va_X b L xs s s.heap ∧ b < s.heap.size ∧ meth.locks = false ∧ (Jvm.Cond.and given_1 narrow_1).before #[Value.ref b] s = true
end
section
/-! FROM THE LAW'S ENTRY to the abstract machine -/
def st_len : List Nat := [4, 4, 1, 1, 1, 7, 6, 3, 4]
def st_byt : List (List Int32) := [[99, 111, 100, 101], [119, 104, 101, 110], [60], [61], [62], [103, 101, 110, 101, 114, 97, 108], [109, 105, 114, 114, 111, 114], [109, 97, 112], [110, 97, 109, 101]]
def st_idx : List Nat := [54, 98, 106, 108, 110, 63, 68, 73, 78]
def st_tm (i : Nat) : Term := .string "CodeRules$Rules" (st_idx.getD i 0)
theorem am_inst_ok {ci : Nat} {q : vw_C} (h : am_cl[ci]? = some q) : Cond.instantiable q.1 q.2.2 ∈ am_TB := by
  have h0 : ∀ ci, ci < am_cl.length → am_cf ci (fun q => am_isw (am_cP ci).1 (.instantiable q.1 q.2.2)) = true := by decide +kernel
  obtain ⟨C, T, N, h1, h2⟩ := am_cf_of (h0 ci (List.getElem?_eq_some_iff.mp h).1)
  rw [h] at h1
  cases h1
  exact am_isw_of h2
theorem st_ref {A : Array Value} {s : State} (hts : ∀ w ∈ lw_tbl, w.before A s = true) {ad : Nat → Nat} (he : ∀ i : Nat, i < 9 → (st_tm i).eval A s none [] s = some (.ref (ad (1 + 2 * i)))) : ∀ q ∈ am_sk, vk_R q.1 q.2.1 q.2.2.1 (ad q.2.2.2) s := by
  intro q hq
  simp only [am_sk, List.mem_cons, List.not_mem_nil, or_false] at hq
  rcases hq with rfl | rfl | rfl | rfl | rfl | rfl | rfl | rfl | rfl
  · exact vk_R.of (hts _ (am_at_in (k := 2093) (by decide +kernel))) (he 0 (by decide))
  · exact vk_R.of (hts _ (am_at_in (k := 2173) (by decide +kernel))) (he 1 (by decide))
  · exact vk_R.of (hts _ (am_at_in (k := 2182) (by decide +kernel))) (he 2 (by decide))
  · exact vk_R.of (hts _ (am_at_in (k := 2183) (by decide +kernel))) (he 3 (by decide))
  · exact vk_R.of (hts _ (am_at_in (k := 2184) (by decide +kernel))) (he 4 (by decide))
  · exact vk_R.of (hts _ (am_at_in (k := 2191) (by decide +kernel))) (he 5 (by decide))
  · exact vk_R.of (hts _ (am_at_in (k := 2205) (by decide +kernel))) (he 6 (by decide))
  · exact vk_R.of (hts _ (am_at_in (k := 2227) (by decide +kernel))) (he 7 (by decide))
  · exact vk_R.of (hts _ (am_at_in (k := 2241) (by decide +kernel))) (he 8 (by decide))
theorem st_S {A : Array Value} {s : State} (hg : ∀ w ∈ flatC (Jvm.Cond.and given_1 narrow_1), w.before A s = true) {B : Nat → Prop} (hB : ∀ a : Nat, a < s.heap.size → ¬ B a) : ∃ adK adV : Nat → Nat, vk_S 9 st_len st_byt adK adV B s s.heap ∧ ∀ i : Nat, i < 9 → (st_tm i).eval A s none [] s = some (.ref (adK i)) := by
  refine vk_Sof (tm := st_tm) (by decide +kernel) ?_ ?_ ?_ ?_ ?_ ?_ hB
  · intro i hi
    refine hg _ ?_
    revert hi
    revert i
    decide +kernel
  · intro i hi
    refine hg _ ?_
    revert hi
    revert i
    decide +kernel
  · intro i hi
    refine hg _ ?_
    revert hi
    revert i
    decide +kernel
  · intro i hi
    refine hg _ ?_
    revert hi
    revert i
    decide +kernel
  · intro i hi j hj
    refine hg _ ?_
    revert hj
    revert j
    revert hi
    revert i
    decide +kernel
  · intro i j hi hj hij
    have h0 : ∀ i, i < 9 → ∀ j, j < 9 → i ≠ j → (Cond.not (Cond.eq (st_tm i) (st_tm j))) ∈ flatC (Jvm.Cond.and given_1 narrow_1) ∨ (Cond.not (Cond.eq (st_tm j) (st_tm i))) ∈ flatC (Jvm.Cond.and given_1 narrow_1) := by decide +kernel
    rcases h0 i hi j hj hij with h | h
    · exact Or.inl (hg _ h)
    · exact Or.inr (hg _ h)
/-- where the cells from before lie -/
def st_ad (b z : Nat) (adK adV : Nat → Nat) (k : Nat) : Nat := if k = 0 then b else if k = 99 then z else if k % 2 = 1 then adK (k / 2) else adV (k / 2 - 1)
theorem st_rc {A : Array Value} {s : State} {b L z : Nat} {xs : Nat → Int32} {adK adV : Nat → Nat} (hX : va_X b L xs s s.heap) (hbl : b < s.heap.size) (hS : vk_S 9 st_len st_byt adK adV (fun q => s.heap.size ≤ q) s s.heap) : ∀ k c, wd_ro L xs k = some c → Nat.beq k 99 = false ∧ am_rc (wd_ro L xs) s.heap.size (st_ad b z adK adV) s s.heap k c := by
  intro k c h
  obtain ⟨hk, h⟩ := am_in_of h
  have hk : k = 0 ∨ k = 1 ∨ k = 2 ∨ k = 3 ∨ k = 4 ∨ k = 5 ∨ k = 6 ∨ k = 7 ∨ k = 8 ∨ k = 9 ∨ k = 10 ∨ k = 11 ∨ k = 12 ∨ k = 13 ∨ k = 14 ∨ k = 15 ∨ k = 16 ∨ k = 17 ∨ k = 18 := by omega
  rcases hk with rfl | rfl | rfl | rfl | rfl | rfl | rfl | rfl | rfl | rfl | rfl | rfl | rfl | rfl | rfl | rfl | rfl | rfl | rfl
  · cases h
    obtain ⟨scr, h1, h2, h3, h4, h5⟩ := hX
    refine ⟨rfl, scr, h1, h2, h3, Nat.le_of_eq h4.symm, by rw [h4], h5, ?_⟩
    show ¬ s.heap.size ≤ b
    omega
  · cases h
    obtain ⟨h1, h2, h3, -⟩ := hS.1 0 (by decide)
    refine ⟨rfl, h1, fun j v hv => ?_⟩
    match j, hv with
    | 0, hv => cases hv; exact h3
    | 1, hv => cases hv; exact h2
  · cases h
    exact ⟨rfl, (hS.1 0 (by decide)).2.2.2⟩
  · cases h
    obtain ⟨h1, h2, h3, -⟩ := hS.1 1 (by decide)
    refine ⟨rfl, h1, fun j v hv => ?_⟩
    match j, hv with
    | 0, hv => cases hv; exact h3
    | 1, hv => cases hv; exact h2
  · cases h
    exact ⟨rfl, (hS.1 1 (by decide)).2.2.2⟩
  · cases h
    obtain ⟨h1, h2, h3, -⟩ := hS.1 2 (by decide)
    refine ⟨rfl, h1, fun j v hv => ?_⟩
    match j, hv with
    | 0, hv => cases hv; exact h3
    | 1, hv => cases hv; exact h2
  · cases h
    exact ⟨rfl, (hS.1 2 (by decide)).2.2.2⟩
  · cases h
    obtain ⟨h1, h2, h3, -⟩ := hS.1 3 (by decide)
    refine ⟨rfl, h1, fun j v hv => ?_⟩
    match j, hv with
    | 0, hv => cases hv; exact h3
    | 1, hv => cases hv; exact h2
  · cases h
    exact ⟨rfl, (hS.1 3 (by decide)).2.2.2⟩
  · cases h
    obtain ⟨h1, h2, h3, -⟩ := hS.1 4 (by decide)
    refine ⟨rfl, h1, fun j v hv => ?_⟩
    match j, hv with
    | 0, hv => cases hv; exact h3
    | 1, hv => cases hv; exact h2
  · cases h
    exact ⟨rfl, (hS.1 4 (by decide)).2.2.2⟩
  · cases h
    obtain ⟨h1, h2, h3, -⟩ := hS.1 5 (by decide)
    refine ⟨rfl, h1, fun j v hv => ?_⟩
    match j, hv with
    | 0, hv => cases hv; exact h3
    | 1, hv => cases hv; exact h2
  · cases h
    exact ⟨rfl, (hS.1 5 (by decide)).2.2.2⟩
  · cases h
    obtain ⟨h1, h2, h3, -⟩ := hS.1 6 (by decide)
    refine ⟨rfl, h1, fun j v hv => ?_⟩
    match j, hv with
    | 0, hv => cases hv; exact h3
    | 1, hv => cases hv; exact h2
  · cases h
    exact ⟨rfl, (hS.1 6 (by decide)).2.2.2⟩
  · cases h
    obtain ⟨h1, h2, h3, -⟩ := hS.1 7 (by decide)
    refine ⟨rfl, h1, fun j v hv => ?_⟩
    match j, hv with
    | 0, hv => cases hv; exact h3
    | 1, hv => cases hv; exact h2
  · cases h
    exact ⟨rfl, (hS.1 7 (by decide)).2.2.2⟩
  · cases h
    obtain ⟨h1, h2, h3, -⟩ := hS.1 8 (by decide)
    refine ⟨rfl, h1, fun j v hv => ?_⟩
    match j, hv with
    | 0, hv => cases hv; exact h3
    | 1, hv => cases hv; exact h2
  · cases h
    exact ⟨rfl, (hS.1 8 (by decide)).2.2.2⟩
theorem st_gs {A : Array Value} {s : State} (hts : ∀ w ∈ lw_tbl, w.before A s = true) (hg : ∀ w ∈ flatC (Jvm.Cond.and given_1 narrow_1), w.before A s = true) {b : Nat} {adK adV : Nat → Nat} : ∃ z : Nat, ∀ q ∈ am_gs, va_Z q.1 q.2.1 q.2.2.1 (am_cv s.heap.size (st_ad b z adK adV) q.2.2.2) (fun q => s.heap.size ≤ q) s s.heap := by
  have hA : ∀ a : Nat, a < s.heap.size → ¬ s.heap.size ≤ a := fun a h => by omega
  have h1 : va_Z "java/lang/String" "COMPACT_STRINGS" "Z" (.int 1) (fun q => s.heap.size ≤ q) s s.heap := va_Zof (hts _ (am_at_in (k := 2107) (by decide +kernel))) (hts _ (am_at_in (k := 1036) (by decide +kernel))) (va_eqt (hg _ (by decide +kernel))) hA
  have h2 : va_Zq "jdk/internal/util/Preconditions" "SIOOBE_FORMATTER" "Ljava/util/function/BiFunction;" (fun q => s.heap.size ≤ q) s s.heap := va_Zqof (hts _ (am_at_in (k := 2127) (by decide +kernel))) (hts _ (am_at_in (k := 1038) (by decide +kernel))) (hg _ (by decide +kernel)) hA
  rcases h2 with h2 | ⟨t, h2⟩
  · refine ⟨0, fun q hq => ?_⟩
    simp only [am_gs, List.mem_cons, List.not_mem_nil, or_false] at hq
    rcases hq with rfl | rfl
    · exact h1
    · exact h2
  · refine ⟨t + 1, fun q hq => ?_⟩
    simp only [am_gs, List.mem_cons, List.not_mem_nil, or_false] at hq
    rcases hq with rfl | rfl
    · exact h1
    · exact h2
set_option maxHeartbeats 4000000 in
set_option maxRecDepth 100000 in
/-- the law's walk out of a run of the abstract machine -/
theorem am_start {p : Program} {e : Env} {s : State} {m : MethodId} {below : List Frame} {meth : Method} {c : Code} (l : Launch) {b L : Nat} {xs : Nat → Int32} (C0 : lw_At p s m meth c b L xs)
    (HR : am_T (wd_ro L xs) 12 154 0 (am_l0 154 [.retAddr 1]) [] [] (fun r hp' => r = some (.int 1) ∧ hp'.length ≤ 82 ∧ am_sz hp' ≤ 4590)) :
    W p l e room_1 s m #[Value.ref b] below meth c s.heap [] 0 0 (lw_Z below #[Value.ref b] s) (entryFrame m ([Value.ref b] : List Value).toArray 4) := by
  obtain ⟨hx, hb, hret, hml, hown, hts, hX, hbl, hlocks, hgv⟩ := C0
  obtain ⟨r, hp', ⟨k, hev⟩, rfl, hr1, hr2⟩ := HR
  have hg := flat_of_before _ hgv
  have hA : ∀ a : Nat, a < s.heap.size → ¬ s.heap.size ≤ a := fun a h => by omega
  have htB : ∀ w ∈ am_TB, w.before #[Value.ref b] s = true := fun w hw => hts w (List.mem_filter.mp hw).1
  have hcl : ∀ ci : Nat, ∃ q : ClassId × (Nat → Nat), ∀ z, am_cl[ci]? = some z → u_Kn s z.1 z.2.1 z.2.2 q.1 q.2 := by
    intro ci
    cases h : am_cl[ci]? with
    | none => exact ⟨(m.cls, fun _ => 0), fun z hz => by cases hz⟩
    | some z =>
      obtain ⟨cC, iS, hk⟩ := u_known htB (am_cl_ok (C := z.1) (T := z.2.1) (N := z.2.2) h).1 (htB _ (am_inst_ok h))
      exact ⟨(cC, iS), fun z' hz' => by cases hz'; exact hk⟩
  obtain ⟨g, hgk⟩ := Classical.axiomOfChoice hcl
  obtain ⟨cI, kI, qI, i1, i2, i3⟩ := Cond.arrayClass_spec (htB _ am_ac_int)
  obtain ⟨cZ, kZ, qZ, z1, z2, z3⟩ := Cond.arrayClass_spec (htB _ am_ac_boolean)
  obtain ⟨cJ, kJ, qJ, j1, j2, j3⟩ := Cond.arrayClass_spec (htB _ am_ac_long)
  obtain ⟨adK, adV, hS, hSe⟩ := st_S hg hA
  obtain ⟨z, hz⟩ := st_gs (b := b) (adK := adK) (adV := adV) hts hg
  have hKF : am_KF (fun c => (g c).1, fun c => (g c).2) s.heap.size (st_ad b z adK adV) (fun ty => match ty with | .int => cI | .boolean => cZ | _ => cJ) (wd_ro L xs) s s.heap := by
    refine ⟨⟨fun ci q hq => hgk ci q hq, fun k q hq => ?_⟩, fun w hw => ?_, st_rc (A := #[Value.ref b]) hX hbl hS, st_ref hts (fun i hi => ?_), hz⟩
    · match k, hq with
      | 0, hq => cases hq; exact ⟨fun n z => ⟨fun k h => (by cases h), kI, i2, qI, i3⟩, i1⟩
      | 1, hq => cases hq; exact ⟨fun n z => ⟨fun k h => (by cases h), kZ, z2, qZ, z3⟩, z1⟩
      | 2, hq => cases hq; exact ⟨fun n z => ⟨fun k h => (by cases h), kJ, j2, qJ, j3⟩, j1⟩
    · have h1 := hts w (List.mem_filter.mp hw).1
      have h2 := (List.mem_filter.mp hw).2
      refine va_tabs (A := #[Value.ref b]) ?_ rfl h1
      cases w <;> first | rfl | cases h2
    · rw [hSe i hi]
      unfold st_ad
      rw [if_neg (by omega), if_neg (by omega), if_pos (by omega), show (1 + 2 * i) / 2 = i by omega]
  have hX0 : am_Cx p s m #[Value.ref b] meth c room_1 (fun c => (g c).1, fun c => (g c).2) s.heap.size (st_ad b z adK adV) (fun ty => match ty with | .int => cI | .boolean => cZ | _ => cJ) (wd_ro L xs) 154 :=
    ⟨hx, hb, hml, hown, htB, hKF, (fun h => absurd h (by decide +kernel)), ⟨by decide, by decide⟩, Nat.le_refl _⟩
  have hl := lv_entry [Value.ref b] (n := 4) (Nat.le_of_ble_eq_true rfl)
  rw [lg_entry_eq]
  generalize (lg_sl [Value.ref b] ++ List.replicate (4 - (lg_sl [Value.ref b]).length) Slot.unset).toArray = ls at hl ⊢
  have hW := am_evW (Q := lw_Z below #[Value.ref b] s) (l := l) (e := e) (below := below) (n0 := 0) (z0 := 0) (d := 12) hX0 (fun mj as hp r hp' z => am_met 12 mj as hp r hp' z) ⟨by decide, by decide⟩ (r := some (.int 1)) (hp' := hp') ⟨hr1, hr2⟩ ?_ k 0 (am_l0 154 [.retAddr 1]) [] [] ⟨Nat.le_refl _, Nat.le_refl _⟩ hev
  · have h1 : lv_has ls (am_mL 154) (am_en s.heap.size (st_ad b z adK adV) (am_l0 154 [.retAddr 1])) := am_l0_has (bs := s.heap.size) (ad := st_ad b z adK adV) (mi := 154) (as := [.retAddr 1]) hl
    exact hW s.heap [] ls h1 ⟨by simp, fun i c hi => by cases hi⟩ va_S.rf
  · intro pc nx t L1 st i hd hf hk H locs ls1 hl1 hr3 hS1
    cases i with
    | ireturn =>
      simp only [am_fn] at hf
      split at hf
      · cases hf
        refine va_forget (fun q hq => hS1.2.2 q hq) (W.widen (k := 82) (n := 4590) (by omega) (by omega) ?_)
        exact lw_ret hx hb hret hlocks (am_dc hd rfl)
      · cases hf
    | lreturn =>
      simp only [am_fn] at hf
      split at hf <;> cases hf
    | return_ =>
      simp only [am_fn] at hf
      split at hf <;> cases hf
    | _ => cases hf
end
section
/-! CONSTRUCTORS: the cells that they lay -/
set_option maxRecDepth 100000 in
set_option maxHeartbeats 4000000 in
theorem ct_1 (ro : Nat → Option am_C) (c0 : am_C) : am_run ro 1 24 [.ref 1] [c0, .inr (1, [.null, .int 0, .int 0, .int 0, .int 0])] none [c0, .inr (1, [.ref 2, .int 0, .int 0, .int 0, .int 0]), .inl (.int, 900, .inl fun _ => 0)] := by
  refine am_run_of rfl ?_
  refine am_wp_ok (inl := []) 12 0 24 [13] _ _ _ _ _ ?_
  refine And.intro (by decide) ?_
  show am_T ro 0 24 13 [.ref 1] [] ([c0, .inr (1, [.ref 2, .int 0, .int 0, .int 0, .int 0]), .inl (.int, 900, .inl fun _ => 0)] : am_H) _
  refine am_wp_ok (inl := []) 12 0 24 [] _ _ _ _ _ ?_
  exact And.intro rfl rfl
set_option maxRecDepth 100000 in
set_option maxHeartbeats 4000000 in
theorem ct_3 (ro : Nat → Option am_C) (c0 c1 c2 : am_C) : am_run ro 1 36 [.ref 3] [c0, c1, c2, .inr (2, [.null, .null])] none [c0, c1, c2, .inr (2, [.ref 4, .ref 5]), .inl (.boolean, 10, .inl fun _ => 0), .inl (.int, 10, .inl fun _ => 0)] := by
  refine am_run_of rfl ?_
  refine am_wp_ok (inl := []) 12 0 36 [12] _ _ _ _ _ ?_
  refine And.intro (by decide) ?_
  show am_T ro 0 36 12 [.ref 3] [] ([c0, c1, c2, .inr (2, [.ref 4, .null]), .inl (.boolean, 10, .inl fun _ => 0)] : am_H) _
  refine am_wp_ok (inl := []) 12 0 36 [20] _ _ _ _ _ ?_
  refine And.intro (by decide) ?_
  show am_T ro 0 36 20 [.ref 3] [] ([c0, c1, c2, .inr (2, [.ref 4, .ref 5]), .inl (.boolean, 10, .inl fun _ => 0), .inl (.int, 10, .inl fun _ => 0)] : am_H) _
  refine am_wp_ok (inl := []) 12 0 36 [] _ _ _ _ _ ?_
  exact And.intro rfl rfl
set_option maxRecDepth 100000 in
set_option maxHeartbeats 4000000 in
theorem ct_6 (ro : Nat → Option am_C) (c0 c1 c2 c3 c4 c5 : am_C) : am_run ro 1 41 [.ref 6] [c0, c1, c2, c3, c4, c5, .inr (3, [.null, .null])] none [c0, c1, c2, c3, c4, c5, .inr (3, [.ref 7, .ref 8]), .inl (.int, 6, .inl fun _ => 0), .inl (.int, 6, .inl fun _ => 0)] := by
  refine am_run_of rfl ?_
  refine am_wp_ok (inl := []) 12 0 41 [12] _ _ _ _ _ ?_
  refine And.intro (by decide) ?_
  show am_T ro 0 41 12 [.ref 6] [] ([c0, c1, c2, c3, c4, c5, .inr (3, [.ref 7, .null]), .inl (.int, 6, .inl fun _ => 0)] : am_H) _
  refine am_wp_ok (inl := []) 12 0 41 [20] _ _ _ _ _ ?_
  refine And.intro (by decide) ?_
  show am_T ro 0 41 20 [.ref 6] [] ([c0, c1, c2, c3, c4, c5, .inr (3, [.ref 7, .ref 8]), .inl (.int, 6, .inl fun _ => 0), .inl (.int, 6, .inl fun _ => 0)] : am_H) _
  refine am_wp_ok (inl := []) 12 0 41 [] _ _ _ _ _ ?_
  exact And.intro rfl rfl
set_option maxRecDepth 100000 in
set_option maxHeartbeats 4000000 in
theorem ct_9 (ro : Nat → Option am_C) (c0 c1 c2 c3 c4 c5 c6 c7 c8 : am_C) : am_run ro 1 48 [.ref 9] [c0, c1, c2, c3, c4, c5, c6, c7, c8, .inr (4, [.null, .null, .null, .int 0])] none [c0, c1, c2, c3, c4, c5, c6, c7, c8, .inr (4, [.ref 10, .ref 11, .ref 12, .int 0]), .inl (.int, 6, .inl fun _ => 0), .inl (.int, 30, .inl fun _ => 0), .inl (.int, 30, .inl fun _ => 0)] := by
  refine am_run_of rfl ?_
  refine am_wp_ok (inl := []) 12 0 48 [12] _ _ _ _ _ ?_
  refine And.intro (by decide) ?_
  show am_T ro 0 48 12 [.ref 9] [] ([c0, c1, c2, c3, c4, c5, c6, c7, c8, .inr (4, [.ref 10, .null, .null, .int 0]), .inl (.int, 6, .inl fun _ => 0)] : am_H) _
  refine am_wp_ok (inl := []) 12 0 48 [20] _ _ _ _ _ ?_
  refine And.intro (by decide) ?_
  show am_T ro 0 48 20 [.ref 9] [] ([c0, c1, c2, c3, c4, c5, c6, c7, c8, .inr (4, [.ref 10, .ref 11, .null, .int 0]), .inl (.int, 6, .inl fun _ => 0), .inl (.int, 30, .inl fun _ => 0)] : am_H) _
  refine am_wp_ok (inl := []) 12 0 48 [28] _ _ _ _ _ ?_
  refine And.intro (by decide) ?_
  show am_T ro 0 48 28 [.ref 9] [] ([c0, c1, c2, c3, c4, c5, c6, c7, c8, .inr (4, [.ref 10, .ref 11, .ref 12, .int 0]), .inl (.int, 6, .inl fun _ => 0), .inl (.int, 30, .inl fun _ => 0), .inl (.int, 30, .inl fun _ => 0)] : am_H) _
  refine am_wp_ok (inl := []) 12 0 48 [] _ _ _ _ _ ?_
  exact And.intro rfl rfl
set_option maxRecDepth 100000 in
set_option maxHeartbeats 4000000 in
theorem ct_13 (ro : Nat → Option am_C) (c0 c1 c2 c3 c4 c5 c6 c7 c8 c9 c10 c11 c12 : am_C) : am_run ro 1 52 [.ref 13] [c0, c1, c2, c3, c4, c5, c6, c7, c8, c9, c10, c11, c12, .inr (5, [.null, .null])] none [c0, c1, c2, c3, c4, c5, c6, c7, c8, c9, c10, c11, c12, .inr (5, [.ref 14, .ref 15]), .inl (.int, 8, .inl fun _ => 0), .inl (.int, 96, .inl fun _ => 0)] := by
  refine am_run_of rfl ?_
  refine am_wp_ok (inl := []) 12 0 52 [12] _ _ _ _ _ ?_
  refine And.intro (by decide) ?_
  show am_T ro 0 52 12 [.ref 13] [] ([c0, c1, c2, c3, c4, c5, c6, c7, c8, c9, c10, c11, c12, .inr (5, [.ref 14, .null]), .inl (.int, 8, .inl fun _ => 0)] : am_H) _
  refine am_wp_ok (inl := []) 12 0 52 [20] _ _ _ _ _ ?_
  refine And.intro (by decide) ?_
  show am_T ro 0 52 20 [.ref 13] [] ([c0, c1, c2, c3, c4, c5, c6, c7, c8, c9, c10, c11, c12, .inr (5, [.ref 14, .ref 15]), .inl (.int, 8, .inl fun _ => 0), .inl (.int, 96, .inl fun _ => 0)] : am_H) _
  refine am_wp_ok (inl := []) 12 0 52 [] _ _ _ _ _ ?_
  exact And.intro rfl rfl
set_option maxRecDepth 100000 in
set_option maxHeartbeats 4000000 in
theorem ct_17 (ro : Nat → Option am_C) (c0 c1 c2 c3 c4 c5 c6 c7 c8 c9 c10 c11 c12 c13 c14 c15 c16 : am_C) : am_run ro 1 68 [.ref 17] [c0, c1, c2, c3, c4, c5, c6, c7, c8, c9, c10, c11, c12, c13, c14, c15, c16, .inr (7, [.null, .null, .null, .null, .null, .null, .int 0, .int 0])] none [c0, c1, c2, c3, c4, c5, c6, c7, c8, c9, c10, c11, c12, c13, c14, c15, c16, .inr (7, [.ref 18, .ref 19, .ref 20, .ref 21, .ref 22, .ref 23, .int 0, .int 0]), .inl (.int, 30, .inl fun _ => 0), .inl (.int, 30, .inl fun _ => 0), .inl (.int, 30, .inl fun _ => 0), .inl (.int, 60, .inl fun _ => 0), .inl (.int, 60, .inl fun _ => 0), .inl (.int, 60, .inl fun _ => 0)] := by
  refine am_run_of rfl ?_
  refine am_wp_ok (inl := []) 12 0 68 [12] _ _ _ _ _ ?_
  refine And.intro (by decide) ?_
  show am_T ro 0 68 12 [.ref 17] [] ([c0, c1, c2, c3, c4, c5, c6, c7, c8, c9, c10, c11, c12, c13, c14, c15, c16, .inr (7, [.ref 18, .null, .null, .null, .null, .null, .int 0, .int 0]), .inl (.int, 30, .inl fun _ => 0)] : am_H) _
  refine am_wp_ok (inl := []) 12 0 68 [20] _ _ _ _ _ ?_
  refine And.intro (by decide) ?_
  show am_T ro 0 68 20 [.ref 17] [] ([c0, c1, c2, c3, c4, c5, c6, c7, c8, c9, c10, c11, c12, c13, c14, c15, c16, .inr (7, [.ref 18, .ref 19, .null, .null, .null, .null, .int 0, .int 0]), .inl (.int, 30, .inl fun _ => 0), .inl (.int, 30, .inl fun _ => 0)] : am_H) _
  refine am_wp_ok (inl := []) 12 0 68 [28] _ _ _ _ _ ?_
  refine And.intro (by decide) ?_
  show am_T ro 0 68 28 [.ref 17] [] ([c0, c1, c2, c3, c4, c5, c6, c7, c8, c9, c10, c11, c12, c13, c14, c15, c16, .inr (7, [.ref 18, .ref 19, .ref 20, .null, .null, .null, .int 0, .int 0]), .inl (.int, 30, .inl fun _ => 0), .inl (.int, 30, .inl fun _ => 0), .inl (.int, 30, .inl fun _ => 0)] : am_H) _
  refine am_wp_ok (inl := []) 12 0 68 [36] _ _ _ _ _ ?_
  refine And.intro (by decide) ?_
  show am_T ro 0 68 36 [.ref 17] [] ([c0, c1, c2, c3, c4, c5, c6, c7, c8, c9, c10, c11, c12, c13, c14, c15, c16, .inr (7, [.ref 18, .ref 19, .ref 20, .ref 21, .null, .null, .int 0, .int 0]), .inl (.int, 30, .inl fun _ => 0), .inl (.int, 30, .inl fun _ => 0), .inl (.int, 30, .inl fun _ => 0), .inl (.int, 60, .inl fun _ => 0)] : am_H) _
  refine am_wp_ok (inl := []) 12 0 68 [44] _ _ _ _ _ ?_
  refine And.intro (by decide) ?_
  show am_T ro 0 68 44 [.ref 17] [] ([c0, c1, c2, c3, c4, c5, c6, c7, c8, c9, c10, c11, c12, c13, c14, c15, c16, .inr (7, [.ref 18, .ref 19, .ref 20, .ref 21, .ref 22, .null, .int 0, .int 0]), .inl (.int, 30, .inl fun _ => 0), .inl (.int, 30, .inl fun _ => 0), .inl (.int, 30, .inl fun _ => 0), .inl (.int, 60, .inl fun _ => 0), .inl (.int, 60, .inl fun _ => 0)] : am_H) _
  refine am_wp_ok (inl := []) 12 0 68 [52] _ _ _ _ _ ?_
  refine And.intro (by decide) ?_
  show am_T ro 0 68 52 [.ref 17] [] ([c0, c1, c2, c3, c4, c5, c6, c7, c8, c9, c10, c11, c12, c13, c14, c15, c16, .inr (7, [.ref 18, .ref 19, .ref 20, .ref 21, .ref 22, .ref 23, .int 0, .int 0]), .inl (.int, 30, .inl fun _ => 0), .inl (.int, 30, .inl fun _ => 0), .inl (.int, 30, .inl fun _ => 0), .inl (.int, 60, .inl fun _ => 0), .inl (.int, 60, .inl fun _ => 0), .inl (.int, 60, .inl fun _ => 0)] : am_H) _
  refine am_wp_ok (inl := []) 12 0 68 [] _ _ _ _ _ ?_
  exact And.intro rfl rfl
set_option maxRecDepth 100000 in
set_option maxHeartbeats 4000000 in
theorem ct_24 (ro : Nat → Option am_C) (c0 c1 c2 c3 c4 c5 c6 c7 c8 c9 c10 c11 c12 c13 c14 c15 c16 c17 c18 c19 c20 c21 c22 c23 : am_C) : am_run ro 1 79 [.ref 24] [c0, c1, c2, c3, c4, c5, c6, c7, c8, c9, c10, c11, c12, c13, c14, c15, c16, c17, c18, c19, c20, c21, c22, c23, .inr (8, [.null, .null, .null, .null, .null, .null, .null, .int 0, .int 0, .int 0])] none [c0, c1, c2, c3, c4, c5, c6, c7, c8, c9, c10, c11, c12, c13, c14, c15, c16, c17, c18, c19, c20, c21, c22, c23, .inr (8, [.ref 25, .ref 26, .ref 27, .ref 28, .ref 29, .ref 30, .ref 31, .int 0, .int 0, .int 0]), .inl (.int, 16, .inl fun _ => 0), .inl (.int, 16, .inl fun _ => 0), .inl (.int, 16, .inl fun _ => 0), .inl (.int, 20, .inl fun _ => 0), .inl (.int, 20, .inl fun _ => 0), .inl (.int, 20, .inl fun _ => 0), .inl (.int, 20, .inl fun _ => 0)] := by
  refine am_run_of rfl ?_
  refine am_wp_ok (inl := []) 12 0 79 [12] _ _ _ _ _ ?_
  refine And.intro (by decide) ?_
  show am_T ro 0 79 12 [.ref 24] [] ([c0, c1, c2, c3, c4, c5, c6, c7, c8, c9, c10, c11, c12, c13, c14, c15, c16, c17, c18, c19, c20, c21, c22, c23, .inr (8, [.ref 25, .null, .null, .null, .null, .null, .null, .int 0, .int 0, .int 0]), .inl (.int, 16, .inl fun _ => 0)] : am_H) _
  refine am_wp_ok (inl := []) 12 0 79 [20] _ _ _ _ _ ?_
  refine And.intro (by decide) ?_
  show am_T ro 0 79 20 [.ref 24] [] ([c0, c1, c2, c3, c4, c5, c6, c7, c8, c9, c10, c11, c12, c13, c14, c15, c16, c17, c18, c19, c20, c21, c22, c23, .inr (8, [.ref 25, .ref 26, .null, .null, .null, .null, .null, .int 0, .int 0, .int 0]), .inl (.int, 16, .inl fun _ => 0), .inl (.int, 16, .inl fun _ => 0)] : am_H) _
  refine am_wp_ok (inl := []) 12 0 79 [28] _ _ _ _ _ ?_
  refine And.intro (by decide) ?_
  show am_T ro 0 79 28 [.ref 24] [] ([c0, c1, c2, c3, c4, c5, c6, c7, c8, c9, c10, c11, c12, c13, c14, c15, c16, c17, c18, c19, c20, c21, c22, c23, .inr (8, [.ref 25, .ref 26, .ref 27, .null, .null, .null, .null, .int 0, .int 0, .int 0]), .inl (.int, 16, .inl fun _ => 0), .inl (.int, 16, .inl fun _ => 0), .inl (.int, 16, .inl fun _ => 0)] : am_H) _
  refine am_wp_ok (inl := []) 12 0 79 [36] _ _ _ _ _ ?_
  refine And.intro (by decide) ?_
  show am_T ro 0 79 36 [.ref 24] [] ([c0, c1, c2, c3, c4, c5, c6, c7, c8, c9, c10, c11, c12, c13, c14, c15, c16, c17, c18, c19, c20, c21, c22, c23, .inr (8, [.ref 25, .ref 26, .ref 27, .ref 28, .null, .null, .null, .int 0, .int 0, .int 0]), .inl (.int, 16, .inl fun _ => 0), .inl (.int, 16, .inl fun _ => 0), .inl (.int, 16, .inl fun _ => 0), .inl (.int, 20, .inl fun _ => 0)] : am_H) _
  refine am_wp_ok (inl := []) 12 0 79 [44] _ _ _ _ _ ?_
  refine And.intro (by decide) ?_
  show am_T ro 0 79 44 [.ref 24] [] ([c0, c1, c2, c3, c4, c5, c6, c7, c8, c9, c10, c11, c12, c13, c14, c15, c16, c17, c18, c19, c20, c21, c22, c23, .inr (8, [.ref 25, .ref 26, .ref 27, .ref 28, .ref 29, .null, .null, .int 0, .int 0, .int 0]), .inl (.int, 16, .inl fun _ => 0), .inl (.int, 16, .inl fun _ => 0), .inl (.int, 16, .inl fun _ => 0), .inl (.int, 20, .inl fun _ => 0), .inl (.int, 20, .inl fun _ => 0)] : am_H) _
  refine am_wp_ok (inl := []) 12 0 79 [52] _ _ _ _ _ ?_
  refine And.intro (by decide) ?_
  show am_T ro 0 79 52 [.ref 24] [] ([c0, c1, c2, c3, c4, c5, c6, c7, c8, c9, c10, c11, c12, c13, c14, c15, c16, c17, c18, c19, c20, c21, c22, c23, .inr (8, [.ref 25, .ref 26, .ref 27, .ref 28, .ref 29, .ref 30, .null, .int 0, .int 0, .int 0]), .inl (.int, 16, .inl fun _ => 0), .inl (.int, 16, .inl fun _ => 0), .inl (.int, 16, .inl fun _ => 0), .inl (.int, 20, .inl fun _ => 0), .inl (.int, 20, .inl fun _ => 0), .inl (.int, 20, .inl fun _ => 0)] : am_H) _
  refine am_wp_ok (inl := []) 12 0 79 [60] _ _ _ _ _ ?_
  refine And.intro (by decide) ?_
  show am_T ro 0 79 60 [.ref 24] [] ([c0, c1, c2, c3, c4, c5, c6, c7, c8, c9, c10, c11, c12, c13, c14, c15, c16, c17, c18, c19, c20, c21, c22, c23, .inr (8, [.ref 25, .ref 26, .ref 27, .ref 28, .ref 29, .ref 30, .ref 31, .int 0, .int 0, .int 0]), .inl (.int, 16, .inl fun _ => 0), .inl (.int, 16, .inl fun _ => 0), .inl (.int, 16, .inl fun _ => 0), .inl (.int, 20, .inl fun _ => 0), .inl (.int, 20, .inl fun _ => 0), .inl (.int, 20, .inl fun _ => 0), .inl (.int, 20, .inl fun _ => 0)] : am_H) _
  refine am_wp_ok (inl := []) 12 0 79 [] _ _ _ _ _ ?_
  exact And.intro rfl rfl
set_option maxRecDepth 100000 in
set_option maxHeartbeats 4000000 in
theorem ct_32 (ro : Nat → Option am_C) (c0 c1 c2 c3 c4 c5 c6 c7 c8 c9 c10 c11 c12 c13 c14 c15 c16 c17 c18 c19 c20 c21 c22 c23 c24 c25 c26 c27 c28 c29 c30 c31 : am_C) : am_run ro 1 91 [.ref 32] [c0, c1, c2, c3, c4, c5, c6, c7, c8, c9, c10, c11, c12, c13, c14, c15, c16, c17, c18, c19, c20, c21, c22, c23, c24, c25, c26, c27, c28, c29, c30, c31, .inr (9, [.null, .null, .null, .null, .null, .int 0])] none [c0, c1, c2, c3, c4, c5, c6, c7, c8, c9, c10, c11, c12, c13, c14, c15, c16, c17, c18, c19, c20, c21, c22, c23, c24, c25, c26, c27, c28, c29, c30, c31, .inr (9, [.ref 33, .ref 34, .ref 35, .ref 36, .ref 37, .int 0]), .inl (.int, 20, .inl fun _ => 0), .inl (.int, 20, .inl fun _ => 0), .inl (.int, 160, .inl fun _ => 0), .inl (.int, 20, .inl fun _ => 0), .inl (.int, 9, .inl fun _ => 0)] := by
  refine am_run_of rfl ?_
  refine am_wp_ok (inl := []) 12 0 91 [12] _ _ _ _ _ ?_
  refine And.intro (by decide) ?_
  show am_T ro 0 91 12 [.ref 32] [] ([c0, c1, c2, c3, c4, c5, c6, c7, c8, c9, c10, c11, c12, c13, c14, c15, c16, c17, c18, c19, c20, c21, c22, c23, c24, c25, c26, c27, c28, c29, c30, c31, .inr (9, [.ref 33, .null, .null, .null, .null, .int 0]), .inl (.int, 20, .inl fun _ => 0)] : am_H) _
  refine am_wp_ok (inl := []) 12 0 91 [20] _ _ _ _ _ ?_
  refine And.intro (by decide) ?_
  show am_T ro 0 91 20 [.ref 32] [] ([c0, c1, c2, c3, c4, c5, c6, c7, c8, c9, c10, c11, c12, c13, c14, c15, c16, c17, c18, c19, c20, c21, c22, c23, c24, c25, c26, c27, c28, c29, c30, c31, .inr (9, [.ref 33, .ref 34, .null, .null, .null, .int 0]), .inl (.int, 20, .inl fun _ => 0), .inl (.int, 20, .inl fun _ => 0)] : am_H) _
  refine am_wp_ok (inl := []) 12 0 91 [29] _ _ _ _ _ ?_
  refine And.intro (by decide) ?_
  show am_T ro 0 91 29 [.ref 32] [] ([c0, c1, c2, c3, c4, c5, c6, c7, c8, c9, c10, c11, c12, c13, c14, c15, c16, c17, c18, c19, c20, c21, c22, c23, c24, c25, c26, c27, c28, c29, c30, c31, .inr (9, [.ref 33, .ref 34, .ref 35, .null, .null, .int 0]), .inl (.int, 20, .inl fun _ => 0), .inl (.int, 20, .inl fun _ => 0), .inl (.int, 160, .inl fun _ => 0)] : am_H) _
  refine am_wp_ok (inl := []) 12 0 91 [37] _ _ _ _ _ ?_
  refine And.intro (by decide) ?_
  show am_T ro 0 91 37 [.ref 32] [] ([c0, c1, c2, c3, c4, c5, c6, c7, c8, c9, c10, c11, c12, c13, c14, c15, c16, c17, c18, c19, c20, c21, c22, c23, c24, c25, c26, c27, c28, c29, c30, c31, .inr (9, [.ref 33, .ref 34, .ref 35, .ref 36, .null, .int 0]), .inl (.int, 20, .inl fun _ => 0), .inl (.int, 20, .inl fun _ => 0), .inl (.int, 160, .inl fun _ => 0), .inl (.int, 20, .inl fun _ => 0)] : am_H) _
  refine am_wp_ok (inl := []) 12 0 91 [45] _ _ _ _ _ ?_
  refine And.intro (by decide) ?_
  show am_T ro 0 91 45 [.ref 32] [] ([c0, c1, c2, c3, c4, c5, c6, c7, c8, c9, c10, c11, c12, c13, c14, c15, c16, c17, c18, c19, c20, c21, c22, c23, c24, c25, c26, c27, c28, c29, c30, c31, .inr (9, [.ref 33, .ref 34, .ref 35, .ref 36, .ref 37, .int 0]), .inl (.int, 20, .inl fun _ => 0), .inl (.int, 20, .inl fun _ => 0), .inl (.int, 160, .inl fun _ => 0), .inl (.int, 20, .inl fun _ => 0), .inl (.int, 9, .inl fun _ => 0)] : am_H) _
  refine am_wp_ok (inl := []) 12 0 91 [] _ _ _ _ _ ?_
  exact And.intro rfl rfl
set_option maxRecDepth 100000 in
set_option maxHeartbeats 4000000 in
theorem ct_16 (ro : Nat → Option am_C) (c0 c1 c2 c3 c4 c5 c6 c7 c8 c9 c10 c11 c12 c13 c14 c15 : am_C) : am_run ro 2 56 [.ref 16] [c0, c1, c2, c3, c4, c5, c6, c7, c8, c9, c10, c11, c12, c13, c14, c15, .inr (6, [.null, .null, .null])] none [c0, c1, c2, c3, c4, c5, c6, c7, c8, c9, c10, c11, c12, c13, c14, c15, .inr (6, [.ref 17, .ref 24, .ref 32]), .inr (7, [.ref 18, .ref 19, .ref 20, .ref 21, .ref 22, .ref 23, .int 0, .int 0]), .inl (.int, 30, .inl fun _ => 0), .inl (.int, 30, .inl fun _ => 0), .inl (.int, 30, .inl fun _ => 0), .inl (.int, 60, .inl fun _ => 0), .inl (.int, 60, .inl fun _ => 0), .inl (.int, 60, .inl fun _ => 0), .inr (8, [.ref 25, .ref 26, .ref 27, .ref 28, .ref 29, .ref 30, .ref 31, .int 0, .int 0, .int 0]), .inl (.int, 16, .inl fun _ => 0), .inl (.int, 16, .inl fun _ => 0), .inl (.int, 16, .inl fun _ => 0), .inl (.int, 20, .inl fun _ => 0), .inl (.int, 20, .inl fun _ => 0), .inl (.int, 20, .inl fun _ => 0), .inl (.int, 20, .inl fun _ => 0), .inr (9, [.ref 33, .ref 34, .ref 35, .ref 36, .ref 37, .int 0]), .inl (.int, 20, .inl fun _ => 0), .inl (.int, 20, .inl fun _ => 0), .inl (.int, 160, .inl fun _ => 0), .inl (.int, 20, .inl fun _ => 0), .inl (.int, 9, .inl fun _ => 0)] := by
  refine am_run_of rfl ?_
  refine am_wp_ok (inl := []) 12 1 56 [15] _ _ _ _ _ ?_
  refine ⟨_, _, am_run_up (ct_17 ro _ _ _ _ _ _ _ _ _ _ _ _ _ _ _ _ _) (by decide), ?_⟩
  show am_T ro 1 56 15 [.ref 16] [] ([c0, c1, c2, c3, c4, c5, c6, c7, c8, c9, c10, c11, c12, c13, c14, c15, .inr (6, [.ref 17, .null, .null]), .inr (7, [.ref 18, .ref 19, .ref 20, .ref 21, .ref 22, .ref 23, .int 0, .int 0]), .inl (.int, 30, .inl fun _ => 0), .inl (.int, 30, .inl fun _ => 0), .inl (.int, 30, .inl fun _ => 0), .inl (.int, 60, .inl fun _ => 0), .inl (.int, 60, .inl fun _ => 0), .inl (.int, 60, .inl fun _ => 0)] : am_H) _
  refine am_wp_ok (inl := []) 12 1 56 [26] _ _ _ _ _ ?_
  refine ⟨_, _, am_run_up (ct_24 ro _ _ _ _ _ _ _ _ _ _ _ _ _ _ _ _ _ _ _ _ _ _ _ _) (by decide), ?_⟩
  show am_T ro 1 56 26 [.ref 16] [] ([c0, c1, c2, c3, c4, c5, c6, c7, c8, c9, c10, c11, c12, c13, c14, c15, .inr (6, [.ref 17, .ref 24, .null]), .inr (7, [.ref 18, .ref 19, .ref 20, .ref 21, .ref 22, .ref 23, .int 0, .int 0]), .inl (.int, 30, .inl fun _ => 0), .inl (.int, 30, .inl fun _ => 0), .inl (.int, 30, .inl fun _ => 0), .inl (.int, 60, .inl fun _ => 0), .inl (.int, 60, .inl fun _ => 0), .inl (.int, 60, .inl fun _ => 0), .inr (8, [.ref 25, .ref 26, .ref 27, .ref 28, .ref 29, .ref 30, .ref 31, .int 0, .int 0, .int 0]), .inl (.int, 16, .inl fun _ => 0), .inl (.int, 16, .inl fun _ => 0), .inl (.int, 16, .inl fun _ => 0), .inl (.int, 20, .inl fun _ => 0), .inl (.int, 20, .inl fun _ => 0), .inl (.int, 20, .inl fun _ => 0), .inl (.int, 20, .inl fun _ => 0)] : am_H) _
  refine am_wp_ok (inl := []) 12 1 56 [37] _ _ _ _ _ ?_
  refine ⟨_, _, am_run_up (ct_32 ro _ _ _ _ _ _ _ _ _ _ _ _ _ _ _ _ _ _ _ _ _ _ _ _ _ _ _ _ _ _ _ _) (by decide), ?_⟩
  show am_T ro 1 56 37 [.ref 16] [] ([c0, c1, c2, c3, c4, c5, c6, c7, c8, c9, c10, c11, c12, c13, c14, c15, .inr (6, [.ref 17, .ref 24, .ref 32]), .inr (7, [.ref 18, .ref 19, .ref 20, .ref 21, .ref 22, .ref 23, .int 0, .int 0]), .inl (.int, 30, .inl fun _ => 0), .inl (.int, 30, .inl fun _ => 0), .inl (.int, 30, .inl fun _ => 0), .inl (.int, 60, .inl fun _ => 0), .inl (.int, 60, .inl fun _ => 0), .inl (.int, 60, .inl fun _ => 0), .inr (8, [.ref 25, .ref 26, .ref 27, .ref 28, .ref 29, .ref 30, .ref 31, .int 0, .int 0, .int 0]), .inl (.int, 16, .inl fun _ => 0), .inl (.int, 16, .inl fun _ => 0), .inl (.int, 16, .inl fun _ => 0), .inl (.int, 20, .inl fun _ => 0), .inl (.int, 20, .inl fun _ => 0), .inl (.int, 20, .inl fun _ => 0), .inl (.int, 20, .inl fun _ => 0), .inr (9, [.ref 33, .ref 34, .ref 35, .ref 36, .ref 37, .int 0]), .inl (.int, 20, .inl fun _ => 0), .inl (.int, 20, .inl fun _ => 0), .inl (.int, 160, .inl fun _ => 0), .inl (.int, 20, .inl fun _ => 0), .inl (.int, 9, .inl fun _ => 0)] : am_H) _
  refine am_wp_ok (inl := []) 12 1 56 [] _ _ _ _ _ ?_
  exact And.intro rfl rfl
set_option maxRecDepth 100000 in
set_option maxHeartbeats 4000000 in
theorem ct_39 (ro : Nat → Option am_C) (c0 c1 c2 c3 c4 c5 c6 c7 c8 c9 c10 c11 c12 c13 c14 c15 c16 c17 c18 c19 c20 c21 c22 c23 c24 c25 c26 c27 c28 c29 c30 c31 c32 c33 c34 c35 c36 c37 c38 : am_C) : am_run ro 1 68 [.ref 39] [c0, c1, c2, c3, c4, c5, c6, c7, c8, c9, c10, c11, c12, c13, c14, c15, c16, c17, c18, c19, c20, c21, c22, c23, c24, c25, c26, c27, c28, c29, c30, c31, c32, c33, c34, c35, c36, c37, c38, .inr (7, [.null, .null, .null, .null, .null, .null, .int 0, .int 0])] none [c0, c1, c2, c3, c4, c5, c6, c7, c8, c9, c10, c11, c12, c13, c14, c15, c16, c17, c18, c19, c20, c21, c22, c23, c24, c25, c26, c27, c28, c29, c30, c31, c32, c33, c34, c35, c36, c37, c38, .inr (7, [.ref 40, .ref 41, .ref 42, .ref 43, .ref 44, .ref 45, .int 0, .int 0]), .inl (.int, 30, .inl fun _ => 0), .inl (.int, 30, .inl fun _ => 0), .inl (.int, 30, .inl fun _ => 0), .inl (.int, 60, .inl fun _ => 0), .inl (.int, 60, .inl fun _ => 0), .inl (.int, 60, .inl fun _ => 0)] := by
  refine am_run_of rfl ?_
  refine am_wp_ok (inl := []) 12 0 68 [12] _ _ _ _ _ ?_
  refine And.intro (by decide) ?_
  show am_T ro 0 68 12 [.ref 39] [] ([c0, c1, c2, c3, c4, c5, c6, c7, c8, c9, c10, c11, c12, c13, c14, c15, c16, c17, c18, c19, c20, c21, c22, c23, c24, c25, c26, c27, c28, c29, c30, c31, c32, c33, c34, c35, c36, c37, c38, .inr (7, [.ref 40, .null, .null, .null, .null, .null, .int 0, .int 0]), .inl (.int, 30, .inl fun _ => 0)] : am_H) _
  refine am_wp_ok (inl := []) 12 0 68 [20] _ _ _ _ _ ?_
  refine And.intro (by decide) ?_
  show am_T ro 0 68 20 [.ref 39] [] ([c0, c1, c2, c3, c4, c5, c6, c7, c8, c9, c10, c11, c12, c13, c14, c15, c16, c17, c18, c19, c20, c21, c22, c23, c24, c25, c26, c27, c28, c29, c30, c31, c32, c33, c34, c35, c36, c37, c38, .inr (7, [.ref 40, .ref 41, .null, .null, .null, .null, .int 0, .int 0]), .inl (.int, 30, .inl fun _ => 0), .inl (.int, 30, .inl fun _ => 0)] : am_H) _
  refine am_wp_ok (inl := []) 12 0 68 [28] _ _ _ _ _ ?_
  refine And.intro (by decide) ?_
  show am_T ro 0 68 28 [.ref 39] [] ([c0, c1, c2, c3, c4, c5, c6, c7, c8, c9, c10, c11, c12, c13, c14, c15, c16, c17, c18, c19, c20, c21, c22, c23, c24, c25, c26, c27, c28, c29, c30, c31, c32, c33, c34, c35, c36, c37, c38, .inr (7, [.ref 40, .ref 41, .ref 42, .null, .null, .null, .int 0, .int 0]), .inl (.int, 30, .inl fun _ => 0), .inl (.int, 30, .inl fun _ => 0), .inl (.int, 30, .inl fun _ => 0)] : am_H) _
  refine am_wp_ok (inl := []) 12 0 68 [36] _ _ _ _ _ ?_
  refine And.intro (by decide) ?_
  show am_T ro 0 68 36 [.ref 39] [] ([c0, c1, c2, c3, c4, c5, c6, c7, c8, c9, c10, c11, c12, c13, c14, c15, c16, c17, c18, c19, c20, c21, c22, c23, c24, c25, c26, c27, c28, c29, c30, c31, c32, c33, c34, c35, c36, c37, c38, .inr (7, [.ref 40, .ref 41, .ref 42, .ref 43, .null, .null, .int 0, .int 0]), .inl (.int, 30, .inl fun _ => 0), .inl (.int, 30, .inl fun _ => 0), .inl (.int, 30, .inl fun _ => 0), .inl (.int, 60, .inl fun _ => 0)] : am_H) _
  refine am_wp_ok (inl := []) 12 0 68 [44] _ _ _ _ _ ?_
  refine And.intro (by decide) ?_
  show am_T ro 0 68 44 [.ref 39] [] ([c0, c1, c2, c3, c4, c5, c6, c7, c8, c9, c10, c11, c12, c13, c14, c15, c16, c17, c18, c19, c20, c21, c22, c23, c24, c25, c26, c27, c28, c29, c30, c31, c32, c33, c34, c35, c36, c37, c38, .inr (7, [.ref 40, .ref 41, .ref 42, .ref 43, .ref 44, .null, .int 0, .int 0]), .inl (.int, 30, .inl fun _ => 0), .inl (.int, 30, .inl fun _ => 0), .inl (.int, 30, .inl fun _ => 0), .inl (.int, 60, .inl fun _ => 0), .inl (.int, 60, .inl fun _ => 0)] : am_H) _
  refine am_wp_ok (inl := []) 12 0 68 [52] _ _ _ _ _ ?_
  refine And.intro (by decide) ?_
  show am_T ro 0 68 52 [.ref 39] [] ([c0, c1, c2, c3, c4, c5, c6, c7, c8, c9, c10, c11, c12, c13, c14, c15, c16, c17, c18, c19, c20, c21, c22, c23, c24, c25, c26, c27, c28, c29, c30, c31, c32, c33, c34, c35, c36, c37, c38, .inr (7, [.ref 40, .ref 41, .ref 42, .ref 43, .ref 44, .ref 45, .int 0, .int 0]), .inl (.int, 30, .inl fun _ => 0), .inl (.int, 30, .inl fun _ => 0), .inl (.int, 30, .inl fun _ => 0), .inl (.int, 60, .inl fun _ => 0), .inl (.int, 60, .inl fun _ => 0), .inl (.int, 60, .inl fun _ => 0)] : am_H) _
  refine am_wp_ok (inl := []) 12 0 68 [] _ _ _ _ _ ?_
  exact And.intro rfl rfl
set_option maxRecDepth 100000 in
set_option maxHeartbeats 4000000 in
theorem ct_46 (ro : Nat → Option am_C) (c0 c1 c2 c3 c4 c5 c6 c7 c8 c9 c10 c11 c12 c13 c14 c15 c16 c17 c18 c19 c20 c21 c22 c23 c24 c25 c26 c27 c28 c29 c30 c31 c32 c33 c34 c35 c36 c37 c38 c39 c40 c41 c42 c43 c44 c45 : am_C) : am_run ro 1 79 [.ref 46] [c0, c1, c2, c3, c4, c5, c6, c7, c8, c9, c10, c11, c12, c13, c14, c15, c16, c17, c18, c19, c20, c21, c22, c23, c24, c25, c26, c27, c28, c29, c30, c31, c32, c33, c34, c35, c36, c37, c38, c39, c40, c41, c42, c43, c44, c45, .inr (8, [.null, .null, .null, .null, .null, .null, .null, .int 0, .int 0, .int 0])] none [c0, c1, c2, c3, c4, c5, c6, c7, c8, c9, c10, c11, c12, c13, c14, c15, c16, c17, c18, c19, c20, c21, c22, c23, c24, c25, c26, c27, c28, c29, c30, c31, c32, c33, c34, c35, c36, c37, c38, c39, c40, c41, c42, c43, c44, c45, .inr (8, [.ref 47, .ref 48, .ref 49, .ref 50, .ref 51, .ref 52, .ref 53, .int 0, .int 0, .int 0]), .inl (.int, 16, .inl fun _ => 0), .inl (.int, 16, .inl fun _ => 0), .inl (.int, 16, .inl fun _ => 0), .inl (.int, 20, .inl fun _ => 0), .inl (.int, 20, .inl fun _ => 0), .inl (.int, 20, .inl fun _ => 0), .inl (.int, 20, .inl fun _ => 0)] := by
  refine am_run_of rfl ?_
  refine am_wp_ok (inl := []) 12 0 79 [12] _ _ _ _ _ ?_
  refine And.intro (by decide) ?_
  show am_T ro 0 79 12 [.ref 46] [] ([c0, c1, c2, c3, c4, c5, c6, c7, c8, c9, c10, c11, c12, c13, c14, c15, c16, c17, c18, c19, c20, c21, c22, c23, c24, c25, c26, c27, c28, c29, c30, c31, c32, c33, c34, c35, c36, c37, c38, c39, c40, c41, c42, c43, c44, c45, .inr (8, [.ref 47, .null, .null, .null, .null, .null, .null, .int 0, .int 0, .int 0]), .inl (.int, 16, .inl fun _ => 0)] : am_H) _
  refine am_wp_ok (inl := []) 12 0 79 [20] _ _ _ _ _ ?_
  refine And.intro (by decide) ?_
  show am_T ro 0 79 20 [.ref 46] [] ([c0, c1, c2, c3, c4, c5, c6, c7, c8, c9, c10, c11, c12, c13, c14, c15, c16, c17, c18, c19, c20, c21, c22, c23, c24, c25, c26, c27, c28, c29, c30, c31, c32, c33, c34, c35, c36, c37, c38, c39, c40, c41, c42, c43, c44, c45, .inr (8, [.ref 47, .ref 48, .null, .null, .null, .null, .null, .int 0, .int 0, .int 0]), .inl (.int, 16, .inl fun _ => 0), .inl (.int, 16, .inl fun _ => 0)] : am_H) _
  refine am_wp_ok (inl := []) 12 0 79 [28] _ _ _ _ _ ?_
  refine And.intro (by decide) ?_
  show am_T ro 0 79 28 [.ref 46] [] ([c0, c1, c2, c3, c4, c5, c6, c7, c8, c9, c10, c11, c12, c13, c14, c15, c16, c17, c18, c19, c20, c21, c22, c23, c24, c25, c26, c27, c28, c29, c30, c31, c32, c33, c34, c35, c36, c37, c38, c39, c40, c41, c42, c43, c44, c45, .inr (8, [.ref 47, .ref 48, .ref 49, .null, .null, .null, .null, .int 0, .int 0, .int 0]), .inl (.int, 16, .inl fun _ => 0), .inl (.int, 16, .inl fun _ => 0), .inl (.int, 16, .inl fun _ => 0)] : am_H) _
  refine am_wp_ok (inl := []) 12 0 79 [36] _ _ _ _ _ ?_
  refine And.intro (by decide) ?_
  show am_T ro 0 79 36 [.ref 46] [] ([c0, c1, c2, c3, c4, c5, c6, c7, c8, c9, c10, c11, c12, c13, c14, c15, c16, c17, c18, c19, c20, c21, c22, c23, c24, c25, c26, c27, c28, c29, c30, c31, c32, c33, c34, c35, c36, c37, c38, c39, c40, c41, c42, c43, c44, c45, .inr (8, [.ref 47, .ref 48, .ref 49, .ref 50, .null, .null, .null, .int 0, .int 0, .int 0]), .inl (.int, 16, .inl fun _ => 0), .inl (.int, 16, .inl fun _ => 0), .inl (.int, 16, .inl fun _ => 0), .inl (.int, 20, .inl fun _ => 0)] : am_H) _
  refine am_wp_ok (inl := []) 12 0 79 [44] _ _ _ _ _ ?_
  refine And.intro (by decide) ?_
  show am_T ro 0 79 44 [.ref 46] [] ([c0, c1, c2, c3, c4, c5, c6, c7, c8, c9, c10, c11, c12, c13, c14, c15, c16, c17, c18, c19, c20, c21, c22, c23, c24, c25, c26, c27, c28, c29, c30, c31, c32, c33, c34, c35, c36, c37, c38, c39, c40, c41, c42, c43, c44, c45, .inr (8, [.ref 47, .ref 48, .ref 49, .ref 50, .ref 51, .null, .null, .int 0, .int 0, .int 0]), .inl (.int, 16, .inl fun _ => 0), .inl (.int, 16, .inl fun _ => 0), .inl (.int, 16, .inl fun _ => 0), .inl (.int, 20, .inl fun _ => 0), .inl (.int, 20, .inl fun _ => 0)] : am_H) _
  refine am_wp_ok (inl := []) 12 0 79 [52] _ _ _ _ _ ?_
  refine And.intro (by decide) ?_
  show am_T ro 0 79 52 [.ref 46] [] ([c0, c1, c2, c3, c4, c5, c6, c7, c8, c9, c10, c11, c12, c13, c14, c15, c16, c17, c18, c19, c20, c21, c22, c23, c24, c25, c26, c27, c28, c29, c30, c31, c32, c33, c34, c35, c36, c37, c38, c39, c40, c41, c42, c43, c44, c45, .inr (8, [.ref 47, .ref 48, .ref 49, .ref 50, .ref 51, .ref 52, .null, .int 0, .int 0, .int 0]), .inl (.int, 16, .inl fun _ => 0), .inl (.int, 16, .inl fun _ => 0), .inl (.int, 16, .inl fun _ => 0), .inl (.int, 20, .inl fun _ => 0), .inl (.int, 20, .inl fun _ => 0), .inl (.int, 20, .inl fun _ => 0)] : am_H) _
  refine am_wp_ok (inl := []) 12 0 79 [60] _ _ _ _ _ ?_
  refine And.intro (by decide) ?_
  show am_T ro 0 79 60 [.ref 46] [] ([c0, c1, c2, c3, c4, c5, c6, c7, c8, c9, c10, c11, c12, c13, c14, c15, c16, c17, c18, c19, c20, c21, c22, c23, c24, c25, c26, c27, c28, c29, c30, c31, c32, c33, c34, c35, c36, c37, c38, c39, c40, c41, c42, c43, c44, c45, .inr (8, [.ref 47, .ref 48, .ref 49, .ref 50, .ref 51, .ref 52, .ref 53, .int 0, .int 0, .int 0]), .inl (.int, 16, .inl fun _ => 0), .inl (.int, 16, .inl fun _ => 0), .inl (.int, 16, .inl fun _ => 0), .inl (.int, 20, .inl fun _ => 0), .inl (.int, 20, .inl fun _ => 0), .inl (.int, 20, .inl fun _ => 0), .inl (.int, 20, .inl fun _ => 0)] : am_H) _
  refine am_wp_ok (inl := []) 12 0 79 [] _ _ _ _ _ ?_
  exact And.intro rfl rfl
set_option maxRecDepth 100000 in
set_option maxHeartbeats 4000000 in
theorem ct_54 (ro : Nat → Option am_C) (c0 c1 c2 c3 c4 c5 c6 c7 c8 c9 c10 c11 c12 c13 c14 c15 c16 c17 c18 c19 c20 c21 c22 c23 c24 c25 c26 c27 c28 c29 c30 c31 c32 c33 c34 c35 c36 c37 c38 c39 c40 c41 c42 c43 c44 c45 c46 c47 c48 c49 c50 c51 c52 c53 : am_C) : am_run ro 1 91 [.ref 54] [c0, c1, c2, c3, c4, c5, c6, c7, c8, c9, c10, c11, c12, c13, c14, c15, c16, c17, c18, c19, c20, c21, c22, c23, c24, c25, c26, c27, c28, c29, c30, c31, c32, c33, c34, c35, c36, c37, c38, c39, c40, c41, c42, c43, c44, c45, c46, c47, c48, c49, c50, c51, c52, c53, .inr (9, [.null, .null, .null, .null, .null, .int 0])] none [c0, c1, c2, c3, c4, c5, c6, c7, c8, c9, c10, c11, c12, c13, c14, c15, c16, c17, c18, c19, c20, c21, c22, c23, c24, c25, c26, c27, c28, c29, c30, c31, c32, c33, c34, c35, c36, c37, c38, c39, c40, c41, c42, c43, c44, c45, c46, c47, c48, c49, c50, c51, c52, c53, .inr (9, [.ref 55, .ref 56, .ref 57, .ref 58, .ref 59, .int 0]), .inl (.int, 20, .inl fun _ => 0), .inl (.int, 20, .inl fun _ => 0), .inl (.int, 160, .inl fun _ => 0), .inl (.int, 20, .inl fun _ => 0), .inl (.int, 9, .inl fun _ => 0)] := by
  refine am_run_of rfl ?_
  refine am_wp_ok (inl := []) 12 0 91 [12] _ _ _ _ _ ?_
  refine And.intro (by decide) ?_
  show am_T ro 0 91 12 [.ref 54] [] ([c0, c1, c2, c3, c4, c5, c6, c7, c8, c9, c10, c11, c12, c13, c14, c15, c16, c17, c18, c19, c20, c21, c22, c23, c24, c25, c26, c27, c28, c29, c30, c31, c32, c33, c34, c35, c36, c37, c38, c39, c40, c41, c42, c43, c44, c45, c46, c47, c48, c49, c50, c51, c52, c53, .inr (9, [.ref 55, .null, .null, .null, .null, .int 0]), .inl (.int, 20, .inl fun _ => 0)] : am_H) _
  refine am_wp_ok (inl := []) 12 0 91 [20] _ _ _ _ _ ?_
  refine And.intro (by decide) ?_
  show am_T ro 0 91 20 [.ref 54] [] ([c0, c1, c2, c3, c4, c5, c6, c7, c8, c9, c10, c11, c12, c13, c14, c15, c16, c17, c18, c19, c20, c21, c22, c23, c24, c25, c26, c27, c28, c29, c30, c31, c32, c33, c34, c35, c36, c37, c38, c39, c40, c41, c42, c43, c44, c45, c46, c47, c48, c49, c50, c51, c52, c53, .inr (9, [.ref 55, .ref 56, .null, .null, .null, .int 0]), .inl (.int, 20, .inl fun _ => 0), .inl (.int, 20, .inl fun _ => 0)] : am_H) _
  refine am_wp_ok (inl := []) 12 0 91 [29] _ _ _ _ _ ?_
  refine And.intro (by decide) ?_
  show am_T ro 0 91 29 [.ref 54] [] ([c0, c1, c2, c3, c4, c5, c6, c7, c8, c9, c10, c11, c12, c13, c14, c15, c16, c17, c18, c19, c20, c21, c22, c23, c24, c25, c26, c27, c28, c29, c30, c31, c32, c33, c34, c35, c36, c37, c38, c39, c40, c41, c42, c43, c44, c45, c46, c47, c48, c49, c50, c51, c52, c53, .inr (9, [.ref 55, .ref 56, .ref 57, .null, .null, .int 0]), .inl (.int, 20, .inl fun _ => 0), .inl (.int, 20, .inl fun _ => 0), .inl (.int, 160, .inl fun _ => 0)] : am_H) _
  refine am_wp_ok (inl := []) 12 0 91 [37] _ _ _ _ _ ?_
  refine And.intro (by decide) ?_
  show am_T ro 0 91 37 [.ref 54] [] ([c0, c1, c2, c3, c4, c5, c6, c7, c8, c9, c10, c11, c12, c13, c14, c15, c16, c17, c18, c19, c20, c21, c22, c23, c24, c25, c26, c27, c28, c29, c30, c31, c32, c33, c34, c35, c36, c37, c38, c39, c40, c41, c42, c43, c44, c45, c46, c47, c48, c49, c50, c51, c52, c53, .inr (9, [.ref 55, .ref 56, .ref 57, .ref 58, .null, .int 0]), .inl (.int, 20, .inl fun _ => 0), .inl (.int, 20, .inl fun _ => 0), .inl (.int, 160, .inl fun _ => 0), .inl (.int, 20, .inl fun _ => 0)] : am_H) _
  refine am_wp_ok (inl := []) 12 0 91 [45] _ _ _ _ _ ?_
  refine And.intro (by decide) ?_
  show am_T ro 0 91 45 [.ref 54] [] ([c0, c1, c2, c3, c4, c5, c6, c7, c8, c9, c10, c11, c12, c13, c14, c15, c16, c17, c18, c19, c20, c21, c22, c23, c24, c25, c26, c27, c28, c29, c30, c31, c32, c33, c34, c35, c36, c37, c38, c39, c40, c41, c42, c43, c44, c45, c46, c47, c48, c49, c50, c51, c52, c53, .inr (9, [.ref 55, .ref 56, .ref 57, .ref 58, .ref 59, .int 0]), .inl (.int, 20, .inl fun _ => 0), .inl (.int, 20, .inl fun _ => 0), .inl (.int, 160, .inl fun _ => 0), .inl (.int, 20, .inl fun _ => 0), .inl (.int, 9, .inl fun _ => 0)] : am_H) _
  refine am_wp_ok (inl := []) 12 0 91 [] _ _ _ _ _ ?_
  exact And.intro rfl rfl
set_option maxRecDepth 100000 in
set_option maxHeartbeats 4000000 in
theorem ct_38 (ro : Nat → Option am_C) (c0 c1 c2 c3 c4 c5 c6 c7 c8 c9 c10 c11 c12 c13 c14 c15 c16 c17 c18 c19 c20 c21 c22 c23 c24 c25 c26 c27 c28 c29 c30 c31 c32 c33 c34 c35 c36 c37 : am_C) : am_run ro 2 56 [.ref 38] [c0, c1, c2, c3, c4, c5, c6, c7, c8, c9, c10, c11, c12, c13, c14, c15, c16, c17, c18, c19, c20, c21, c22, c23, c24, c25, c26, c27, c28, c29, c30, c31, c32, c33, c34, c35, c36, c37, .inr (6, [.null, .null, .null])] none [c0, c1, c2, c3, c4, c5, c6, c7, c8, c9, c10, c11, c12, c13, c14, c15, c16, c17, c18, c19, c20, c21, c22, c23, c24, c25, c26, c27, c28, c29, c30, c31, c32, c33, c34, c35, c36, c37, .inr (6, [.ref 39, .ref 46, .ref 54]), .inr (7, [.ref 40, .ref 41, .ref 42, .ref 43, .ref 44, .ref 45, .int 0, .int 0]), .inl (.int, 30, .inl fun _ => 0), .inl (.int, 30, .inl fun _ => 0), .inl (.int, 30, .inl fun _ => 0), .inl (.int, 60, .inl fun _ => 0), .inl (.int, 60, .inl fun _ => 0), .inl (.int, 60, .inl fun _ => 0), .inr (8, [.ref 47, .ref 48, .ref 49, .ref 50, .ref 51, .ref 52, .ref 53, .int 0, .int 0, .int 0]), .inl (.int, 16, .inl fun _ => 0), .inl (.int, 16, .inl fun _ => 0), .inl (.int, 16, .inl fun _ => 0), .inl (.int, 20, .inl fun _ => 0), .inl (.int, 20, .inl fun _ => 0), .inl (.int, 20, .inl fun _ => 0), .inl (.int, 20, .inl fun _ => 0), .inr (9, [.ref 55, .ref 56, .ref 57, .ref 58, .ref 59, .int 0]), .inl (.int, 20, .inl fun _ => 0), .inl (.int, 20, .inl fun _ => 0), .inl (.int, 160, .inl fun _ => 0), .inl (.int, 20, .inl fun _ => 0), .inl (.int, 9, .inl fun _ => 0)] := by
  refine am_run_of rfl ?_
  refine am_wp_ok (inl := []) 12 1 56 [15] _ _ _ _ _ ?_
  refine ⟨_, _, am_run_up (ct_39 ro _ _ _ _ _ _ _ _ _ _ _ _ _ _ _ _ _ _ _ _ _ _ _ _ _ _ _ _ _ _ _ _ _ _ _ _ _ _ _) (by decide), ?_⟩
  show am_T ro 1 56 15 [.ref 38] [] ([c0, c1, c2, c3, c4, c5, c6, c7, c8, c9, c10, c11, c12, c13, c14, c15, c16, c17, c18, c19, c20, c21, c22, c23, c24, c25, c26, c27, c28, c29, c30, c31, c32, c33, c34, c35, c36, c37, .inr (6, [.ref 39, .null, .null]), .inr (7, [.ref 40, .ref 41, .ref 42, .ref 43, .ref 44, .ref 45, .int 0, .int 0]), .inl (.int, 30, .inl fun _ => 0), .inl (.int, 30, .inl fun _ => 0), .inl (.int, 30, .inl fun _ => 0), .inl (.int, 60, .inl fun _ => 0), .inl (.int, 60, .inl fun _ => 0), .inl (.int, 60, .inl fun _ => 0)] : am_H) _
  refine am_wp_ok (inl := []) 12 1 56 [26] _ _ _ _ _ ?_
  refine ⟨_, _, am_run_up (ct_46 ro _ _ _ _ _ _ _ _ _ _ _ _ _ _ _ _ _ _ _ _ _ _ _ _ _ _ _ _ _ _ _ _ _ _ _ _ _ _ _ _ _ _ _ _ _ _) (by decide), ?_⟩
  show am_T ro 1 56 26 [.ref 38] [] ([c0, c1, c2, c3, c4, c5, c6, c7, c8, c9, c10, c11, c12, c13, c14, c15, c16, c17, c18, c19, c20, c21, c22, c23, c24, c25, c26, c27, c28, c29, c30, c31, c32, c33, c34, c35, c36, c37, .inr (6, [.ref 39, .ref 46, .null]), .inr (7, [.ref 40, .ref 41, .ref 42, .ref 43, .ref 44, .ref 45, .int 0, .int 0]), .inl (.int, 30, .inl fun _ => 0), .inl (.int, 30, .inl fun _ => 0), .inl (.int, 30, .inl fun _ => 0), .inl (.int, 60, .inl fun _ => 0), .inl (.int, 60, .inl fun _ => 0), .inl (.int, 60, .inl fun _ => 0), .inr (8, [.ref 47, .ref 48, .ref 49, .ref 50, .ref 51, .ref 52, .ref 53, .int 0, .int 0, .int 0]), .inl (.int, 16, .inl fun _ => 0), .inl (.int, 16, .inl fun _ => 0), .inl (.int, 16, .inl fun _ => 0), .inl (.int, 20, .inl fun _ => 0), .inl (.int, 20, .inl fun _ => 0), .inl (.int, 20, .inl fun _ => 0), .inl (.int, 20, .inl fun _ => 0)] : am_H) _
  refine am_wp_ok (inl := []) 12 1 56 [37] _ _ _ _ _ ?_
  refine ⟨_, _, am_run_up (ct_54 ro _ _ _ _ _ _ _ _ _ _ _ _ _ _ _ _ _ _ _ _ _ _ _ _ _ _ _ _ _ _ _ _ _ _ _ _ _ _ _ _ _ _ _ _ _ _ _ _ _ _ _ _ _ _) (by decide), ?_⟩
  show am_T ro 1 56 37 [.ref 38] [] ([c0, c1, c2, c3, c4, c5, c6, c7, c8, c9, c10, c11, c12, c13, c14, c15, c16, c17, c18, c19, c20, c21, c22, c23, c24, c25, c26, c27, c28, c29, c30, c31, c32, c33, c34, c35, c36, c37, .inr (6, [.ref 39, .ref 46, .ref 54]), .inr (7, [.ref 40, .ref 41, .ref 42, .ref 43, .ref 44, .ref 45, .int 0, .int 0]), .inl (.int, 30, .inl fun _ => 0), .inl (.int, 30, .inl fun _ => 0), .inl (.int, 30, .inl fun _ => 0), .inl (.int, 60, .inl fun _ => 0), .inl (.int, 60, .inl fun _ => 0), .inl (.int, 60, .inl fun _ => 0), .inr (8, [.ref 47, .ref 48, .ref 49, .ref 50, .ref 51, .ref 52, .ref 53, .int 0, .int 0, .int 0]), .inl (.int, 16, .inl fun _ => 0), .inl (.int, 16, .inl fun _ => 0), .inl (.int, 16, .inl fun _ => 0), .inl (.int, 20, .inl fun _ => 0), .inl (.int, 20, .inl fun _ => 0), .inl (.int, 20, .inl fun _ => 0), .inl (.int, 20, .inl fun _ => 0), .inr (9, [.ref 55, .ref 56, .ref 57, .ref 58, .ref 59, .int 0]), .inl (.int, 20, .inl fun _ => 0), .inl (.int, 20, .inl fun _ => 0), .inl (.int, 160, .inl fun _ => 0), .inl (.int, 20, .inl fun _ => 0), .inl (.int, 9, .inl fun _ => 0)] : am_H) _
  refine am_wp_ok (inl := []) 12 1 56 [] _ _ _ _ _ ?_
  exact And.intro rfl rfl
set_option maxRecDepth 100000 in
set_option maxHeartbeats 4000000 in
theorem ct_0 (ro : Nat → Option am_C) : am_run ro 3 0 [.ref 0] [.inr (0, [.null, .null, .null, .null, .null, .null, .null])] none [.inr (0, [.ref 1, .ref 3, .ref 6, .ref 9, .ref 13, .ref 16, .ref 38]), .inr (1, [.ref 2, .int 0, .int 0, .int 0, .int 0]), .inl (.int, 900, .inl fun _ => 0), .inr (2, [.ref 4, .ref 5]), .inl (.boolean, 10, .inl fun _ => 0), .inl (.int, 10, .inl fun _ => 0), .inr (3, [.ref 7, .ref 8]), .inl (.int, 6, .inl fun _ => 0), .inl (.int, 6, .inl fun _ => 0), .inr (4, [.ref 10, .ref 11, .ref 12, .int 0]), .inl (.int, 6, .inl fun _ => 0), .inl (.int, 30, .inl fun _ => 0), .inl (.int, 30, .inl fun _ => 0), .inr (5, [.ref 14, .ref 15]), .inl (.int, 8, .inl fun _ => 0), .inl (.int, 96, .inl fun _ => 0), .inr (6, [.ref 17, .ref 24, .ref 32]), .inr (7, [.ref 18, .ref 19, .ref 20, .ref 21, .ref 22, .ref 23, .int 0, .int 0]), .inl (.int, 30, .inl fun _ => 0), .inl (.int, 30, .inl fun _ => 0), .inl (.int, 30, .inl fun _ => 0), .inl (.int, 60, .inl fun _ => 0), .inl (.int, 60, .inl fun _ => 0), .inl (.int, 60, .inl fun _ => 0), .inr (8, [.ref 25, .ref 26, .ref 27, .ref 28, .ref 29, .ref 30, .ref 31, .int 0, .int 0, .int 0]), .inl (.int, 16, .inl fun _ => 0), .inl (.int, 16, .inl fun _ => 0), .inl (.int, 16, .inl fun _ => 0), .inl (.int, 20, .inl fun _ => 0), .inl (.int, 20, .inl fun _ => 0), .inl (.int, 20, .inl fun _ => 0), .inl (.int, 20, .inl fun _ => 0), .inr (9, [.ref 33, .ref 34, .ref 35, .ref 36, .ref 37, .int 0]), .inl (.int, 20, .inl fun _ => 0), .inl (.int, 20, .inl fun _ => 0), .inl (.int, 160, .inl fun _ => 0), .inl (.int, 20, .inl fun _ => 0), .inl (.int, 9, .inl fun _ => 0), .inr (6, [.ref 39, .ref 46, .ref 54]), .inr (7, [.ref 40, .ref 41, .ref 42, .ref 43, .ref 44, .ref 45, .int 0, .int 0]), .inl (.int, 30, .inl fun _ => 0), .inl (.int, 30, .inl fun _ => 0), .inl (.int, 30, .inl fun _ => 0), .inl (.int, 60, .inl fun _ => 0), .inl (.int, 60, .inl fun _ => 0), .inl (.int, 60, .inl fun _ => 0), .inr (8, [.ref 47, .ref 48, .ref 49, .ref 50, .ref 51, .ref 52, .ref 53, .int 0, .int 0, .int 0]), .inl (.int, 16, .inl fun _ => 0), .inl (.int, 16, .inl fun _ => 0), .inl (.int, 16, .inl fun _ => 0), .inl (.int, 20, .inl fun _ => 0), .inl (.int, 20, .inl fun _ => 0), .inl (.int, 20, .inl fun _ => 0), .inl (.int, 20, .inl fun _ => 0), .inr (9, [.ref 55, .ref 56, .ref 57, .ref 58, .ref 59, .int 0]), .inl (.int, 20, .inl fun _ => 0), .inl (.int, 20, .inl fun _ => 0), .inl (.int, 160, .inl fun _ => 0), .inl (.int, 20, .inl fun _ => 0), .inl (.int, 9, .inl fun _ => 0)] := by
  refine am_run_of rfl ?_
  refine am_wp_ok (inl := []) 12 2 0 [15] _ _ _ _ _ ?_
  refine ⟨_, _, am_run_up (ct_1 ro _) (by decide), ?_⟩
  show am_T ro 2 0 15 [.ref 0] [] ([.inr (0, [.ref 1, .null, .null, .null, .null, .null, .null]), .inr (1, [.ref 2, .int 0, .int 0, .int 0, .int 0]), .inl (.int, 900, .inl fun _ => 0)] : am_H) _
  refine am_wp_ok (inl := []) 12 2 0 [26] _ _ _ _ _ ?_
  refine ⟨_, _, am_run_up (ct_3 ro _ _ _) (by decide), ?_⟩
  show am_T ro 2 0 26 [.ref 0] [] ([.inr (0, [.ref 1, .ref 3, .null, .null, .null, .null, .null]), .inr (1, [.ref 2, .int 0, .int 0, .int 0, .int 0]), .inl (.int, 900, .inl fun _ => 0), .inr (2, [.ref 4, .ref 5]), .inl (.boolean, 10, .inl fun _ => 0), .inl (.int, 10, .inl fun _ => 0)] : am_H) _
  refine am_wp_ok (inl := []) 12 2 0 [37] _ _ _ _ _ ?_
  refine ⟨_, _, am_run_up (ct_6 ro _ _ _ _ _ _) (by decide), ?_⟩
  show am_T ro 2 0 37 [.ref 0] [] ([.inr (0, [.ref 1, .ref 3, .ref 6, .null, .null, .null, .null]), .inr (1, [.ref 2, .int 0, .int 0, .int 0, .int 0]), .inl (.int, 900, .inl fun _ => 0), .inr (2, [.ref 4, .ref 5]), .inl (.boolean, 10, .inl fun _ => 0), .inl (.int, 10, .inl fun _ => 0), .inr (3, [.ref 7, .ref 8]), .inl (.int, 6, .inl fun _ => 0), .inl (.int, 6, .inl fun _ => 0)] : am_H) _
  refine am_wp_ok (inl := []) 12 2 0 [48] _ _ _ _ _ ?_
  refine ⟨_, _, am_run_up (ct_9 ro _ _ _ _ _ _ _ _ _) (by decide), ?_⟩
  show am_T ro 2 0 48 [.ref 0] [] ([.inr (0, [.ref 1, .ref 3, .ref 6, .ref 9, .null, .null, .null]), .inr (1, [.ref 2, .int 0, .int 0, .int 0, .int 0]), .inl (.int, 900, .inl fun _ => 0), .inr (2, [.ref 4, .ref 5]), .inl (.boolean, 10, .inl fun _ => 0), .inl (.int, 10, .inl fun _ => 0), .inr (3, [.ref 7, .ref 8]), .inl (.int, 6, .inl fun _ => 0), .inl (.int, 6, .inl fun _ => 0), .inr (4, [.ref 10, .ref 11, .ref 12, .int 0]), .inl (.int, 6, .inl fun _ => 0), .inl (.int, 30, .inl fun _ => 0), .inl (.int, 30, .inl fun _ => 0)] : am_H) _
  refine am_wp_ok (inl := []) 12 2 0 [59] _ _ _ _ _ ?_
  refine ⟨_, _, am_run_up (ct_13 ro _ _ _ _ _ _ _ _ _ _ _ _ _) (by decide), ?_⟩
  show am_T ro 2 0 59 [.ref 0] [] ([.inr (0, [.ref 1, .ref 3, .ref 6, .ref 9, .ref 13, .null, .null]), .inr (1, [.ref 2, .int 0, .int 0, .int 0, .int 0]), .inl (.int, 900, .inl fun _ => 0), .inr (2, [.ref 4, .ref 5]), .inl (.boolean, 10, .inl fun _ => 0), .inl (.int, 10, .inl fun _ => 0), .inr (3, [.ref 7, .ref 8]), .inl (.int, 6, .inl fun _ => 0), .inl (.int, 6, .inl fun _ => 0), .inr (4, [.ref 10, .ref 11, .ref 12, .int 0]), .inl (.int, 6, .inl fun _ => 0), .inl (.int, 30, .inl fun _ => 0), .inl (.int, 30, .inl fun _ => 0), .inr (5, [.ref 14, .ref 15]), .inl (.int, 8, .inl fun _ => 0), .inl (.int, 96, .inl fun _ => 0)] : am_H) _
  refine am_wp_ok (inl := []) 12 2 0 [70] _ _ _ _ _ ?_
  refine ⟨_, _, am_run_up (ct_16 ro _ _ _ _ _ _ _ _ _ _ _ _ _ _ _ _) (by decide), ?_⟩
  show am_T ro 2 0 70 [.ref 0] [] ([.inr (0, [.ref 1, .ref 3, .ref 6, .ref 9, .ref 13, .ref 16, .null]), .inr (1, [.ref 2, .int 0, .int 0, .int 0, .int 0]), .inl (.int, 900, .inl fun _ => 0), .inr (2, [.ref 4, .ref 5]), .inl (.boolean, 10, .inl fun _ => 0), .inl (.int, 10, .inl fun _ => 0), .inr (3, [.ref 7, .ref 8]), .inl (.int, 6, .inl fun _ => 0), .inl (.int, 6, .inl fun _ => 0), .inr (4, [.ref 10, .ref 11, .ref 12, .int 0]), .inl (.int, 6, .inl fun _ => 0), .inl (.int, 30, .inl fun _ => 0), .inl (.int, 30, .inl fun _ => 0), .inr (5, [.ref 14, .ref 15]), .inl (.int, 8, .inl fun _ => 0), .inl (.int, 96, .inl fun _ => 0), .inr (6, [.ref 17, .ref 24, .ref 32]), .inr (7, [.ref 18, .ref 19, .ref 20, .ref 21, .ref 22, .ref 23, .int 0, .int 0]), .inl (.int, 30, .inl fun _ => 0), .inl (.int, 30, .inl fun _ => 0), .inl (.int, 30, .inl fun _ => 0), .inl (.int, 60, .inl fun _ => 0), .inl (.int, 60, .inl fun _ => 0), .inl (.int, 60, .inl fun _ => 0), .inr (8, [.ref 25, .ref 26, .ref 27, .ref 28, .ref 29, .ref 30, .ref 31, .int 0, .int 0, .int 0]), .inl (.int, 16, .inl fun _ => 0), .inl (.int, 16, .inl fun _ => 0), .inl (.int, 16, .inl fun _ => 0), .inl (.int, 20, .inl fun _ => 0), .inl (.int, 20, .inl fun _ => 0), .inl (.int, 20, .inl fun _ => 0), .inl (.int, 20, .inl fun _ => 0), .inr (9, [.ref 33, .ref 34, .ref 35, .ref 36, .ref 37, .int 0]), .inl (.int, 20, .inl fun _ => 0), .inl (.int, 20, .inl fun _ => 0), .inl (.int, 160, .inl fun _ => 0), .inl (.int, 20, .inl fun _ => 0), .inl (.int, 9, .inl fun _ => 0)] : am_H) _
  refine am_wp_ok (inl := []) 12 2 0 [81] _ _ _ _ _ ?_
  refine ⟨_, _, am_run_up (ct_38 ro _ _ _ _ _ _ _ _ _ _ _ _ _ _ _ _ _ _ _ _ _ _ _ _ _ _ _ _ _ _ _ _ _ _ _ _ _ _) (by decide), ?_⟩
  show am_T ro 2 0 81 [.ref 0] [] ([.inr (0, [.ref 1, .ref 3, .ref 6, .ref 9, .ref 13, .ref 16, .ref 38]), .inr (1, [.ref 2, .int 0, .int 0, .int 0, .int 0]), .inl (.int, 900, .inl fun _ => 0), .inr (2, [.ref 4, .ref 5]), .inl (.boolean, 10, .inl fun _ => 0), .inl (.int, 10, .inl fun _ => 0), .inr (3, [.ref 7, .ref 8]), .inl (.int, 6, .inl fun _ => 0), .inl (.int, 6, .inl fun _ => 0), .inr (4, [.ref 10, .ref 11, .ref 12, .int 0]), .inl (.int, 6, .inl fun _ => 0), .inl (.int, 30, .inl fun _ => 0), .inl (.int, 30, .inl fun _ => 0), .inr (5, [.ref 14, .ref 15]), .inl (.int, 8, .inl fun _ => 0), .inl (.int, 96, .inl fun _ => 0), .inr (6, [.ref 17, .ref 24, .ref 32]), .inr (7, [.ref 18, .ref 19, .ref 20, .ref 21, .ref 22, .ref 23, .int 0, .int 0]), .inl (.int, 30, .inl fun _ => 0), .inl (.int, 30, .inl fun _ => 0), .inl (.int, 30, .inl fun _ => 0), .inl (.int, 60, .inl fun _ => 0), .inl (.int, 60, .inl fun _ => 0), .inl (.int, 60, .inl fun _ => 0), .inr (8, [.ref 25, .ref 26, .ref 27, .ref 28, .ref 29, .ref 30, .ref 31, .int 0, .int 0, .int 0]), .inl (.int, 16, .inl fun _ => 0), .inl (.int, 16, .inl fun _ => 0), .inl (.int, 16, .inl fun _ => 0), .inl (.int, 20, .inl fun _ => 0), .inl (.int, 20, .inl fun _ => 0), .inl (.int, 20, .inl fun _ => 0), .inl (.int, 20, .inl fun _ => 0), .inr (9, [.ref 33, .ref 34, .ref 35, .ref 36, .ref 37, .int 0]), .inl (.int, 20, .inl fun _ => 0), .inl (.int, 20, .inl fun _ => 0), .inl (.int, 160, .inl fun _ => 0), .inl (.int, 20, .inl fun _ => 0), .inl (.int, 9, .inl fun _ => 0), .inr (6, [.ref 39, .ref 46, .ref 54]), .inr (7, [.ref 40, .ref 41, .ref 42, .ref 43, .ref 44, .ref 45, .int 0, .int 0]), .inl (.int, 30, .inl fun _ => 0), .inl (.int, 30, .inl fun _ => 0), .inl (.int, 30, .inl fun _ => 0), .inl (.int, 60, .inl fun _ => 0), .inl (.int, 60, .inl fun _ => 0), .inl (.int, 60, .inl fun _ => 0), .inr (8, [.ref 47, .ref 48, .ref 49, .ref 50, .ref 51, .ref 52, .ref 53, .int 0, .int 0, .int 0]), .inl (.int, 16, .inl fun _ => 0), .inl (.int, 16, .inl fun _ => 0), .inl (.int, 16, .inl fun _ => 0), .inl (.int, 20, .inl fun _ => 0), .inl (.int, 20, .inl fun _ => 0), .inl (.int, 20, .inl fun _ => 0), .inl (.int, 20, .inl fun _ => 0), .inr (9, [.ref 55, .ref 56, .ref 57, .ref 58, .ref 59, .int 0]), .inl (.int, 20, .inl fun _ => 0), .inl (.int, 20, .inl fun _ => 0), .inl (.int, 160, .inl fun _ => 0), .inl (.int, 20, .inl fun _ => 0), .inl (.int, 9, .inl fun _ => 0)] : am_H) _
  refine am_wp_ok (inl := []) 12 2 0 [] _ _ _ _ _ ?_
  exact And.intro rfl rfl
set_option maxRecDepth 100000 in
set_option maxHeartbeats 4000000 in
theorem ct_60 (ro : Nat → Option am_C) (c0 c1 c2 c3 c4 c5 c6 c7 c8 c9 c10 c11 c12 c13 c14 c15 c16 c17 c18 c19 c20 c21 c22 c23 c24 c25 c26 c27 c28 c29 c30 c31 c32 c33 c34 c35 c36 c37 c38 c39 c40 c41 c42 c43 c44 c45 c46 c47 c48 c49 c50 c51 c52 c53 c54 c55 c56 c57 c58 c59 : am_C) : am_run ro 1 103 [.ref 60] [c0, c1, c2, c3, c4, c5, c6, c7, c8, c9, c10, c11, c12, c13, c14, c15, c16, c17, c18, c19, c20, c21, c22, c23, c24, c25, c26, c27, c28, c29, c30, c31, c32, c33, c34, c35, c36, c37, c38, c39, c40, c41, c42, c43, c44, c45, c46, c47, c48, c49, c50, c51, c52, c53, c54, c55, c56, c57, c58, c59, .inr (10, [.null, .int 0, .int 0, .int 0, .null, .null, .null, .null, .null, .null, .null, .null, .null, .null, .null, .null, .null, .null, .int 0, .null, .null, .null, .null, .int 0, .null, .null, .int 0, .int 0, .int 0])] none [c0, c1, c2, c3, c4, c5, c6, c7, c8, c9, c10, c11, c12, c13, c14, c15, c16, c17, c18, c19, c20, c21, c22, c23, c24, c25, c26, c27, c28, c29, c30, c31, c32, c33, c34, c35, c36, c37, c38, c39, c40, c41, c42, c43, c44, c45, c46, c47, c48, c49, c50, c51, c52, c53, c54, c55, c56, c57, c58, c59, .inr (10, [.ref 61, .int 0, .int 0, .int 0, .ref 62, .ref 63, .ref 64, .ref 65, .ref 66, .ref 67, .ref 68, .ref 69, .ref 70, .ref 71, .ref 72, .ref 73, .ref 74, .ref 75, .int 0, .ref 76, .ref 77, .ref 78, .ref 79, .int 0, .ref 80, .ref 81, .int 0, .int 0, .int 0]), .inl (.int, 900, .inl fun _ => 0), .inl (.int, 12, .inl fun _ => 0), .inl (.int, 60, .inl fun _ => 0), .inl (.int, 60, .inl fun _ => 0), .inl (.int, 62, .inl fun _ => 0), .inl (.int, 360, .inl fun _ => 0), .inl (.int, 32, .inl fun _ => 0), .inl (.int, 64, .inl fun _ => 0), .inl (.int, 160, .inl fun _ => 0), .inl (.int, 40, .inl fun _ => 0), .inl (.long, 40, .inr (.inl fun _ => 0)), .inl (.boolean, 10, .inl fun _ => 0), .inl (.int, 10, .inl fun _ => 0), .inl (.boolean, 60, .inl fun _ => 0), .inl (.boolean, 60, .inl fun _ => 0), .inl (.int, 6, .inl fun _ => 0), .inl (.int, 60, .inl fun _ => 0), .inl (.int, 8, .inl fun _ => 0), .inl (.int, 96, .inl fun _ => 0), .inl (.int, 9, .inl fun _ => 0), .inl (.int, 20, .inl fun _ => 0)] := by
  refine am_run_of rfl ?_
  refine am_wp_ok (inl := []) 12 0 103 [13] _ _ _ _ _ ?_
  refine And.intro (by decide) ?_
  show am_T ro 0 103 13 [.ref 60] [] ([c0, c1, c2, c3, c4, c5, c6, c7, c8, c9, c10, c11, c12, c13, c14, c15, c16, c17, c18, c19, c20, c21, c22, c23, c24, c25, c26, c27, c28, c29, c30, c31, c32, c33, c34, c35, c36, c37, c38, c39, c40, c41, c42, c43, c44, c45, c46, c47, c48, c49, c50, c51, c52, c53, c54, c55, c56, c57, c58, c59, .inr (10, [.ref 61, .int 0, .int 0, .int 0, .null, .null, .null, .null, .null, .null, .null, .null, .null, .null, .null, .null, .null, .null, .int 0, .null, .null, .null, .null, .int 0, .null, .null, .int 0, .int 0, .int 0]), .inl (.int, 900, .inl fun _ => 0)] : am_H) _
  refine am_wp_ok (inl := []) 12 0 103 [21] _ _ _ _ _ ?_
  refine And.intro (by decide) ?_
  show am_T ro 0 103 21 [.ref 60] [] ([c0, c1, c2, c3, c4, c5, c6, c7, c8, c9, c10, c11, c12, c13, c14, c15, c16, c17, c18, c19, c20, c21, c22, c23, c24, c25, c26, c27, c28, c29, c30, c31, c32, c33, c34, c35, c36, c37, c38, c39, c40, c41, c42, c43, c44, c45, c46, c47, c48, c49, c50, c51, c52, c53, c54, c55, c56, c57, c58, c59, .inr (10, [.ref 61, .int 0, .int 0, .int 0, .ref 62, .null, .null, .null, .null, .null, .null, .null, .null, .null, .null, .null, .null, .null, .int 0, .null, .null, .null, .null, .int 0, .null, .null, .int 0, .int 0, .int 0]), .inl (.int, 900, .inl fun _ => 0), .inl (.int, 12, .inl fun _ => 0)] : am_H) _
  refine am_wp_ok (inl := []) 12 0 103 [29] _ _ _ _ _ ?_
  refine And.intro (by decide) ?_
  show am_T ro 0 103 29 [.ref 60] [] ([c0, c1, c2, c3, c4, c5, c6, c7, c8, c9, c10, c11, c12, c13, c14, c15, c16, c17, c18, c19, c20, c21, c22, c23, c24, c25, c26, c27, c28, c29, c30, c31, c32, c33, c34, c35, c36, c37, c38, c39, c40, c41, c42, c43, c44, c45, c46, c47, c48, c49, c50, c51, c52, c53, c54, c55, c56, c57, c58, c59, .inr (10, [.ref 61, .int 0, .int 0, .int 0, .ref 62, .ref 63, .null, .null, .null, .null, .null, .null, .null, .null, .null, .null, .null, .null, .int 0, .null, .null, .null, .null, .int 0, .null, .null, .int 0, .int 0, .int 0]), .inl (.int, 900, .inl fun _ => 0), .inl (.int, 12, .inl fun _ => 0), .inl (.int, 60, .inl fun _ => 0)] : am_H) _
  refine am_wp_ok (inl := []) 12 0 103 [37] _ _ _ _ _ ?_
  refine And.intro (by decide) ?_
  show am_T ro 0 103 37 [.ref 60] [] ([c0, c1, c2, c3, c4, c5, c6, c7, c8, c9, c10, c11, c12, c13, c14, c15, c16, c17, c18, c19, c20, c21, c22, c23, c24, c25, c26, c27, c28, c29, c30, c31, c32, c33, c34, c35, c36, c37, c38, c39, c40, c41, c42, c43, c44, c45, c46, c47, c48, c49, c50, c51, c52, c53, c54, c55, c56, c57, c58, c59, .inr (10, [.ref 61, .int 0, .int 0, .int 0, .ref 62, .ref 63, .ref 64, .null, .null, .null, .null, .null, .null, .null, .null, .null, .null, .null, .int 0, .null, .null, .null, .null, .int 0, .null, .null, .int 0, .int 0, .int 0]), .inl (.int, 900, .inl fun _ => 0), .inl (.int, 12, .inl fun _ => 0), .inl (.int, 60, .inl fun _ => 0), .inl (.int, 60, .inl fun _ => 0)] : am_H) _
  refine am_wp_ok (inl := []) 12 0 103 [45] _ _ _ _ _ ?_
  refine And.intro (by decide) ?_
  show am_T ro 0 103 45 [.ref 60] [] ([c0, c1, c2, c3, c4, c5, c6, c7, c8, c9, c10, c11, c12, c13, c14, c15, c16, c17, c18, c19, c20, c21, c22, c23, c24, c25, c26, c27, c28, c29, c30, c31, c32, c33, c34, c35, c36, c37, c38, c39, c40, c41, c42, c43, c44, c45, c46, c47, c48, c49, c50, c51, c52, c53, c54, c55, c56, c57, c58, c59, .inr (10, [.ref 61, .int 0, .int 0, .int 0, .ref 62, .ref 63, .ref 64, .ref 65, .null, .null, .null, .null, .null, .null, .null, .null, .null, .null, .int 0, .null, .null, .null, .null, .int 0, .null, .null, .int 0, .int 0, .int 0]), .inl (.int, 900, .inl fun _ => 0), .inl (.int, 12, .inl fun _ => 0), .inl (.int, 60, .inl fun _ => 0), .inl (.int, 60, .inl fun _ => 0), .inl (.int, 62, .inl fun _ => 0)] : am_H) _
  refine am_wp_ok (inl := []) 12 0 103 [54] _ _ _ _ _ ?_
  refine And.intro (by decide) ?_
  show am_T ro 0 103 54 [.ref 60] [] ([c0, c1, c2, c3, c4, c5, c6, c7, c8, c9, c10, c11, c12, c13, c14, c15, c16, c17, c18, c19, c20, c21, c22, c23, c24, c25, c26, c27, c28, c29, c30, c31, c32, c33, c34, c35, c36, c37, c38, c39, c40, c41, c42, c43, c44, c45, c46, c47, c48, c49, c50, c51, c52, c53, c54, c55, c56, c57, c58, c59, .inr (10, [.ref 61, .int 0, .int 0, .int 0, .ref 62, .ref 63, .ref 64, .ref 65, .ref 66, .null, .null, .null, .null, .null, .null, .null, .null, .null, .int 0, .null, .null, .null, .null, .int 0, .null, .null, .int 0, .int 0, .int 0]), .inl (.int, 900, .inl fun _ => 0), .inl (.int, 12, .inl fun _ => 0), .inl (.int, 60, .inl fun _ => 0), .inl (.int, 60, .inl fun _ => 0), .inl (.int, 62, .inl fun _ => 0), .inl (.int, 360, .inl fun _ => 0)] : am_H) _
  refine am_wp_ok (inl := []) 12 0 103 [62] _ _ _ _ _ ?_
  refine And.intro (by decide) ?_
  show am_T ro 0 103 62 [.ref 60] [] ([c0, c1, c2, c3, c4, c5, c6, c7, c8, c9, c10, c11, c12, c13, c14, c15, c16, c17, c18, c19, c20, c21, c22, c23, c24, c25, c26, c27, c28, c29, c30, c31, c32, c33, c34, c35, c36, c37, c38, c39, c40, c41, c42, c43, c44, c45, c46, c47, c48, c49, c50, c51, c52, c53, c54, c55, c56, c57, c58, c59, .inr (10, [.ref 61, .int 0, .int 0, .int 0, .ref 62, .ref 63, .ref 64, .ref 65, .ref 66, .ref 67, .null, .null, .null, .null, .null, .null, .null, .null, .int 0, .null, .null, .null, .null, .int 0, .null, .null, .int 0, .int 0, .int 0]), .inl (.int, 900, .inl fun _ => 0), .inl (.int, 12, .inl fun _ => 0), .inl (.int, 60, .inl fun _ => 0), .inl (.int, 60, .inl fun _ => 0), .inl (.int, 62, .inl fun _ => 0), .inl (.int, 360, .inl fun _ => 0), .inl (.int, 32, .inl fun _ => 0)] : am_H) _
  refine am_wp_ok (inl := []) 12 0 103 [70] _ _ _ _ _ ?_
  refine And.intro (by decide) ?_
  show am_T ro 0 103 70 [.ref 60] [] ([c0, c1, c2, c3, c4, c5, c6, c7, c8, c9, c10, c11, c12, c13, c14, c15, c16, c17, c18, c19, c20, c21, c22, c23, c24, c25, c26, c27, c28, c29, c30, c31, c32, c33, c34, c35, c36, c37, c38, c39, c40, c41, c42, c43, c44, c45, c46, c47, c48, c49, c50, c51, c52, c53, c54, c55, c56, c57, c58, c59, .inr (10, [.ref 61, .int 0, .int 0, .int 0, .ref 62, .ref 63, .ref 64, .ref 65, .ref 66, .ref 67, .ref 68, .null, .null, .null, .null, .null, .null, .null, .int 0, .null, .null, .null, .null, .int 0, .null, .null, .int 0, .int 0, .int 0]), .inl (.int, 900, .inl fun _ => 0), .inl (.int, 12, .inl fun _ => 0), .inl (.int, 60, .inl fun _ => 0), .inl (.int, 60, .inl fun _ => 0), .inl (.int, 62, .inl fun _ => 0), .inl (.int, 360, .inl fun _ => 0), .inl (.int, 32, .inl fun _ => 0), .inl (.int, 64, .inl fun _ => 0)] : am_H) _
  refine am_wp_ok (inl := []) 12 0 103 [79] _ _ _ _ _ ?_
  refine And.intro (by decide) ?_
  show am_T ro 0 103 79 [.ref 60] [] ([c0, c1, c2, c3, c4, c5, c6, c7, c8, c9, c10, c11, c12, c13, c14, c15, c16, c17, c18, c19, c20, c21, c22, c23, c24, c25, c26, c27, c28, c29, c30, c31, c32, c33, c34, c35, c36, c37, c38, c39, c40, c41, c42, c43, c44, c45, c46, c47, c48, c49, c50, c51, c52, c53, c54, c55, c56, c57, c58, c59, .inr (10, [.ref 61, .int 0, .int 0, .int 0, .ref 62, .ref 63, .ref 64, .ref 65, .ref 66, .ref 67, .ref 68, .ref 69, .null, .null, .null, .null, .null, .null, .int 0, .null, .null, .null, .null, .int 0, .null, .null, .int 0, .int 0, .int 0]), .inl (.int, 900, .inl fun _ => 0), .inl (.int, 12, .inl fun _ => 0), .inl (.int, 60, .inl fun _ => 0), .inl (.int, 60, .inl fun _ => 0), .inl (.int, 62, .inl fun _ => 0), .inl (.int, 360, .inl fun _ => 0), .inl (.int, 32, .inl fun _ => 0), .inl (.int, 64, .inl fun _ => 0), .inl (.int, 160, .inl fun _ => 0)] : am_H) _
  refine am_wp_ok (inl := []) 12 0 103 [87] _ _ _ _ _ ?_
  refine And.intro (by decide) ?_
  show am_T ro 0 103 87 [.ref 60] [] ([c0, c1, c2, c3, c4, c5, c6, c7, c8, c9, c10, c11, c12, c13, c14, c15, c16, c17, c18, c19, c20, c21, c22, c23, c24, c25, c26, c27, c28, c29, c30, c31, c32, c33, c34, c35, c36, c37, c38, c39, c40, c41, c42, c43, c44, c45, c46, c47, c48, c49, c50, c51, c52, c53, c54, c55, c56, c57, c58, c59, .inr (10, [.ref 61, .int 0, .int 0, .int 0, .ref 62, .ref 63, .ref 64, .ref 65, .ref 66, .ref 67, .ref 68, .ref 69, .ref 70, .null, .null, .null, .null, .null, .int 0, .null, .null, .null, .null, .int 0, .null, .null, .int 0, .int 0, .int 0]), .inl (.int, 900, .inl fun _ => 0), .inl (.int, 12, .inl fun _ => 0), .inl (.int, 60, .inl fun _ => 0), .inl (.int, 60, .inl fun _ => 0), .inl (.int, 62, .inl fun _ => 0), .inl (.int, 360, .inl fun _ => 0), .inl (.int, 32, .inl fun _ => 0), .inl (.int, 64, .inl fun _ => 0), .inl (.int, 160, .inl fun _ => 0), .inl (.int, 40, .inl fun _ => 0)] : am_H) _
  refine am_wp_ok (inl := []) 12 0 103 [95] _ _ _ _ _ ?_
  refine And.intro (by decide) ?_
  show am_T ro 0 103 95 [.ref 60] [] ([c0, c1, c2, c3, c4, c5, c6, c7, c8, c9, c10, c11, c12, c13, c14, c15, c16, c17, c18, c19, c20, c21, c22, c23, c24, c25, c26, c27, c28, c29, c30, c31, c32, c33, c34, c35, c36, c37, c38, c39, c40, c41, c42, c43, c44, c45, c46, c47, c48, c49, c50, c51, c52, c53, c54, c55, c56, c57, c58, c59, .inr (10, [.ref 61, .int 0, .int 0, .int 0, .ref 62, .ref 63, .ref 64, .ref 65, .ref 66, .ref 67, .ref 68, .ref 69, .ref 70, .ref 71, .null, .null, .null, .null, .int 0, .null, .null, .null, .null, .int 0, .null, .null, .int 0, .int 0, .int 0]), .inl (.int, 900, .inl fun _ => 0), .inl (.int, 12, .inl fun _ => 0), .inl (.int, 60, .inl fun _ => 0), .inl (.int, 60, .inl fun _ => 0), .inl (.int, 62, .inl fun _ => 0), .inl (.int, 360, .inl fun _ => 0), .inl (.int, 32, .inl fun _ => 0), .inl (.int, 64, .inl fun _ => 0), .inl (.int, 160, .inl fun _ => 0), .inl (.int, 40, .inl fun _ => 0), .inl (.long, 40, .inr (.inl fun _ => 0))] : am_H) _
  refine am_wp_ok (inl := []) 12 0 103 [103] _ _ _ _ _ ?_
  refine And.intro (by decide) ?_
  show am_T ro 0 103 103 [.ref 60] [] ([c0, c1, c2, c3, c4, c5, c6, c7, c8, c9, c10, c11, c12, c13, c14, c15, c16, c17, c18, c19, c20, c21, c22, c23, c24, c25, c26, c27, c28, c29, c30, c31, c32, c33, c34, c35, c36, c37, c38, c39, c40, c41, c42, c43, c44, c45, c46, c47, c48, c49, c50, c51, c52, c53, c54, c55, c56, c57, c58, c59, .inr (10, [.ref 61, .int 0, .int 0, .int 0, .ref 62, .ref 63, .ref 64, .ref 65, .ref 66, .ref 67, .ref 68, .ref 69, .ref 70, .ref 71, .ref 72, .null, .null, .null, .int 0, .null, .null, .null, .null, .int 0, .null, .null, .int 0, .int 0, .int 0]), .inl (.int, 900, .inl fun _ => 0), .inl (.int, 12, .inl fun _ => 0), .inl (.int, 60, .inl fun _ => 0), .inl (.int, 60, .inl fun _ => 0), .inl (.int, 62, .inl fun _ => 0), .inl (.int, 360, .inl fun _ => 0), .inl (.int, 32, .inl fun _ => 0), .inl (.int, 64, .inl fun _ => 0), .inl (.int, 160, .inl fun _ => 0), .inl (.int, 40, .inl fun _ => 0), .inl (.long, 40, .inr (.inl fun _ => 0)), .inl (.boolean, 10, .inl fun _ => 0)] : am_H) _
  refine am_wp_ok (inl := []) 12 0 103 [111] _ _ _ _ _ ?_
  refine And.intro (by decide) ?_
  show am_T ro 0 103 111 [.ref 60] [] ([c0, c1, c2, c3, c4, c5, c6, c7, c8, c9, c10, c11, c12, c13, c14, c15, c16, c17, c18, c19, c20, c21, c22, c23, c24, c25, c26, c27, c28, c29, c30, c31, c32, c33, c34, c35, c36, c37, c38, c39, c40, c41, c42, c43, c44, c45, c46, c47, c48, c49, c50, c51, c52, c53, c54, c55, c56, c57, c58, c59, .inr (10, [.ref 61, .int 0, .int 0, .int 0, .ref 62, .ref 63, .ref 64, .ref 65, .ref 66, .ref 67, .ref 68, .ref 69, .ref 70, .ref 71, .ref 72, .ref 73, .null, .null, .int 0, .null, .null, .null, .null, .int 0, .null, .null, .int 0, .int 0, .int 0]), .inl (.int, 900, .inl fun _ => 0), .inl (.int, 12, .inl fun _ => 0), .inl (.int, 60, .inl fun _ => 0), .inl (.int, 60, .inl fun _ => 0), .inl (.int, 62, .inl fun _ => 0), .inl (.int, 360, .inl fun _ => 0), .inl (.int, 32, .inl fun _ => 0), .inl (.int, 64, .inl fun _ => 0), .inl (.int, 160, .inl fun _ => 0), .inl (.int, 40, .inl fun _ => 0), .inl (.long, 40, .inr (.inl fun _ => 0)), .inl (.boolean, 10, .inl fun _ => 0), .inl (.int, 10, .inl fun _ => 0)] : am_H) _
  refine am_wp_ok (inl := []) 12 0 103 [119] _ _ _ _ _ ?_
  refine And.intro (by decide) ?_
  show am_T ro 0 103 119 [.ref 60] [] ([c0, c1, c2, c3, c4, c5, c6, c7, c8, c9, c10, c11, c12, c13, c14, c15, c16, c17, c18, c19, c20, c21, c22, c23, c24, c25, c26, c27, c28, c29, c30, c31, c32, c33, c34, c35, c36, c37, c38, c39, c40, c41, c42, c43, c44, c45, c46, c47, c48, c49, c50, c51, c52, c53, c54, c55, c56, c57, c58, c59, .inr (10, [.ref 61, .int 0, .int 0, .int 0, .ref 62, .ref 63, .ref 64, .ref 65, .ref 66, .ref 67, .ref 68, .ref 69, .ref 70, .ref 71, .ref 72, .ref 73, .ref 74, .null, .int 0, .null, .null, .null, .null, .int 0, .null, .null, .int 0, .int 0, .int 0]), .inl (.int, 900, .inl fun _ => 0), .inl (.int, 12, .inl fun _ => 0), .inl (.int, 60, .inl fun _ => 0), .inl (.int, 60, .inl fun _ => 0), .inl (.int, 62, .inl fun _ => 0), .inl (.int, 360, .inl fun _ => 0), .inl (.int, 32, .inl fun _ => 0), .inl (.int, 64, .inl fun _ => 0), .inl (.int, 160, .inl fun _ => 0), .inl (.int, 40, .inl fun _ => 0), .inl (.long, 40, .inr (.inl fun _ => 0)), .inl (.boolean, 10, .inl fun _ => 0), .inl (.int, 10, .inl fun _ => 0), .inl (.boolean, 60, .inl fun _ => 0)] : am_H) _
  refine am_wp_ok (inl := []) 12 0 103 [127] _ _ _ _ _ ?_
  refine And.intro (by decide) ?_
  show am_T ro 0 103 127 [.ref 60] [] ([c0, c1, c2, c3, c4, c5, c6, c7, c8, c9, c10, c11, c12, c13, c14, c15, c16, c17, c18, c19, c20, c21, c22, c23, c24, c25, c26, c27, c28, c29, c30, c31, c32, c33, c34, c35, c36, c37, c38, c39, c40, c41, c42, c43, c44, c45, c46, c47, c48, c49, c50, c51, c52, c53, c54, c55, c56, c57, c58, c59, .inr (10, [.ref 61, .int 0, .int 0, .int 0, .ref 62, .ref 63, .ref 64, .ref 65, .ref 66, .ref 67, .ref 68, .ref 69, .ref 70, .ref 71, .ref 72, .ref 73, .ref 74, .ref 75, .int 0, .null, .null, .null, .null, .int 0, .null, .null, .int 0, .int 0, .int 0]), .inl (.int, 900, .inl fun _ => 0), .inl (.int, 12, .inl fun _ => 0), .inl (.int, 60, .inl fun _ => 0), .inl (.int, 60, .inl fun _ => 0), .inl (.int, 62, .inl fun _ => 0), .inl (.int, 360, .inl fun _ => 0), .inl (.int, 32, .inl fun _ => 0), .inl (.int, 64, .inl fun _ => 0), .inl (.int, 160, .inl fun _ => 0), .inl (.int, 40, .inl fun _ => 0), .inl (.long, 40, .inr (.inl fun _ => 0)), .inl (.boolean, 10, .inl fun _ => 0), .inl (.int, 10, .inl fun _ => 0), .inl (.boolean, 60, .inl fun _ => 0), .inl (.boolean, 60, .inl fun _ => 0)] : am_H) _
  refine am_wp_ok (inl := []) 12 0 103 [135] _ _ _ _ _ ?_
  refine And.intro (by decide) ?_
  show am_T ro 0 103 135 [.ref 60] [] ([c0, c1, c2, c3, c4, c5, c6, c7, c8, c9, c10, c11, c12, c13, c14, c15, c16, c17, c18, c19, c20, c21, c22, c23, c24, c25, c26, c27, c28, c29, c30, c31, c32, c33, c34, c35, c36, c37, c38, c39, c40, c41, c42, c43, c44, c45, c46, c47, c48, c49, c50, c51, c52, c53, c54, c55, c56, c57, c58, c59, .inr (10, [.ref 61, .int 0, .int 0, .int 0, .ref 62, .ref 63, .ref 64, .ref 65, .ref 66, .ref 67, .ref 68, .ref 69, .ref 70, .ref 71, .ref 72, .ref 73, .ref 74, .ref 75, .int 0, .ref 76, .null, .null, .null, .int 0, .null, .null, .int 0, .int 0, .int 0]), .inl (.int, 900, .inl fun _ => 0), .inl (.int, 12, .inl fun _ => 0), .inl (.int, 60, .inl fun _ => 0), .inl (.int, 60, .inl fun _ => 0), .inl (.int, 62, .inl fun _ => 0), .inl (.int, 360, .inl fun _ => 0), .inl (.int, 32, .inl fun _ => 0), .inl (.int, 64, .inl fun _ => 0), .inl (.int, 160, .inl fun _ => 0), .inl (.int, 40, .inl fun _ => 0), .inl (.long, 40, .inr (.inl fun _ => 0)), .inl (.boolean, 10, .inl fun _ => 0), .inl (.int, 10, .inl fun _ => 0), .inl (.boolean, 60, .inl fun _ => 0), .inl (.boolean, 60, .inl fun _ => 0), .inl (.int, 6, .inl fun _ => 0)] : am_H) _
  refine am_wp_ok (inl := []) 12 0 103 [143] _ _ _ _ _ ?_
  refine And.intro (by decide) ?_
  show am_T ro 0 103 143 [.ref 60] [] ([c0, c1, c2, c3, c4, c5, c6, c7, c8, c9, c10, c11, c12, c13, c14, c15, c16, c17, c18, c19, c20, c21, c22, c23, c24, c25, c26, c27, c28, c29, c30, c31, c32, c33, c34, c35, c36, c37, c38, c39, c40, c41, c42, c43, c44, c45, c46, c47, c48, c49, c50, c51, c52, c53, c54, c55, c56, c57, c58, c59, .inr (10, [.ref 61, .int 0, .int 0, .int 0, .ref 62, .ref 63, .ref 64, .ref 65, .ref 66, .ref 67, .ref 68, .ref 69, .ref 70, .ref 71, .ref 72, .ref 73, .ref 74, .ref 75, .int 0, .ref 76, .ref 77, .null, .null, .int 0, .null, .null, .int 0, .int 0, .int 0]), .inl (.int, 900, .inl fun _ => 0), .inl (.int, 12, .inl fun _ => 0), .inl (.int, 60, .inl fun _ => 0), .inl (.int, 60, .inl fun _ => 0), .inl (.int, 62, .inl fun _ => 0), .inl (.int, 360, .inl fun _ => 0), .inl (.int, 32, .inl fun _ => 0), .inl (.int, 64, .inl fun _ => 0), .inl (.int, 160, .inl fun _ => 0), .inl (.int, 40, .inl fun _ => 0), .inl (.long, 40, .inr (.inl fun _ => 0)), .inl (.boolean, 10, .inl fun _ => 0), .inl (.int, 10, .inl fun _ => 0), .inl (.boolean, 60, .inl fun _ => 0), .inl (.boolean, 60, .inl fun _ => 0), .inl (.int, 6, .inl fun _ => 0), .inl (.int, 60, .inl fun _ => 0)] : am_H) _
  refine am_wp_ok (inl := []) 12 0 103 [151] _ _ _ _ _ ?_
  refine And.intro (by decide) ?_
  show am_T ro 0 103 151 [.ref 60] [] ([c0, c1, c2, c3, c4, c5, c6, c7, c8, c9, c10, c11, c12, c13, c14, c15, c16, c17, c18, c19, c20, c21, c22, c23, c24, c25, c26, c27, c28, c29, c30, c31, c32, c33, c34, c35, c36, c37, c38, c39, c40, c41, c42, c43, c44, c45, c46, c47, c48, c49, c50, c51, c52, c53, c54, c55, c56, c57, c58, c59, .inr (10, [.ref 61, .int 0, .int 0, .int 0, .ref 62, .ref 63, .ref 64, .ref 65, .ref 66, .ref 67, .ref 68, .ref 69, .ref 70, .ref 71, .ref 72, .ref 73, .ref 74, .ref 75, .int 0, .ref 76, .ref 77, .ref 78, .null, .int 0, .null, .null, .int 0, .int 0, .int 0]), .inl (.int, 900, .inl fun _ => 0), .inl (.int, 12, .inl fun _ => 0), .inl (.int, 60, .inl fun _ => 0), .inl (.int, 60, .inl fun _ => 0), .inl (.int, 62, .inl fun _ => 0), .inl (.int, 360, .inl fun _ => 0), .inl (.int, 32, .inl fun _ => 0), .inl (.int, 64, .inl fun _ => 0), .inl (.int, 160, .inl fun _ => 0), .inl (.int, 40, .inl fun _ => 0), .inl (.long, 40, .inr (.inl fun _ => 0)), .inl (.boolean, 10, .inl fun _ => 0), .inl (.int, 10, .inl fun _ => 0), .inl (.boolean, 60, .inl fun _ => 0), .inl (.boolean, 60, .inl fun _ => 0), .inl (.int, 6, .inl fun _ => 0), .inl (.int, 60, .inl fun _ => 0), .inl (.int, 8, .inl fun _ => 0)] : am_H) _
  refine am_wp_ok (inl := []) 12 0 103 [159] _ _ _ _ _ ?_
  refine And.intro (by decide) ?_
  show am_T ro 0 103 159 [.ref 60] [] ([c0, c1, c2, c3, c4, c5, c6, c7, c8, c9, c10, c11, c12, c13, c14, c15, c16, c17, c18, c19, c20, c21, c22, c23, c24, c25, c26, c27, c28, c29, c30, c31, c32, c33, c34, c35, c36, c37, c38, c39, c40, c41, c42, c43, c44, c45, c46, c47, c48, c49, c50, c51, c52, c53, c54, c55, c56, c57, c58, c59, .inr (10, [.ref 61, .int 0, .int 0, .int 0, .ref 62, .ref 63, .ref 64, .ref 65, .ref 66, .ref 67, .ref 68, .ref 69, .ref 70, .ref 71, .ref 72, .ref 73, .ref 74, .ref 75, .int 0, .ref 76, .ref 77, .ref 78, .ref 79, .int 0, .null, .null, .int 0, .int 0, .int 0]), .inl (.int, 900, .inl fun _ => 0), .inl (.int, 12, .inl fun _ => 0), .inl (.int, 60, .inl fun _ => 0), .inl (.int, 60, .inl fun _ => 0), .inl (.int, 62, .inl fun _ => 0), .inl (.int, 360, .inl fun _ => 0), .inl (.int, 32, .inl fun _ => 0), .inl (.int, 64, .inl fun _ => 0), .inl (.int, 160, .inl fun _ => 0), .inl (.int, 40, .inl fun _ => 0), .inl (.long, 40, .inr (.inl fun _ => 0)), .inl (.boolean, 10, .inl fun _ => 0), .inl (.int, 10, .inl fun _ => 0), .inl (.boolean, 60, .inl fun _ => 0), .inl (.boolean, 60, .inl fun _ => 0), .inl (.int, 6, .inl fun _ => 0), .inl (.int, 60, .inl fun _ => 0), .inl (.int, 8, .inl fun _ => 0), .inl (.int, 96, .inl fun _ => 0)] : am_H) _
  refine am_wp_ok (inl := []) 12 0 103 [167] _ _ _ _ _ ?_
  refine And.intro (by decide) ?_
  show am_T ro 0 103 167 [.ref 60] [] ([c0, c1, c2, c3, c4, c5, c6, c7, c8, c9, c10, c11, c12, c13, c14, c15, c16, c17, c18, c19, c20, c21, c22, c23, c24, c25, c26, c27, c28, c29, c30, c31, c32, c33, c34, c35, c36, c37, c38, c39, c40, c41, c42, c43, c44, c45, c46, c47, c48, c49, c50, c51, c52, c53, c54, c55, c56, c57, c58, c59, .inr (10, [.ref 61, .int 0, .int 0, .int 0, .ref 62, .ref 63, .ref 64, .ref 65, .ref 66, .ref 67, .ref 68, .ref 69, .ref 70, .ref 71, .ref 72, .ref 73, .ref 74, .ref 75, .int 0, .ref 76, .ref 77, .ref 78, .ref 79, .int 0, .ref 80, .null, .int 0, .int 0, .int 0]), .inl (.int, 900, .inl fun _ => 0), .inl (.int, 12, .inl fun _ => 0), .inl (.int, 60, .inl fun _ => 0), .inl (.int, 60, .inl fun _ => 0), .inl (.int, 62, .inl fun _ => 0), .inl (.int, 360, .inl fun _ => 0), .inl (.int, 32, .inl fun _ => 0), .inl (.int, 64, .inl fun _ => 0), .inl (.int, 160, .inl fun _ => 0), .inl (.int, 40, .inl fun _ => 0), .inl (.long, 40, .inr (.inl fun _ => 0)), .inl (.boolean, 10, .inl fun _ => 0), .inl (.int, 10, .inl fun _ => 0), .inl (.boolean, 60, .inl fun _ => 0), .inl (.boolean, 60, .inl fun _ => 0), .inl (.int, 6, .inl fun _ => 0), .inl (.int, 60, .inl fun _ => 0), .inl (.int, 8, .inl fun _ => 0), .inl (.int, 96, .inl fun _ => 0), .inl (.int, 9, .inl fun _ => 0)] : am_H) _
  refine am_wp_ok (inl := []) 12 0 103 [175] _ _ _ _ _ ?_
  refine And.intro (by decide) ?_
  show am_T ro 0 103 175 [.ref 60] [] ([c0, c1, c2, c3, c4, c5, c6, c7, c8, c9, c10, c11, c12, c13, c14, c15, c16, c17, c18, c19, c20, c21, c22, c23, c24, c25, c26, c27, c28, c29, c30, c31, c32, c33, c34, c35, c36, c37, c38, c39, c40, c41, c42, c43, c44, c45, c46, c47, c48, c49, c50, c51, c52, c53, c54, c55, c56, c57, c58, c59, .inr (10, [.ref 61, .int 0, .int 0, .int 0, .ref 62, .ref 63, .ref 64, .ref 65, .ref 66, .ref 67, .ref 68, .ref 69, .ref 70, .ref 71, .ref 72, .ref 73, .ref 74, .ref 75, .int 0, .ref 76, .ref 77, .ref 78, .ref 79, .int 0, .ref 80, .ref 81, .int 0, .int 0, .int 0]), .inl (.int, 900, .inl fun _ => 0), .inl (.int, 12, .inl fun _ => 0), .inl (.int, 60, .inl fun _ => 0), .inl (.int, 60, .inl fun _ => 0), .inl (.int, 62, .inl fun _ => 0), .inl (.int, 360, .inl fun _ => 0), .inl (.int, 32, .inl fun _ => 0), .inl (.int, 64, .inl fun _ => 0), .inl (.int, 160, .inl fun _ => 0), .inl (.int, 40, .inl fun _ => 0), .inl (.long, 40, .inr (.inl fun _ => 0)), .inl (.boolean, 10, .inl fun _ => 0), .inl (.int, 10, .inl fun _ => 0), .inl (.boolean, 60, .inl fun _ => 0), .inl (.boolean, 60, .inl fun _ => 0), .inl (.int, 6, .inl fun _ => 0), .inl (.int, 60, .inl fun _ => 0), .inl (.int, 8, .inl fun _ => 0), .inl (.int, 96, .inl fun _ => 0), .inl (.int, 9, .inl fun _ => 0), .inl (.int, 20, .inl fun _ => 0)] : am_H) _
  refine am_wp_ok (inl := []) 12 0 103 [] _ _ _ _ _ ?_
  exact And.intro rfl rfl
end
section
/-! THE 154'S LOOP over what each call does -/
abbrev lp_R : Type := Bool → (Nat → Nat → Int32) → (Nat → Int64) → (Nat → Nat → Int32) → Prop
/-- a call of both: the same answer, and the relation stands behind it -/
def lp_op (ro : Nat → Option am_C) (Rl : lp_R) (mi mj : Nat) (as : List Value) : Prop := ∀ c a l f, Rl c a l f → ∃ (r : Int32) (c1 : Bool) (a1 : Nat → Nat → Int32) (l1 : Nat → Int64) (f1 : Nat → Nat → Int32) (c' : Bool) (a' : Nat → Nat → Int32) (l' : Nat → Int64) (f' : Nat → Nat → Int32), am_run ro 12 mi (.ref 0 :: as) (wd c a l f) (some (.int r)) (wd c1 a1 l1 f1) ∧ am_run ro 12 mj (.ref 60 :: as) (wd c1 a1 l1 f1) (some (.int r)) (wd c' a' l' f') ∧ Rl c' a' l' f'
theorem wd_len {c : Bool} {a : Nat → Nat → Int32} {l : Nat → Int64} {f : Nat → Nat → Int32} : (wd c a l f).length = 82 := rfl
set_option maxRecDepth 100000 in
theorem wd_sz {c : Bool} {a : Nat → Nat → Int32} {l : Nat → Int64} {f : Nat → Nat → Int32} : am_sz (wd c a l f) = 4590 := by
  simp [wd, am_sz, am_cs]
def lp_K : Option Value → am_H → Prop := fun r hp' => r = some (.int 1) ∧ hp'.length ≤ 82 ∧ am_sz hp' ≤ 4590
/-- at the head of the loop -/
def lp_H (ro : Nat → Option am_C) (i : Int32) (hp : am_H) : Prop := am_T ro 12 154 18 [.retAddr 1, .ref 0, .ref 60, .int i] [] hp lp_K
theorem lp_next {ro : Nat → Option am_C} {i : Int32} {hp : am_H} (h : lp_H ro (i + 4) hp) : am_T ro 12 154 654 [.retAddr 1, .ref 0, .ref 60, .int i] [] hp lp_K := by
  refine am_wp_ok (inl := []) 5 12 154 [18] _ _ _ _ _ ?_
  exact h
set_option maxRecDepth 100000 in
set_option maxHeartbeats 4000000 in
/-- unit -/
theorem lp_0 {n : Nat} {xs : Nat → Int32} {Rl : lp_R} {c : Bool} {a : Nat → Nat → Int32} {l : Nat → Int64} {f : Nat → Nat → Int32} {i : Int32} (h1 : vp_in (i + 1) n) (hop : lp_op (wd_ro n xs) Rl 1 104 [.int (xs (i + 1).toNatClampNeg)]) (hR : Rl c a l f) (IH : ∀ c a l f, Rl c a l f → lp_H (wd_ro n xs) (i + 4) (wd c a l f)) : am_T (wd_ro n xs) 12 154 128 [.retAddr 1, .ref 0, .ref 60, .int i] [] (wd c a l f) lp_K := by
  obtain ⟨r, c0, a0, l0, f0, c1, a1, l1, f1, e1, e2, hR1⟩ := hop c a l f hR
  refine am_wp_ok (inl := []) 60 12 154 [654] _ _ _ _ _ ?_
  refine And.intro h1 ?_
  refine ⟨_, _, e1, ?_⟩
  refine And.intro h1 ?_
  refine ⟨_, _, e2, ?_⟩
  refine am_br_t rfl ?_
  exact lp_next (IH _ _ _ _ hR1)
set_option maxRecDepth 100000 in
set_option maxHeartbeats 4000000 in
/-- read -/
theorem lp_1 {n : Nat} {xs : Nat → Int32} {Rl : lp_R} {c : Bool} {a : Nat → Nat → Int32} {l : Nat → Int64} {f : Nat → Nat → Int32} {i : Int32} (hop : lp_op (wd_ro n xs) Rl 2 106 []) (hR : Rl c a l f) (IH : ∀ c a l f, Rl c a l f → lp_H (wd_ro n xs) (i + 4) (wd c a l f)) : am_T (wd_ro n xs) 12 154 151 [.retAddr 1, .ref 0, .ref 60, .int i] [] (wd c a l f) lp_K := by
  obtain ⟨r, c0, a0, l0, f0, c1, a1, l1, f1, e1, e2, hR1⟩ := hop c a l f hR
  refine am_wp_ok (inl := []) 60 12 154 [654] _ _ _ _ _ ?_
  refine ⟨_, _, e1, ?_⟩
  refine ⟨_, _, e2, ?_⟩
  refine am_br_t rfl ?_
  exact lp_next (IH _ _ _ _ hR1)
set_option maxRecDepth 100000 in
set_option maxHeartbeats 4000000 in
/-- fact -/
theorem lp_2 {n : Nat} {xs : Nat → Int32} {Rl : lp_R} {c : Bool} {a : Nat → Nat → Int32} {l : Nat → Int64} {f : Nat → Nat → Int32} {i : Int32} (h1 : vp_in (i + 1) n) (h2 : vp_in (i + 2) n) (hop : lp_op (wd_ro n xs) Rl 3 120 [.int (xs (i + 1).toNatClampNeg), .int (xs (i + 2).toNatClampNeg)]) (hR : Rl c a l f) (IH : ∀ c a l f, Rl c a l f → lp_H (wd_ro n xs) (i + 4) (wd c a l f)) : am_T (wd_ro n xs) 12 154 164 [.retAddr 1, .ref 0, .ref 60, .int i] [] (wd c a l f) lp_K := by
  obtain ⟨r, c0, a0, l0, f0, c1, a1, l1, f1, e1, e2, hR1⟩ := hop c a l f hR
  refine am_wp_ok (inl := []) 60 12 154 [654] _ _ _ _ _ ?_
  refine And.intro h1 ?_
  refine And.intro h2 ?_
  refine ⟨_, _, e1, ?_⟩
  refine And.intro h1 ?_
  refine And.intro h2 ?_
  refine ⟨_, _, e2, ?_⟩
  refine am_br_t rfl ?_
  exact lp_next (IH _ _ _ _ hR1)
set_option maxRecDepth 100000 in
set_option maxHeartbeats 4000000 in
/-- clearFacts -/
theorem lp_3 {n : Nat} {xs : Nat → Int32} {Rl : lp_R} {c : Bool} {a : Nat → Nat → Int32} {l : Nat → Int64} {f : Nat → Nat → Int32} {i : Int32} (hop : lp_op (wd_ro n xs) Rl 5 121 []) (hR : Rl c a l f) (IH : ∀ c a l f, Rl c a l f → lp_H (wd_ro n xs) (i + 4) (wd c a l f)) : am_T (wd_ro n xs) 12 154 197 [.retAddr 1, .ref 0, .ref 60, .int i] [] (wd c a l f) lp_K := by
  obtain ⟨r, c0, a0, l0, f0, c1, a1, l1, f1, e1, e2, hR1⟩ := hop c a l f hR
  refine am_wp_ok (inl := []) 60 12 154 [654] _ _ _ _ _ ?_
  refine ⟨_, _, e1, ?_⟩
  refine ⟨_, _, e2, ?_⟩
  refine am_br_t rfl ?_
  exact lp_next (IH _ _ _ _ hR1)
set_option maxRecDepth 100000 in
set_option maxHeartbeats 4000000 in
/-- code -/
theorem lp_4 {n : Nat} {xs : Nat → Int32} {Rl : lp_R} {c : Bool} {a : Nat → Nat → Int32} {l : Nat → Int64} {f : Nat → Nat → Int32} {i : Int32} (hop : lp_op (wd_ro n xs) Rl 6 123 []) (hR : Rl c a l f) (IH : ∀ c a l f, Rl c a l f → lp_H (wd_ro n xs) (i + 4) (wd c a l f)) : am_T (wd_ro n xs) 12 154 210 [.retAddr 1, .ref 0, .ref 60, .int i] [] (wd c a l f) lp_K := by
  obtain ⟨r, c0, a0, l0, f0, c1, a1, l1, f1, e1, e2, hR1⟩ := hop c a l f hR
  refine am_wp_ok (inl := []) 60 12 154 [654] _ _ _ _ _ ?_
  refine ⟨_, _, e1, ?_⟩
  refine ⟨_, _, e2, ?_⟩
  refine am_br_t rfl ?_
  exact lp_next (IH _ _ _ _ hR1)
set_option maxRecDepth 100000 in
set_option maxHeartbeats 4000000 in
/-- taken -/
theorem lp_5 {n : Nat} {xs : Nat → Int32} {Rl : lp_R} {c : Bool} {a : Nat → Nat → Int32} {l : Nat → Int64} {f : Nat → Nat → Int32} {i : Int32} (hop : lp_op (wd_ro n xs) Rl 7 127 []) (hR : Rl c a l f) (IH : ∀ c a l f, Rl c a l f → lp_H (wd_ro n xs) (i + 4) (wd c a l f)) : am_T (wd_ro n xs) 12 154 223 [.retAddr 1, .ref 0, .ref 60, .int i] [] (wd c a l f) lp_K := by
  obtain ⟨r, c0, a0, l0, f0, c1, a1, l1, f1, e1, e2, hR1⟩ := hop c a l f hR
  refine am_wp_ok (inl := []) 60 12 154 [654] _ _ _ _ _ ?_
  refine ⟨_, _, e1, ?_⟩
  refine ⟨_, _, e2, ?_⟩
  refine am_br_t rfl ?_
  exact lp_next (IH _ _ _ _ hR1)
set_option maxRecDepth 100000 in
set_option maxHeartbeats 4000000 in
/-- asks -/
theorem lp_6 {n : Nat} {xs : Nat → Int32} {Rl : lp_R} {c : Bool} {a : Nat → Nat → Int32} {l : Nat → Int64} {f : Nat → Nat → Int32} {i : Int32} (hop : lp_op (wd_ro n xs) Rl 8 128 []) (hR : Rl c a l f) (IH : ∀ c a l f, Rl c a l f → lp_H (wd_ro n xs) (i + 4) (wd c a l f)) : am_T (wd_ro n xs) 12 154 236 [.retAddr 1, .ref 0, .ref 60, .int i] [] (wd c a l f) lp_K := by
  obtain ⟨r, c0, a0, l0, f0, c1, a1, l1, f1, e1, e2, hR1⟩ := hop c a l f hR
  refine am_wp_ok (inl := []) 60 12 154 [654] _ _ _ _ _ ?_
  refine ⟨_, _, e1, ?_⟩
  refine ⟨_, _, e2, ?_⟩
  refine am_br_t rfl ?_
  exact lp_next (IH _ _ _ _ hR1)
set_option maxRecDepth 100000 in
set_option maxHeartbeats 4000000 in
/-- general -/
theorem lp_7 {n : Nat} {xs : Nat → Int32} {Rl : lp_R} {c : Bool} {a : Nat → Nat → Int32} {l : Nat → Int64} {f : Nat → Nat → Int32} {i : Int32} (h1 : vp_in (i + 1) n) (hop : lp_op (wd_ro n xs) Rl 9 122 [.int (xs (i + 1).toNatClampNeg)]) (hR : Rl c a l f) (IH : ∀ c a l f, Rl c a l f → lp_H (wd_ro n xs) (i + 4) (wd c a l f)) : am_T (wd_ro n xs) 12 154 249 [.retAddr 1, .ref 0, .ref 60, .int i] [] (wd c a l f) lp_K := by
  obtain ⟨r, c0, a0, l0, f0, c1, a1, l1, f1, e1, e2, hR1⟩ := hop c a l f hR
  refine am_wp_ok (inl := []) 60 12 154 [654] _ _ _ _ _ ?_
  refine And.intro h1 ?_
  refine ⟨_, _, e1, ?_⟩
  refine And.intro h1 ?_
  refine ⟨_, _, e2, ?_⟩
  refine am_br_t rfl ?_
  exact lp_next (IH _ _ _ _ hR1)
set_option maxRecDepth 100000 in
set_option maxHeartbeats 4000000 in
/-- mirror -/
theorem lp_8 {n : Nat} {xs : Nat → Int32} {Rl : lp_R} {c : Bool} {a : Nat → Nat → Int32} {l : Nat → Int64} {f : Nat → Nat → Int32} {i : Int32} (h1 : vp_in (i + 1) n) (h2 : vp_in (i + 2) n) (hop : lp_op (wd_ro n xs) Rl 10 129 [.int (xs (i + 1).toNatClampNeg), .int (if xs (i + 2).toNatClampNeg = 0 then 0 else 1)]) (hR : Rl c a l f) (IH : ∀ c a l f, Rl c a l f → lp_H (wd_ro n xs) (i + 4) (wd c a l f)) : am_T (wd_ro n xs) 12 154 272 [.retAddr 1, .ref 0, .ref 60, .int i] [] (wd c a l f) lp_K := by
  obtain ⟨r, c0, a0, l0, f0, c1, a1, l1, f1, e1, e2, hR1⟩ := hop c a l f hR
  by_cases hz : xs (i + 2).toNatClampNeg = 0
  · rw [if_pos hz] at e1 e2
    refine am_wp_ok (inl := []) 60 12 154 [654] _ _ _ _ _ ?_
    refine And.intro h1 ?_
    refine And.intro h2 ?_
    refine am_br_t hz ?_
    refine ⟨_, _, e1, ?_⟩
    refine And.intro h1 ?_
    refine And.intro h2 ?_
    refine am_br_t hz ?_
    refine ⟨_, _, e2, ?_⟩
    refine am_br_t rfl ?_
    exact lp_next (IH _ _ _ _ hR1)
  · rw [if_neg hz] at e1 e2
    refine am_wp_ok (inl := []) 60 12 154 [654] _ _ _ _ _ ?_
    refine And.intro h1 ?_
    refine And.intro h2 ?_
    refine am_br_f hz ?_
    refine ⟨_, _, e1, ?_⟩
    refine And.intro h1 ?_
    refine And.intro h2 ?_
    refine am_br_f hz ?_
    refine ⟨_, _, e2, ?_⟩
    refine am_br_t rfl ?_
    exact lp_next (IH _ _ _ _ hR1)
set_option maxRecDepth 100000 in
set_option maxHeartbeats 4000000 in
/-- map -/
theorem lp_9 {n : Nat} {xs : Nat → Int32} {Rl : lp_R} {c : Bool} {a : Nat → Nat → Int32} {l : Nat → Int64} {f : Nat → Nat → Int32} {i : Int32} (h1 : vp_in (i + 1) n) (h2 : vp_in (i + 2) n) (h3 : vp_in (i + 3) n) (hop : lp_op (wd_ro n xs) Rl 11 130 [.int (xs (i + 1).toNatClampNeg), .int (xs (i + 2).toNatClampNeg), .int (xs (i + 3).toNatClampNeg)]) (hR : Rl c a l f) (IH : ∀ c a l f, Rl c a l f → lp_H (wd_ro n xs) (i + 4) (wd c a l f)) : am_T (wd_ro n xs) 12 154 321 [.retAddr 1, .ref 0, .ref 60, .int i] [] (wd c a l f) lp_K := by
  obtain ⟨r, c0, a0, l0, f0, c1, a1, l1, f1, e1, e2, hR1⟩ := hop c a l f hR
  refine am_wp_ok (inl := []) 60 12 154 [654] _ _ _ _ _ ?_
  refine And.intro h1 ?_
  refine And.intro h2 ?_
  refine And.intro h3 ?_
  refine ⟨_, _, e1, ?_⟩
  refine And.intro h1 ?_
  refine And.intro h2 ?_
  refine And.intro h3 ?_
  refine ⟨_, _, e2, ?_⟩
  refine am_br_t rfl ?_
  exact lp_next (IH _ _ _ _ hR1)
set_option maxRecDepth 100000 in
set_option maxHeartbeats 4000000 in
/-- near -/
theorem lp_10 {n : Nat} {xs : Nat → Int32} {Rl : lp_R} {c : Bool} {a : Nat → Nat → Int32} {l : Nat → Int64} {f : Nat → Nat → Int32} {i : Int32} (h1 : vp_in (i + 1) n) (hop : lp_op (wd_ro n xs) Rl 13 131 [.int (xs (i + 1).toNatClampNeg)]) (hR : Rl c a l f) (IH : ∀ c a l f, Rl c a l f → lp_H (wd_ro n xs) (i + 4) (wd c a l f)) : am_T (wd_ro n xs) 12 154 364 [.retAddr 1, .ref 0, .ref 60, .int i] [] (wd c a l f) lp_K := by
  obtain ⟨r, c0, a0, l0, f0, c1, a1, l1, f1, e1, e2, hR1⟩ := hop c a l f hR
  refine am_wp_ok (inl := []) 60 12 154 [654] _ _ _ _ _ ?_
  refine And.intro h1 ?_
  refine ⟨_, _, e1, ?_⟩
  refine And.intro h1 ?_
  refine ⟨_, _, e2, ?_⟩
  refine am_br_t rfl ?_
  exact lp_next (IH _ _ _ _ hR1)
set_option maxRecDepth 100000 in
set_option maxHeartbeats 4000000 in
/-- edits -/
theorem lp_11 {n : Nat} {xs : Nat → Int32} {Rl : lp_R} {c : Bool} {a : Nat → Nat → Int32} {l : Nat → Int64} {f : Nat → Nat → Int32} {i : Int32} (h1 : vp_in (i + 1) n) (hop : lp_op (wd_ro n xs) Rl 15 137 [.int (xs (i + 1).toNatClampNeg)]) (hR : Rl c a l f) (IH : ∀ c a l f, Rl c a l f → lp_H (wd_ro n xs) (i + 4) (wd c a l f)) : am_T (wd_ro n xs) 12 154 387 [.retAddr 1, .ref 0, .ref 60, .int i] [] (wd c a l f) lp_K := by
  obtain ⟨r, c0, a0, l0, f0, c1, a1, l1, f1, e1, e2, hR1⟩ := hop c a l f hR
  refine am_wp_ok (inl := []) 60 12 154 [654] _ _ _ _ _ ?_
  refine And.intro h1 ?_
  refine ⟨_, _, e1, ?_⟩
  refine And.intro h1 ?_
  refine ⟨_, _, e2, ?_⟩
  refine am_br_t rfl ?_
  exact lp_next (IH _ _ _ _ hR1)
set_option maxRecDepth 100000 in
set_option maxHeartbeats 4000000 in
/-- needs -/
theorem lp_12 {n : Nat} {xs : Nat → Int32} {Rl : lp_R} {c : Bool} {a : Nat → Nat → Int32} {l : Nat → Int64} {f : Nat → Nat → Int32} {i : Int32} (h1 : vp_in (i + 1) n) (h2 : vp_in (i + 2) n) (hop : lp_op (wd_ro n xs) Rl 16 138 [.int (xs (i + 1).toNatClampNeg), .int (xs (i + 2).toNatClampNeg)]) (hR : Rl c a l f) (IH : ∀ c a l f, Rl c a l f → lp_H (wd_ro n xs) (i + 4) (wd c a l f)) : am_T (wd_ro n xs) 12 154 410 [.retAddr 1, .ref 0, .ref 60, .int i] [] (wd c a l f) lp_K := by
  obtain ⟨r, c0, a0, l0, f0, c1, a1, l1, f1, e1, e2, hR1⟩ := hop c a l f hR
  refine am_wp_ok (inl := []) 60 12 154 [654] _ _ _ _ _ ?_
  refine And.intro h1 ?_
  refine And.intro h2 ?_
  refine ⟨_, _, e1, ?_⟩
  refine And.intro h1 ?_
  refine And.intro h2 ?_
  refine ⟨_, _, e2, ?_⟩
  refine am_br_t rfl ?_
  exact lp_next (IH _ _ _ _ hR1)
set_option maxRecDepth 100000 in
set_option maxHeartbeats 4000000 in
/-- paper -/
theorem lp_13 {n : Nat} {xs : Nat → Int32} {Rl : lp_R} {c : Bool} {a : Nat → Nat → Int32} {l : Nat → Int64} {f : Nat → Nat → Int32} {i : Int32} (h1 : vp_in (i + 1) n) (h2 : vp_in (i + 2) n) (hop : lp_op (wd_ro n xs) Rl 17 140 [.int (xs (i + 1).toNatClampNeg), .int (xs (i + 2).toNatClampNeg)]) (hR : Rl c a l f) (IH : ∀ c a l f, Rl c a l f → lp_H (wd_ro n xs) (i + 4) (wd c a l f)) : am_T (wd_ro n xs) 12 154 443 [.retAddr 1, .ref 0, .ref 60, .int i] [] (wd c a l f) lp_K := by
  obtain ⟨r, c0, a0, l0, f0, c1, a1, l1, f1, e1, e2, hR1⟩ := hop c a l f hR
  refine am_wp_ok (inl := []) 60 12 154 [654] _ _ _ _ _ ?_
  refine And.intro h1 ?_
  refine And.intro h2 ?_
  refine ⟨_, _, e1, ?_⟩
  refine And.intro h1 ?_
  refine And.intro h2 ?_
  refine ⟨_, _, e2, ?_⟩
  refine am_br_t rfl ?_
  exact lp_next (IH _ _ _ _ hR1)
set_option maxRecDepth 100000 in
set_option maxHeartbeats 4000000 in
/-- lacks -/
theorem lp_14 {n : Nat} {xs : Nat → Int32} {Rl : lp_R} {c : Bool} {a : Nat → Nat → Int32} {l : Nat → Int64} {f : Nat → Nat → Int32} {i : Int32} (h1 : vp_in (i + 1) n) (h2 : vp_in (i + 2) n) (hop : lp_op (wd_ro n xs) Rl 18 141 [.int (xs (i + 1).toNatClampNeg), .int (xs (i + 2).toNatClampNeg)]) (hR : Rl c a l f) (IH : ∀ c a l f, Rl c a l f → lp_H (wd_ro n xs) (i + 4) (wd c a l f)) : am_T (wd_ro n xs) 12 154 476 [.retAddr 1, .ref 0, .ref 60, .int i] [] (wd c a l f) lp_K := by
  obtain ⟨r, c0, a0, l0, f0, c1, a1, l1, f1, e1, e2, hR1⟩ := hop c a l f hR
  refine am_wp_ok (inl := []) 60 12 154 [654] _ _ _ _ _ ?_
  refine And.intro h1 ?_
  refine And.intro h2 ?_
  refine ⟨_, _, e1, ?_⟩
  refine And.intro h1 ?_
  refine And.intro h2 ?_
  refine ⟨_, _, e2, ?_⟩
  refine am_br_t rfl ?_
  exact lp_next (IH _ _ _ _ hR1)
set_option maxRecDepth 100000 in
set_option maxHeartbeats 4000000 in
/-- permit -/
theorem lp_15 {n : Nat} {xs : Nat → Int32} {Rl : lp_R} {c : Bool} {a : Nat → Nat → Int32} {l : Nat → Int64} {f : Nat → Nat → Int32} {i : Int32} (hop : lp_op (wd_ro n xs) Rl 19 142 []) (hR : Rl c a l f) (IH : ∀ c a l f, Rl c a l f → lp_H (wd_ro n xs) (i + 4) (wd c a l f)) : am_T (wd_ro n xs) 12 154 509 [.retAddr 1, .ref 0, .ref 60, .int i] [] (wd c a l f) lp_K := by
  obtain ⟨r, c0, a0, l0, f0, c1, a1, l1, f1, e1, e2, hR1⟩ := hop c a l f hR
  refine am_wp_ok (inl := []) 60 12 154 [654] _ _ _ _ _ ?_
  refine ⟨_, _, e1, ?_⟩
  refine ⟨_, _, e2, ?_⟩
  refine am_br_t rfl ?_
  exact lp_next (IH _ _ _ _ hR1)
set_option maxRecDepth 100000 in
set_option maxHeartbeats 4000000 in
/-- allows -/
theorem lp_16 {n : Nat} {xs : Nat → Int32} {Rl : lp_R} {c : Bool} {a : Nat → Nat → Int32} {l : Nat → Int64} {f : Nat → Nat → Int32} {i : Int32} (h1 : vp_in (i + 1) n) (h2 : vp_in (i + 2) n) (h3 : vp_in (i + 3) n) (hop : lp_op (wd_ro n xs) Rl 20 143 [.int (xs (i + 1).toNatClampNeg), .int (xs (i + 2).toNatClampNeg), .int (xs (i + 3).toNatClampNeg)]) (hR : Rl c a l f) (IH : ∀ c a l f, Rl c a l f → lp_H (wd_ro n xs) (i + 4) (wd c a l f)) : am_T (wd_ro n xs) 12 154 522 [.retAddr 1, .ref 0, .ref 60, .int i] [] (wd c a l f) lp_K := by
  obtain ⟨r, c0, a0, l0, f0, c1, a1, l1, f1, e1, e2, hR1⟩ := hop c a l f hR
  refine am_wp_ok (inl := []) 60 12 154 [654] _ _ _ _ _ ?_
  refine And.intro h1 ?_
  refine And.intro h2 ?_
  refine And.intro h3 ?_
  refine ⟨_, _, e1, ?_⟩
  refine And.intro h1 ?_
  refine And.intro h2 ?_
  refine And.intro h3 ?_
  refine ⟨_, _, e2, ?_⟩
  refine am_br_t rfl ?_
  exact lp_next (IH _ _ _ _ hR1)
set_option maxRecDepth 100000 in
set_option maxHeartbeats 4000000 in
/-- check -/
theorem lp_17 {n : Nat} {xs : Nat → Int32} {Rl : lp_R} {c : Bool} {a : Nat → Nat → Int32} {l : Nat → Int64} {f : Nat → Nat → Int32} {i : Int32} (h1 : vp_in (i + 1) n) (h2 : vp_in (i + 2) n) (hop : lp_op (wd_ro n xs) Rl 21 144 [.int (xs (i + 1).toNatClampNeg), .int (xs (i + 2).toNatClampNeg)]) (hR : Rl c a l f) (IH : ∀ c a l f, Rl c a l f → lp_H (wd_ro n xs) (i + 4) (wd c a l f)) : am_T (wd_ro n xs) 12 154 565 [.retAddr 1, .ref 0, .ref 60, .int i] [] (wd c a l f) lp_K := by
  obtain ⟨r, c0, a0, l0, f0, c1, a1, l1, f1, e1, e2, hR1⟩ := hop c a l f hR
  refine am_wp_ok (inl := []) 60 12 154 [654] _ _ _ _ _ ?_
  refine And.intro h1 ?_
  refine And.intro h2 ?_
  refine ⟨_, _, e1, ?_⟩
  refine And.intro h1 ?_
  refine And.intro h2 ?_
  refine ⟨_, _, e2, ?_⟩
  refine am_br_t rfl ?_
  exact lp_next (IH _ _ _ _ hR1)
set_option maxRecDepth 100000 in
set_option maxHeartbeats 4000000 in
/-- put -/
theorem lp_18 {n : Nat} {xs : Nat → Int32} {Rl : lp_R} {c : Bool} {a : Nat → Nat → Int32} {l : Nat → Int64} {f : Nat → Nat → Int32} {i : Int32} (h1 : vp_in (i + 1) n) (hop : lp_op (wd_ro n xs) Rl 22 145 [.int (xs (i + 1).toNatClampNeg)]) (hR : Rl c a l f) (IH : ∀ c a l f, Rl c a l f → lp_H (wd_ro n xs) (i + 4) (wd c a l f)) : am_T (wd_ro n xs) 12 154 598 [.retAddr 1, .ref 0, .ref 60, .int i] [] (wd c a l f) lp_K := by
  obtain ⟨r, c0, a0, l0, f0, c1, a1, l1, f1, e1, e2, hR1⟩ := hop c a l f hR
  refine am_wp_ok (inl := []) 60 12 154 [654] _ _ _ _ _ ?_
  refine And.intro h1 ?_
  refine ⟨_, _, e1, ?_⟩
  refine And.intro h1 ?_
  refine ⟨_, _, e2, ?_⟩
  refine am_br_t rfl ?_
  exact lp_next (IH _ _ _ _ hR1)
set_option maxRecDepth 100000 in
set_option maxHeartbeats 4000000 in
/-- history -/
theorem lp_19 {n : Nat} {xs : Nat → Int32} {Rl : lp_R} {c : Bool} {a : Nat → Nat → Int32} {l : Nat → Int64} {f : Nat → Nat → Int32} {i : Int32} (h1 : vp_in (i + 1) n) (h2 : vp_in (i + 2) n) (hop : lp_op (wd_ro n xs) Rl 23 146 [.int (xs (i + 1).toNatClampNeg), .int (xs (i + 2).toNatClampNeg)]) (hR : Rl c a l f) (IH : ∀ c a l f, Rl c a l f → lp_H (wd_ro n xs) (i + 4) (wd c a l f)) : am_T (wd_ro n xs) 12 154 621 [.retAddr 1, .ref 0, .ref 60, .int i] [] (wd c a l f) lp_K := by
  obtain ⟨r, c0, a0, l0, f0, c1, a1, l1, f1, e1, e2, hR1⟩ := hop c a l f hR
  refine am_wp_ok (inl := []) 60 12 154 [654] _ _ _ _ _ ?_
  refine And.intro h1 ?_
  refine And.intro h2 ?_
  refine ⟨_, _, e1, ?_⟩
  refine And.intro h1 ?_
  refine And.intro h2 ?_
  refine ⟨_, _, e2, ?_⟩
  refine am_br_t rfl ?_
  exact lp_next (IH _ _ _ _ hR1)
end
section
/-- what is to be shown of the twenty calls -/
def lp_all (ro : Nat → Option am_C) (Rl : lp_R) : Prop := (∀ x0 : Int32, lp_op ro Rl 1 104 [.int x0]) ∧ lp_op ro Rl 2 106 [] ∧ (∀ x0 x1 : Int32, lp_op ro Rl 3 120 [.int x0, .int x1]) ∧ lp_op ro Rl 5 121 [] ∧ lp_op ro Rl 6 123 [] ∧ lp_op ro Rl 7 127 [] ∧ lp_op ro Rl 8 128 [] ∧ (∀ x0 : Int32, lp_op ro Rl 9 122 [.int x0]) ∧ (∀ x0 x1 : Int32, x1 = 0 ∨ x1 = 1 → lp_op ro Rl 10 129 [.int x0, .int x1]) ∧ (∀ x0 x1 x2 : Int32, lp_op ro Rl 11 130 [.int x0, .int x1, .int x2]) ∧ (∀ x0 : Int32, lp_op ro Rl 13 131 [.int x0]) ∧ (∀ x0 : Int32, lp_op ro Rl 15 137 [.int x0]) ∧ (∀ x0 x1 : Int32, lp_op ro Rl 16 138 [.int x0, .int x1]) ∧ (∀ x0 x1 : Int32, lp_op ro Rl 17 140 [.int x0, .int x1]) ∧ (∀ x0 x1 : Int32, lp_op ro Rl 18 141 [.int x0, .int x1]) ∧ lp_op ro Rl 19 142 [] ∧ (∀ x0 x1 x2 : Int32, lp_op ro Rl 20 143 [.int x0, .int x1, .int x2]) ∧ (∀ x0 x1 : Int32, lp_op ro Rl 21 144 [.int x0, .int x1]) ∧ (∀ x0 : Int32, lp_op ro Rl 22 145 [.int x0]) ∧ (∀ x0 x1 : Int32, lp_op ro Rl 23 146 [.int x0, .int x1])
theorem lp_in {n k j : Nat} (hn : n ≤ 2048) (h : k + j < n) {v : Int32} (hv : v = Int32.ofNat j) : vp_in (Int32.ofNat k + v) n := by
  subst hv
  rw [← Int32.ofNat_add]
  unfold vp_in
  rw [Int32.toNatClampNeg_ofNat_of_lt (by omega)]
  intro q
  rcases q with q | q
  · rw [Int32.lt_iff_toInt_lt, Int32.toInt_ofNat_of_lt (by omega)] at q
    have : (0 : Int32).toInt = 0 := rfl
    omega
  · omega
theorem lp_and (x : Int32) : ∃ j : Nat, j < 32 ∧ x &&& 31 = Int32.ofNat j := by
  refine ⟨(x.toBitVec &&& 31#32).toNat, ?_, ?_⟩
  · rw [BitVec.toNat_and]
    exact Nat.lt_of_le_of_lt Nat.and_le_right (by decide)
  · apply Int32.toBitVec_inj.mp
    rw [Int32.toBitVec_ofNat', BitVec.ofNat_toNat]
    simp
set_option maxRecDepth 100000 in
set_option maxHeartbeats 4000000 in
theorem lp_loop {n : Nat} {xs : Nat → Int32} {Rl : lp_R} (hn : n ≤ 2048) (hA : lp_all (wd_ro n xs) Rl) : ∀ (z k : Nat), n ≤ k + z → k ≤ n → ∀ c a l f, Rl c a l f → lp_H (wd_ro n xs) (Int32.ofNat k) (wd c a l f) := by
  intro z
  induction z using Nat.strongRecOn with
  | ind z ih =>
  intro k hz hk c a l f hR
  unfold lp_H
  by_cases hq : k + 4 ≤ n
  · have hc : ¬ Int32.ofNat n - Int32.ofNat 4 < Int32.ofNat k := by
      rw [← Int32.ofNat_sub _ _ (by omega), Int32.ofNat_lt_iff_lt (by omega) (by omega)]
      omega
    have IH : ∀ c a l f, Rl c a l f → lp_H (wd_ro n xs) (Int32.ofNat k + 4) (wd c a l f) := by
      intro c a l f hR
      have := ih (z - 1) (by omega) (k + 4) (by omega) (by omega) c a l f hR
      rw [Int32.ofNat_add] at this
      exact this
    refine am_wp_ok (inl := []) 12 12 154 [] _ _ _ _ _ ?_
    refine am_br_f hc ?_
    refine And.intro (by have := lp_in (v := 0) (j := 0) (k := k) hn (by omega) rfl; rwa [Int32.add_zero] at this) ?_
    refine And.intro (by decide) ?_
    show am_T (wd_ro n xs) 12 154 (am_ts 32 (xs (Int32.ofNat k).toNatClampNeg &&& 31) 622 0 19 #[96, 119, 132, 165, 178, 191, 204, 217, 240, 289, 332, 355, 378, 411, 444, 477, 490, 533, 566, 589]) [.retAddr 1, .ref 0, .ref 60, .int (Int32.ofNat k)] [] (wd c a l f) lp_K
    obtain ⟨j, hj, ej⟩ := lp_and (xs (Int32.ofNat k).toNatClampNeg)
    rw [ej]
    have h1 : vp_in (Int32.ofNat k + 1) n := lp_in (j := 1) hn (by omega) rfl
    have h2 : vp_in (Int32.ofNat k + 2) n := lp_in (j := 2) hn (by omega) rfl
    have h3 : vp_in (Int32.ofNat k + 3) n := lp_in (j := 3) hn (by omega) rfl
    obtain ⟨o0, o1, o2, o3, o4, o5, o6, o7, o8, o9, o10, o11, o12, o13, o14, o15, o16, o17, o18, o19⟩ := hA
    have hj : j = 0 ∨ j = 1 ∨ j = 2 ∨ j = 3 ∨ j = 4 ∨ j = 5 ∨ j = 6 ∨ j = 7 ∨ j = 8 ∨ j = 9 ∨ j = 10 ∨ j = 11 ∨ j = 12 ∨ j = 13 ∨ j = 14 ∨ j = 15 ∨ j = 16 ∨ j = 17 ∨ j = 18 ∨ j = 19 ∨ j = 20 ∨ j = 21 ∨ j = 22 ∨ j = 23 ∨ j = 24 ∨ j = 25 ∨ j = 26 ∨ j = 27 ∨ j = 28 ∨ j = 29 ∨ j = 30 ∨ j = 31 := by omega
    rcases hj with rfl | rfl | rfl | rfl | rfl | rfl | rfl | rfl | rfl | rfl | rfl | rfl | rfl | rfl | rfl | rfl | rfl | rfl | rfl | rfl | rfl | rfl | rfl | rfl | rfl | rfl | rfl | rfl | rfl | rfl | rfl | rfl
    · rw [show am_ts 32 (Int32.ofNat 0) 622 0 19 #[96, 119, 132, 165, 178, 191, 204, 217, 240, 289, 332, 355, 378, 411, 444, 477, 490, 533, 566, 589] = 128 from by decide +kernel]
      exact lp_0 h1 (o0 _) hR IH
    · rw [show am_ts 32 (Int32.ofNat 1) 622 0 19 #[96, 119, 132, 165, 178, 191, 204, 217, 240, 289, 332, 355, 378, 411, 444, 477, 490, 533, 566, 589] = 151 from by decide +kernel]
      exact lp_1 o1 hR IH
    · rw [show am_ts 32 (Int32.ofNat 2) 622 0 19 #[96, 119, 132, 165, 178, 191, 204, 217, 240, 289, 332, 355, 378, 411, 444, 477, 490, 533, 566, 589] = 164 from by decide +kernel]
      exact lp_2 h1 h2 (o2 _ _) hR IH
    · rw [show am_ts 32 (Int32.ofNat 3) 622 0 19 #[96, 119, 132, 165, 178, 191, 204, 217, 240, 289, 332, 355, 378, 411, 444, 477, 490, 533, 566, 589] = 197 from by decide +kernel]
      exact lp_3 o3 hR IH
    · rw [show am_ts 32 (Int32.ofNat 4) 622 0 19 #[96, 119, 132, 165, 178, 191, 204, 217, 240, 289, 332, 355, 378, 411, 444, 477, 490, 533, 566, 589] = 210 from by decide +kernel]
      exact lp_4 o4 hR IH
    · rw [show am_ts 32 (Int32.ofNat 5) 622 0 19 #[96, 119, 132, 165, 178, 191, 204, 217, 240, 289, 332, 355, 378, 411, 444, 477, 490, 533, 566, 589] = 223 from by decide +kernel]
      exact lp_5 o5 hR IH
    · rw [show am_ts 32 (Int32.ofNat 6) 622 0 19 #[96, 119, 132, 165, 178, 191, 204, 217, 240, 289, 332, 355, 378, 411, 444, 477, 490, 533, 566, 589] = 236 from by decide +kernel]
      exact lp_6 o6 hR IH
    · rw [show am_ts 32 (Int32.ofNat 7) 622 0 19 #[96, 119, 132, 165, 178, 191, 204, 217, 240, 289, 332, 355, 378, 411, 444, 477, 490, 533, 566, 589] = 249 from by decide +kernel]
      exact lp_7 h1 (o7 _) hR IH
    · rw [show am_ts 32 (Int32.ofNat 8) 622 0 19 #[96, 119, 132, 165, 178, 191, 204, 217, 240, 289, 332, 355, 378, 411, 444, 477, 490, 533, 566, 589] = 272 from by decide +kernel]
      exact lp_8 h1 h2 (o8 _ _ (by split <;> simp)) hR IH
    · rw [show am_ts 32 (Int32.ofNat 9) 622 0 19 #[96, 119, 132, 165, 178, 191, 204, 217, 240, 289, 332, 355, 378, 411, 444, 477, 490, 533, 566, 589] = 321 from by decide +kernel]
      exact lp_9 h1 h2 h3 (o9 _ _ _) hR IH
    · rw [show am_ts 32 (Int32.ofNat 10) 622 0 19 #[96, 119, 132, 165, 178, 191, 204, 217, 240, 289, 332, 355, 378, 411, 444, 477, 490, 533, 566, 589] = 364 from by decide +kernel]
      exact lp_10 h1 (o10 _) hR IH
    · rw [show am_ts 32 (Int32.ofNat 11) 622 0 19 #[96, 119, 132, 165, 178, 191, 204, 217, 240, 289, 332, 355, 378, 411, 444, 477, 490, 533, 566, 589] = 387 from by decide +kernel]
      exact lp_11 h1 (o11 _) hR IH
    · rw [show am_ts 32 (Int32.ofNat 12) 622 0 19 #[96, 119, 132, 165, 178, 191, 204, 217, 240, 289, 332, 355, 378, 411, 444, 477, 490, 533, 566, 589] = 410 from by decide +kernel]
      exact lp_12 h1 h2 (o12 _ _) hR IH
    · rw [show am_ts 32 (Int32.ofNat 13) 622 0 19 #[96, 119, 132, 165, 178, 191, 204, 217, 240, 289, 332, 355, 378, 411, 444, 477, 490, 533, 566, 589] = 443 from by decide +kernel]
      exact lp_13 h1 h2 (o13 _ _) hR IH
    · rw [show am_ts 32 (Int32.ofNat 14) 622 0 19 #[96, 119, 132, 165, 178, 191, 204, 217, 240, 289, 332, 355, 378, 411, 444, 477, 490, 533, 566, 589] = 476 from by decide +kernel]
      exact lp_14 h1 h2 (o14 _ _) hR IH
    · rw [show am_ts 32 (Int32.ofNat 15) 622 0 19 #[96, 119, 132, 165, 178, 191, 204, 217, 240, 289, 332, 355, 378, 411, 444, 477, 490, 533, 566, 589] = 509 from by decide +kernel]
      exact lp_15 o15 hR IH
    · rw [show am_ts 32 (Int32.ofNat 16) 622 0 19 #[96, 119, 132, 165, 178, 191, 204, 217, 240, 289, 332, 355, 378, 411, 444, 477, 490, 533, 566, 589] = 522 from by decide +kernel]
      exact lp_16 h1 h2 h3 (o16 _ _ _) hR IH
    · rw [show am_ts 32 (Int32.ofNat 17) 622 0 19 #[96, 119, 132, 165, 178, 191, 204, 217, 240, 289, 332, 355, 378, 411, 444, 477, 490, 533, 566, 589] = 565 from by decide +kernel]
      exact lp_17 h1 h2 (o17 _ _) hR IH
    · rw [show am_ts 32 (Int32.ofNat 18) 622 0 19 #[96, 119, 132, 165, 178, 191, 204, 217, 240, 289, 332, 355, 378, 411, 444, 477, 490, 533, 566, 589] = 598 from by decide +kernel]
      exact lp_18 h1 (o18 _) hR IH
    · rw [show am_ts 32 (Int32.ofNat 19) 622 0 19 #[96, 119, 132, 165, 178, 191, 204, 217, 240, 289, 332, 355, 378, 411, 444, 477, 490, 533, 566, 589] = 621 from by decide +kernel]
      exact lp_19 h1 h2 (o19 _ _) hR IH
    · rw [show am_ts 32 (Int32.ofNat 20) 622 0 19 #[96, 119, 132, 165, 178, 191, 204, 217, 240, 289, 332, 355, 378, 411, 444, 477, 490, 533, 566, 589] = 654 from by decide +kernel]
      exact lp_next (IH _ _ _ _ hR)
    · rw [show am_ts 32 (Int32.ofNat 21) 622 0 19 #[96, 119, 132, 165, 178, 191, 204, 217, 240, 289, 332, 355, 378, 411, 444, 477, 490, 533, 566, 589] = 654 from by decide +kernel]
      exact lp_next (IH _ _ _ _ hR)
    · rw [show am_ts 32 (Int32.ofNat 22) 622 0 19 #[96, 119, 132, 165, 178, 191, 204, 217, 240, 289, 332, 355, 378, 411, 444, 477, 490, 533, 566, 589] = 654 from by decide +kernel]
      exact lp_next (IH _ _ _ _ hR)
    · rw [show am_ts 32 (Int32.ofNat 23) 622 0 19 #[96, 119, 132, 165, 178, 191, 204, 217, 240, 289, 332, 355, 378, 411, 444, 477, 490, 533, 566, 589] = 654 from by decide +kernel]
      exact lp_next (IH _ _ _ _ hR)
    · rw [show am_ts 32 (Int32.ofNat 24) 622 0 19 #[96, 119, 132, 165, 178, 191, 204, 217, 240, 289, 332, 355, 378, 411, 444, 477, 490, 533, 566, 589] = 654 from by decide +kernel]
      exact lp_next (IH _ _ _ _ hR)
    · rw [show am_ts 32 (Int32.ofNat 25) 622 0 19 #[96, 119, 132, 165, 178, 191, 204, 217, 240, 289, 332, 355, 378, 411, 444, 477, 490, 533, 566, 589] = 654 from by decide +kernel]
      exact lp_next (IH _ _ _ _ hR)
    · rw [show am_ts 32 (Int32.ofNat 26) 622 0 19 #[96, 119, 132, 165, 178, 191, 204, 217, 240, 289, 332, 355, 378, 411, 444, 477, 490, 533, 566, 589] = 654 from by decide +kernel]
      exact lp_next (IH _ _ _ _ hR)
    · rw [show am_ts 32 (Int32.ofNat 27) 622 0 19 #[96, 119, 132, 165, 178, 191, 204, 217, 240, 289, 332, 355, 378, 411, 444, 477, 490, 533, 566, 589] = 654 from by decide +kernel]
      exact lp_next (IH _ _ _ _ hR)
    · rw [show am_ts 32 (Int32.ofNat 28) 622 0 19 #[96, 119, 132, 165, 178, 191, 204, 217, 240, 289, 332, 355, 378, 411, 444, 477, 490, 533, 566, 589] = 654 from by decide +kernel]
      exact lp_next (IH _ _ _ _ hR)
    · rw [show am_ts 32 (Int32.ofNat 29) 622 0 19 #[96, 119, 132, 165, 178, 191, 204, 217, 240, 289, 332, 355, 378, 411, 444, 477, 490, 533, 566, 589] = 654 from by decide +kernel]
      exact lp_next (IH _ _ _ _ hR)
    · rw [show am_ts 32 (Int32.ofNat 30) 622 0 19 #[96, 119, 132, 165, 178, 191, 204, 217, 240, 289, 332, 355, 378, 411, 444, 477, 490, 533, 566, 589] = 654 from by decide +kernel]
      exact lp_next (IH _ _ _ _ hR)
    · rw [show am_ts 32 (Int32.ofNat 31) 622 0 19 #[96, 119, 132, 165, 178, 191, 204, 217, 240, 289, 332, 355, 378, 411, 444, 477, 490, 533, 566, 589] = 654 from by decide +kernel]
      exact lp_next (IH _ _ _ _ hR)
  · have hc : Int32.ofNat n - Int32.ofNat 4 < Int32.ofNat k := by
      rw [Int32.lt_iff_toInt_lt, Int32.toInt_ofNat_of_lt (show k < 2 ^ 31 by omega)]
      have h4 : (Int32.ofNat n - Int32.ofNat 4).toInt = (n : Int) - 4 := by
        rw [Int32.toInt_sub, Int32.toInt_ofNat_of_lt (by omega), Int32.toInt_ofNat_of_lt (by omega)]
        exact Int.bmod_eq_of_le (by omega) (by omega)
      omega
    refine am_wp_ok (inl := []) 12 12 154 [] _ _ _ _ _ ?_
    refine am_br_t hc ?_
    exact And.intro rfl (And.intro rfl (And.intro (Nat.le_of_eq wd_len) (Nat.le_of_eq wd_sz)))
set_option maxRecDepth 100000 in
set_option maxHeartbeats 4000000 in
/-- the law, from its first instruction -/
theorem lp_whole {n : Nat} {xs : Nat → Int32} {Rl : lp_R} (hn : n ≤ 2048) (hA : lp_all (wd_ro n xs) Rl) (h0 : Rl false (fun _ _ => 0) (fun _ => 0) (fun _ _ => 0)) : am_T (wd_ro n xs) 12 154 0 (am_l0 154 [.retAddr 1]) [] [] lp_K := by
  refine am_wp_ok (inl := []) 4 12 154 [7] _ _ _ _ _ ?_
  refine ⟨_, _, am_run_up (ct_0 (wd_ro n xs)) (by decide), ?_⟩
  refine am_wp_ok (inl := []) 5 12 154 [15] _ _ _ _ _ ?_
  refine ⟨_, _, am_run_up (ct_60 (wd_ro n xs) _ _ _ _ _ _ _ _ _ _ _ _ _ _ _ _ _ _ _ _ _ _ _ _ _ _ _ _ _ _ _ _ _ _ _ _ _ _ _ _ _ _ _ _ _ _ _ _ _ _ _ _ _ _ _ _ _ _ _ _) (by decide), ?_⟩
  refine am_wp_ok (inl := []) 5 12 154 [18] _ _ _ _ _ ?_
  exact lp_loop hn hA n 0 (by omega) (by omega) false _ _ _ h0
end
section
/-! WRITES on the row of cells -/
theorem wf_1_1 {c : Bool} {a : Nat → Nat → Int32} {l : Nat → Int64} {f : Nat → Nat → Int32} {v : Int32} : (wd c a l f).set 1 (.inr (1, [.ref 2, .int (f 1 1), .int (f 1 2), .int (f 1 3), .int (f 1 4)].set 1 (.int v))) = wd c a l (u3 f 1 1 v) := rfl
theorem wf_1_2 {c : Bool} {a : Nat → Nat → Int32} {l : Nat → Int64} {f : Nat → Nat → Int32} {v : Int32} : (wd c a l f).set 1 (.inr (1, [.ref 2, .int (f 1 1), .int (f 1 2), .int (f 1 3), .int (f 1 4)].set 2 (.int v))) = wd c a l (u3 f 1 2 v) := rfl
theorem wf_1_3 {c : Bool} {a : Nat → Nat → Int32} {l : Nat → Int64} {f : Nat → Nat → Int32} {v : Int32} : (wd c a l f).set 1 (.inr (1, [.ref 2, .int (f 1 1), .int (f 1 2), .int (f 1 3), .int (f 1 4)].set 3 (.int v))) = wd c a l (u3 f 1 3 v) := rfl
theorem wf_1_4 {c : Bool} {a : Nat → Nat → Int32} {l : Nat → Int64} {f : Nat → Nat → Int32} {v : Int32} : (wd c a l f).set 1 (.inr (1, [.ref 2, .int (f 1 1), .int (f 1 2), .int (f 1 3), .int (f 1 4)].set 4 (.int v))) = wd c a l (u3 f 1 4 v) := rfl
theorem ws_2 {c : Bool} {a : Nat → Nat → Int32} {l : Nat → Int64} {f : Nat → Nat → Int32} {g : Nat → Int32} : (wd c a l f).set 2 (.inl (.int, 900, .inl g)) = wd c (u2 a 2 g) l f := rfl
theorem ws_4 {c : Bool} {a : Nat → Nat → Int32} {l : Nat → Int64} {f : Nat → Nat → Int32} {g : Nat → Int32} : (wd c a l f).set 4 (.inl (.boolean, 10, .inl g)) = wd c (u2 a 4 g) l f := rfl
theorem ws_5 {c : Bool} {a : Nat → Nat → Int32} {l : Nat → Int64} {f : Nat → Nat → Int32} {g : Nat → Int32} : (wd c a l f).set 5 (.inl (.int, 10, .inl g)) = wd c (u2 a 5 g) l f := rfl
theorem ws_7 {c : Bool} {a : Nat → Nat → Int32} {l : Nat → Int64} {f : Nat → Nat → Int32} {g : Nat → Int32} : (wd c a l f).set 7 (.inl (.int, 6, .inl g)) = wd c (u2 a 7 g) l f := rfl
theorem ws_8 {c : Bool} {a : Nat → Nat → Int32} {l : Nat → Int64} {f : Nat → Nat → Int32} {g : Nat → Int32} : (wd c a l f).set 8 (.inl (.int, 6, .inl g)) = wd c (u2 a 8 g) l f := rfl
theorem wf_9_3 {c : Bool} {a : Nat → Nat → Int32} {l : Nat → Int64} {f : Nat → Nat → Int32} {v : Int32} : (wd c a l f).set 9 (.inr (4, [.ref 10, .ref 11, .ref 12, .int (f 9 3)].set 3 (.int v))) = wd c a l (u3 f 9 3 v) := rfl
theorem ws_10 {c : Bool} {a : Nat → Nat → Int32} {l : Nat → Int64} {f : Nat → Nat → Int32} {g : Nat → Int32} : (wd c a l f).set 10 (.inl (.int, 6, .inl g)) = wd c (u2 a 10 g) l f := rfl
theorem ws_11 {c : Bool} {a : Nat → Nat → Int32} {l : Nat → Int64} {f : Nat → Nat → Int32} {g : Nat → Int32} : (wd c a l f).set 11 (.inl (.int, 30, .inl g)) = wd c (u2 a 11 g) l f := rfl
theorem ws_12 {c : Bool} {a : Nat → Nat → Int32} {l : Nat → Int64} {f : Nat → Nat → Int32} {g : Nat → Int32} : (wd c a l f).set 12 (.inl (.int, 30, .inl g)) = wd c (u2 a 12 g) l f := rfl
theorem ws_14 {c : Bool} {a : Nat → Nat → Int32} {l : Nat → Int64} {f : Nat → Nat → Int32} {g : Nat → Int32} : (wd c a l f).set 14 (.inl (.int, 8, .inl g)) = wd c (u2 a 14 g) l f := rfl
theorem ws_15 {c : Bool} {a : Nat → Nat → Int32} {l : Nat → Int64} {f : Nat → Nat → Int32} {g : Nat → Int32} : (wd c a l f).set 15 (.inl (.int, 96, .inl g)) = wd c (u2 a 15 g) l f := rfl
theorem wf_17_6 {c : Bool} {a : Nat → Nat → Int32} {l : Nat → Int64} {f : Nat → Nat → Int32} {v : Int32} : (wd c a l f).set 17 (.inr (7, [.ref 18, .ref 19, .ref 20, .ref 21, .ref 22, .ref 23, .int (f 17 6), .int (f 17 7)].set 6 (.int v))) = wd c a l (u3 f 17 6 v) := rfl
theorem wf_17_7 {c : Bool} {a : Nat → Nat → Int32} {l : Nat → Int64} {f : Nat → Nat → Int32} {v : Int32} : (wd c a l f).set 17 (.inr (7, [.ref 18, .ref 19, .ref 20, .ref 21, .ref 22, .ref 23, .int (f 17 6), .int (f 17 7)].set 7 (.int v))) = wd c a l (u3 f 17 7 v) := rfl
theorem ws_18 {c : Bool} {a : Nat → Nat → Int32} {l : Nat → Int64} {f : Nat → Nat → Int32} {g : Nat → Int32} : (wd c a l f).set 18 (.inl (.int, 30, .inl g)) = wd c (u2 a 18 g) l f := rfl
theorem ws_19 {c : Bool} {a : Nat → Nat → Int32} {l : Nat → Int64} {f : Nat → Nat → Int32} {g : Nat → Int32} : (wd c a l f).set 19 (.inl (.int, 30, .inl g)) = wd c (u2 a 19 g) l f := rfl
theorem ws_20 {c : Bool} {a : Nat → Nat → Int32} {l : Nat → Int64} {f : Nat → Nat → Int32} {g : Nat → Int32} : (wd c a l f).set 20 (.inl (.int, 30, .inl g)) = wd c (u2 a 20 g) l f := rfl
theorem ws_21 {c : Bool} {a : Nat → Nat → Int32} {l : Nat → Int64} {f : Nat → Nat → Int32} {g : Nat → Int32} : (wd c a l f).set 21 (.inl (.int, 60, .inl g)) = wd c (u2 a 21 g) l f := rfl
theorem ws_22 {c : Bool} {a : Nat → Nat → Int32} {l : Nat → Int64} {f : Nat → Nat → Int32} {g : Nat → Int32} : (wd c a l f).set 22 (.inl (.int, 60, .inl g)) = wd c (u2 a 22 g) l f := rfl
theorem ws_23 {c : Bool} {a : Nat → Nat → Int32} {l : Nat → Int64} {f : Nat → Nat → Int32} {g : Nat → Int32} : (wd c a l f).set 23 (.inl (.int, 60, .inl g)) = wd c (u2 a 23 g) l f := rfl
theorem wf_24_7 {c : Bool} {a : Nat → Nat → Int32} {l : Nat → Int64} {f : Nat → Nat → Int32} {v : Int32} : (wd c a l f).set 24 (.inr (8, [.ref 25, .ref 26, .ref 27, .ref 28, .ref 29, .ref 30, .ref 31, .int (f 24 7), .int (f 24 8), .int (f 24 9)].set 7 (.int v))) = wd c a l (u3 f 24 7 v) := rfl
theorem wf_24_8 {c : Bool} {a : Nat → Nat → Int32} {l : Nat → Int64} {f : Nat → Nat → Int32} {v : Int32} : (wd c a l f).set 24 (.inr (8, [.ref 25, .ref 26, .ref 27, .ref 28, .ref 29, .ref 30, .ref 31, .int (f 24 7), .int (f 24 8), .int (f 24 9)].set 8 (.int v))) = wd c a l (u3 f 24 8 v) := rfl
theorem wf_24_9 {c : Bool} {a : Nat → Nat → Int32} {l : Nat → Int64} {f : Nat → Nat → Int32} {v : Int32} : (wd c a l f).set 24 (.inr (8, [.ref 25, .ref 26, .ref 27, .ref 28, .ref 29, .ref 30, .ref 31, .int (f 24 7), .int (f 24 8), .int (f 24 9)].set 9 (.int v))) = wd c a l (u3 f 24 9 v) := rfl
theorem ws_25 {c : Bool} {a : Nat → Nat → Int32} {l : Nat → Int64} {f : Nat → Nat → Int32} {g : Nat → Int32} : (wd c a l f).set 25 (.inl (.int, 16, .inl g)) = wd c (u2 a 25 g) l f := rfl
theorem ws_26 {c : Bool} {a : Nat → Nat → Int32} {l : Nat → Int64} {f : Nat → Nat → Int32} {g : Nat → Int32} : (wd c a l f).set 26 (.inl (.int, 16, .inl g)) = wd c (u2 a 26 g) l f := rfl
theorem ws_27 {c : Bool} {a : Nat → Nat → Int32} {l : Nat → Int64} {f : Nat → Nat → Int32} {g : Nat → Int32} : (wd c a l f).set 27 (.inl (.int, 16, .inl g)) = wd c (u2 a 27 g) l f := rfl
theorem ws_28 {c : Bool} {a : Nat → Nat → Int32} {l : Nat → Int64} {f : Nat → Nat → Int32} {g : Nat → Int32} : (wd c a l f).set 28 (.inl (.int, 20, .inl g)) = wd c (u2 a 28 g) l f := rfl
theorem ws_29 {c : Bool} {a : Nat → Nat → Int32} {l : Nat → Int64} {f : Nat → Nat → Int32} {g : Nat → Int32} : (wd c a l f).set 29 (.inl (.int, 20, .inl g)) = wd c (u2 a 29 g) l f := rfl
theorem ws_30 {c : Bool} {a : Nat → Nat → Int32} {l : Nat → Int64} {f : Nat → Nat → Int32} {g : Nat → Int32} : (wd c a l f).set 30 (.inl (.int, 20, .inl g)) = wd c (u2 a 30 g) l f := rfl
theorem ws_31 {c : Bool} {a : Nat → Nat → Int32} {l : Nat → Int64} {f : Nat → Nat → Int32} {g : Nat → Int32} : (wd c a l f).set 31 (.inl (.int, 20, .inl g)) = wd c (u2 a 31 g) l f := rfl
theorem wf_32_5 {c : Bool} {a : Nat → Nat → Int32} {l : Nat → Int64} {f : Nat → Nat → Int32} {v : Int32} : (wd c a l f).set 32 (.inr (9, [.ref 33, .ref 34, .ref 35, .ref 36, .ref 37, .int (f 32 5)].set 5 (.int v))) = wd c a l (u3 f 32 5 v) := rfl
theorem ws_33 {c : Bool} {a : Nat → Nat → Int32} {l : Nat → Int64} {f : Nat → Nat → Int32} {g : Nat → Int32} : (wd c a l f).set 33 (.inl (.int, 20, .inl g)) = wd c (u2 a 33 g) l f := rfl
theorem ws_34 {c : Bool} {a : Nat → Nat → Int32} {l : Nat → Int64} {f : Nat → Nat → Int32} {g : Nat → Int32} : (wd c a l f).set 34 (.inl (.int, 20, .inl g)) = wd c (u2 a 34 g) l f := rfl
theorem ws_35 {c : Bool} {a : Nat → Nat → Int32} {l : Nat → Int64} {f : Nat → Nat → Int32} {g : Nat → Int32} : (wd c a l f).set 35 (.inl (.int, 160, .inl g)) = wd c (u2 a 35 g) l f := rfl
theorem ws_36 {c : Bool} {a : Nat → Nat → Int32} {l : Nat → Int64} {f : Nat → Nat → Int32} {g : Nat → Int32} : (wd c a l f).set 36 (.inl (.int, 20, .inl g)) = wd c (u2 a 36 g) l f := rfl
theorem ws_37 {c : Bool} {a : Nat → Nat → Int32} {l : Nat → Int64} {f : Nat → Nat → Int32} {g : Nat → Int32} : (wd c a l f).set 37 (.inl (.int, 9, .inl g)) = wd c (u2 a 37 g) l f := rfl
theorem wf_39_6 {c : Bool} {a : Nat → Nat → Int32} {l : Nat → Int64} {f : Nat → Nat → Int32} {v : Int32} : (wd c a l f).set 39 (.inr (7, [.ref 40, .ref 41, .ref 42, .ref 43, .ref 44, .ref 45, .int (f 39 6), .int (f 39 7)].set 6 (.int v))) = wd c a l (u3 f 39 6 v) := rfl
theorem wf_39_7 {c : Bool} {a : Nat → Nat → Int32} {l : Nat → Int64} {f : Nat → Nat → Int32} {v : Int32} : (wd c a l f).set 39 (.inr (7, [.ref 40, .ref 41, .ref 42, .ref 43, .ref 44, .ref 45, .int (f 39 6), .int (f 39 7)].set 7 (.int v))) = wd c a l (u3 f 39 7 v) := rfl
theorem ws_40 {c : Bool} {a : Nat → Nat → Int32} {l : Nat → Int64} {f : Nat → Nat → Int32} {g : Nat → Int32} : (wd c a l f).set 40 (.inl (.int, 30, .inl g)) = wd c (u2 a 40 g) l f := rfl
theorem ws_41 {c : Bool} {a : Nat → Nat → Int32} {l : Nat → Int64} {f : Nat → Nat → Int32} {g : Nat → Int32} : (wd c a l f).set 41 (.inl (.int, 30, .inl g)) = wd c (u2 a 41 g) l f := rfl
theorem ws_42 {c : Bool} {a : Nat → Nat → Int32} {l : Nat → Int64} {f : Nat → Nat → Int32} {g : Nat → Int32} : (wd c a l f).set 42 (.inl (.int, 30, .inl g)) = wd c (u2 a 42 g) l f := rfl
theorem ws_43 {c : Bool} {a : Nat → Nat → Int32} {l : Nat → Int64} {f : Nat → Nat → Int32} {g : Nat → Int32} : (wd c a l f).set 43 (.inl (.int, 60, .inl g)) = wd c (u2 a 43 g) l f := rfl
theorem ws_44 {c : Bool} {a : Nat → Nat → Int32} {l : Nat → Int64} {f : Nat → Nat → Int32} {g : Nat → Int32} : (wd c a l f).set 44 (.inl (.int, 60, .inl g)) = wd c (u2 a 44 g) l f := rfl
theorem ws_45 {c : Bool} {a : Nat → Nat → Int32} {l : Nat → Int64} {f : Nat → Nat → Int32} {g : Nat → Int32} : (wd c a l f).set 45 (.inl (.int, 60, .inl g)) = wd c (u2 a 45 g) l f := rfl
theorem wf_46_7 {c : Bool} {a : Nat → Nat → Int32} {l : Nat → Int64} {f : Nat → Nat → Int32} {v : Int32} : (wd c a l f).set 46 (.inr (8, [.ref 47, .ref 48, .ref 49, .ref 50, .ref 51, .ref 52, .ref 53, .int (f 46 7), .int (f 46 8), .int (f 46 9)].set 7 (.int v))) = wd c a l (u3 f 46 7 v) := rfl
theorem wf_46_8 {c : Bool} {a : Nat → Nat → Int32} {l : Nat → Int64} {f : Nat → Nat → Int32} {v : Int32} : (wd c a l f).set 46 (.inr (8, [.ref 47, .ref 48, .ref 49, .ref 50, .ref 51, .ref 52, .ref 53, .int (f 46 7), .int (f 46 8), .int (f 46 9)].set 8 (.int v))) = wd c a l (u3 f 46 8 v) := rfl
theorem wf_46_9 {c : Bool} {a : Nat → Nat → Int32} {l : Nat → Int64} {f : Nat → Nat → Int32} {v : Int32} : (wd c a l f).set 46 (.inr (8, [.ref 47, .ref 48, .ref 49, .ref 50, .ref 51, .ref 52, .ref 53, .int (f 46 7), .int (f 46 8), .int (f 46 9)].set 9 (.int v))) = wd c a l (u3 f 46 9 v) := rfl
theorem ws_47 {c : Bool} {a : Nat → Nat → Int32} {l : Nat → Int64} {f : Nat → Nat → Int32} {g : Nat → Int32} : (wd c a l f).set 47 (.inl (.int, 16, .inl g)) = wd c (u2 a 47 g) l f := rfl
theorem ws_48 {c : Bool} {a : Nat → Nat → Int32} {l : Nat → Int64} {f : Nat → Nat → Int32} {g : Nat → Int32} : (wd c a l f).set 48 (.inl (.int, 16, .inl g)) = wd c (u2 a 48 g) l f := rfl
theorem ws_49 {c : Bool} {a : Nat → Nat → Int32} {l : Nat → Int64} {f : Nat → Nat → Int32} {g : Nat → Int32} : (wd c a l f).set 49 (.inl (.int, 16, .inl g)) = wd c (u2 a 49 g) l f := rfl
theorem ws_50 {c : Bool} {a : Nat → Nat → Int32} {l : Nat → Int64} {f : Nat → Nat → Int32} {g : Nat → Int32} : (wd c a l f).set 50 (.inl (.int, 20, .inl g)) = wd c (u2 a 50 g) l f := rfl
theorem ws_51 {c : Bool} {a : Nat → Nat → Int32} {l : Nat → Int64} {f : Nat → Nat → Int32} {g : Nat → Int32} : (wd c a l f).set 51 (.inl (.int, 20, .inl g)) = wd c (u2 a 51 g) l f := rfl
theorem ws_52 {c : Bool} {a : Nat → Nat → Int32} {l : Nat → Int64} {f : Nat → Nat → Int32} {g : Nat → Int32} : (wd c a l f).set 52 (.inl (.int, 20, .inl g)) = wd c (u2 a 52 g) l f := rfl
theorem ws_53 {c : Bool} {a : Nat → Nat → Int32} {l : Nat → Int64} {f : Nat → Nat → Int32} {g : Nat → Int32} : (wd c a l f).set 53 (.inl (.int, 20, .inl g)) = wd c (u2 a 53 g) l f := rfl
theorem wf_54_5 {c : Bool} {a : Nat → Nat → Int32} {l : Nat → Int64} {f : Nat → Nat → Int32} {v : Int32} : (wd c a l f).set 54 (.inr (9, [.ref 55, .ref 56, .ref 57, .ref 58, .ref 59, .int (f 54 5)].set 5 (.int v))) = wd c a l (u3 f 54 5 v) := rfl
theorem ws_55 {c : Bool} {a : Nat → Nat → Int32} {l : Nat → Int64} {f : Nat → Nat → Int32} {g : Nat → Int32} : (wd c a l f).set 55 (.inl (.int, 20, .inl g)) = wd c (u2 a 55 g) l f := rfl
theorem ws_56 {c : Bool} {a : Nat → Nat → Int32} {l : Nat → Int64} {f : Nat → Nat → Int32} {g : Nat → Int32} : (wd c a l f).set 56 (.inl (.int, 20, .inl g)) = wd c (u2 a 56 g) l f := rfl
theorem ws_57 {c : Bool} {a : Nat → Nat → Int32} {l : Nat → Int64} {f : Nat → Nat → Int32} {g : Nat → Int32} : (wd c a l f).set 57 (.inl (.int, 160, .inl g)) = wd c (u2 a 57 g) l f := rfl
theorem ws_58 {c : Bool} {a : Nat → Nat → Int32} {l : Nat → Int64} {f : Nat → Nat → Int32} {g : Nat → Int32} : (wd c a l f).set 58 (.inl (.int, 20, .inl g)) = wd c (u2 a 58 g) l f := rfl
theorem ws_59 {c : Bool} {a : Nat → Nat → Int32} {l : Nat → Int64} {f : Nat → Nat → Int32} {g : Nat → Int32} : (wd c a l f).set 59 (.inl (.int, 9, .inl g)) = wd c (u2 a 59 g) l f := rfl
theorem wf_60_1 {c : Bool} {a : Nat → Nat → Int32} {l : Nat → Int64} {f : Nat → Nat → Int32} {v : Int32} : (wd c a l f).set 60 (.inr (10, [.ref 61, .int (f 60 1), .int (f 60 2), .int (f 60 3), .ref 62, .ref 63, .ref 64, .ref 65, .ref 66, .ref 67, .ref 68, .ref 69, .ref 70, .ref 71, .ref 72, .ref 73, .ref 74, .ref 75, .int (f 60 18), .ref 76, .ref 77, .ref 78, .ref 79, .int (f 60 23), .ref 80, .ref 81, .int (f 60 26), .int (f 60 27), .int (f 60 28)].set 1 (.int v))) = wd c a l (u3 f 60 1 v) := rfl
theorem wf_60_2 {c : Bool} {a : Nat → Nat → Int32} {l : Nat → Int64} {f : Nat → Nat → Int32} {v : Int32} : (wd c a l f).set 60 (.inr (10, [.ref 61, .int (f 60 1), .int (f 60 2), .int (f 60 3), .ref 62, .ref 63, .ref 64, .ref 65, .ref 66, .ref 67, .ref 68, .ref 69, .ref 70, .ref 71, .ref 72, .ref 73, .ref 74, .ref 75, .int (f 60 18), .ref 76, .ref 77, .ref 78, .ref 79, .int (f 60 23), .ref 80, .ref 81, .int (f 60 26), .int (f 60 27), .int (f 60 28)].set 2 (.int v))) = wd c a l (u3 f 60 2 v) := rfl
theorem wf_60_3 {c : Bool} {a : Nat → Nat → Int32} {l : Nat → Int64} {f : Nat → Nat → Int32} {v : Int32} : (wd c a l f).set 60 (.inr (10, [.ref 61, .int (f 60 1), .int (f 60 2), .int (f 60 3), .ref 62, .ref 63, .ref 64, .ref 65, .ref 66, .ref 67, .ref 68, .ref 69, .ref 70, .ref 71, .ref 72, .ref 73, .ref 74, .ref 75, .int (f 60 18), .ref 76, .ref 77, .ref 78, .ref 79, .int (f 60 23), .ref 80, .ref 81, .int (f 60 26), .int (f 60 27), .int (f 60 28)].set 3 (.int v))) = wd c a l (u3 f 60 3 v) := rfl
theorem wf_60_18 {c : Bool} {a : Nat → Nat → Int32} {l : Nat → Int64} {f : Nat → Nat → Int32} {v : Int32} : (wd c a l f).set 60 (.inr (10, [.ref 61, .int (f 60 1), .int (f 60 2), .int (f 60 3), .ref 62, .ref 63, .ref 64, .ref 65, .ref 66, .ref 67, .ref 68, .ref 69, .ref 70, .ref 71, .ref 72, .ref 73, .ref 74, .ref 75, .int (f 60 18), .ref 76, .ref 77, .ref 78, .ref 79, .int (f 60 23), .ref 80, .ref 81, .int (f 60 26), .int (f 60 27), .int (f 60 28)].set 18 (.int v))) = wd c a l (u3 f 60 18 v) := rfl
theorem wf_60_23 {c : Bool} {a : Nat → Nat → Int32} {l : Nat → Int64} {f : Nat → Nat → Int32} {v : Int32} : (wd c a l f).set 60 (.inr (10, [.ref 61, .int (f 60 1), .int (f 60 2), .int (f 60 3), .ref 62, .ref 63, .ref 64, .ref 65, .ref 66, .ref 67, .ref 68, .ref 69, .ref 70, .ref 71, .ref 72, .ref 73, .ref 74, .ref 75, .int (f 60 18), .ref 76, .ref 77, .ref 78, .ref 79, .int (f 60 23), .ref 80, .ref 81, .int (f 60 26), .int (f 60 27), .int (f 60 28)].set 23 (.int v))) = wd c a l (u3 f 60 23 v) := rfl
theorem wf_60_26 {c : Bool} {a : Nat → Nat → Int32} {l : Nat → Int64} {f : Nat → Nat → Int32} {v : Int32} : (wd c a l f).set 60 (.inr (10, [.ref 61, .int (f 60 1), .int (f 60 2), .int (f 60 3), .ref 62, .ref 63, .ref 64, .ref 65, .ref 66, .ref 67, .ref 68, .ref 69, .ref 70, .ref 71, .ref 72, .ref 73, .ref 74, .ref 75, .int (f 60 18), .ref 76, .ref 77, .ref 78, .ref 79, .int (f 60 23), .ref 80, .ref 81, .int (f 60 26), .int (f 60 27), .int (f 60 28)].set 26 (.int v))) = wd c a l (u3 f 60 26 v) := rfl
theorem wf_60_27 {c : Bool} {a : Nat → Nat → Int32} {l : Nat → Int64} {f : Nat → Nat → Int32} {v : Int32} : (wd c a l f).set 60 (.inr (10, [.ref 61, .int (f 60 1), .int (f 60 2), .int (f 60 3), .ref 62, .ref 63, .ref 64, .ref 65, .ref 66, .ref 67, .ref 68, .ref 69, .ref 70, .ref 71, .ref 72, .ref 73, .ref 74, .ref 75, .int (f 60 18), .ref 76, .ref 77, .ref 78, .ref 79, .int (f 60 23), .ref 80, .ref 81, .int (f 60 26), .int (f 60 27), .int (f 60 28)].set 27 (.int v))) = wd c a l (u3 f 60 27 v) := rfl
theorem wf_60_28 {c : Bool} {a : Nat → Nat → Int32} {l : Nat → Int64} {f : Nat → Nat → Int32} {v : Int32} : (wd c a l f).set 60 (.inr (10, [.ref 61, .int (f 60 1), .int (f 60 2), .int (f 60 3), .ref 62, .ref 63, .ref 64, .ref 65, .ref 66, .ref 67, .ref 68, .ref 69, .ref 70, .ref 71, .ref 72, .ref 73, .ref 74, .ref 75, .int (f 60 18), .ref 76, .ref 77, .ref 78, .ref 79, .int (f 60 23), .ref 80, .ref 81, .int (f 60 26), .int (f 60 27), .int (f 60 28)].set 28 (.int v))) = wd c a l (u3 f 60 28 v) := rfl
theorem ws_61 {c : Bool} {a : Nat → Nat → Int32} {l : Nat → Int64} {f : Nat → Nat → Int32} {g : Nat → Int32} : (wd c a l f).set 61 (.inl (.int, 900, .inl g)) = wd c (u2 a 61 g) l f := rfl
theorem ws_62 {c : Bool} {a : Nat → Nat → Int32} {l : Nat → Int64} {f : Nat → Nat → Int32} {g : Nat → Int32} : (wd c a l f).set 62 (.inl (.int, 12, .inl g)) = wd c (u2 a 62 g) l f := rfl
theorem ws_63 {c : Bool} {a : Nat → Nat → Int32} {l : Nat → Int64} {f : Nat → Nat → Int32} {g : Nat → Int32} : (wd c a l f).set 63 (.inl (.int, 60, .inl g)) = wd c (u2 a 63 g) l f := rfl
theorem ws_64 {c : Bool} {a : Nat → Nat → Int32} {l : Nat → Int64} {f : Nat → Nat → Int32} {g : Nat → Int32} : (wd c a l f).set 64 (.inl (.int, 60, .inl g)) = wd c (u2 a 64 g) l f := rfl
theorem ws_65 {c : Bool} {a : Nat → Nat → Int32} {l : Nat → Int64} {f : Nat → Nat → Int32} {g : Nat → Int32} : (wd c a l f).set 65 (.inl (.int, 62, .inl g)) = wd c (u2 a 65 g) l f := rfl
theorem ws_66 {c : Bool} {a : Nat → Nat → Int32} {l : Nat → Int64} {f : Nat → Nat → Int32} {g : Nat → Int32} : (wd c a l f).set 66 (.inl (.int, 360, .inl g)) = wd c (u2 a 66 g) l f := rfl
theorem ws_67 {c : Bool} {a : Nat → Nat → Int32} {l : Nat → Int64} {f : Nat → Nat → Int32} {g : Nat → Int32} : (wd c a l f).set 67 (.inl (.int, 32, .inl g)) = wd c (u2 a 67 g) l f := rfl
theorem ws_68 {c : Bool} {a : Nat → Nat → Int32} {l : Nat → Int64} {f : Nat → Nat → Int32} {g : Nat → Int32} : (wd c a l f).set 68 (.inl (.int, 64, .inl g)) = wd c (u2 a 68 g) l f := rfl
theorem ws_69 {c : Bool} {a : Nat → Nat → Int32} {l : Nat → Int64} {f : Nat → Nat → Int32} {g : Nat → Int32} : (wd c a l f).set 69 (.inl (.int, 160, .inl g)) = wd c (u2 a 69 g) l f := rfl
theorem ws_70 {c : Bool} {a : Nat → Nat → Int32} {l : Nat → Int64} {f : Nat → Nat → Int32} {g : Nat → Int32} : (wd c a l f).set 70 (.inl (.int, 40, .inl g)) = wd c (u2 a 70 g) l f := rfl
theorem ws_71 {c : Bool} {a : Nat → Nat → Int32} {l : Nat → Int64} {f : Nat → Nat → Int32} {g : Nat → Int64} : (wd c a l f).set 71 (.inl (.long, 40, .inr (.inl g))) = wd c a g f := rfl
theorem ws_72 {c : Bool} {a : Nat → Nat → Int32} {l : Nat → Int64} {f : Nat → Nat → Int32} {g : Nat → Int32} : (wd c a l f).set 72 (.inl (.boolean, 10, .inl g)) = wd c (u2 a 72 g) l f := rfl
theorem ws_73 {c : Bool} {a : Nat → Nat → Int32} {l : Nat → Int64} {f : Nat → Nat → Int32} {g : Nat → Int32} : (wd c a l f).set 73 (.inl (.int, 10, .inl g)) = wd c (u2 a 73 g) l f := rfl
theorem ws_74 {c : Bool} {a : Nat → Nat → Int32} {l : Nat → Int64} {f : Nat → Nat → Int32} {g : Nat → Int32} : (wd c a l f).set 74 (.inl (.boolean, 60, .inl g)) = wd c (u2 a 74 g) l f := rfl
theorem ws_75 {c : Bool} {a : Nat → Nat → Int32} {l : Nat → Int64} {f : Nat → Nat → Int32} {g : Nat → Int32} : (wd c a l f).set 75 (.inl (.boolean, 60, .inl g)) = wd c (u2 a 75 g) l f := rfl
theorem ws_76 {c : Bool} {a : Nat → Nat → Int32} {l : Nat → Int64} {f : Nat → Nat → Int32} {g : Nat → Int32} : (wd c a l f).set 76 (.inl (.int, 6, .inl g)) = wd c (u2 a 76 g) l f := rfl
theorem ws_77 {c : Bool} {a : Nat → Nat → Int32} {l : Nat → Int64} {f : Nat → Nat → Int32} {g : Nat → Int32} : (wd c a l f).set 77 (.inl (.int, 60, .inl g)) = wd c (u2 a 77 g) l f := rfl
theorem ws_78 {c : Bool} {a : Nat → Nat → Int32} {l : Nat → Int64} {f : Nat → Nat → Int32} {g : Nat → Int32} : (wd c a l f).set 78 (.inl (.int, 8, .inl g)) = wd c (u2 a 78 g) l f := rfl
theorem ws_79 {c : Bool} {a : Nat → Nat → Int32} {l : Nat → Int64} {f : Nat → Nat → Int32} {g : Nat → Int32} : (wd c a l f).set 79 (.inl (.int, 96, .inl g)) = wd c (u2 a 79 g) l f := rfl
theorem ws_80 {c : Bool} {a : Nat → Nat → Int32} {l : Nat → Int64} {f : Nat → Nat → Int32} {g : Nat → Int32} : (wd c a l f).set 80 (.inl (.int, 9, .inl g)) = wd c (u2 a 80 g) l f := rfl
theorem ws_81 {c : Bool} {a : Nat → Nat → Int32} {l : Nat → Int64} {f : Nat → Nat → Int32} {g : Nat → Int32} : (wd c a l f).set 81 (.inl (.int, 20, .inl g)) = wd c (u2 a 81 g) l f := rfl
end
section
/-! WHAT TIES THE CLASS TO THE REFERENCE -/
/-- the rule set in force begins at this cell -/
def ob (c : Bool) : Nat := bif c then 38 else 16
/-- letters 1 .. 26, packed -/
def pk (w : List Nat) : Nat := w.foldl (fun v x => 27 * v + x) 0
def rT (a : Nat → Nat → Int32) (f : Nat → Nat → Int32) : Prop := ∃ n : Nat, n ≤ 900 ∧ f 1 1 = nI n ∧ f 60 1 = nI n ∧ ∀ i, i < n → ∃ u : Nat, u < 256 ∧ a 61 i = nI u ∧ a 2 i = nI (if u = 10 then 32 else u)
def rF (a : Nat → Nat → Int32) : Prop := ∀ i, i < 10 → a 4 i = a 72 i ∧ (a 4 i = 0 ∨ a 4 i = 1) ∧ a 5 i = a 73 i
def rP (a : Nat → Nat → Int32) : Prop := ∀ e, e < 6 → ∃ nd th : Nat, nd < 1024 ∧ th < 1024 ∧ a 7 e = nI nd ∧ a 8 e = nI th ∧ ∀ p, p < 10 → a 74 (10 * e + p) = nI (nd.testBit p).toNat ∧ a 75 (10 * e + p) = nI (th.testBit p).toNat
def rM (a : Nat → Nat → Int32) (f : Nat → Nat → Int32) : Prop := (∃ n : Nat, n ≤ 6 ∧ f 9 3 = nI n ∧ f 60 18 = nI n) ∧ (∀ p, p < 6 → ∃ k : Nat, k ≤ 5 ∧ a 10 p = nI k ∧ a 76 p = nI k) ∧ ∀ q, q < 30 → a 11 q = a 77 (2 * q) ∧ a 12 q = a 77 (2 * q + 1)
def rH (a : Nat → Nat → Int32) : Prop := (∀ p, p < 8 → ∃ k : Nat, k ≤ 12 ∧ a 14 p = nI k ∧ a 78 p = nI k) ∧ ∀ q, q < 96 → a 15 q = a 79 q
/-- a rule set of the class, at o, against a half of the reference's rows -/
def rS (o h : Nat) (a : Nat → Nat → Int32) (l : Nat → Int64) (f : Nat → Nat → Int32) (nb nc ng nm np nn : Nat) : Prop :=
  (nb ≤ 30 ∧ nc ≤ 60 ∧ ng ≤ 16 ∧ nm ≤ 16 ∧ np ≤ 20 ∧ nn ≤ 20) ∧
  (f (o + 1) 6 = nI nb ∧ f (o + 1) 7 = nI nc ∧ f (o + 8) 7 = nI ng ∧ f (o + 8) 8 = nI nm ∧ f (o + 8) 9 = nI np ∧ f (o + 16) 5 = nI nn) ∧
  (a 62 (6 * h) = nI nb ∧ a 62 (6 * h + 1) = nI nc ∧ a 62 (6 * h + 2) = nI ng ∧ a 62 (6 * h + 3) = nI nm ∧ a 62 (6 * h + 4) = nI np ∧ a 62 (6 * h + 5) = nI nn) ∧
  (∀ i, i < nb → a (o + 2) i = a 63 (30 * h + i) ∧ a (o + 3) i = a 64 (30 * h + i)) ∧
  (∃ e : Nat → Nat, e 0 = 0 ∧ e nb = nc ∧ ∀ i, i < nb → e i ≤ e (i + 1) ∧ e (i + 1) ≤ nc ∧ a (o + 4) i = nI (e (i + 1)) ∧ a 65 (31 * h + i) = nI (e i)) ∧
  (∀ k, k < nc → (∃ q : Nat, q < 10 ∧ a (o + 5) k = nI q ∧ a 66 (180 * h + 3 * k) = nI q) ∧ a (o + 6) k = a 66 (180 * h + 3 * k + 1) ∧ a (o + 7) k = a 66 (180 * h + 3 * k + 2)) ∧
  (∀ i, i < ng → a (o + 9) i = a 67 (16 * h + i)) ∧
  (∀ i, i < nm → a (o + 10) i = a 68 (32 * h + 2 * i) ∧ a (o + 11) i = a 68 (32 * h + 2 * i + 1)) ∧
  (∀ i, i < np → a (o + 12) i = a 69 (80 * h + 4 * i) ∧ a (o + 13) i = a 69 (80 * h + 4 * i + 1) ∧ a (o + 14) i = a 69 (80 * h + 4 * i + 2) ∧ a (o + 15) i = a 69 (80 * h + 4 * i + 3)) ∧
  (∀ i, i < nn → a (o + 17) i = a 70 (20 * h + i) ∧ ∃ w : List Nat, 1 ≤ w.length ∧ w.length ≤ 8 ∧ (∀ x ∈ w, 1 ≤ x ∧ x ≤ 26) ∧ a (o + 18) i = nI w.length ∧ (∀ j, j < w.length → a (o + 19) (8 * i + j) = nI (96 + w.getD j 0)) ∧ l (20 * h + i) = Int64.ofNat (pk w))
def rR (c : Bool) (a : Nat → Nat → Int32) (l : Nat → Int64) (f : Nat → Nat → Int32) : Prop := ∃ nb nc ng nm np nn : Nat, rS (ob c) 0 a l f nb nc ng nm np nn ∧ a 65 nb = nI nc
def Rl : lp_R := fun c a l f => rT a f ∧ rF a ∧ rP a ∧ rM a f ∧ rH a ∧ rR c a l f
theorem Rl_zero : Rl false (fun _ _ => 0) (fun _ => 0) (fun _ _ => 0) := by
  refine ⟨⟨0, by omega, rfl, rfl, fun i h => absurd h (by omega)⟩, fun i _ => ⟨rfl, Or.inl rfl, rfl⟩, fun e _ => ⟨0, 0, by omega, by omega, rfl, rfl, fun p _ => ⟨by simp [nI], by simp [nI]⟩⟩, ⟨⟨0, by omega, rfl, rfl⟩, fun p _ => ⟨0, by omega, rfl, rfl⟩, fun q _ => ⟨rfl, rfl⟩⟩, ⟨fun p _ => ⟨0, by omega, rfl, rfl⟩, fun q _ => rfl⟩, ⟨0, 0, 0, 0, 0, 0, ⟨⟨by omega, by omega, by omega, by omega, by omega, by omega⟩, ⟨rfl, rfl, rfl, rfl, rfl, rfl⟩, ⟨rfl, rfl, rfl, rfl, rfl, rfl⟩, fun i h => absurd h (by omega), ⟨fun _ => 0, rfl, rfl, fun i h => absurd h (by omega)⟩, fun i h => absurd h (by omega), fun i h => absurd h (by omega), fun i h => absurd h (by omega), fun i h => absurd h (by omega), fun i h => absurd h (by omega)⟩, rfl⟩⟩
/-! small helpers that both call -/
theorem sp_below_t {ro : Nat → Option am_C} {v b : Int32} {hp : am_H} (h1 : ¬ v < 0) (h2 : ¬ b ≤ v) : am_run ro 1 4 [.int v, .int b] hp (some (.int 1)) hp := by
  refine am_run_of rfl (am_wp_ok (inl := []) 20 0 4 [] 0 _ _ _ _ ?_)
  refine am_br_f h1 (am_br_f h2 ?_)
  exact And.intro rfl (And.intro rfl rfl)
theorem sp_below_f {ro : Nat → Option am_C} {v b : Int32} {hp : am_H} (h : v < 0 ∨ b ≤ v) : am_run ro 1 4 [.int v, .int b] hp (some (.int 0)) hp := by
  refine am_run_of rfl (am_wp_ok (inl := []) 20 0 4 [] 0 _ _ _ _ ?_)
  by_cases h1 : v < 0
  · refine am_br_t h1 ?_
    exact And.intro rfl (And.intro rfl rfl)
  · refine am_br_f h1 (am_br_t (h.resolve_left h1) ?_)
    exact And.intro rfl (And.intro rfl rfl)
theorem sp_in_t {ro : Nat → Option am_C} {v lo hi : Int64} {hp : am_H} (h1 : lo ≤ v) (h2 : v ≤ hi) : am_run ro 1 105 [.long v, .long lo, .long hi] hp (some (.int 1)) hp := by
  refine am_run_of rfl (am_wp_ok (inl := []) 20 0 105 [] 0 _ _ _ _ ?_)
  refine am_br_f (fun q => absurd ((lg_cmp_lt _ _).mp q) (by rw [Int64.not_lt]; exact h1)) ?_
  refine am_br_f (fun q => absurd ((lg_cmp_gt _ _).mp q) (by rw [Int64.not_lt]; exact h2)) ?_
  exact And.intro rfl (And.intro rfl rfl)
theorem sp_in_f {ro : Nat → Option am_C} {v lo hi : Int64} {hp : am_H} (h : v < lo ∨ hi < v) : am_run ro 1 105 [.long v, .long lo, .long hi] hp (some (.int 0)) hp := by
  refine am_run_of rfl (am_wp_ok (inl := []) 20 0 105 [] 0 _ _ _ _ ?_)
  by_cases h1 : v < lo
  · refine am_br_t ((lg_cmp_lt _ _).mpr h1) ?_
    exact And.intro rfl (And.intro rfl rfl)
  · refine am_br_f (fun q => h1 ((lg_cmp_lt _ _).mp q)) (am_br_t ((lg_cmp_gt _ _).mpr (h.resolve_left h1)) ?_)
    exact And.intro rfl (And.intro rfl rfl)
/-- an int against longs that are ints -/
theorem li_le {x : Int32} {k : Nat} (hk : k < 2 ^ 31) : x.toInt64 ≤ Int64.ofNat k ↔ x.toInt ≤ k := by
  rw [Int64.le_iff_toInt_le, Int32.toInt_toInt64, Int64.toInt_ofNat_of_lt (by omega)]
theorem li_ge {x : Int32} : (0 : Int64) ≤ x.toInt64 ↔ 0 ≤ x.toInt := by
  rw [Int64.le_iff_toInt_le, Int32.toInt_toInt64]
  exact Iff.rfl
/-- x is one of 0 .. k - 1, or it isn't: as both ask it -/
theorem bd (x : Int32) (k : Nat) (hk : k < 2 ^ 31) : (∃ j : Nat, j < k ∧ x = nI j) ∨ (x < 0 ∨ nI k ≤ x) := by
  by_cases h : x < 0
  · exact Or.inr (Or.inl h)
  · obtain ⟨j, hj, rfl⟩ := nI_of h
    by_cases hq : j < k
    · exact Or.inl ⟨j, hq, rfl⟩
    · exact Or.inr (Or.inr ((nI_leI hk hj).mpr (by omega)))
theorem in_t {ro : Nat → Option am_C} {j k : Nat} {hi : Int64} {hp : am_H} (h : j ≤ k) (hk : k < 2 ^ 31) (hh : hi = Int64.ofNat k) : am_run ro 1 105 [.long (nI j).toInt64, .long (Int64.ofNat 0), .long hi] hp (some (.int 1)) hp := by
  subst hh
  refine sp_in_t ?_ ((li_le hk).mpr ?_)
  · exact li_ge.mpr (by rw [nI_toInt (by omega)]; omega)
  · rw [nI_toInt (by omega)]; omega
theorem in_f {ro : Nat → Option am_C} {x : Int32} {k : Nat} {hi : Int64} {hp : am_H} (h : x < 0 ∨ nI (k + 1) ≤ x) (hk : k + 1 < 2 ^ 31) (hh : hi = Int64.ofNat k) : am_run ro 1 105 [.long x.toInt64, .long (Int64.ofNat 0), .long hi] hp (some (.int 0)) hp := by
  subst hh
  refine sp_in_f ?_
  rcases h with h | h
  · left
    rw [Int64.lt_iff_toInt_lt, Int32.toInt_toInt64]
    exact Int32.lt_iff_toInt_lt.mp h
  · right
    rw [Int64.lt_iff_toInt_lt, Int32.toInt_toInt64, Int64.toInt_ofNat_of_lt (by omega)]
    have := Int32.le_iff_toInt_le.mp h
    rw [nI_toInt hk] at this
    omega
end
section
/-! FACTS: fact, clearFacts -/
theorem u2_id {α : Type} {a : Nat → α} {k : Nat} : u2 a k (a k) = a := by
  funext j
  by_cases h : j = k
  · rw [h, u2_same]
  · rw [u2_ne h]
theorem u2_u2 {α : Type} {a : Nat → α} {k : Nat} {x y : α} : u2 (u2 a k x) k y = u2 a k y := by
  funext j
  by_cases h : j = k
  · rw [h, u2_same, u2_same]
  · rw [u2_ne h, u2_ne h, u2_ne h]
theorem upd_same {g : Nat → Int32} {k : Nat} {x : Int32} : upd g k x k = x := by simp [upd]
theorem upd_ne {g : Nat → Int32} {k j : Nat} {x : Int32} (h : j ≠ k) : upd g k x j = g j := by simp [upd, h]
set_option maxRecDepth 100000 in
set_option maxHeartbeats 4000000 in
theorem cs_learn_t {ro : Nat → Option am_C} {c : Bool} {a : Nat → Nat → Int32} {l : Nat → Int64} {f : Nat → Nat → Int32} {j : Nat} (hj : j < 10) (y : Int32) : am_run ro 2 37 [.ref 3, .int (nI j), .int y] (wd c a l f) (some (.int 1)) (wd c (u2 (u2 a 4 (upd (a 4) j 1)) 5 (upd (a 5) j y)) l f) := by
  have hin : vp_in (nI j) 10 := vp_in_nI hj (by decide)
  have ej : (nI j).toNatClampNeg = j := nI_clamp (by omega)
  refine am_run_of rfl (am_wp_ok (inl := []) 60 1 37 [] 0 _ _ _ _ ?_)
  refine ⟨_, _, am_run_up (sp_below_t (nI_pos (by omega)) (nI_ge (b := 10) hj (by decide))) (by decide), ?_⟩
  refine am_br_t (by decide) ?_
  refine And.intro hin (And.intro hin ?_)
  refine And.intro rfl (And.intro rfl ?_)
  show ((wd c a l f).set 4 (.inl (.boolean, 10, .inl (upd (a 4) (nI j).toNatClampNeg (vp_nar .boolean 1))))).set 5 (.inl (.int, 10, .inl (upd (a 5) (nI j).toNatClampNeg y))) = _
  rw [ws_4, ws_5, show vp_nar .boolean 1 = 1 from rfl, ej]
theorem cs_learn_f {ro : Nat → Option am_C} {c : Bool} {a : Nat → Nat → Int32} {l : Nat → Int64} {f : Nat → Nat → Int32} {x : Int32} (h : x < 0 ∨ nI 10 ≤ x) (y : Int32) : am_run ro 2 37 [.ref 3, .int x, .int y] (wd c a l f) (some (.int 0)) (wd c a l f) := by
  refine am_run_of rfl (am_wp_ok (inl := []) 60 1 37 [] 0 _ _ _ _ ?_)
  refine ⟨_, _, am_run_up (sp_below_f h) (by decide), ?_⟩
  refine am_br_f (by decide) ?_
  exact And.intro rfl (And.intro rfl rfl)
theorem mo_fact_t {ro : Nat → Option am_C} {c : Bool} {a : Nat → Nat → Int32} {l : Nat → Int64} {f : Nat → Nat → Int32} {j : Nat} (hj : j < 10) (y : Int32) : am_run ro 2 120 [.ref 60, .int (nI j), .int y] (wd c a l f) (some (.int 1)) (wd c (u2 (u2 a 72 (upd (a 72) j 1)) 73 (upd (a 73) j y)) l f) := by
  have hin : vp_in (nI j) 10 := vp_in_nI hj (by decide)
  have ej : (nI j).toNatClampNeg = j := nI_clamp (by omega)
  refine am_run_of rfl (am_wp_ok (inl := []) 60 1 120 [] 0 _ _ _ _ ?_)
  refine ⟨_, _, am_run_up (in_t (j := j) (k := 9) (by omega) (by decide) rfl) (by decide), ?_⟩
  refine am_br_t (by decide) ?_
  refine And.intro hin (And.intro hin ?_)
  refine And.intro rfl (And.intro rfl ?_)
  show ((wd c a l f).set 72 (.inl (.boolean, 10, .inl (upd (a 72) (nI j).toNatClampNeg (vp_nar .boolean 1))))).set 73 (.inl (.int, 10, .inl (upd (a 73) (nI j).toNatClampNeg y))) = _
  rw [ws_72, ws_73, show vp_nar .boolean 1 = 1 from rfl, ej]
theorem mo_fact_f {ro : Nat → Option am_C} {c : Bool} {a : Nat → Nat → Int32} {l : Nat → Int64} {f : Nat → Nat → Int32} {x : Int32} (h : x < 0 ∨ nI 10 ≤ x) (y : Int32) : am_run ro 2 120 [.ref 60, .int x, .int y] (wd c a l f) (some (.int 0)) (wd c a l f) := by
  refine am_run_of rfl (am_wp_ok (inl := []) 60 1 120 [] 0 _ _ _ _ ?_)
  refine ⟨_, _, am_run_up (in_f (k := 9) h (by decide) rfl) (by decide), ?_⟩
  refine am_br_f (by decide) ?_
  exact And.intro rfl (And.intro rfl rfl)
theorem cl_fact {ro : Nat → Option am_C} {c : Bool} {a : Nat → Nat → Int32} {l : Nat → Int64} {f : Nat → Nat → Int32} {x y r : Int32} {hp : am_H} (h : am_run ro 11 37 [.ref 3, .int x, .int y] (wd c a l f) (some (.int r)) hp) (hr : narrow .boolean (.int r) = .int r) : am_run ro 12 3 [.ref 0, .int x, .int y] (wd c a l f) (some (.int r)) hp := by
  refine am_run_of rfl (am_wp_ok (inl := []) 60 11 3 [] 0 _ _ _ _ ?_)
  refine ⟨_, _, h, ?_⟩
  exact And.intro hr (And.intro rfl rfl)
theorem op_fact {ro : Nat → Option am_C} (x y : Int32) : lp_op ro Rl 3 120 [.int x, .int y] := by
  intro c a l f hR
  rcases bd x 10 (by decide) with ⟨j, hj, rfl⟩ | h
  · refine ⟨1, c, _, l, f, c, _, l, f, cl_fact (am_run_up (cs_learn_t hj y) (by decide)) rfl, am_run_up (mo_fact_t hj y) (by decide), ?_⟩
    obtain ⟨h1, h2, h3, h4, h5, h6⟩ := hR
    refine ⟨h1, fun i hi => ?_, h3, h4, h5, by cases c <;> exact h6⟩
    show upd (a 4) j 1 i = upd (a 72) j 1 i ∧ (upd (a 4) j 1 i = 0 ∨ upd (a 4) j 1 i = 1) ∧ upd (a 5) j y i = upd (a 73) j y i
    by_cases e : i = j
    · subst e
      rw [upd_same, upd_same, upd_same, upd_same]
      exact ⟨rfl, Or.inr rfl, rfl⟩
    · rw [upd_ne e, upd_ne e, upd_ne e, upd_ne e]
      exact h2 i hi
  · exact ⟨0, c, a, l, f, c, a, l, f, cl_fact (am_run_up (cs_learn_f h y) (by decide)) rfl, am_run_up (mo_fact_f h y) (by decide), hR⟩
/-- counting and clearing, from k on, m places -/
def lc : (Nat → Int32) → Int32 → Nat → Nat → Int32 × (Nat → Int32)
  | g, w, _, 0 => (w, g)
  | g, w, k, m + 1 => lc (upd g k 0) (if g k = 0 then w else w + 1) (k + 1) m
theorem lc_eq : ∀ (m k : Nat) (g g' : Nat → Int32) (w : Int32), (∀ i, k ≤ i → i < k + m → g i = g' i) → (lc g w k m).1 = (lc g' w k m).1 := by
  intro m
  induction m with
  | zero => intro k g g' w h; rfl
  | succ m ih =>
    intro k g g' w h
    show (lc (upd g k 0) (if g k = 0 then w else w + 1) (k + 1) m).1 = (lc (upd g' k 0) (if g' k = 0 then w else w + 1) (k + 1) m).1
    rw [h k (by omega) (by omega)]
    refine ih (k + 1) _ _ _ (fun i h1 h2 => ?_)
    rw [upd_ne (by omega), upd_ne (by omega)]
    exact h i (by omega) (by omega)
theorem lc_get : ∀ (m k : Nat) (g : Nat → Int32) (w : Int32) (i : Nat), (lc g w k m).2 i = if k ≤ i ∧ i < k + m then 0 else g i := by
  intro m
  induction m with
  | zero => intro k g w i; rw [if_neg (by omega)]; rfl
  | succ m ih =>
    intro k g w i
    show (lc (upd g k 0) (if g k = 0 then w else w + 1) (k + 1) m).2 i = _
    rw [ih]
    by_cases h1 : i = k
    · subst h1
      rw [if_neg (by omega), if_pos (by omega), upd_same]
    · rw [upd_ne h1]
      by_cases h2 : k + 1 ≤ i ∧ i < k + 1 + m
      · rw [if_pos h2, if_pos (by omega)]
      · rw [if_neg h2, if_neg (by omega)]
set_option maxRecDepth 100000 in
set_option maxHeartbeats 4000000 in
theorem cf_loop {ro : Nat → Option am_C} {c : Bool} {l : Nat → Int64} {f : Nat → Nat → Int32} : ∀ (m k : Nat) (a : Nat → Nat → Int32) (w : Int32), k + m = 10 → am_T ro 10 38 4 [.ref 3, .int w, .int (nI k)] [] (wd c a l f) (fun r hp' => r = some (.int (lc (a 4) w k m).1) ∧ hp' = wd c (u2 a 4 (lc (a 4) w k m).2) l f) := by
  intro m
  induction m with
  | zero =>
    intro k a w h
    refine am_wp_ok (inl := []) 10 10 38 [] _ _ _ _ _ ?_
    refine am_br_t (show nI 10 ≤ nI k from nI_le (by omega) (by omega)) ?_
    exact And.intro rfl (by rw [show (lc (a 4) w k 0).2 = a 4 from rfl, u2_id])
  | succ m ih =>
    intro k a w h
    have ek : (nI k).toNatClampNeg = k := nI_clamp (by omega)
    have hin : vp_in (nI k) 10 := vp_in_nI (by omega) (by omega)
    have fin : ∀ w', w' = (if a 4 k = 0 then w else w + 1) → am_T ro 10 38 4 [.ref 3, .int w', .int (nI k + 1)] [] (wd c (u2 a 4 (upd (a 4) (nI k).toNatClampNeg 0)) l f) (fun r hp' => r = some (.int (lc (a 4) w k (m + 1)).1) ∧ hp' = wd c (u2 a 4 (lc (a 4) w k (m + 1)).2) l f) := by
      intro w' hw
      rw [ek, nI_1]
      refine (ih (k + 1) (u2 a 4 (upd (a 4) k 0)) w' (by omega)).mono (fun r hp' e => ?_)
      rw [u2_u2] at e
      rw [hw] at e
      exact e
    refine am_wp_ok (inl := []) 30 10 38 [4] _ _ _ _ _ ?_
    refine am_br_f (show ¬ nI 10 ≤ nI k from nI_ge (by omega) (by omega)) ?_
    refine And.intro hin ?_
    by_cases hz : a 4 k = 0
    · refine am_br_t (show a 4 (nI k).toNatClampNeg = 0 by rw [ek]; exact hz) ?_
      refine And.intro hin ?_
      exact fin w (by rw [if_pos hz])
    · refine am_br_f (show ¬ a 4 (nI k).toNatClampNeg = 0 by rw [ek]; exact hz) ?_
      refine And.intro hin ?_
      exact fin (w + 1) (by rw [if_neg hz])
set_option maxRecDepth 100000 in
set_option maxHeartbeats 4000000 in
theorem mf_loop {ro : Nat → Option am_C} {c : Bool} {l : Nat → Int64} {f : Nat → Nat → Int32} : ∀ (m k : Nat) (a : Nat → Nat → Int32) (w : Int32), k + m = 10 → am_T ro 11 121 4 [.ref 60, .int w, .int (nI k)] [] (wd c a l f) (fun r hp' => r = some (.int (lc (a 72) w k m).1) ∧ hp' = wd c (u2 a 72 (lc (a 72) w k m).2) l f) := by
  intro m
  induction m with
  | zero =>
    intro k a w h
    refine am_wp_ok (inl := []) 10 11 121 [] _ _ _ _ _ ?_
    refine am_br_t (show nI 10 ≤ nI k from nI_le (by omega) (by omega)) ?_
    exact And.intro rfl (by rw [show (lc (a 72) w k 0).2 = a 72 from rfl, u2_id])
  | succ m ih =>
    intro k a w h
    have ek : (nI k).toNatClampNeg = k := nI_clamp (by omega)
    have hin : vp_in (nI k) 10 := vp_in_nI (by omega) (by omega)
    have fin : ∀ w', w' = (if a 72 k = 0 then w else w + 1) → am_T ro 11 121 4 [.ref 60, .int w', .int (nI k + 1)] [] (wd c (u2 a 72 (upd (a 72) (nI k).toNatClampNeg 0)) l f) (fun r hp' => r = some (.int (lc (a 72) w k (m + 1)).1) ∧ hp' = wd c (u2 a 72 (lc (a 72) w k (m + 1)).2) l f) := by
      intro w' hw
      rw [ek, nI_1]
      refine (ih (k + 1) (u2 a 72 (upd (a 72) k 0)) w' (by omega)).mono (fun r hp' e => ?_)
      rw [u2_u2] at e
      rw [hw] at e
      exact e
    refine am_wp_ok (inl := []) 30 11 121 [4] _ _ _ _ _ ?_
    refine am_br_f (show ¬ nI 10 ≤ nI k from nI_ge (by omega) (by omega)) ?_
    refine And.intro hin ?_
    by_cases hz : a 72 k = 0
    · refine am_br_t (show a 72 (nI k).toNatClampNeg = 0 by rw [ek]; exact hz) ?_
      refine And.intro hin ?_
      exact fin (w + 0) (by rw [if_pos hz, Int32.add_zero])
    · refine am_br_f (show ¬ a 72 (nI k).toNatClampNeg = 0 by rw [ek]; exact hz) ?_
      refine And.intro hin ?_
      exact fin (w + 1) (by rw [if_neg hz])
set_option maxRecDepth 100000 in
set_option maxHeartbeats 4000000 in
theorem op_clear {ro : Nat → Option am_C} : lp_op ro Rl 5 121 [] := by
  intro c a l f hR
  obtain ⟨h1, h2, h3, h4, h5, h6⟩ := hR
  refine ⟨(lc (a 4) 0 0 10).1, c, u2 a 4 (lc (a 4) 0 0 10).2, l, f, c, u2 (u2 a 4 (lc (a 4) 0 0 10).2) 72 (lc (a 72) 0 0 10).2, l, f, ?_, ?_, ?_⟩
  · refine am_run_of rfl (am_wp_ok (inl := []) 60 11 5 [] 0 _ _ _ _ ?_)
    have h0 : am_run ro 11 38 [.ref 3] (wd c a l f) (some (.int (lc (a 4) 0 0 10).1)) (wd c (u2 a 4 (lc (a 4) 0 0 10).2) l f) := am_run_of rfl (am_wp_ok (inl := []) 10 10 38 [4] 0 _ _ _ _ (cf_loop 10 0 a 0 (by omega)))
    refine ⟨_, _, h0, ?_⟩
    exact And.intro rfl rfl
  · refine am_run_of rfl (am_wp_ok (inl := []) 10 11 121 [4] 0 _ _ _ _ ?_)
    rw [lc_eq 10 0 (a 4) (a 72) 0 (fun i _ hi => (h2 i (by omega)).1)]
    exact mf_loop 10 0 (u2 a 4 (lc (a 4) 0 0 10).2) 0 (by omega)
  · refine ⟨h1, fun i hi => ?_, h3, h4, h5, by cases c <;> exact h6⟩
    show (lc (a 4) 0 0 10).2 i = (lc (a 72) 0 0 10).2 i ∧ ((lc (a 4) 0 0 10).2 i = 0 ∨ (lc (a 4) 0 0 10).2 i = 1) ∧ a 5 i = a 73 i
    rw [lc_get, lc_get, if_pos (by omega), if_pos (by omega)]
    exact ⟨rfl, Or.inl rfl, (h2 i hi).2.2⟩
end
section
/-! PERMITS: permit, allows, check -/
theorem nI_mul (x y : Nat) : nI x * nI y = nI (x * y) := (Int32.ofNat_mul x y).symm
theorem nI_sub {x y : Nat} (h : y ≤ x) : nI x - nI y = nI (x - y) := (Int32.ofNat_sub x y h).symm
set_option maxRecDepth 100000 in
set_option maxHeartbeats 4000000 in
theorem cs_grant_f {ro : Nat → Option am_C} {c : Bool} {a : Nat → Nat → Int32} {l : Nat → Int64} {f : Nat → Nat → Int32} (h : f 9 3 = nI 6) : am_run ro 1 49 [.ref 9] (wd c a l f) (some (.int (-1))) (wd c a l f) := by
  refine am_run_of rfl (am_wp_ok (inl := []) 60 0 49 [] 0 _ _ _ _ ?_)
  refine am_br_f (show ¬ f 9 3 < nI 6 by rw [h]; exact nI_nlt (by decide) (by decide)) ?_
  exact And.intro rfl rfl
set_option maxRecDepth 100000 in
set_option maxHeartbeats 4000000 in
theorem cs_grant_t {ro : Nat → Option am_C} {c : Bool} {a : Nat → Nat → Int32} {l : Nat → Int64} {f : Nat → Nat → Int32} {n : Nat} (h : f 9 3 = nI n) (hn : n < 6) : am_run ro 1 49 [.ref 9] (wd c a l f) (some (.int (nI n))) (wd c a l (u3 f 9 3 (nI (n + 1)))) := by
  refine am_run_of rfl (am_wp_ok (inl := []) 60 0 49 [] 0 _ _ _ _ ?_)
  refine am_br_t (show f 9 3 < nI 6 by rw [h]; exact nI_lt hn (by decide)) ?_
  refine And.intro (show some (Value.int (f 9 3 + 1 - 1)) = _ by rw [h, nI_1, nI_pred]) ?_
  show (wd c a l f).set 9 (.inr (4, [.ref 10, .ref 11, .ref 12, .int (f 9 3)].set 3 (.int (f 9 3 + 1)))) = _
  rw [wf_9_3, h, nI_1]
set_option maxRecDepth 100000 in
set_option maxHeartbeats 4000000 in
theorem mo_permit_f {ro : Nat → Option am_C} {c : Bool} {a : Nat → Nat → Int32} {l : Nat → Int64} {f : Nat → Nat → Int32} (h : f 60 18 = nI 6) : am_run ro 1 142 [.ref 60] (wd c a l f) (some (.int (-1))) (wd c a l f) := by
  refine am_run_of rfl (am_wp_ok (inl := []) 60 0 142 [] 0 _ _ _ _ ?_)
  refine am_br_f (show ¬ ¬ f 60 18 = nI 6 by rw [h]; exact fun q => q rfl) ?_
  exact And.intro rfl rfl
set_option maxRecDepth 100000 in
set_option maxHeartbeats 4000000 in
theorem mo_permit_t {ro : Nat → Option am_C} {c : Bool} {a : Nat → Nat → Int32} {l : Nat → Int64} {f : Nat → Nat → Int32} {n : Nat} (h : f 60 18 = nI n) (hn : n < 6) : am_run ro 1 142 [.ref 60] (wd c a l f) (some (.int (nI n))) (wd c a l (u3 f 60 18 (nI (n + 1)))) := by
  refine am_run_of rfl (am_wp_ok (inl := []) 60 0 142 [] 0 _ _ _ _ ?_)
  refine am_br_t (show ¬ f 60 18 = nI 6 by rw [h, nI_eq (by omega) (by decide)]; omega) ?_
  refine And.intro (show some (Value.int (f 60 18 + 1 - 1)) = _ by rw [h, nI_1, nI_pred]) ?_
  show (wd c a l f).set 60 (.inr (10, [.ref 61, .int (f 60 1), .int (f 60 2), .int (f 60 3), .ref 62, .ref 63, .ref 64, .ref 65, .ref 66, .ref 67, .ref 68, .ref 69, .ref 70, .ref 71, .ref 72, .ref 73, .ref 74, .ref 75, .int (f 60 18), .ref 76, .ref 77, .ref 78, .ref 79, .int (f 60 23), .ref 80, .ref 81, .int (f 60 26), .int (f 60 27), .int (f 60 28)].set 18 (.int (f 60 18 + 1)))) = _
  rw [wf_60_18, h, nI_1]
set_option maxRecDepth 100000 in
set_option maxHeartbeats 4000000 in
theorem cl_permit {ro : Nat → Option am_C} {c : Bool} {a : Nat → Nat → Int32} {l : Nat → Int64} {f : Nat → Nat → Int32} {r : Int32} {hp : am_H} (h : am_run ro 11 49 [.ref 9] (wd c a l f) (some (.int r)) hp) : am_run ro 12 19 [.ref 0] (wd c a l f) (some (.int r)) hp := by
  refine am_run_of rfl (am_wp_ok (inl := []) 60 11 19 [] 0 _ _ _ _ ?_)
  refine ⟨_, _, h, ?_⟩
  exact And.intro rfl rfl
theorem op_permit {ro : Nat → Option am_C} : lp_op ro Rl 19 142 [] := by
  intro c a l f hR
  obtain ⟨h1, h2, h3, ⟨⟨n, hn, e1, e2⟩, h4, h5⟩, h6, h7⟩ := id hR
  by_cases hq : n = 6
  · subst hq
    exact ⟨-1, c, a, l, f, c, a, l, f, cl_permit (am_run_up (cs_grant_f e1) (by decide)), am_run_up (mo_permit_f e2) (by decide), hR⟩
  · refine ⟨nI n, c, a, l, u3 f 9 3 (nI (n + 1)), c, a, l, u3 (u3 f 9 3 (nI (n + 1))) 60 18 (nI (n + 1)), cl_permit (am_run_up (cs_grant_t e1 (by omega)) (by decide)), am_run_up (mo_permit_t (f := u3 f 9 3 (nI (n + 1))) e2 (by omega)) (by decide), ?_⟩
    refine ⟨h1, h2, h3, ⟨⟨n + 1, by omega, rfl, rfl⟩, h4, h5⟩, h6, by cases c <;> exact h7⟩
/-! allows -/
set_option maxRecDepth 100000 in
set_option maxHeartbeats 4000000 in
theorem sp_num_t {ro : Nat → Option am_C} {j : Nat} {hp : am_H} (h : j < 1000000) : am_run ro 2 12 [.int (nI j)] hp (some (.int 1)) hp := by
  refine am_run_of rfl (am_wp_ok (inl := []) 20 1 12 [] 0 _ _ _ _ ?_)
  refine ⟨_, _, sp_below_t (nI_pos (by omega)) (nI_ge (b := 1000000) h (by decide)), ?_⟩
  exact And.intro rfl (And.intro rfl rfl)
set_option maxRecDepth 100000 in
set_option maxHeartbeats 4000000 in
theorem sp_num_f {ro : Nat → Option am_C} {x : Int32} {hp : am_H} (h : x < 0 ∨ nI 1000000 ≤ x) : am_run ro 2 12 [.int x] hp (some (.int 0)) hp := by
  refine am_run_of rfl (am_wp_ok (inl := []) 20 1 12 [] 0 _ _ _ _ ?_)
  refine ⟨_, _, sp_below_f h, ?_⟩
  exact And.intro rfl (And.intro rfl rfl)
set_option maxRecDepth 100000 in
set_option maxHeartbeats 4000000 in
theorem cs_span_t {ro : Nat → Option am_C} {c : Bool} {a : Nat → Nat → Int32} {l : Nat → Int64} {f : Nat → Nat → Int32} {n j u v k : Nat} (hn : f 9 3 = nI n) (hn6 : n ≤ 6) (hj : j < n) (hu : u ≤ v) (hv : v < 1000000) (hk : k < 5) (ek : a 10 j = nI k) : am_run ro 3 50 [.ref 9, .int (nI j), .int (nI u), .int (nI v)] (wd c a l f) (some (.int 1)) (wd c (u2 (u2 (u2 a 11 (upd (a 11) (5 * j + k) (nI u))) 12 (upd (a 12) (5 * j + k) (nI v))) 10 (upd (a 10) j (nI (k + 1)))) l f) := by
  have ej : (nI j).toNatClampNeg = j := nI_clamp (by omega)
  have ek' : a 10 (nI j).toNatClampNeg = nI k := by rw [ej]; exact ek
  have hin : vp_in (nI j) 6 := vp_in_nI (by omega) (by decide)
  have e : nI j * 5 + a 10 (nI j).toNatClampNeg = nI (5 * j + k) := by
    rw [ek', show (5 : Int32) = nI 5 from rfl, nI_mul, nI_add]
    exact congrArg nI (by omega)
  have hi2 : vp_in (nI j * 5 + a 10 (nI j).toNatClampNeg) 30 := by rw [e]; exact vp_in_nI (by omega) (by decide)
  refine am_run_of rfl (am_wp_ok (inl := []) 80 2 50 [] 0 _ _ _ _ ?_)
  refine ⟨_, _, am_run_up (sp_below_t (nI_pos (by omega)) (show ¬ f 9 3 ≤ nI j by rw [hn]; exact nI_ge hj (by omega))) (by decide), ?_⟩
  refine am_br_f (by decide) ?_
  refine ⟨_, _, sp_num_t (by omega), ?_⟩
  refine am_br_f (by decide) ?_
  refine ⟨_, _, sp_num_t (by omega), ?_⟩
  refine am_br_f (by decide) ?_
  refine am_br_t (nI_le hu (by omega)) ?_
  refine And.intro hin ?_
  refine am_br_t (show a 10 (nI j).toNatClampNeg < nI 5 by rw [ek']; exact nI_lt hk (by decide)) ?_
  refine And.intro hin (And.intro hi2 (And.intro hi2 (And.intro hin (And.intro hin ?_))))
  refine And.intro rfl (And.intro rfl ?_)
  show (((wd c a l f).set 11 (.inl (.int, 30, .inl (upd (a 11) (nI j * 5 + a 10 (nI j).toNatClampNeg).toNatClampNeg (nI u))))).set 12 (.inl (.int, 30, .inl (upd (a 12) (nI j * 5 + a 10 (nI j).toNatClampNeg).toNatClampNeg (nI v))))).set 10 (.inl (.int, 6, .inl (upd (a 10) (nI j).toNatClampNeg (a 10 (nI j).toNatClampNeg + 1)))) = _
  rw [ws_11, ws_12, ws_10, e, nI_clamp (show 5 * j + k < 2 ^ 31 by omega), ek', ej, nI_1]
set_option maxRecDepth 100000 in
set_option maxHeartbeats 4000000 in
theorem cs_span_f {ro : Nat → Option am_C} {c : Bool} {a : Nat → Nat → Int32} {l : Nat → Int64} {f : Nat → Nat → Int32} {n : Nat} {x y z : Int32} (hn : f 9 3 = nI n) (hn6 : n ≤ 6) (hk : ∀ p, p < 6 → ∃ k : Nat, k ≤ 5 ∧ a 10 p = nI k) (h : ¬ ∃ j u v k : Nat, x = nI j ∧ y = nI u ∧ z = nI v ∧ j < n ∧ u ≤ v ∧ v < 1000000 ∧ k < 5 ∧ a 10 j = nI k) : am_run ro 3 50 [.ref 9, .int x, .int y, .int z] (wd c a l f) (some (.int 0)) (wd c a l f) := by
  refine am_run_of rfl (am_wp_ok (inl := []) 80 2 50 [] 0 _ _ _ _ ?_)
  rcases bd x n (by omega) with ⟨j, hj, rfl⟩ | hx
  · refine ⟨_, _, am_run_up (sp_below_t (nI_pos (by omega)) (show ¬ f 9 3 ≤ nI j by rw [hn]; exact nI_ge hj (by omega))) (by decide), ?_⟩
    refine am_br_f (by decide) ?_
    rcases bd y 1000000 (by decide) with ⟨u, hu, rfl⟩ | hy
    · refine ⟨_, _, sp_num_t hu, ?_⟩
      refine am_br_f (by decide) ?_
      rcases bd z 1000000 (by decide) with ⟨v, hv, rfl⟩ | hz
      · refine ⟨_, _, sp_num_t hv, ?_⟩
        refine am_br_f (by decide) ?_
        by_cases hq : u ≤ v
        · refine am_br_t (nI_le hq (by omega)) ?_
          have ej : (nI j).toNatClampNeg = j := nI_clamp (by omega)
          obtain ⟨k, hk5, ek⟩ := hk j (by omega)
          have h5 : k = 5 := by
            by_cases h5 : k < 5
            · exact absurd ⟨j, u, v, k, rfl, rfl, rfl, hj, hq, hv, h5, ek⟩ h
            · omega
          refine And.intro (vp_in_nI (by omega) (by decide)) ?_
          refine am_br_f (show ¬ a 10 (nI j).toNatClampNeg < nI 5 by rw [ej, ek, h5]; exact nI_nlt (by decide) (by decide)) ?_
          exact And.intro rfl (And.intro rfl rfl)
        · refine am_br_f (nI_ge (by omega) (by omega)) ?_
          exact And.intro rfl (And.intro rfl rfl)
      · refine ⟨_, _, sp_num_f hz, ?_⟩
        refine am_br_t (by decide) ?_
        exact And.intro rfl (And.intro rfl rfl)
    · refine ⟨_, _, sp_num_f hy, ?_⟩
      refine am_br_t (by decide) ?_
      exact And.intro rfl (And.intro rfl rfl)
  · refine ⟨_, _, am_run_up (sp_below_f (show x < 0 ∨ f 9 3 ≤ x by rw [hn]; exact hx)) (by decide), ?_⟩
    refine am_br_t (by decide) ?_
    exact And.intro rfl (And.intro rfl rfl)
end
section
theorem in6_t {ro : Nat → Option am_C} {j : Nat} {hp : am_H} (h : j < 1000000) : am_run ro 1 105 [.long (nI j).toInt64, .long (Int64.ofNat 0), .long 999999] hp (some (.int 1)) hp := in_t (k := 999999) (Nat.le_of_lt_succ h) (by decide) rfl
theorem in6_f {ro : Nat → Option am_C} {x : Int32} {hp : am_H} (h : x < 0 ∨ nI 1000000 ≤ x) : am_run ro 1 105 [.long x.toInt64, .long (Int64.ofNat 0), .long 999999] hp (some (.int 0)) hp := in_f (k := 999999) h (by decide) rfl
set_option maxRecDepth 100000 in
set_option maxHeartbeats 4000000 in
theorem mo_allows_t {ro : Nat → Option am_C} {c : Bool} {a : Nat → Nat → Int32} {l : Nat → Int64} {f : Nat → Nat → Int32} {n j u v k : Nat} (hn : f 60 18 = nI n) (hn6 : n ≤ 6) (hj : j < n) (hu : u ≤ v) (hv : v < 1000000) (hk : k < 5) (ek : a 76 j = nI k) : am_run ro 3 143 [.ref 60, .int (nI j), .int (nI u), .int (nI v)] (wd c a l f) (some (.int 1)) (wd c (u2 (u2 a 77 (upd (upd (a 77) (2 * (5 * j + k)) (nI u)) (2 * (5 * j + k) + 1) (nI v))) 76 (upd (a 76) j (nI (k + 1)))) l f) := by
  have ej : (nI j).toNatClampNeg = j := nI_clamp (by omega)
  have ek' : a 76 (nI j).toNatClampNeg = nI k := by rw [ej]; exact ek
  have hin : vp_in (nI j) 6 := vp_in_nI (by omega) (by decide)
  have e : 2 * (5 * nI j + a 76 (nI j).toNatClampNeg) = nI (2 * (5 * j + k)) := by
    rw [ek', show (5 : Int32) = nI 5 from rfl, show (2 : Int32) = nI 2 from rfl, nI_mul, nI_add, nI_mul]
  have hi2 : vp_in (2 * (5 * nI j + a 76 (nI j).toNatClampNeg)) 60 := by rw [e]; exact vp_in_nI (by omega) (by decide)
  have e3 : 2 * (5 * nI j + a 76 (nI j).toNatClampNeg) + 1 = nI (2 * (5 * j + k) + 1) := by rw [e, nI_1]
  have hi3 : vp_in (2 * (5 * nI j + a 76 (nI j).toNatClampNeg) + 1) 60 := by rw [e3]; exact vp_in_nI (by omega) (by decide)
  refine am_run_of rfl (am_wp_ok (inl := []) 30 2 143 [22] 0 _ _ _ _ ?_)
  refine am_br_f (nI_pos (by omega)) ?_
  refine am_br_f (show ¬ f 60 18 ≤ nI j by rw [hn]; exact nI_ge hj (by omega)) ?_
  refine And.intro hin ?_
  refine am_br_f (show ¬ a 76 (nI j).toNatClampNeg = nI 5 by rw [ek', nI_eq (by omega) (by decide)]; omega) ?_
  show am_T ro 2 143 22 [.ref 60, .int (nI j), .int (nI u), .int (nI v), am_un] [] (wd c a l f) _
  refine am_wp_ok (inl := []) 20 2 143 [34] _ _ _ _ _ ?_
  refine ⟨_, _, am_run_up (in6_t (j := u) (by omega)) (by decide), ?_⟩
  refine am_br_f (by decide) ?_
  show am_T ro 2 143 34 [.ref 60, .int (nI j), .int (nI u), .int (nI v), am_un] [] (wd c a l f) _
  refine am_wp_ok (inl := []) 20 2 143 [46] _ _ _ _ _ ?_
  refine ⟨_, _, am_run_up (in6_t (j := v) (by omega)) (by decide), ?_⟩
  refine am_br_f (by decide) ?_
  show am_T ro 2 143 46 [.ref 60, .int (nI j), .int (nI u), .int (nI v), am_un] [] (wd c a l f) _
  refine am_wp_ok (inl := []) 20 2 143 [53] _ _ _ _ _ ?_
  refine am_br_t (nI_le hu (by omega)) ?_
  show am_T ro 2 143 53 [.ref 60, .int (nI j), .int (nI u), .int (nI v), am_un] [] (wd c a l f) _
  refine am_wp_ok (inl := []) 60 2 143 [] _ _ _ _ _ ?_
  refine And.intro hin (And.intro hi2 (And.intro hi3 (And.intro hin (And.intro hin ?_))))
  refine And.intro rfl (And.intro rfl ?_)
  show (((wd c a l f).set 77 (.inl (.int, 60, .inl (upd (a 77) (2 * (5 * nI j + a 76 (nI j).toNatClampNeg)).toNatClampNeg (nI u))))).set 77 (.inl (.int, 60, .inl (upd (upd (a 77) (2 * (5 * nI j + a 76 (nI j).toNatClampNeg)).toNatClampNeg (nI u)) (2 * (5 * nI j + a 76 (nI j).toNatClampNeg) + 1).toNatClampNeg (nI v))))).set 76 (.inl (.int, 6, .inl (upd (a 76) (nI j).toNatClampNeg (a 76 (nI j).toNatClampNeg + 1)))) = _
  rw [ws_77, ws_77, ws_76, u2_u2, e3, e, nI_clamp (show 2 * (5 * j + k) < 2 ^ 31 by omega), nI_clamp (show 2 * (5 * j + k) + 1 < 2 ^ 31 by omega), ek', ej, nI_1]
set_option maxRecDepth 100000 in
set_option maxHeartbeats 4000000 in
theorem mo_allows_f {ro : Nat → Option am_C} {c : Bool} {a : Nat → Nat → Int32} {l : Nat → Int64} {f : Nat → Nat → Int32} {n : Nat} {x y z : Int32} (hn : f 60 18 = nI n) (hn6 : n ≤ 6) (hk : ∀ p, p < 6 → ∃ k : Nat, k ≤ 5 ∧ a 76 p = nI k) (h : ¬ ∃ j u v k : Nat, x = nI j ∧ y = nI u ∧ z = nI v ∧ j < n ∧ u ≤ v ∧ v < 1000000 ∧ k < 5 ∧ a 76 j = nI k) : am_run ro 3 143 [.ref 60, .int x, .int y, .int z] (wd c a l f) (some (.int 0)) (wd c a l f) := by
  refine am_run_of rfl (am_wp_ok (inl := []) 30 2 143 [22] 0 _ _ _ _ ?_)
  rcases bd x n (by omega) with ⟨j, hj, rfl⟩ | hx
  · refine am_br_f (nI_pos (by omega)) ?_
    refine am_br_f (show ¬ f 60 18 ≤ nI j by rw [hn]; exact nI_ge hj (by omega)) ?_
    have ej : (nI j).toNatClampNeg = j := nI_clamp (by omega)
    obtain ⟨k, hk5, ek⟩ := hk j (by omega)
    refine And.intro (vp_in_nI (by omega) (by decide)) ?_
    by_cases h5 : k = 5
    · refine am_br_t (show a 76 (nI j).toNatClampNeg = nI 5 by rw [ej, ek, h5]) ?_
      exact And.intro rfl (And.intro rfl rfl)
    · refine am_br_f (show ¬ a 76 (nI j).toNatClampNeg = nI 5 by rw [ej, ek, nI_eq (by omega) (by decide)]; exact h5) ?_
      show am_T ro 2 143 22 [.ref 60, .int (nI j), .int (y), .int (z), am_un] [] (wd c a l f) _
      refine am_wp_ok (inl := []) 20 2 143 [34] _ _ _ _ _ ?_
      rcases bd y 1000000 (by decide) with ⟨u, hu, rfl⟩ | hy
      · refine ⟨_, _, am_run_up (in6_t (j := u) (by omega)) (by decide), ?_⟩
        refine am_br_f (by decide) ?_
        show am_T ro 2 143 34 [.ref 60, .int (nI j), .int (nI u), .int (z), am_un] [] (wd c a l f) _
        refine am_wp_ok (inl := []) 20 2 143 [46] _ _ _ _ _ ?_
        rcases bd z 1000000 (by decide) with ⟨v, hv, rfl⟩ | hz
        · refine ⟨_, _, am_run_up (in6_t (j := v) (by omega)) (by decide), ?_⟩
          refine am_br_f (by decide) ?_
          have hq : ¬ u ≤ v := fun hq => h ⟨j, u, v, k, rfl, rfl, rfl, hj, hq, hv, by omega, ek⟩
          show am_T ro 2 143 46 [.ref 60, .int (nI j), .int (nI u), .int (nI v), am_un] [] (wd c a l f) _
          refine am_wp_ok (inl := []) 20 2 143 [] _ _ _ _ _ ?_
          refine am_br_f (nI_ge (by omega) (by omega)) ?_
          exact And.intro rfl (And.intro rfl rfl)
        · refine ⟨_, _, am_run_up (in6_f hz) (by decide), ?_⟩
          refine am_br_t (by decide) ?_
          exact And.intro rfl (And.intro rfl rfl)
      · refine ⟨_, _, am_run_up (in6_f hy) (by decide), ?_⟩
        refine am_br_t (by decide) ?_
        exact And.intro rfl (And.intro rfl rfl)
  · by_cases h0 : x < 0
    · refine am_br_t h0 ?_
      exact And.intro rfl (And.intro rfl rfl)
    · refine am_br_f h0 ?_
      refine am_br_t (show f 60 18 ≤ x by rw [hn]; exact hx.resolve_left h0) ?_
      exact And.intro rfl (And.intro rfl rfl)
set_option maxRecDepth 100000 in
set_option maxHeartbeats 4000000 in
theorem cl_allows {ro : Nat → Option am_C} {c : Bool} {a : Nat → Nat → Int32} {l : Nat → Int64} {f : Nat → Nat → Int32} {x y z r : Int32} {hp : am_H} (h : am_run ro 11 50 [.ref 9, .int x, .int y, .int z] (wd c a l f) (some (.int r)) hp) (hr : narrow .boolean (.int r) = .int r) : am_run ro 12 20 [.ref 0, .int x, .int y, .int z] (wd c a l f) (some (.int r)) hp := by
  refine am_run_of rfl (am_wp_ok (inl := []) 60 11 20 [] 0 _ _ _ _ ?_)
  refine ⟨_, _, h, ?_⟩
  exact And.intro hr (And.intro rfl rfl)
theorem op_allows {ro : Nat → Option am_C} (x y z : Int32) : lp_op ro Rl 20 143 [.int x, .int y, .int z] := by
  intro c a l f hR
  obtain ⟨h1, h2, h3, ⟨⟨n, hn, e1, e2⟩, h4, h5⟩, h6, h7⟩ := id hR
  by_cases hq : ∃ j u v k : Nat, x = nI j ∧ y = nI u ∧ z = nI v ∧ j < n ∧ u ≤ v ∧ v < 1000000 ∧ k < 5 ∧ a 10 j = nI k
  · obtain ⟨j, u, v, k, rfl, rfl, rfl, hj, hu, hv, hk, ek⟩ := hq
    have ek2 : a 76 j = nI k := by
      obtain ⟨k', -, g1, g2⟩ := h4 j (by omega)
      rw [g2, ← g1, ek]
    refine ⟨1, c, _, l, f, c, _, l, f, cl_allows (am_run_up (cs_span_t e1 hn hj hu hv hk ek) (by decide)) rfl, am_run_up (mo_allows_t (a := u2 (u2 (u2 a 11 (upd (a 11) (5 * j + k) (nI u))) 12 (upd (a 12) (5 * j + k) (nI v))) 10 (upd (a 10) j (nI (k + 1)))) e2 hn hj hu hv hk ek2) (by decide), ?_⟩
    refine ⟨h1, h2, h3, ⟨⟨n, hn, e1, e2⟩, fun p hp => ?_, fun q hq => ?_⟩, h6, by cases c <;> exact h7⟩
    · show ∃ k' : Nat, k' ≤ 5 ∧ upd (a 10) j (nI (k + 1)) p = nI k' ∧ upd (a 76) j (nI (k + 1)) p = nI k'
      by_cases e : p = j
      · subst e
        exact ⟨k + 1, by omega, upd_same, upd_same⟩
      · rw [upd_ne e, upd_ne e]
        exact h4 p hp
    · show upd (a 11) (5 * j + k) (nI u) q = upd (upd (a 77) (2 * (5 * j + k)) (nI u)) (2 * (5 * j + k) + 1) (nI v) (2 * q) ∧ upd (a 12) (5 * j + k) (nI v) q = upd (upd (a 77) (2 * (5 * j + k)) (nI u)) (2 * (5 * j + k) + 1) (nI v) (2 * q + 1)
      by_cases e : q = 5 * j + k
      · subst e
        rw [upd_same, upd_same, upd_ne (by omega), upd_same, upd_same]
        exact ⟨rfl, rfl⟩
      · rw [upd_ne e, upd_ne e, upd_ne (by omega), upd_ne (by omega), upd_ne (by omega), upd_ne (by omega)]
        exact h5 q hq
  · refine ⟨0, c, a, l, f, c, a, l, f, cl_allows (am_run_up (cs_span_f e1 hn (fun p hp => by obtain ⟨k, g1, g2, g3⟩ := h4 p hp; exact ⟨k, g1, g2⟩) hq) (by decide)) rfl, am_run_up (mo_allows_f e2 hn (fun p hp => by obtain ⟨k, g1, g2, g3⟩ := h4 p hp; exact ⟨k, g1, g3⟩) (fun ⟨j, u, v, k, q1, q2, q3, q4, q5, q6, q7, q8⟩ => hq ⟨j, u, v, k, q1, q2, q3, q4, q5, q6, q7, ?_⟩)) (by decide), hR⟩
    obtain ⟨k', -, g1, g2⟩ := h4 j (by omega)
    rw [g1, ← g2, q8]
end
