/-! lengths of instructions, and what a table's row must keep -/
def am_len : Instr → Nat
  | .iconst _ => 1
  | .bipush _ => 2
  | .sipush _ => 3
  | .lconst _ => 1
  | .ldc _ => 2
  | .ldc2_w _ => 3
  | .iload _ => 2
  | .iload_n _ => 1
  | .lload _ => 2
  | .lload_n _ => 1
  | .aload _ => 2
  | .aload_n _ => 1
  | .istore _ => 2
  | .istore_n _ => 1
  | .lstore _ => 2
  | .lstore_n _ => 1
  | .astore _ => 2
  | .astore_n _ => 1
  | .iinc _ _ => 3
  | .iadd => 1
  | .isub => 1
  | .imul => 1
  | .iand => 1
  | .ior => 1
  | .ixor => 1
  | .ishl => 1
  | .ishr => 1
  | .idiv => 1
  | .irem => 1
  | .ladd => 1
  | .lsub => 1
  | .lmul => 1
  | .ldiv => 1
  | .lrem => 1
  | .lcmp => 1
  | .i2l => 1
  | .l2i => 1
  | .i2c => 1
  | .dup => 1
  | .pop => 1
  | .dup_x1 => 1
  | .dup2 => 1
  | .goto _ => 3
  | .ifCond _ _ => 3
  | .if_icmp _ _ => 3
  | .getstatic _ => 3
  | .getfield _ => 3
  | .putfield _ => 3
  | .iaload => 1
  | .baload => 1
  | .laload => 1
  | .iastore => 1
  | .bastore => 1
  | .lastore => 1
  | .arraylength => 1
  | .newarray _ => 2
  | .new _ => 3
  | .invokespecial _ => 3
  | .invokestatic _ => 3
  | .invokevirtual _ => 3
  | .ireturn => 1
  | .lreturn => 1
  | .return_ => 1
  | _ => 0
/-- small constants as they are pushed -/
def am_ki (n : Int) : Int32 := match n with
  | .ofNat k => Int32.ofNat k
  | .negSucc k => -(Int32.ofNat (k + 1))
/-- a table's row for the instruction i at pc, n bytes long, in a method of mL locals: nx is what lies behind it, t where a jump goes -/
def am_ck (mL pc nx t n : Nat) (i : Instr) : Bool := match i with
  | .tableswitch _ _ _ _ => true
  | .goto o => n == 3 && nx == pc + 3 && decide ((pc : Int) + o = (t : Int))
  | .ifCond _ o => n == 3 && nx == pc + 3 && decide ((pc : Int) + o = (t : Int))
  | .if_icmp _ o => n == 3 && nx == pc + 3 && decide ((pc : Int) + o = (t : Int))
  | .iconst v => n == 1 && nx == pc + 1 && decide (Int32.ofInt v = am_ki v)
  | .bipush v => n == 2 && nx == pc + 2 && decide ((Int8.ofInt v).toInt32 = am_ki v)
  | .sipush v => n == 3 && nx == pc + 3 && decide ((Int16.ofInt v).toInt32 = am_ki v)
  | .iinc j v => n == 3 && nx == pc + 3 && decide (Int32.ofInt v = am_ki v) && Nat.blt j mL
  | .istore j => n == 2 && nx == pc + 2 && Nat.blt j mL
  | .astore j => n == 2 && nx == pc + 2 && Nat.blt j mL
  | .lstore j => n == 2 && nx == pc + 2 && Nat.blt (j + 1) mL
  | .istore_n j => n == 1 && nx == pc + 1 && Nat.blt j.val mL
  | .astore_n j => n == 1 && nx == pc + 1 && Nat.blt j.val mL
  | .lstore_n j => n == 1 && nx == pc + 1 && Nat.blt (j.val + 1) mL
  | i => n == am_len i && nx == pc + n && Nat.blt 0 n
