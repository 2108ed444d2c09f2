/-! AN ABSTRACT MACHINE of our own over this claim's methods: ints and longs are as they are, a reference is the place of its cell in a row of cells; .retAddr (k + 1) is a reference to the k-th of the cells that lay there before (the script, texts), .retAddr 0 is nothing. One step is a function; the soundness of a step over the kit's rows stands in the next parts. -/
abbrev am_C : Type := (FieldType × vp_A) ⊕ (Nat × List Value)
abbrev am_H : Type := List am_C
abbrev am_R : Type := Nat × List Value × List Value × am_H × Option Prop
noncomputable def am_ph : Option Prop → Prop
  | none => True
  | some c => c
noncomputable def am_ce (bs : Nat) (ad : Nat → Nat) (dA : FieldType → ClassId) : am_C → va_E
  | .inl (ty, a) => .inl (dA ty, a)
  | .inr (ci, fs) => .inr (ci, fs.map (am_cv bs ad))
/-- slots of a cell, of a row of cells -/
noncomputable def am_cs : am_C → Nat
  | .inl (_, a) => a.1
  | .inr (_, fs) => fs.length
noncomputable def am_sz : am_H → Nat
  | [] => 0
  | c :: r => am_cs c + am_sz r
/-- the heap from bs on is the row of cells -/
noncomputable def am_rp (D : va_G) (bs : Nat) (ad : Nat → Nat) (dA : FieldType → ClassId) (hp : am_H) (H : Heap) : Prop :=
  H.size = bs + hp.length ∧ ∀ (i : Nat) (c : am_C), hp[i]? = some c → va_at D am_cl (bs + i, am_ce bs ad dA c) H
/-- locals: a place that holds nothing is .retAddr 0 -/
noncomputable def am_okv : Value → Bool
  | .retAddr 0 => false
  | _ => true
noncomputable def am_un : Value := .retAddr 0
noncomputable def am_en (bs : Nat) (ad : Nat → Nat) (L : List Value) : List (Nat × Value) :=
  (List.range L.length).filterMap (fun i => match L[i]? with
    | some v => if am_okv v = true then some (i, am_cv bs ad v) else none
    | none => none)
-- inversions are cheap this way: each piece of the stack or of the locals is taken off by a function of its own
noncomputable def am_i1 {α : Type} (st : List Value) (f : Int32 → List Value → Option α) : Option α := match st with
  | .int x :: r => f x r
  | _ => none
noncomputable def am_i2 {α : Type} (st : List Value) (f : Int32 → Int32 → List Value → Option α) : Option α := match st with
  | .int y :: .int x :: r => f x y r
  | _ => none
noncomputable def am_l1 (st : List Value) (f : Int64 → List Value → Option am_R) : Option am_R := match st with
  | .long x :: r => f x r
  | _ => none
noncomputable def am_l2 (st : List Value) (f : Int64 → Int64 → List Value → Option am_R) : Option am_R := match st with
  | .long y :: .long x :: r => f x y r
  | _ => none
noncomputable def am_ok1 : Value → Bool
  | .ref _ => true
  | .retAddr (k + 1) => !Nat.beq k 99
  | _ => false
noncomputable def am_a1 (st : List Value) (f : Value → List Value → Option am_R) : Option am_R := match st with
  | v :: r => match am_ok1 v with
    | true => f v r
    | false => none
  | _ => none
noncomputable def am_v1 (st : List Value) (f : Value → List Value → Option am_R) : Option am_R := match st with
  | v :: r => f v r
  | _ => none
noncomputable def am_v2 (st : List Value) (f : Value → Value → List Value → Option am_R) : Option am_R := match st with
  | v :: w :: r => f v w r
  | _ => none
noncomputable def am_ia (st : List Value) (f : Int32 → Value → List Value → Option am_R) : Option am_R := match st with
  | .int i :: a :: r => f i a r
  | _ => none
noncomputable def am_iia (st : List Value) (f : Int32 → Int32 → Nat → List Value → Option am_R) : Option am_R := match st with
  | .int x :: .int i :: .ref a :: r => f x i a r
  | _ => none
noncomputable def am_lia (st : List Value) (f : Int64 → Int32 → Nat → List Value → Option am_R) : Option am_R := match st with
  | .long x :: .int i :: .ref a :: r => f x i a r
  | _ => none
noncomputable def am_va (st : List Value) (f : Value → Nat → List Value → Option am_R) : Option am_R := match st with
  | v :: .ref a :: r => f v a r
  | _ => none
noncomputable def am_li (L : List Value) (i : Nat) (f : Int32 → Option am_R) : Option am_R := match L[i]? with
  | some (.int x) => f x
  | _ => none
noncomputable def am_ll (L : List Value) (i : Nat) (f : Int64 → Option am_R) : Option am_R := match L[i]? with
  | some (.long x) => f x
  | _ => none
noncomputable def am_la (L : List Value) (i : Nat) (f : Value → Option am_R) : Option am_R := match L[i]? with
  | some v => match am_ok1 v with
    | true => f v
    | false => none
  | _ => none
/-- no long begins just below i -/
noncomputable def am_pr (L : List Value) : Nat → Bool
  | 0 => true
  | j + 1 => match L[j]? with
    | some v => Nat.beq v.category 1
    | none => true
noncomputable def am_s1 (L : List Value) (i : Nat) (v : Value) (f : List Value → Option am_R) : Option am_R :=
  match am_pr L i with
  | true => f (L.set i v)
  | false => none
noncomputable def am_s2 (L : List Value) (i : Nat) (v : Value) (f : List Value → Option am_R) : Option am_R :=
  match am_pr L i with
  | true => f ((L.set i v).set (i + 1) am_un)
  | false => none
/-- a jump's target -/
noncomputable def am_tg (pc : Nat) (off : Int) : Nat := ((pc : Int) + off).toNat
noncomputable def am_rm (r : List Value) : Bool := Nat.ble ((r.map Value.category).sum) 8
noncomputable def am_na (t : ArrayType) (n : Nat) : Option am_C := match t with
  | .int => some (.inl (.int, n, .inl fun _ => 0))
  | .boolean => some (.inl (.boolean, n, .inl fun _ => 0))
  | .long => some (.inl (.long, n, .inr (.inl fun _ => 0)))
  | _ => none
/-- a cell read: one of the row, or one from before -/
noncomputable def am_gi (ro : Nat → Option am_C) (hp : am_H) : Value → Option am_C
  | .ref a => hp[a]?
  | .retAddr (k + 1) => ro k
  | _ => none
noncomputable def am_ai (o : Option am_C) (f : Nat → (Nat → Int32) → Option am_R) : Option am_R := match o with
  | some (.inl (.int, n, .inl g)) => f n g
  | _ => none
noncomputable def am_az (o : Option am_C) (f : Nat → (Nat → Int32) → Option am_R) : Option am_R := match o with
  | some (.inl (.boolean, n, .inl g)) => f n g
  | _ => none
noncomputable def am_ab (ro : Nat → Option am_C) (hp : am_H) (v : Value) (f : Nat → (Nat → Int32) → Option am_R) : Option am_R := match v with
  | .ref a => am_az (hp[a]?) f
  | .retAddr (k + 1) => match ro k with
    | some (.inl (.byte, n, .inl g)) => f n g
    | _ => none
  | _ => none
noncomputable def am_al (o : Option am_C) (f : Nat → (Nat → Int64) → Option am_R) : Option am_R := match o with
  | some (.inl (.long, n, .inr (.inl g))) => f n g
  | _ => none
noncomputable def am_an (ro : Nat → Option am_C) (hp : am_H) (v : Value) (f : Nat → Option am_R) : Option am_R := match v with
  | .ref a => match hp[a]? with
    | some (.inl (.int, n, _)) => f n
    | _ => none
  | .retAddr (k + 1) => match ro k with
    | some (.inl (_, n, .inl _)) => f n
    | _ => none
  | _ => none
/-- an object's fields, its class being the one asked for -/
noncomputable def am_ob (o : Option am_C) (ci : Nat) : Option (List Value) := match o with
  | some (.inr (cj, fs)) => match Nat.beq cj ci with
    | true => some fs
    | false => none
  | _ => none
/-- a field read: of a cell of the row, or of one from before -/
noncomputable def am_gf (ro : Nat → Option am_C) (hp : am_H) (v : Value) (kF : Option (Nat × Nat)) (kQ : Option (Nat × Nat)) : Option Value := match v with
  | .ref a => match kF with
    | some (ci, k) => match am_ob (hp[a]?) ci with
      | some fs => fs[k]?
      | none => none
    | none => none
  | .retAddr (j + 1) => match kQ with
    | some (ci, k) => match am_ob (ro j) ci with
      | some fs => fs[k]?
      | none => none
    | none => none
  | _ => none
noncomputable def am_kf (o : Option (Nat × Nat × FieldType)) (f : Nat → Nat → FieldType → Option am_R) : Option am_R := match o with
  | some (ci, k, ty) => f ci k ty
  | none => none
noncomputable def am_ov {α : Type} (o : Option α) (f : α → Option am_R) : Option am_R := match o with
  | some v => f v
  | none => none
noncomputable def am_bt (b : Bool) (o : Option am_R) : Option am_R := match b with
  | true => o
  | false => none
/-- where a switch goes -/
noncomputable def am_ts (pc : Nat) (x : Int32) (dflt lo hi : Int) (offs : Array Int) : Nat := if x.toInt < lo ∨ hi < x.toInt then am_tg pc dflt else am_tg pc (offs.getD (x.toInt - lo).toNat dflt)
/-- a value that fits a field as it is needs no word -/
noncomputable def am_nf (ty : FieldType) (v : Value) : Option Prop := match ty, v with
  | .int, .int _ => none
  | .long, .long _ => none
  | .object _, .ref _ => none
  | .array _, .ref _ => none
  | ty, v => some (narrow ty v = v ∧ fits ty v = true)
/-- a branch: what it asks, and the stack behind it -/
noncomputable def am_bc (st : List Value) : Instr → Option (Prop × List Value)
  | .ifCond .eq _ => am_i1 st fun x r => some (x = 0, r)
  | .ifCond .ne _ => am_i1 st fun x r => some (¬ x = 0, r)
  | .ifCond .lt _ => am_i1 st fun x r => some (x < 0, r)
  | .ifCond .ge _ => am_i1 st fun x r => some (0 ≤ x, r)
  | .ifCond .gt _ => am_i1 st fun x r => some (0 < x, r)
  | .ifCond .le _ => am_i1 st fun x r => some (x ≤ 0, r)
  | .if_icmp .eq _ => am_i2 st fun x y r => some (x = y, r)
  | .if_icmp .ne _ => am_i2 st fun x y r => some (¬ x = y, r)
  | .if_icmp .lt _ => am_i2 st fun x y r => some (x < y, r)
  | .if_icmp .ge _ => am_i2 st fun x y r => some (y ≤ x, r)
  | .if_icmp .gt _ => am_i2 st fun x y r => some (y < x, r)
  | .if_icmp .le _ => am_i2 st fun x y r => some (x ≤ y, r)
  | _ => none
/-- ONE STEP: where it goes, and what must hold for it -/
noncomputable def am_st (ro : Nat → Option am_C) (mi pc nx t : Nat) (L st : List Value) (hp : am_H) : Instr → Option am_R
  | .iconst n => some (nx, L, .int (am_ki n) :: st, hp, none)
  | .bipush n => some (nx, L, .int (am_ki n) :: st, hp, none)
  | .sipush n => some (nx, L, .int (am_ki n) :: st, hp, none)
  | .lconst n => some (nx, L, .long (Int64.ofNat n.val) :: st, hp, none)
  | .ldc i => am_ov (am_kI (am_mP mi) i) fun v => some (nx, L, v :: st, hp, none)
  | .ldc2_w i => am_ov (am_kL (am_mP mi) i) fun v => some (nx, L, .long v :: st, hp, none)
  | .iload i => am_li L i fun x => some (nx, L, .int x :: st, hp, none)
  | .iload_n i => am_li L i.val fun x => some (nx, L, .int x :: st, hp, none)
  | .lload i => am_ll L i fun x => some (nx, L, .long x :: st, hp, none)
  | .lload_n i => am_ll L i.val fun x => some (nx, L, .long x :: st, hp, none)
  | .aload i => am_la L i fun x => some (nx, L, x :: st, hp, none)
  | .aload_n i => am_la L i.val fun x => some (nx, L, x :: st, hp, none)
  | .istore i => am_i1 st fun x r => am_s1 L i (.int x) fun L' => some (nx, L', r, hp, none)
  | .istore_n i => am_i1 st fun x r => am_s1 L i.val (.int x) fun L' => some (nx, L', r, hp, none)
  | .lstore i => am_l1 st fun x r => am_s2 L i (.long x) fun L' => some (nx, L', r, hp, none)
  | .lstore_n i => am_l1 st fun x r => am_s2 L i.val (.long x) fun L' => some (nx, L', r, hp, none)
  | .astore i => am_a1 st fun x r => am_s1 L i x fun L' => some (nx, L', r, hp, none)
  | .astore_n i => am_a1 st fun x r => am_s1 L i.val x fun L' => some (nx, L', r, hp, none)
  | .iinc i n => am_li L i fun x => am_s1 L i (.int (x + am_ki n)) fun L' => some (nx, L', st, hp, none)
  | .iadd => am_i2 st fun x y r => some (nx, L, .int (x + y) :: r, hp, none)
  | .isub => am_i2 st fun x y r => some (nx, L, .int (x - y) :: r, hp, none)
  | .imul => am_i2 st fun x y r => some (nx, L, .int (x * y) :: r, hp, none)
  | .iand => am_i2 st fun x y r => some (nx, L, .int (x &&& y) :: r, hp, none)
  | .ior => am_i2 st fun x y r => some (nx, L, .int (x ||| y) :: r, hp, none)
  | .ixor => am_i2 st fun x y r => some (nx, L, .int (x ^^^ y) :: r, hp, none)
  | .ishl => am_i2 st fun x y r => some (nx, L, .int (x <<< (y &&& 31)) :: r, hp, none)
  | .ishr => am_i2 st fun x y r => some (nx, L, .int (x >>> (y &&& 31)) :: r, hp, none)
  | .idiv => am_i2 st fun x y r => some (nx, L, .int (x / y) :: r, hp, some (¬ y = 0))
  | .irem => am_i2 st fun x y r => some (nx, L, .int (x - x / y * y) :: r, hp, some (¬ y = 0))
  | .ladd => am_l2 st fun x y r => some (nx, L, .long (x + y) :: r, hp, none)
  | .lsub => am_l2 st fun x y r => some (nx, L, .long (x - y) :: r, hp, none)
  | .lmul => am_l2 st fun x y r => some (nx, L, .long (x * y) :: r, hp, none)
  | .ldiv => am_l2 st fun x y r => some (nx, L, .long (x / y) :: r, hp, some (¬ y = 0))
  | .lrem => am_l2 st fun x y r => some (nx, L, .long (x - x / y * y) :: r, hp, some (¬ y = 0))
  | .lcmp => am_l2 st fun x y r => some (nx, L, .int (lg_cmp x y) :: r, hp, none)
  | .i2l => am_i1 st fun x r => some (nx, L, .long x.toInt64 :: r, hp, none)
  | .l2i => am_l1 st fun x r => some (nx, L, .int x.toInt32 :: r, hp, none)
  | .i2c => am_i1 st fun x r => some (nx, L, .int (x.toUInt32 % 65536).toInt32 :: r, hp, none)
  | .dup => am_v1 st fun v r => am_bt (Nat.beq v.category 1) (some (nx, L, v :: v :: r, hp, none))
  | .pop => am_v1 st fun v r => am_bt (Nat.beq v.category 1) (some (nx, L, r, hp, none))
  | .dup_x1 => am_v2 st fun v w r => am_bt (Nat.beq v.category 1 && Nat.beq w.category 1) (some (nx, L, v :: w :: v :: r, hp, none))
  | .dup2 => am_v2 st fun v w r => am_bt (Nat.beq v.category 1 && Nat.beq w.category 1) (some (nx, L, v :: w :: v :: w :: r, hp, none))
  | .goto _ => some (t, L, st, hp, none)
  | .tableswitch dflt lo hi offs => am_i1 st fun x r => some (am_ts pc x dflt lo hi offs, L, r, hp, some (0 ≤ (pc : Int) + dflt ∧ (∀ o ∈ offs.toList, 0 ≤ (pc : Int) + o) ∧ hi - lo < (offs.size : Int)))
  | .getstatic i => am_ov (am_kG (am_mP mi) i) fun v => some (nx, L, v :: st, hp, none)
  | .getfield i => am_a1 st fun a r => am_ov (am_gf ro hp a (am_kF (am_mP mi) i) (am_kQ (am_mP mi) i)) fun v => some (nx, L, v :: r, hp, none)
  | .putfield i => am_va st fun v a r => am_kf (am_kP (am_mP mi) i) fun ci k ty => am_ov (am_ob (hp[a]?) ci) fun fs => am_bt (Nat.blt k fs.length) (some (nx, L, r, hp.set a (.inr (ci, fs.set k v)), am_nf ty v))
  | .iaload => am_ia st fun i a r => am_ai (am_gi ro hp a) fun n g => some (nx, L, .int (g i.toNatClampNeg) :: r, hp, some (vp_in i n))
  | .baload => am_ia st fun i a r => am_ab ro hp a fun n g => some (nx, L, .int (g i.toNatClampNeg) :: r, hp, some (vp_in i n))
  | .laload => am_ia st fun i a r => am_al (am_gi (fun _ => none) hp a) fun n g => some (nx, L, .long (g i.toNatClampNeg) :: r, hp, some (vp_in i n))
  | .iastore => am_iia st fun x i a r => am_ai (hp[a]?) fun n g => some (nx, L, r, hp.set a (.inl (.int, n, .inl (upd g i.toNatClampNeg x))), some (vp_in i n))
  | .bastore => am_iia st fun x i a r => am_az (hp[a]?) fun n g => some (nx, L, r, hp.set a (.inl (.boolean, n, .inl (upd g i.toNatClampNeg (vp_nar .boolean x)))), some (vp_in i n))
  | .lastore => am_lia st fun x i a r => am_al (hp[a]?) fun n g => some (nx, L, r, hp.set a (.inl (.long, n, .inr (.inl (vp_updL g i.toNatClampNeg x)))), some (vp_in i n))
  | .arraylength => am_a1 st fun a r => am_an ro hp a fun n => some (nx, L, .int (Int32.ofNat n) :: r, hp, none)
  | .newarray t => am_i1 st fun n r => am_ov (am_na t n.toNatClampNeg) fun c => some (nx, L, .ref hp.length :: r, hp ++ [c], some (¬ n < 0 ∧ n.toNatClampNeg ≤ 60000000))
  | .new i => am_ov (am_kC (am_mP mi) i) fun ci => some (nx, L, .ref hp.length :: st, hp ++ [.inr (ci, am_df ci)], none)
  | .invokespecial i => am_bt (am_kO (am_mP mi) i) (am_a1 st fun _ r => am_bt (am_rm r) (some (nx, L, r, hp, none)))
  | .invokestatic i => am_bt (am_kN (am_mP mi) i) (am_i2 st fun x y r => am_bt (am_rm r) (some (nx, L, .int (if y < x then y else x) :: r, hp, none)))
  | _ => none
