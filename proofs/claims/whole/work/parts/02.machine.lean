/-! A SMALL MACHINE OF MY OWN over numbered cells: a step of it is a step of the JVM (proved row by row in the next part); methods are walked in it. -/
/-- a cell: an array (its kind, its length and contents), or an object (its number in vwCl, its fields) -/
abbrev zC : Type := (Nat × vp_A) ⊕ (Nat × List Value)
abbrev zH : Type := List zC
/-- a row of code: its place, the place behind it, the instruction, three numbers that say what it links -/
abbrev zE : Type := Nat × Nat × Instr × Nat × Nat × Value
abbrev zL : Type := List (Option Value)
abbrev zQ : Type := Option Value → zH → Prop
abbrev zX : Type := Nat → zL → List Value → zH → Prop
abbrev zT : Type := List Value → zH → zQ → Prop
def z1i (S : List Value) (k : Int32 → List Value → Prop) : Prop := match S with
  | .int x :: S => k x S
  | _ => False
def z2i (S : List Value) (k : Int32 → Int32 → List Value → Prop) : Prop := match S with
  | .int y :: .int x :: S => k x y S
  | _ => False
def z1l (S : List Value) (k : Int64 → List Value → Prop) : Prop := match S with
  | .long x :: S => k x S
  | _ => False
def z2l (S : List Value) (k : Int64 → Int64 → List Value → Prop) : Prop := match S with
  | .long y :: .long x :: S => k x y S
  | _ => False
def zil (S : List Value) (k : Int64 → Int32 → List Value → Prop) : Prop := match S with
  | .int y :: .long x :: S => k x y S
  | _ => False
def z1r (S : List Value) (k : Nat → List Value → Prop) : Prop := match S with
  | .ref x :: S => k x S
  | _ => False
def zir (S : List Value) (k : Nat → Int32 → List Value → Prop) : Prop := match S with
  | .int i :: .ref x :: S => k x i S
  | _ => False
def ziir (S : List Value) (k : Nat → Int32 → Int32 → List Value → Prop) : Prop := match S with
  | .int v :: .int i :: .ref x :: S => k x i v S
  | _ => False
def zlir (S : List Value) (k : Nat → Int32 → Int64 → List Value → Prop) : Prop := match S with
  | .long v :: .int i :: .ref x :: S => k x i v S
  | _ => False
def zvr (S : List Value) (k : Nat → Value → List Value → Prop) : Prop := match S with
  | v :: .ref x :: S => k x v S
  | _ => False
/-- a value of one word -/
def z1w (v : Value) (k : Prop) : Prop := match v with
  | .int _ => k
  | .ref _ => k
  | _ => False
def zget : zL → Nat → (Value → Prop) → Prop
  | some v :: _, 0, k => k v
  | none :: _, 0, _ => False
  | _ :: L, a + 1, k => zget L a k
  | [], _, _ => False
def zo (o : Option Value) : Option Value := match o with
  | some (.int x) => some (.int x)
  | some (.ref x) => some (.ref x)
  | _ => none
def zset : zL → Nat → Value → (zL → Prop) → Prop
  | _ :: L, 0, v, k => k (some v :: L)
  | o :: L, 1, v, k => zset L 0 v (fun L' => k (zo o :: L'))
  | o :: L, a + 2, v, k => zset L (a + 1) v (fun L' => k (o :: L'))
  | [], _, _, _ => False
def zclr : zL → Nat → (zL → Prop) → Prop
  | _ :: L, 0, k => k (none :: L)
  | o :: L, a + 1, k => zclr L a (fun L' => k (o :: L'))
  | [], _, _ => False
def zobj (h : zH) (r ci : Nat) (k : List Value → Prop) : Prop := match h[r]? with
  | some (.inr (c, fs)) => if c = ci then k fs else False
  | _ => False
def zarr (h : zH) (r t : Nat) (k : Nat → (Nat → Int32) → Prop) : Prop := match h[r]? with
  | some (.inl (t', n, .inl f)) => if t' = t then k n f else False
  | _ => False
def zarl (h : zH) (r t : Nat) (k : Nat → (Nat → Int64) → Prop) : Prop := match h[r]? with
  | some (.inl (t', n, .inr (.inl f))) => if t' = t then k n f else False
  | _ => False
def zfld (fs : List Value) (b : Nat) (k : Value → Prop) : Prop := match fs[b]? with
  | some v => k v
  | none => False
/-- a value that a field (or an answer) of the kind of 'tag' takes: .int 0 an int, .int 1 a boolean, .long a long, .ref an object -/
def zfit (tag v : Value) (k : Prop) : Prop := match tag, v with
  | .int t, .int x => if t = 0 then k else (x = 0 ∨ x = 1) ∧ k
  | .long _, .long _ => k
  | .ref _, .ref _ => k
  | _, _ => False
def zpop : Nat → List Value → List Value → (List Value → List Value → Prop) → Prop
  | 0, acc, S, k => k acc S
  | n + 1, acc, v :: S, k => zpop n (v :: acc) S k
  | _ + 1, _, [], _ => False
def zcat : List Value → Nat
  | [] => 0
  | .int _ :: S => zcat S + 1
  | .ref _ :: S => zcat S + 1
  | _ :: S => zcat S + 2
def zpush (r : Option Value) (S : List Value) : List Value := match r with
  | some v => v :: S
  | none => S
/-- the branches of a switch, from the number k on -/
def ztab (x : Int32) (K : Nat → Prop) : Int → List Nat → Prop
  | _, [] => True
  | k, t :: ts => (x.toInt = k → K t) ∧ ztab x K (k + 1) ts
def zlkp (x : Int32) (K : Nat → Prop) (d : Nat) : List (Int × Nat) → Prop
  | [] => K d
  | (k, t) :: ts => (x.toInt = k → K t) ∧ (x.toInt ≠ k → zlkp x K d ts)
def zarraycopy (S : List Value) (h : zH) (k : List Value → zH → Prop) : Prop := match S with
  | .int n :: .int dp :: .ref q1 :: .int sp :: .ref q0 :: S => zarr h q0 0 (fun n0 f => zarr h q1 0 (fun n1 g => (¬ sp < 0 ∧ ¬ dp < 0 ∧ ¬ n < 0 ∧ sp.toNatClampNeg + n.toNatClampNeg ≤ n0 ∧ dp.toNatClampNeg + n.toNatClampNeg ≤ n1) ∧ k S (h.set q1 (.inl (0, n1, .inl (va_cpy f g sp.toNatClampNeg dp.toNatClampNeg n.toNatClampNeg))))))
  | _ => False
/-- an instruction: what must hold, so that 'X' holds where it goes on, and 'Q' where it returns -/
def zi (Γ : Nat → zT) (Q : zQ) (X : zX) (pc nx : Nat) (i : Instr) (a b : Nat) (v : Value) (L : zL) (S : List Value) (h : zH) : Prop :=
  match i with
  | .iconst _ => X nx L (v :: S) h
  | .bipush _ => X nx L (v :: S) h
  | .sipush _ => X nx L (v :: S) h
  | .lconst _ => X nx L (v :: S) h
  | .ldc _ => X nx L (v :: S) h
  | .ldc_w _ => X nx L (v :: S) h
  | .ldc2_w _ => X nx L (v :: S) h
  | .iload _ => zget L a (fun v => z1i [v] (fun x _ => X nx L (.int x :: S) h))
  | .iload_n _ => zget L a (fun v => z1i [v] (fun x _ => X nx L (.int x :: S) h))
  | .lload _ => zget L a (fun v => z1l [v] (fun x _ => X nx L (.long x :: S) h))
  | .lload_n _ => zget L a (fun v => z1l [v] (fun x _ => X nx L (.long x :: S) h))
  | .aload _ => zget L a (fun v => z1r [v] (fun x _ => X nx L (.ref x :: S) h))
  | .aload_n _ => zget L a (fun v => z1r [v] (fun x _ => X nx L (.ref x :: S) h))
  | .istore _ => z1i S (fun x S => zset L a (.int x) (fun L => X nx L S h))
  | .istore_n _ => z1i S (fun x S => zset L a (.int x) (fun L => X nx L S h))
  | .astore_n _ => z1r S (fun x S => zset L a (.ref x) (fun L => X nx L S h))
  | .lstore _ => z1l S (fun x S => zset L a (.long x) (fun L => zclr L (a + 1) (fun L => X nx L S h)))
  | .lstore_n _ => z1l S (fun x S => zset L a (.long x) (fun L => zclr L (a + 1) (fun L => X nx L S h)))
  | .iinc _ _ => zget L a (fun w => z2i [v, w] (fun x y _ => zset L a (.int (x + y)) (fun L => X nx L S h)))
  | .iadd => z2i S (fun x y S => X nx L (.int (x + y) :: S) h)
  | .isub => z2i S (fun x y S => X nx L (.int (x - y) :: S) h)
  | .imul => z2i S (fun x y S => X nx L (.int (x * y) :: S) h)
  | .idiv => z2i S (fun x y S => ¬ y = 0 ∧ X nx L (.int (x / y) :: S) h)
  | .irem => z2i S (fun x y S => ¬ y = 0 ∧ X nx L (.int (x - x / y * y) :: S) h)
  | .iand => z2i S (fun x y S => X nx L (.int (x &&& y) :: S) h)
  | .ior => z2i S (fun x y S => X nx L (.int (x ||| y) :: S) h)
  | .ixor => z2i S (fun x y S => X nx L (.int (x ^^^ y) :: S) h)
  | .ishl => z2i S (fun x y S => X nx L (.int (x <<< (y &&& 31)) :: S) h)
  | .ishr => z2i S (fun x y S => X nx L (.int (x >>> (y &&& 31)) :: S) h)
  | .iushr => z2i S (fun x y S => X nx L (.int (x.toUInt32 >>> (y.toUInt32 &&& Int32.toUInt32 31)).toInt32 :: S) h)
  | .ineg => z1i S (fun x S => X nx L (.int (-x) :: S) h)
  | .i2b => z1i S (fun x S => X nx L (.int x.toInt8.toInt32 :: S) h)
  | .i2l => z1i S (fun x S => X nx L (.long x.toInt64 :: S) h)
  | .l2i => z1l S (fun x S => X nx L (.int x.toInt32 :: S) h)
  | .ladd => z2l S (fun x y S => X nx L (.long (x + y) :: S) h)
  | .lsub => z2l S (fun x y S => X nx L (.long (x - y) :: S) h)
  | .lmul => z2l S (fun x y S => X nx L (.long (x * y) :: S) h)
  | .lshl => zil S (fun x y S => X nx L (.long (x <<< (y.toInt64 &&& 63)) :: S) h)
  | .lcmp => z2l S (fun x y S => X nx L (.int (lg_cmp x y) :: S) h)
  | .dup => match S with
    | u :: S => z1w u (X nx L (u :: u :: S) h)
    | _ => False
  | .dup2 => match S with
    | u :: w :: S => z1w u (z1w w (X nx L (u :: w :: u :: w :: S) h))
    | _ => False
  | .goto _ => X a L S h
  | .ifCond c _ => z1i S (fun x S => match c with
    | .eq => (x = 0 → X a L S h) ∧ (¬ x = 0 → X nx L S h)
    | .ne => (¬ x = 0 → X a L S h) ∧ (x = 0 → X nx L S h)
    | .lt => (x < 0 → X a L S h) ∧ (¬ x < 0 → X nx L S h)
    | .ge => (0 ≤ x → X a L S h) ∧ (¬ 0 ≤ x → X nx L S h)
    | .gt => (0 < x → X a L S h) ∧ (¬ 0 < x → X nx L S h)
    | .le => (x ≤ 0 → X a L S h) ∧ (¬ x ≤ 0 → X nx L S h))
  | .if_icmp c _ => z2i S (fun x y S => match c with
    | .eq => (x = y → X a L S h) ∧ (¬ x = y → X nx L S h)
    | .ne => (¬ x = y → X a L S h) ∧ (x = y → X nx L S h)
    | .lt => (x < y → X a L S h) ∧ (¬ x < y → X nx L S h)
    | .ge => (y ≤ x → X a L S h) ∧ (¬ y ≤ x → X nx L S h)
    | .gt => (y < x → X a L S h) ∧ (¬ y < x → X nx L S h)
    | .le => (x ≤ y → X a L S h) ∧ (¬ x ≤ y → X nx L S h))
  | .tableswitch _ lo hi offs => z1i S (fun x S => (x.toInt < lo ∨ hi < x.toInt → X a L S h) ∧ ztab x (fun t => X t L S h) lo (offs.toList.map (fun o => ((pc : Int) + o).toNat)))
  | .lookupswitch _ ps => z1i S (fun x S => zlkp x (fun t => X t L S h) a (ps.toList.map (fun q => (q.1, ((pc : Int) + q.2).toNat))))
  | .getfield _ => z1r S (fun r S => zobj h r a (fun fs => zfld fs b (fun v => X nx L (v :: S) h)))
  | .putfield _ => zvr S (fun r u S => zobj h r a (fun fs => zfld fs b (fun _ => zfit v u (X nx L S (h.set r (.inr (a, fs.set b u)))))))
  | .iaload => zir S (fun r i S => zarr h r 0 (fun n f => vp_in i n ∧ X nx L (.int (f i.toNatClampNeg) :: S) h))
  | .baload => zir S (fun r i S => zarr h r a (fun n f => vp_in i n ∧ X nx L (.int (f i.toNatClampNeg) :: S) h))
  | .laload => zir S (fun r i S => zarl h r 3 (fun n f => vp_in i n ∧ X nx L (.long (f i.toNatClampNeg) :: S) h))
  | .iastore => ziir S (fun r i x S => zarr h r 0 (fun n f => vp_in i n ∧ X nx L S (h.set r (.inl (0, n, .inl (upd f i.toNatClampNeg x))))))
  | .bastore => ziir S (fun r i x S => zarr h r a (fun n f => vp_in i n ∧ X nx L S (h.set r (.inl (a, n, .inl (upd f i.toNatClampNeg (if a = 1 then vp_nar .boolean x else vp_nar .byte x)))))))
  | .lastore => zlir S (fun r i x S => zarl h r 3 (fun n f => vp_in i n ∧ X nx L S (h.set r (.inl (3, n, .inr (.inl (vp_updL f i.toNatClampNeg x)))))))
  | .invokestatic _ => match v with
    | .long _ => zarraycopy S h (fun S h => if zcat S ≤ 8 then X nx L S h else False)
    | .float _ => z2i S (fun x y S => if zcat S ≤ 8 then X nx L (.int (if y < x then y else x) :: S) h else False)
    | .double _ => z2i S (fun x y S => if zcat S ≤ 8 then X nx L (.int (if x < y then y else x) :: S) h else False)
    | _ => zpop b [] S (fun av S => if zcat S ≤ 8 then Γ a av h (fun r h => X nx L (zpush r S) h) else False)
  | .invokevirtual _ => match v with
    | .ref ci => zpop (b + 1) [] S (fun av S => z1r av (fun r _ => zobj h r ci (fun _ => if zcat S ≤ 8 then Γ a av h (fun r h => X nx L (zpush r S) h) else False)))
    | _ => False
  | .ireturn => match S with
    | [.int x] => zfit v (.int x) (Q (some (.int x)) h)
    | _ => False
  | .return_ => match S with
    | [] => Q none h
    | _ => False
  | _ => False
def zfind : List zE → Nat → (zE → Prop) → Prop
  | [], _, _ => False
  | r :: c, pc, k => if r.1 = pc then k r else zfind c pc k
def zstep (code : List zE) (Γ : Nat → zT) (Q : zQ) (X : zX) : zX := fun pc L S h => zfind code pc (fun r => zi Γ Q X pc r.2.1 r.2.2.1 r.2.2.2.1 r.2.2.2.2.1 r.2.2.2.2.2 L S h)
/-- the code runs from here to its return, where Q holds -/
def zRun (code : List zE) (Γ : Nat → zT) (Q : zQ) (pc : Nat) (L : zL) (S : List Value) (h : zH) : Prop :=
  ∀ X : zX, (∀ pc L S h, zstep code Γ Q X pc L S h → X pc L S h) → X pc L S h
/-- the rows that a method begins with: its arguments, the rest unset -/
def zent : Nat → List Value → zL
  | 0, _ => []
  | n + 1, [] => none :: zent n []
  | n + 1, .int x :: vs => some (.int x) :: zent n vs
  | n + 1, .ref x :: vs => some (.ref x) :: zent n vs
  | n + 2, .long x :: vs => some (.long x) :: none :: zent n vs
  | n + 1, _ :: _ => none :: zent n []
