/-! The small machine: a plain picture of the bytecode that the law reaches. A cell: tag, length, contents. A heap: cells made, slots made, the cells. Code: pc, a resolved number, the instruction. -/
def kup {α : Type} (f : Nat → α) (k : Nat) (v : α) : Nat → α := fun j => if j = k then v else f j
def kun : Value := .retAddr 0
def kkill (v : Value) : Value := match v with
  | .long _ => kun
  | .double _ => kun
  | w => w
def kst1 : List Value → Nat → Value → List Value
  | [], _, _ => []
  | _ :: l, 0, v => v :: l
  | a :: l, 1, v => kkill a :: l.set 0 v
  | a :: l, n + 2, v => a :: kst1 l (n + 1) v
def kst2 (ls : List Value) (k : Nat) (v : Value) : List Value := (kst1 ls k v).set (k + 1) kun
def kl_i (ls st : List Value) (k : Nat) : Option (List Value) := match ls[k]? with
  | some (.int a) => some (.int a :: st)
  | _ => none
def kl_l (ls st : List Value) (k : Nat) : Option (List Value) := match ls[k]? with
  | some (.long a) => some (.long a :: st)
  | _ => none
def kl_a (ls st : List Value) (k : Nat) : Option (List Value) := match ls[k]? with
  | some (.ref a) => some (.ref a :: st)
  | _ => none
def ks_i (ls st : List Value) (k : Nat) : Option (List Value × List Value) := match st with
  | .int a :: st => if k < ls.length then some (kst1 ls k (.int a), st) else none
  | _ => none
def ks_l (ls st : List Value) (k : Nat) : Option (List Value × List Value) := match st with
  | .long a :: st => if k + 1 < ls.length then some (kst2 ls k (.long a), st) else none
  | _ => none
def ks_a (ls st : List Value) (k : Nat) : Option (List Value × List Value) := match st with
  | .ref a :: st => if k < ls.length then some (kst1 ls k (.ref a), st) else none
  | _ => none
def ko_ii (st : List Value) (f : Int32 → Int32 → Value) : Option (List Value) := match st with
  | .int b :: .int a :: st => some (f a b :: st)
  | _ => none
def ko_ll (st : List Value) (f : Int64 → Int64 → Value) : Option (List Value) := match st with
  | .long b :: .long a :: st => some (f a b :: st)
  | _ => none
def ko_li (st : List Value) (f : Int64 → Int32 → Value) : Option (List Value) := match st with
  | .int b :: .long a :: st => some (f a b :: st)
  | _ => none
def ko_ld (st : List Value) (f : Int64 → Int64 → Value) : Option (List Value) := match st with
  | .long b :: .long a :: st => if b = 0 then none else some (f a b :: st)
  | _ => none
def ko_i (st : List Value) (f : Int32 → Value) : Option (List Value) := match st with
  | .int a :: st => some (f a :: st)
  | _ => none
def ko_l (st : List Value) (f : Int64 → Value) : Option (List Value) := match st with
  | .long a :: st => some (f a :: st)
  | _ => none
def ko_dup (st : List Value) : Option (List Value) := match st with
  | .int a :: st => some (.int a :: .int a :: st)
  | .ref a :: st => some (.ref a :: .ref a :: st)
  | _ => none
def ko_pop (st : List Value) : Option (List Value) := match st with
  | .int _ :: st => some st
  | .ref _ :: st => some st
  | _ => none
def ko_dup2 (st : List Value) : Option (List Value) := match st with
  | .int a :: .ref b :: st => some (.int a :: .ref b :: .int a :: .ref b :: st)
  | _ => none
/-- a field: kind * 10000 + tag * 100 + place; kinds: 0 int, 1 boolean, 2 long, 3 a reference -/
def kfit (kd : Nat) (v : Value) : Bool := match kd, v with
  | 0, .int _ => true
  | 1, .int z => decide (z = 0) || decide (z = 1)
  | 2, .long _ => true
  | 3, .ref a => decide (a < 1000000)
  | _, _ => false
def kget (h : kH) (a x : Nat) : Option Value := if (h.2 a).1 = x / 100 % 100 ∧ x % 100 < (h.2 a).2.1 then some ((h.2 a).2.2 (x % 100)) else none
def kput (h : kH) (a x : Nat) (v : Value) : Option kH := if (h.2 a).1 = x / 100 % 100 ∧ x % 100 < (h.2 a).2.1 ∧ kfit (x / 10000) v = true then some (h.1, kup h.2 a ((h.2 a).1, (h.2 a).2.1, kup (h.2 a).2.2 (x % 100) v)) else none
def ko_get (h : kH) (x : Nat) (st : List Value) : Option (List Value) := match st with
  | .ref a :: st => match kget h a x with
    | some v => some (v :: st)
    | none => none
  | _ => none
def ko_put (h : kH) (x : Nat) (st : List Value) : Option (List Value × kH) := match st with
  | v :: .ref a :: st => match kput h a x v with
    | some h1 => some (st, h1)
    | none => none
  | _ => none
def kin (i : Int32) (n : Nat) : Bool := !(decide (i < 0) || decide (n ≤ i.toNatClampNeg))
/-- an array's element: its tag must be one of two -/
def ko_ald (h : kH) (t1 t2 : Nat) (st : List Value) : Option (List Value) := match st with
  | .int i :: .ref a :: st => if ((h.2 a).1 = t1 ∨ (h.2 a).1 = t2) ∧ kin i (h.2 a).2.1 = true then some ((h.2 a).2.2 i.toNatClampNeg :: st) else none
  | _ => none
def kast (h : kH) (a : Nat) (i : Int32) (v : Value) : kH := (h.1, kup h.2 a ((h.2 a).1, (h.2 a).2.1, kup (h.2 a).2.2 i.toNatClampNeg v))
def ko_ast (h : kH) (t : Nat) (f : Int32 → Value) (st : List Value) : Option (List Value × kH) := match st with
  | .int x :: .int i :: .ref a :: st => if (h.2 a).1 = t ∧ kin i (h.2 a).2.1 = true then some (st, kast h a i (f x)) else none
  | _ => none
def ko_lst (h : kH) (st : List Value) : Option (List Value × kH) := match st with
  | .long x :: .int i :: .ref a :: st => if (h.2 a).1 = 22 ∧ kin i (h.2 a).2.1 = true then some (st, kast h a i (.long x)) else none
  | _ => none
def ko_len (h : kH) (st : List Value) : Option (List Value) := match st with
  | .ref a :: st => if 20 ≤ (h.2 a).1 ∧ (h.2 a).1 < 24 ∨ (h.2 a).1 = 50 ∨ (h.2 a).1 = 52 then some (.int (Int32.ofNat (h.2 a).2.1) :: st) else none
  | _ => none
def knew (h : kH) (t n : Nat) (f : Nat → Value) : kH := ((h.1.1 + 1, h.1.2 + n), kup h.2 h.1.1 (t, n, f))
def ko_nar (h : kH) (t : Nat) (v : Value) (st : List Value) : Option (List Value × kH) := match st with
  | .int n :: st => if ¬ n < 0 ∧ n.toNatClampNeg ≤ 100000 then some (.ref h.1.1 :: st, knew h t n.toNatClampNeg (fun _ => v)) else none
  | _ => none
def k_st (ls : List Value) (h : kH) (o : Option (List Value)) : Option (List Value × List Value × kH) := match o with
  | some st => some (ls, st, h)
  | none => none
def k_ls (h : kH) (o : Option (List Value × List Value)) : Option (List Value × List Value × kH) := match o with
  | some q => some (q.1, q.2, h)
  | none => none
def k_hp (ls : List Value) (o : Option (List Value × kH)) : Option (List Value × List Value × kH) := match o with
  | some q => some (ls, q.1, q.2)
  | none => none
def k_inc (ls : List Value) (k : Nat) (c : Int) : Option (List Value) := match ls[k]? with
  | some (.int a) => some (kst1 ls k (.int (a + Int32.ofInt c)))
  | _ => none
/-- instructions without a jump, a call, an end -/
def ksimple (i : Instr) (x : Nat) (ls st : List Value) (h : kH) : Option (List Value × List Value × kH) := match i with
  | .iconst v => some (ls, .int (Int32.ofInt v) :: st, h)
  | .bipush v => some (ls, .int (Int8.ofInt v).toInt32 :: st, h)
  | .sipush v => some (ls, .int (Int16.ofInt v).toInt32 :: st, h)
  | .lconst v => some (ls, .long (Int64.ofNat v) :: st, h)
  | .ldc _ => if x < 1000 then some (ls, kcst x :: st, h) else none
  | .ldc2_w _ => some (ls, kcst x :: st, h)
  | .getstatic _ => if x < 1000 then some (ls, kcst x :: st, h) else none
  | .iload k => k_st ls h (kl_i ls st k)
  | .iload_n k => k_st ls h (kl_i ls st k)
  | .lload k => k_st ls h (kl_l ls st k)
  | .lload_n k => k_st ls h (kl_l ls st k)
  | .aload k => k_st ls h (kl_a ls st k)
  | .aload_n k => k_st ls h (kl_a ls st k)
  | .istore k => k_ls h (ks_i ls st k)
  | .istore_n k => k_ls h (ks_i ls st k)
  | .lstore k => k_ls h (ks_l ls st k)
  | .lstore_n k => k_ls h (ks_l ls st k)
  | .astore k => k_ls h (ks_a ls st k)
  | .astore_n k => k_ls h (ks_a ls st k)
  | .iinc k c => match k_inc ls k c with
    | some l => some (l, st, h)
    | none => none
  | .iadd => k_st ls h (ko_ii st fun a b => .int (a + b))
  | .isub => k_st ls h (ko_ii st fun a b => .int (a - b))
  | .imul => k_st ls h (ko_ii st fun a b => .int (a * b))
  | .iand => k_st ls h (ko_ii st fun a b => .int (a &&& b))
  | .ishr => k_st ls h (ko_ii st fun a b => .int (a >>> (b &&& 31)))
  | .ladd => k_st ls h (ko_ll st fun a b => .long (a + b))
  | .lmul => k_st ls h (ko_ll st fun a b => .long (a * b))
  | .land => k_st ls h (ko_ll st fun a b => .long (a &&& b))
  | .lor => k_st ls h (ko_ll st fun a b => .long (a ||| b))
  | .lcmp => k_st ls h (ko_ll st fun a b => .int (lg_cmp a b))
  | .ldiv => k_st ls h (ko_ld st fun a b => .long (a / b))
  | .lrem => k_st ls h (ko_ld st fun a b => .long (a - a / b * b))
  | .lneg => k_st ls h (ko_l st fun a => .long (-a))
  | .lshl => k_st ls h (ko_li st fun a b => .long (a <<< (b.toInt64 &&& 63)))
  | .lshr => k_st ls h (ko_li st fun a b => .long (a >>> (b.toInt64 &&& 63)))
  | .lushr => k_st ls h (ko_li st fun a b => .long (a.toUInt64 >>> (b.toInt64.toUInt64 &&& Int64.toUInt64 63)).toInt64)
  | .i2l => k_st ls h (ko_i st fun a => .long a.toInt64)
  | .i2c => k_st ls h (ko_i st fun a => .int (a.toUInt32 % 65536).toInt32)
  | .i2b => k_st ls h (ko_i st fun a => .int a.toInt8.toInt32)
  | .l2i => k_st ls h (ko_l st fun a => .int a.toInt32)
  | .dup => k_st ls h (ko_dup st)
  | .dup2 => k_st ls h (ko_dup2 st)
  | .pop => k_st ls h (ko_pop st)
  | .getfield _ => k_st ls h (ko_get h x st)
  | .putfield _ => k_hp ls (ko_put h x st)
  | .iaload => k_st ls h (ko_ald h 20 50 st)
  | .caload => k_st ls h (ko_ald h 21 21 st)
  | .laload => k_st ls h (ko_ald h 22 22 st)
  | .baload => k_st ls h (ko_ald h 52 52 st)
  | .iastore => k_hp ls (ko_ast h 20 (fun z => .int z) st)
  | .castore => k_hp ls (ko_ast h 21 (fun z => .int (vp_nar .char z)) st)
  | .lastore => k_hp ls (ko_lst h st)
  | .arraylength => k_st ls h (ko_len h st)
  | .newarray .int => k_hp ls (ko_nar h 20 (.int 0) st)
  | .newarray .char => k_hp ls (ko_nar h 21 (.int 0) st)
  | .newarray .long => k_hp ls (ko_nar h 22 (.long 0) st)
  | .new _ => if 1 ≤ x ∧ x < 20 then some (ls, .ref h.1.1 :: st, knew h x (kN x) (kdef x)) else none
  | _ => none
def kcmp (c : ClassFile.Cond) (a b : Int32) : Bool := match c with
  | .eq => decide (a = b)
  | .ne => decide (¬ a = b)
  | .lt => decide (a < b)
  | .ge => decide (b ≤ a)
  | .gt => decide (b < a)
  | .le => decide (a ≤ b)
def kbr (i : Instr) (st : List Value) : Option (Bool × List Value) := match i with
  | .ifCond c _ => match st with
    | .int a :: st => some (kcmp c a 0, st)
    | _ => none
  | .if_icmp c _ => match st with
    | .int b :: .int a :: st => some (kcmp c a b, st)
    | _ => none
  | _ => none
def ktn (z : Int) (st : List Value) : Option (Nat × List Value) := if 0 ≤ z then some (z.toNat, st) else none
def kswitch (i : Instr) (pc : Nat) (st : List Value) : Option (Nat × List Value) := match i with
  | .lookupswitch dflt ps => match st with
    | .int a :: st => if (ps.toList.zip (ps.toList.drop 1)).all (fun (a, next) => a.1 < next.1) = true then ktn ((pc : Int) + Op.lookupswitch.offset ps.toList dflt a.toInt) st else none
    | _ => none
  | .tableswitch dflt lo hi offs => match st with
    | .int a :: st => if a.toInt < lo ∨ hi < a.toInt then ktn ((pc : Int) + dflt) st else match offs[(a.toInt - lo).toNat]? with
      | some off => ktn ((pc : Int) + off) st
      | none => none
    | _ => none
  | _ => none
/-- what a method gives back: 0 nothing, 1 int, 2 boolean, 3 char, 4 long, 5 byte -/
def kret (rk : Nat) (i : Instr) (st : List Value) : Option (Option Value) := match i with
  | .return_ => match rk, st with
    | 0, [] => some none
    | _, _ => none
  | .ireturn => match rk, st with
    | 1, [.int a] => some (some (.int a))
    | 2, [.int a] => if a = 0 ∨ a = 1 then some (some (.int a)) else none
    | 3, [.int a] => if vp_nar .char a = a then some (some (.int a)) else none
    | 5, [.int a] => if vp_nar .byte a = a then some (some (.int a)) else none
    | _, _ => none
  | .lreturn => match rk, st with
    | 4, [.long a] => some (some (.long a))
    | _, _ => none
  | _ => none
def ksp : List Value → List Value
  | [] => []
  | .long a :: l => .long a :: kun :: ksp l
  | v :: l => v :: ksp l
def kpad (n : Nat) (l : List Value) : List Value := l ++ List.replicate (n - l.length) kun
