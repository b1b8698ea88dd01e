/-! The code in blocks against the bytes, and its links against the program's lists. -/
def klk (y x : Nat) (i : Instr) : Bool := match i with
  | .getfield idx => KFL.contains ((kme y).1, idx, x, false) || KFL.contains ((kme y).1, idx, x, true) || KFS.contains ((kme y).1, idx, x)
  | .putfield idx => (KFL.contains ((kme y).1, idx, x, false) || KFL.contains ((kme y).1, idx, x, true)) && (!(kT (x / 100 % 100) (x % 100)).2.2.2 || (decide ((kmn y).name = "<init>") && decide ((kme y).1 + 1 = x / 100 % 100)))
  | .new idx => if x < 1000 then KCL.contains ((kme y).1, idx, x) else true
  | .invokevirtual idx => KML.contains ((kme y).1, idx, x, false) || KML.contains ((kme y).1, idx, x, true) || decide (x = 0)
  | .invokestatic idx => KML.contains ((kme y).1, idx, x, false) || KML.contains ((kme y).1, idx, x, true) || KMM.contains ((kme y).1, idx, x) || decide (x = 0)
  | .invokespecial idx => KML.contains ((kme y).1, idx, x, false) || KML.contains ((kme y).1, idx, x, true) || (KOB.contains ((kme y).1, idx) && decide (x = 1000)) || decide (x = 0)
  | .ldc idx => KSL.any (fun q => decide (q.1 = (kme y).1) && decide (q.2.1 = idx) && decide (q.2.2.1 = x)) || decide (x = 99999)
  | .ldc2_w idx => KLL.any (fun q => decide (q.1 = (kme y).1) && decide (q.2.1 = idx) && decide (q.2.2.1 = x))
  | .getstatic idx => KGL.contains ((kme y).1, idx, x) || decide (x = 99999)
  | _ => true
def ktg (pc x : Nat) (i : Instr) : Bool := match i with
  | .goto off => decide ((pc : Int) + off = (x : Int))
  | .ifCond _ off => decide ((pc : Int) + off = (x : Int))
  | .if_icmp _ off => decide ((pc : Int) + off = (x : Int))
  | _ => true
def kend (i : Instr) (x : Nat) : Bool := match i with
  | .goto _ => true
  | .lookupswitch _ _ => true
  | .tableswitch _ _ _ _ => true
  | .return_ => true
  | .ireturn => true
  | .lreturn => true
  | .areturn => true
  | .athrow => true
  | .new _ => decide (1000 ≤ x)
  | _ => false
/-- how many bytes an instruction takes (0: a switch) -/
def klen (i : Instr) : Nat := match i with
  | .bipush _ => 2
  | .sipush _ => 3
  | .ldc _ => 2
  | .ldc2_w _ => 3
  | .getstatic _ => 3
  | .getfield _ => 3
  | .putfield _ => 3
  | .invokevirtual _ => 3
  | .invokespecial _ => 3
  | .invokestatic _ => 3
  | .new _ => 3
  | .iload _ => 2
  | .lload _ => 2
  | .aload _ => 2
  | .istore _ => 2
  | .lstore _ => 2
  | .astore _ => 2
  | .iinc _ _ => 3
  | .goto _ => 3
  | .ifCond _ _ => 3
  | .if_icmp _ _ => 3
  | .newarray _ => 2
  | .tableswitch _ _ _ _ => 0
  | .lookupswitch _ _ => 0
  | .anewarray _ => 3
  | .checkcast _ => 3
  | .instanceof _ => 3
  | .ldc_w _ => 3
  | .ifnull _ => 3
  | .ifnonnull _ => 3
  | .if_acmp _ _ => 3
  | .invokeinterface _ _ => 5
  | .invokedynamic _ => 5
  | _ => 1
def kdec (y : Nat) : List kI → Bool
  | [] => true
  | (_, _, .nop) :: cs => cs.isEmpty
  | (pc, x, i) :: cs => (match decode (kby y) pc with
    | .ok (j, len) => decide (j = i) && (decide (klen i = 0) || decide (len = klen i)) && (kend i x || (match cs with
      | [] => false
      | c2 :: _ => decide (c2.1 = pc + len)))
    | .error _ => false) && klk y x i && ktg pc x i && kdec y cs
def kbok (y : Nat) : Bool := (kblks y).all (fun b => kdec y b.2 && decide (b.2.head?.map (fun q => q.1) = some b.1))
theorem kbok_1 : ((List.range 11).drop 1).all kbok = true := by decide +kernel
theorem kbok_11 : ((List.range 21).drop 11).all kbok = true := by decide +kernel
theorem kbok_21 : ((List.range 31).drop 21).all kbok = true := by decide +kernel
theorem kbok_31 : ((List.range 41).drop 31).all kbok = true := by decide +kernel
theorem kbok_41 : ((List.range 51).drop 41).all kbok = true := by decide +kernel
theorem kbok_51 : ((List.range 61).drop 51).all kbok = true := by decide +kernel
theorem kbok_61 : ((List.range 71).drop 61).all kbok = true := by decide +kernel
theorem kbok_71 : ((List.range 81).drop 71).all kbok = true := by decide +kernel
theorem kbok_81 : ((List.range 91).drop 81).all kbok = true := by decide +kernel
theorem kbok_91 : ((List.range 101).drop 91).all kbok = true := by decide +kernel
theorem kbok_101 : ((List.range 111).drop 101).all kbok = true := by decide +kernel
theorem kbok_111 : ((List.range 121).drop 111).all kbok = true := by decide +kernel
theorem kbok_121 : ((List.range 131).drop 121).all kbok = true := by decide +kernel
theorem kbok_131 : ((List.range 141).drop 131).all kbok = true := by decide +kernel
theorem kbok_141 : ((List.range 151).drop 141).all kbok = true := by decide +kernel
theorem kbok_151 : ((List.range 161).drop 151).all kbok = true := by decide +kernel
theorem kbok_161 : ((List.range 171).drop 161).all kbok = true := by decide +kernel
theorem kbok_171 : ((List.range 181).drop 171).all kbok = true := by decide +kernel
theorem kbok_181 : ((List.range 182).drop 181).all kbok = true := by decide +kernel
