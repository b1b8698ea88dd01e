/-! Contracts: methods that only look, over the canonical heap. By program (wip/gen/gen28.py, sx.py). -/
theorem kfin {m : Nat} {E : Nat → kC} {S S' : Nat → Nat → Int} {sz : Nat × Nat} {v v' : Int} (h : v = v') (hS : S = S') : ((.inl (some (.int (Int32.ofInt v))), (sz, hp m E S)) : kO × kH) = (.inl (some (.int (Int32.ofInt v'))), (sz, hp m E S')) := by rw [h, hS]
theorem c_35 {m : Nat} {E : Nat → kC} {S : Nat → Nat → Int} {sz : Nat × Nat} (hm : 53 ≤ m) {i : Int} (r_i : -2147483648 ≤ i ∧ i < 2147483648) (h1 : 0 ≤ S 10 5 ∧ S 10 5 ≤ 60) : kR 0 35 (blk 35 0) (kent 35 [.ref 10, .int (Int32.ofInt i)]) [] (sz, hp m E S) (fun r => r = (.inl (some (.int (Int32.ofInt (if 0 ≤ i ∧ i < S 10 5 then 1 else 0)))), (sz, hp m E S))) := by
  show kR 0 35 b35_0 _ _ _ _
  refine kR.s rfl rfl ?_
  refine kR.zlt (by omega) (by omega) (fun q1 => ?_) (fun q1 => ?_)
  · skip
    show kR 0 35 b35_16 _ _ _ _
    refine kR.s rfl rfl ?_
    refine kR.n ?_
    show kR 0 35 b35_17 _ _ _ _
    refine kR.ret rfl rfl ?_
    refine kfin (by first | rfl | omega | (split <;> first | rfl | omega) | (split <;> split <;> first | rfl | omega)) rfl
  · skip
    refine kR.s rfl rfl ?_
    refine kR.s rfl rfl ?_
    refine kR.gi (k := 5) (v := S 10 5) (by omega) rfl rfl rfl (by decide) (by decide) rfl (by rfl) ?_
    refine kR.jge (by omega) (by omega) (by omega) (by omega) (fun q2 => ?_) (fun q2 => ?_)
    · skip
      show kR 0 35 b35_16 _ _ _ _
      refine kR.s rfl rfl ?_
      refine kR.n ?_
      show kR 0 35 b35_17 _ _ _ _
      refine kR.ret rfl rfl ?_
      refine kfin (by first | rfl | omega | (split <;> first | rfl | omega) | (split <;> split <;> first | rfl | omega)) rfl
    · skip
      refine kR.s rfl rfl ?_
      refine kR.g rfl ?_
      show kR 0 35 b35_17 _ _ _ _
      refine kR.ret rfl rfl ?_
      refine kfin (by first | rfl | omega | (split <;> first | rfl | omega) | (split <;> split <;> first | rfl | omega)) rfl
theorem c_146 {m : Nat} {E : Nat → kC} {S : Nat → Nat → Int} {sz : Nat × Nat} (hm : 53 ≤ m) {i : Int} (r_i : -2147483648 ≤ i ∧ i < 2147483648) (h1 : 0 ≤ S 30 8 ∧ S 30 8 ≤ 60) : kR 0 146 (blk 146 0) (kent 146 [.ref 30, .int (Int32.ofInt i)]) [] (sz, hp m E S) (fun r => r = (.inl (some (.int (Int32.ofInt (if 0 ≤ i ∧ i < S 30 8 then 1 else 0)))), (sz, hp m E S))) := by
  show kR 0 146 b146_0 _ _ _ _
  refine kR.s rfl rfl ?_
  refine kR.zlt (by omega) (by omega) (fun q1 => ?_) (fun q1 => ?_)
  · skip
    show kR 0 146 b146_16 _ _ _ _
    refine kR.s rfl rfl ?_
    refine kR.n ?_
    show kR 0 146 b146_17 _ _ _ _
    refine kR.ret rfl rfl ?_
    refine kfin (by first | rfl | omega | (split <;> first | rfl | omega) | (split <;> split <;> first | rfl | omega)) rfl
  · skip
    refine kR.s rfl rfl ?_
    refine kR.s rfl rfl ?_
    refine kR.gi (k := 8) (v := S 30 8) (by omega) rfl rfl rfl (by decide) (by decide) rfl (by rfl) ?_
    refine kR.jge (by omega) (by omega) (by omega) (by omega) (fun q2 => ?_) (fun q2 => ?_)
    · skip
      show kR 0 146 b146_16 _ _ _ _
      refine kR.s rfl rfl ?_
      refine kR.n ?_
      show kR 0 146 b146_17 _ _ _ _
      refine kR.ret rfl rfl ?_
      refine kfin (by first | rfl | omega | (split <;> first | rfl | omega) | (split <;> split <;> first | rfl | omega)) rfl
    · skip
      refine kR.s rfl rfl ?_
      refine kR.g rfl ?_
      show kR 0 146 b146_17 _ _ _ _
      refine kR.ret rfl rfl ?_
      refine kfin (by first | rfl | omega | (split <;> first | rfl | omega) | (split <;> split <;> first | rfl | omega)) rfl
theorem c_100 {m : Nat} {E : Nat → kC} {S : Nat → Nat → Int} {sz : Nat × Nat} (hm : 53 ≤ m)   : kR 0 100 (blk 100 0) (kent 100 [.ref 30]) [] (sz, hp m E S) (fun r => r = (.inl (some (.int (Int32.ofInt (S 30 0)))), (sz, hp m E S))) := by
  show kR 0 100 b100_0 _ _ _ _
  refine kR.s rfl rfl ?_
  refine kR.gi (k := 0) (v := S 30 0) (by omega) rfl rfl rfl (by decide) (by decide) rfl (by rfl) ?_
  refine kR.ret rfl rfl ?_
  refine kfin (by first | rfl | omega | (split <;> first | rfl | omega) | (split <;> split <;> first | rfl | omega)) rfl
theorem c_101 {m : Nat} {E : Nat → kC} {S : Nat → Nat → Int} {sz : Nat × Nat} (hm : 53 ≤ m) {i : Int} (r_i : -2147483648 ≤ i ∧ i < 2147483648)  : kR 0 101 (blk 101 0) (kent 101 [.ref 30, .int (Int32.ofInt i)]) [] (sz, hp m E S) (fun r => r = (.inl (some (.int (Int32.ofInt (0)))), (sz, hp m E (ku S 30 0 i)))) := by
  show kR 0 101 b101_0 _ _ _ _
  refine kR.s rfl rfl ?_
  refine kR.s rfl rfl ?_
  refine kR.pi (k := 0) (by omega) rfl rfl rfl (by decide) (by decide) rfl rfl ?_
  refine kR.s rfl rfl ?_
  refine kR.ret rfl rfl ?_
  refine kfin (by first | rfl | omega | (split <;> first | rfl | omega) | (split <;> split <;> first | rfl | omega)) rfl
theorem c_3 {m : Nat} {E : Nat → kC} {S : Nat → Nat → Int} {sz : Nat × Nat} (hm : 53 ≤ m)   : kR 0 3 (blk 3 0) (kent 3 [.ref 0]) [] (sz, hp m E S) (fun r => r = (.inl (some (.int (Int32.ofInt (S 1 5)))), (sz, hp m E (ku S 1 5 0)))) := by
  show kR 0 3 b3_0 _ _ _ _
  refine kR.s rfl rfl ?_
  refine kR.gr (k := 0) (by omega) rfl rfl rfl (by decide) (by decide) rfl ?_
  refine kR.gi (k := 5) (v := S 1 5) (by omega) rfl rfl rfl (by decide) (by decide) rfl (by rfl) ?_
  refine kR.s rfl rfl ?_
  refine kR.s rfl rfl ?_
  refine kR.gr (k := 0) (by omega) rfl rfl rfl (by decide) (by decide) rfl ?_
  refine kR.s rfl rfl ?_
  refine kR.pi (k := 5) (by omega) rfl rfl rfl (by decide) (by decide) rfl rfl ?_
  refine kR.s rfl rfl ?_
  refine kR.ret rfl rfl ?_
  refine kfin (by first | rfl | omega | (split <;> first | rfl | omega) | (split <;> split <;> first | rfl | omega)) rfl
theorem c_103 {m : Nat} {E : Nat → kC} {S : Nat → Nat → Int} {sz : Nat × Nat} (hm : 53 ≤ m)   : kR 0 103 (blk 103 0) (kent 103 [.ref 30]) [] (sz, hp m E S) (fun r => r = (.inl (some (.int (Int32.ofInt (S 30 2)))), (sz, hp m E (ku (ku S 30 0 0) 30 2 0)))) := by
  show kR 0 103 b103_0 _ _ _ _
  refine kR.s rfl rfl ?_
  refine kR.s rfl rfl ?_
  refine kR.pi (k := 0) (by omega) rfl rfl rfl (by decide) (by decide) rfl rfl ?_
  refine kR.s rfl rfl ?_
  refine kR.gi (k := 2) (v := S 30 2) (by omega) rfl rfl rfl (by decide) (by decide) rfl (by rfl) ?_
  refine kR.s rfl rfl ?_
  refine kR.s rfl rfl ?_
  refine kR.s rfl rfl ?_
  refine kR.pi (k := 2) (by omega) rfl rfl rfl (by decide) (by decide) rfl rfl ?_
  refine kR.s rfl rfl ?_
  refine kR.ret rfl rfl ?_
  refine kfin (by first | rfl | omega | (split <;> first | rfl | omega) | (split <;> split <;> first | rfl | omega)) rfl
