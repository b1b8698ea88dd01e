theorem c_35 {m : Nat} {E : Nat → kC} {S : Nat → Nat → Int} {sz : Nat × Nat} (hm : 53 ≤ m) (i : Int) (h1 : -2147483648 ≤ i) (h2 : i < 2147483648) (h3 : 0 ≤ S 10 5) (h4 : S 10 5 ≤ 60) :
    kR 0 35 (blk 35 0) (kent 35 [.ref 10, .int (Int32.ofInt i)]) [] (sz, hp m E S) (fun r => r = (.inl (some (.int (Int32.ofInt (if 0 ≤ i ∧ i < S 10 5 then 1 else 0)))), (sz, hp m E S))) := by
  show kR 0 35 b35_0 _ _ _ _
  refine kR.s rfl rfl ?_
  refine kR.zlt (by omega) (by omega) (fun q1 => ?_) (fun q1 => ?_)
  · show kR 0 35 b35_16 _ _ _ _
    refine kR.s rfl rfl ?_
    refine kR.n ?_
    show kR 0 35 b35_17 _ _ _ _
    rw [if_neg (by omega)]
    exact kR.ret rfl rfl rfl
  · refine kR.s rfl rfl ?_
    refine kR.s rfl rfl ?_
    refine kR.gi (k := 5) (by omega) rfl rfl rfl (by decide) (by decide) rfl rfl ?_
    refine kR.jge (by omega) (by omega) (by omega) (by omega) (fun q2 => ?_) (fun q2 => ?_)
    · show kR 0 35 b35_16 _ _ _ _
      refine kR.s rfl rfl ?_
      refine kR.n ?_
      show kR 0 35 b35_17 _ _ _ _
      rw [if_neg (by omega)]
      exact kR.ret rfl rfl rfl
    · refine kR.s rfl rfl ?_
      refine kR.g rfl ?_
      show kR 0 35 b35_17 _ _ _ _
      rw [if_pos (by omega)]
      exact kR.ret rfl rfl rfl
