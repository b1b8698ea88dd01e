/-! Contracts: methods that only look, over the canonical heap. By program (wip/gen/gen28.py, sx.py). -/
theorem kfin {m : Nat} {E : Nat → kC} {S S' : Nat → Nat → Int} {sz : Nat × Nat} {v v' : Int} (h : v = v') (hS : S = S') : ((.inl (some (.int (Int32.ofInt v))), (sz, hp m E S)) : kO × kH) = (.inl (some (.int (Int32.ofInt v'))), (sz, hp m E S')) := by rw [h, hS]
theorem kargs_m {m : Nat} {E : Nat → kC} {S : Nat → Nat → Int} {sz : Nat × Nat} (hm : 53 ≤ m ∧ m ≤ 57) {x : Nat} {st : List Value} {q : List Value × List Value} (hx : (kme x).2.1 = 1 ∨ (kme x).2.2.1 ≠ 0) (e : kargs x st (sz, hp 53 E S) = some q) : kargs x st (sz, hp m E S) = some q := by
  have key : ∀ a, (hp 53 E S a).1 ≠ 0 → hp m E S a = hp 53 E S a := by
    intro a ha
    unfold hp at ha ⊢
    by_cases h1 : a < 53
    · rw [if_pos h1, if_pos (by omega)]
    · rw [if_neg h1] at ha ⊢
      by_cases h2 : 1000000 ≤ a
      · rw [if_neg (by omega)]
      · rw [if_neg h2] at ha
        exact absurd rfl ha
  unfold kargs at e ⊢
  split at e
  · rename_i h1
    rw [if_pos h1]
    split at e
    · rename_i h2
      rw [if_pos h2]
      exact e
    · rename_i h2
      rw [if_neg h2]
      split at e
      · rename_i a as ha
        split at e
        · rename_i h3
          cases e
          have h4 := key a (by change (hp 53 E S a).1 = _ at h3; rw [h3]; exact hx.resolve_left h2)
          show (if (hp m E S a).1 = _ then _ else none) = _
          rw [h4]
          exact if_pos h3
        · cases e
      · cases e
  · cases e
theorem c_35 {m : Nat} {E : Nat → kC} {S : Nat → Nat → Int} {sz : Nat × Nat} (hm : 53 ≤ m ∧ m ≤ 57) {i : Int} (r_i : -2147483648 ≤ i ∧ i < 2147483648) (h1 : 0 ≤ S 10 5 ∧ S 10 5 ≤ 60) : kR 0 35 (blk 35 0) (kent 35 [.ref 10, .int (Int32.ofInt i)]) [] (sz, hp m E S) (fun r => r = (.inl (some (.int (Int32.ofInt (if 0 ≤ i ∧ i < S 10 5 then 1 else 0)))), (sz, hp m E S))) := by
  show kR 0 35 b35_0 _ _ _ _
  refine kR.s rfl rfl ?_
  refine kR.zlt (by omega) (by omega) (fun q1 => ?_) (fun q1 => ?_)
  · skip
    show kR 0 35 b35_16 _ _ _ _
    refine kR.s rfl rfl ?_
    refine kR.n ?_
    show kR 0 35 b35_17 _ _ _ _
    refine kR.ret rfl rfl ?_
    refine kfin (by first | rfl | omega | (split <;> first | rfl | omega) | (split <;> split <;> first | rfl | omega)) rfl
  · skip
    refine kR.s rfl rfl ?_
    refine kR.s rfl rfl ?_
    refine kR.gi (k := 5) (v := S 10 5) (by omega) rfl rfl rfl (by decide) (by decide) rfl (by rfl) ?_
    refine kR.jge (by omega) (by omega) (by omega) (by omega) (fun q2 => ?_) (fun q2 => ?_)
    · skip
      show kR 0 35 b35_16 _ _ _ _
      refine kR.s rfl rfl ?_
      refine kR.n ?_
      show kR 0 35 b35_17 _ _ _ _
      refine kR.ret rfl rfl ?_
      refine kfin (by first | rfl | omega | (split <;> first | rfl | omega) | (split <;> split <;> first | rfl | omega)) rfl
    · skip
      refine kR.s rfl rfl ?_
      refine kR.g rfl ?_
      show kR 0 35 b35_17 _ _ _ _
      refine kR.ret rfl rfl ?_
      refine kfin (by first | rfl | omega | (split <;> first | rfl | omega) | (split <;> split <;> first | rfl | omega)) rfl
theorem c_146 {m : Nat} {E : Nat → kC} {S : Nat → Nat → Int} {sz : Nat × Nat} (hm : 53 ≤ m ∧ m ≤ 57) {i : Int} (r_i : -2147483648 ≤ i ∧ i < 2147483648) (h1 : 0 ≤ S 30 8 ∧ S 30 8 ≤ 60) : kR 0 146 (blk 146 0) (kent 146 [.ref 30, .int (Int32.ofInt i)]) [] (sz, hp m E S) (fun r => r = (.inl (some (.int (Int32.ofInt (if 0 ≤ i ∧ i < S 30 8 then 1 else 0)))), (sz, hp m E S))) := by
  show kR 0 146 b146_0 _ _ _ _
  refine kR.s rfl rfl ?_
  refine kR.zlt (by omega) (by omega) (fun q1 => ?_) (fun q1 => ?_)
  · skip
    show kR 0 146 b146_16 _ _ _ _
    refine kR.s rfl rfl ?_
    refine kR.n ?_
    show kR 0 146 b146_17 _ _ _ _
    refine kR.ret rfl rfl ?_
    refine kfin (by first | rfl | omega | (split <;> first | rfl | omega) | (split <;> split <;> first | rfl | omega)) rfl
  · skip
    refine kR.s rfl rfl ?_
    refine kR.s rfl rfl ?_
    refine kR.gi (k := 8) (v := S 30 8) (by omega) rfl rfl rfl (by decide) (by decide) rfl (by rfl) ?_
    refine kR.jge (by omega) (by omega) (by omega) (by omega) (fun q2 => ?_) (fun q2 => ?_)
    · skip
      show kR 0 146 b146_16 _ _ _ _
      refine kR.s rfl rfl ?_
      refine kR.n ?_
      show kR 0 146 b146_17 _ _ _ _
      refine kR.ret rfl rfl ?_
      refine kfin (by first | rfl | omega | (split <;> first | rfl | omega) | (split <;> split <;> first | rfl | omega)) rfl
    · skip
      refine kR.s rfl rfl ?_
      refine kR.g rfl ?_
      show kR 0 146 b146_17 _ _ _ _
      refine kR.ret rfl rfl ?_
      refine kfin (by first | rfl | omega | (split <;> first | rfl | omega) | (split <;> split <;> first | rfl | omega)) rfl
theorem c_100 {m : Nat} {E : Nat → kC} {S : Nat → Nat → Int} {sz : Nat × Nat} (hm : 53 ≤ m ∧ m ≤ 57)   : kR 0 100 (blk 100 0) (kent 100 [.ref 30]) [] (sz, hp m E S) (fun r => r = (.inl (some (.int (Int32.ofInt (S 30 0)))), (sz, hp m E S))) := by
  show kR 0 100 b100_0 _ _ _ _
  refine kR.s rfl rfl ?_
  refine kR.gi (k := 0) (v := S 30 0) (by omega) rfl rfl rfl (by decide) (by decide) rfl (by rfl) ?_
  refine kR.ret rfl rfl ?_
  refine kfin (by first | rfl | omega | (split <;> first | rfl | omega) | (split <;> split <;> first | rfl | omega)) rfl
theorem c_101 {m : Nat} {E : Nat → kC} {S : Nat → Nat → Int} {sz : Nat × Nat} (hm : 53 ≤ m ∧ m ≤ 57) {i : Int} (r_i : -2147483648 ≤ i ∧ i < 2147483648)  : kR 0 101 (blk 101 0) (kent 101 [.ref 30, .int (Int32.ofInt i)]) [] (sz, hp m E S) (fun r => r = (.inl (some (.int (Int32.ofInt (0)))), (sz, hp m E (ku S 30 0 i)))) := by
  show kR 0 101 b101_0 _ _ _ _
  refine kR.s rfl rfl ?_
  refine kR.s rfl rfl ?_
  refine kR.pi (k := 0) (by omega) rfl rfl rfl (by decide) (by decide) rfl rfl ?_
  refine kR.s rfl rfl ?_
  refine kR.ret rfl rfl ?_
  refine kfin (by first | rfl | omega | (split <;> first | rfl | omega) | (split <;> split <;> first | rfl | omega)) rfl
theorem c_3 {m : Nat} {E : Nat → kC} {S : Nat → Nat → Int} {sz : Nat × Nat} (hm : 53 ≤ m ∧ m ≤ 57)   : kR 0 3 (blk 3 0) (kent 3 [.ref 0]) [] (sz, hp m E S) (fun r => r = (.inl (some (.int (Int32.ofInt (S 1 5)))), (sz, hp m E (ku S 1 5 0)))) := by
  show kR 0 3 b3_0 _ _ _ _
  refine kR.s rfl rfl ?_
  refine kR.gr (k := 0) (by omega) rfl rfl rfl (by decide) (by decide) rfl ?_
  refine kR.gi (k := 5) (v := S 1 5) (by omega) rfl rfl rfl (by decide) (by decide) rfl (by rfl) ?_
  refine kR.s rfl rfl ?_
  refine kR.s rfl rfl ?_
  refine kR.gr (k := 0) (by omega) rfl rfl rfl (by decide) (by decide) rfl ?_
  refine kR.s rfl rfl ?_
  refine kR.pi (k := 5) (by omega) rfl rfl rfl (by decide) (by decide) rfl rfl ?_
  refine kR.s rfl rfl ?_
  refine kR.ret rfl rfl ?_
  refine kfin (by first | rfl | omega | (split <;> first | rfl | omega) | (split <;> split <;> first | rfl | omega)) rfl
theorem c_103 {m : Nat} {E : Nat → kC} {S : Nat → Nat → Int} {sz : Nat × Nat} (hm : 53 ≤ m ∧ m ≤ 57)   : kR 0 103 (blk 103 0) (kent 103 [.ref 30]) [] (sz, hp m E S) (fun r => r = (.inl (some (.int (Int32.ofInt (S 30 2)))), (sz, hp m E (ku (ku S 30 0 0) 30 2 0)))) := by
  show kR 0 103 b103_0 _ _ _ _
  refine kR.s rfl rfl ?_
  refine kR.s rfl rfl ?_
  refine kR.pi (k := 0) (by omega) rfl rfl rfl (by decide) (by decide) rfl rfl ?_
  refine kR.s rfl rfl ?_
  refine kR.gi (k := 2) (v := S 30 2) (by omega) rfl rfl rfl (by decide) (by decide) rfl (by rfl) ?_
  refine kR.s rfl rfl ?_
  refine kR.s rfl rfl ?_
  refine kR.s rfl rfl ?_
  refine kR.pi (k := 2) (by omega) rfl rfl rfl (by decide) (by decide) rfl rfl ?_
  refine kR.s rfl rfl ?_
  refine kR.ret rfl rfl ?_
  refine kfin (by first | rfl | omega | (split <;> first | rfl | omega) | (split <;> split <;> first | rfl | omega)) rfl
theorem c_5 {m : Nat} {E : Nat → kC} {S : Nat → Nat → Int} {sz : Nat × Nat} (hm : 53 ≤ m ∧ m ≤ 57) {i : Int} (r_i : -2147483648 ≤ i ∧ i < 2147483648) (h1 : 0 ≤ S 10 5 ∧ S 10 5 ≤ 60) : kR 1 5 (blk 5 0) (kent 5 [.ref 0, .int (Int32.ofInt i)]) [] (sz, hp m E S) (fun r => r = (.inl (some (.int (Int32.ofInt (if 0 ≤ i ∧ i < S 10 5 then S 11 i.toNat else -1)))), (sz, hp m E S))) := by
  show kR 1 5 b5_0 _ _ _ _
  refine kR.s rfl rfl ?_
  refine kR.gr (k := 2) (by omega) rfl rfl rfl (by decide) (by decide) rfl ?_
  refine kR.s rfl rfl ?_
  refine kR.c (kargs_m hm (by decide) rfl) rfl (kR.up (c_35 hm (by omega) (by omega)) (by decide)) (fun u hu => ?_)
  subst hu
  by_cases c1 : 0 ≤ i ∧ i < S 10 5
  · skip
    simp only [if_pos c1]
    show kR 1 5 _ _ _ _ _
    refine kR.zeq (by decide) (by decide) (fun q2 => absurd q2 (by decide)) (fun q2 => ?_)
    refine kR.s rfl rfl ?_
    refine kR.gr (k := 2) (by omega) rfl rfl rfl (by decide) (by decide) rfl ?_
    refine kR.gr (k := 0) (by omega) rfl rfl rfl (by decide) (by decide) rfl ?_
    refine kR.s rfl rfl ?_
    refine kR.ia (v := S 11 (i.toNat)) (by omega) rfl (by decide) (by omega) (by omega) (by rfl) ?_
    refine kR.g rfl ?_
    show kR 1 5 b5_24 _ _ _ _
    refine kR.ret rfl rfl ?_
    refine kfin (by first | rfl | omega | (split <;> first | rfl | omega) | (split <;> split <;> first | rfl | omega)) rfl
  · skip
    simp only [if_neg c1]
    show kR 1 5 _ _ _ _ _
    refine kR.zeq (by decide) (by decide) (fun q3 => ?_) (fun q3 => absurd q3 (by decide))
    show kR 1 5 b5_23 _ _ _ _
    refine kR.s rfl rfl ?_
    refine kR.n ?_
    show kR 1 5 b5_24 _ _ _ _
    refine kR.ret rfl rfl ?_
    refine kfin (by first | rfl | omega | (split <;> first | rfl | omega) | (split <;> split <;> first | rfl | omega)) rfl
theorem c_6 {m : Nat} {E : Nat → kC} {S : Nat → Nat → Int} {sz : Nat × Nat} (hm : 53 ≤ m ∧ m ≤ 57) {i : Int} (r_i : -2147483648 ≤ i ∧ i < 2147483648) (h1 : 0 ≤ S 10 5 ∧ S 10 5 ≤ 60) : kR 1 6 (blk 6 0) (kent 6 [.ref 0, .int (Int32.ofInt i)]) [] (sz, hp m E S) (fun r => r = (.inl (some (.int (Int32.ofInt (if 0 ≤ i ∧ i < S 10 5 then S 12 i.toNat else -1)))), (sz, hp m E S))) := by
  show kR 1 6 b6_0 _ _ _ _
  refine kR.s rfl rfl ?_
  refine kR.gr (k := 2) (by omega) rfl rfl rfl (by decide) (by decide) rfl ?_
  refine kR.s rfl rfl ?_
  refine kR.c (kargs_m hm (by decide) rfl) rfl (kR.up (c_35 hm (by omega) (by omega)) (by decide)) (fun u hu => ?_)
  subst hu
  by_cases c1 : 0 ≤ i ∧ i < S 10 5
  · skip
    simp only [if_pos c1]
    show kR 1 6 _ _ _ _ _
    refine kR.zeq (by decide) (by decide) (fun q2 => absurd q2 (by decide)) (fun q2 => ?_)
    refine kR.s rfl rfl ?_
    refine kR.gr (k := 2) (by omega) rfl rfl rfl (by decide) (by decide) rfl ?_
    refine kR.gr (k := 1) (by omega) rfl rfl rfl (by decide) (by decide) rfl ?_
    refine kR.s rfl rfl ?_
    refine kR.ia (v := S 12 (i.toNat)) (by omega) rfl (by decide) (by omega) (by omega) (by rfl) ?_
    refine kR.g rfl ?_
    show kR 1 6 b6_24 _ _ _ _
    refine kR.ret rfl rfl ?_
    refine kfin (by first | rfl | omega | (split <;> first | rfl | omega) | (split <;> split <;> first | rfl | omega)) rfl
  · skip
    simp only [if_neg c1]
    show kR 1 6 _ _ _ _ _
    refine kR.zeq (by decide) (by decide) (fun q3 => ?_) (fun q3 => absurd q3 (by decide))
    show kR 1 6 b6_23 _ _ _ _
    refine kR.s rfl rfl ?_
    refine kR.n ?_
    show kR 1 6 b6_24 _ _ _ _
    refine kR.ret rfl rfl ?_
    refine kfin (by first | rfl | omega | (split <;> first | rfl | omega) | (split <;> split <;> first | rfl | omega)) rfl
theorem c_147 {m : Nat} {E : Nat → kC} {S : Nat → Nat → Int} {sz : Nat × Nat} (hm : 53 ≤ m ∧ m ≤ 57) {i : Int} (r_i : -2147483648 ≤ i ∧ i < 2147483648) (h1 : 0 ≤ S 30 8 ∧ S 30 8 ≤ 60) : kR 1 147 (blk 147 0) (kent 147 [.ref 30, .int (Int32.ofInt i)]) [] (sz, hp m E S) (fun r => r = (.inl (some (.int (Int32.ofInt (if 0 ≤ i ∧ i < S 30 8 then S 34 i.toNat else -1)))), (sz, hp m E (ku S 30 0 0)))) := by
  show kR 1 147 b147_0 _ _ _ _
  refine kR.s rfl rfl ?_
  refine kR.s rfl rfl ?_
  refine kR.pi (k := 0) (by omega) rfl rfl rfl (by decide) (by decide) rfl rfl ?_
  refine kR.s rfl rfl ?_
  refine kR.s rfl rfl ?_
  refine kR.c (kargs_m hm (by decide) rfl) rfl (kR.up (c_146 hm (by omega) h1) (by decide)) (fun u hu => ?_)
  subst hu
  rw [show (ku S 30 0 0) 30 8 = S 30 8 from rfl]
  by_cases c1 : 0 ≤ i ∧ i < S 30 8
  · skip
    simp only [if_pos c1]
    show kR 1 147 _ _ _ _ _
    refine kR.zeq (by decide) (by decide) (fun q2 => absurd q2 (by decide)) (fun q2 => ?_)
    refine kR.s rfl rfl ?_
    refine kR.gr (k := 9) (by omega) rfl rfl rfl (by decide) (by decide) rfl ?_
    refine kR.s rfl rfl ?_
    refine kR.ia (v := S 34 (i.toNat)) (by omega) rfl (by decide) (by omega) (by omega) (by rfl) ?_
    refine kR.g rfl ?_
    show kR 1 147 b147_23 _ _ _ _
    refine kR.ret rfl rfl ?_
    refine kfin (by first | rfl | omega | (split <;> first | rfl | omega) | (split <;> split <;> first | rfl | omega)) rfl
  · skip
    simp only [if_neg c1]
    show kR 1 147 _ _ _ _ _
    refine kR.zeq (by decide) (by decide) (fun q3 => ?_) (fun q3 => absurd q3 (by decide))
    show kR 1 147 b147_22 _ _ _ _
    refine kR.s rfl rfl ?_
    refine kR.n ?_
    show kR 1 147 b147_23 _ _ _ _
    refine kR.ret rfl rfl ?_
    refine kfin (by first | rfl | omega | (split <;> first | rfl | omega) | (split <;> split <;> first | rfl | omega)) rfl
theorem c_148 {m : Nat} {E : Nat → kC} {S : Nat → Nat → Int} {sz : Nat × Nat} (hm : 53 ≤ m ∧ m ≤ 57) {i : Int} (r_i : -2147483648 ≤ i ∧ i < 2147483648) (h1 : 0 ≤ S 30 8 ∧ S 30 8 ≤ 60) : kR 1 148 (blk 148 0) (kent 148 [.ref 30, .int (Int32.ofInt i)]) [] (sz, hp m E S) (fun r => r = (.inl (some (.int (Int32.ofInt (if 0 ≤ i ∧ i < S 30 8 then S 37 i.toNat else -1)))), (sz, hp m E (ku S 30 0 0)))) := by
  show kR 1 148 b148_0 _ _ _ _
  refine kR.s rfl rfl ?_
  refine kR.s rfl rfl ?_
  refine kR.pi (k := 0) (by omega) rfl rfl rfl (by decide) (by decide) rfl rfl ?_
  refine kR.s rfl rfl ?_
  refine kR.s rfl rfl ?_
  refine kR.c (kargs_m hm (by decide) rfl) rfl (kR.up (c_146 hm (by omega) h1) (by decide)) (fun u hu => ?_)
  subst hu
  rw [show (ku S 30 0 0) 30 8 = S 30 8 from rfl]
  by_cases c1 : 0 ≤ i ∧ i < S 30 8
  · skip
    simp only [if_pos c1]
    show kR 1 148 _ _ _ _ _
    refine kR.zeq (by decide) (by decide) (fun q2 => absurd q2 (by decide)) (fun q2 => ?_)
    refine kR.s rfl rfl ?_
    refine kR.gr (k := 12) (by omega) rfl rfl rfl (by decide) (by decide) rfl ?_
    refine kR.s rfl rfl ?_
    refine kR.ia (v := S 37 (i.toNat)) (by omega) rfl (by decide) (by omega) (by omega) (by rfl) ?_
    refine kR.g rfl ?_
    show kR 1 148 b148_23 _ _ _ _
    refine kR.ret rfl rfl ?_
    refine kfin (by first | rfl | omega | (split <;> first | rfl | omega) | (split <;> split <;> first | rfl | omega)) rfl
  · skip
    simp only [if_neg c1]
    show kR 1 148 _ _ _ _ _
    refine kR.zeq (by decide) (by decide) (fun q3 => ?_) (fun q3 => absurd q3 (by decide))
    show kR 1 148 b148_22 _ _ _ _
    refine kR.s rfl rfl ?_
    refine kR.n ?_
    show kR 1 148 b148_23 _ _ _ _
    refine kR.ret rfl rfl ?_
    refine kfin (by first | rfl | omega | (split <;> first | rfl | omega) | (split <;> split <;> first | rfl | omega)) rfl
theorem c_13 {m : Nat} {E : Nat → kC} {S : Nat → Nat → Int} {sz : Nat × Nat} (hm : 53 ≤ m ∧ m ≤ 57) {i : Int} (r_i : -2147483648 ≤ i ∧ i < 2147483648) (h1 : 0 ≤ S 7 1 ∧ S 7 1 ≤ 2000) : kR 0 13 (blk 13 0) (kent 13 [.ref 0, .int (Int32.ofInt i)]) [] (sz, hp m E S) (fun r => r = (.inl (some (.int (Int32.ofInt (if 0 ≤ i ∧ i < S 7 1 then S 8 i.toNat else -1)))), (sz, hp m E S))) := by
  show kR 0 13 b13_0 _ _ _ _
  refine kR.s rfl rfl ?_
  refine kR.zlt (by omega) (by omega) (fun q1 => ?_) (fun q1 => ?_)
  · skip
    show kR 0 13 b13_27 _ _ _ _
    refine kR.s rfl rfl ?_
    refine kR.n ?_
    show kR 0 13 b13_28 _ _ _ _
    refine kR.ret rfl rfl ?_
    refine kfin (by first | rfl | omega | (split <;> first | rfl | omega) | (split <;> split <;> first | rfl | omega)) rfl
  · skip
    refine kR.s rfl rfl ?_
    refine kR.s rfl rfl ?_
    refine kR.gr (k := 1) (by omega) rfl rfl rfl (by decide) (by decide) rfl ?_
    refine kR.gi (k := 1) (v := S 7 1) (by omega) rfl rfl rfl (by decide) (by decide) rfl (by rfl) ?_
    refine kR.jge (by omega) (by omega) (by omega) (by omega) (fun q2 => ?_) (fun q2 => ?_)
    · skip
      show kR 0 13 b13_27 _ _ _ _
      refine kR.s rfl rfl ?_
      refine kR.n ?_
      show kR 0 13 b13_28 _ _ _ _
      refine kR.ret rfl rfl ?_
      refine kfin (by first | rfl | omega | (split <;> first | rfl | omega) | (split <;> split <;> first | rfl | omega)) rfl
    · skip
      refine kR.s rfl rfl ?_
      refine kR.gr (k := 1) (by omega) rfl rfl rfl (by decide) (by decide) rfl ?_
      refine kR.gr (k := 0) (by omega) rfl rfl rfl (by decide) (by decide) rfl ?_
      refine kR.s rfl rfl ?_
      refine kR.ca (v := S 8 (i.toNat)) (by omega) rfl (by decide) (by omega) (by omega) (by rfl) ?_
      refine kR.g rfl ?_
      show kR 0 13 b13_28 _ _ _ _
      refine kR.ret rfl rfl ?_
      refine kfin (by first | rfl | omega | (split <;> first | rfl | omega) | (split <;> split <;> first | rfl | omega)) rfl
theorem c_162 {m : Nat} {E : Nat → kC} {S : Nat → Nat → Int} {sz : Nat × Nat} (hm : 53 ≤ m ∧ m ≤ 57) {i : Int} (r_i : -2147483648 ≤ i ∧ i < 2147483648) (h1 : 0 ≤ S 30 37 ∧ S 30 37 ≤ 3000) : kR 0 162 (blk 162 0) (kent 162 [.ref 30, .int (Int32.ofInt i)]) [] (sz, hp m E S) (fun r => r = (.inl (some (.int (Int32.ofInt (if 0 ≤ i ∧ i < S 30 37 then S 48 i.toNat else -1)))), (sz, hp m E (ku S 30 0 0)))) := by
  show kR 0 162 b162_0 _ _ _ _
  refine kR.s rfl rfl ?_
  refine kR.s rfl rfl ?_
  refine kR.pi (k := 0) (by omega) rfl rfl rfl (by decide) (by decide) rfl rfl ?_
  refine kR.s rfl rfl ?_
  refine kR.zlt (by omega) (by omega) (fun q1 => ?_) (fun q1 => ?_)
  · skip
    show kR 0 162 b162_26 _ _ _ _
    refine kR.s rfl rfl ?_
    refine kR.n ?_
    show kR 0 162 b162_27 _ _ _ _
    refine kR.ret rfl rfl ?_
    refine kfin (by first | rfl | omega | (split <;> first | rfl | omega) | (split <;> split <;> first | rfl | omega)) rfl
  · skip
    refine kR.s rfl rfl ?_
    refine kR.s rfl rfl ?_
    refine kR.gi (k := 37) (v := S 30 37) (by omega) rfl rfl rfl (by decide) (by decide) rfl (by rfl) ?_
    refine kR.jge (by omega) (by omega) (by omega) (by omega) (fun q2 => ?_) (fun q2 => ?_)
    · skip
      show kR 0 162 b162_26 _ _ _ _
      refine kR.s rfl rfl ?_
      refine kR.n ?_
      show kR 0 162 b162_27 _ _ _ _
      refine kR.ret rfl rfl ?_
      refine kfin (by first | rfl | omega | (split <;> first | rfl | omega) | (split <;> split <;> first | rfl | omega)) rfl
    · skip
      refine kR.s rfl rfl ?_
      refine kR.gr (k := 36) (by omega) rfl rfl rfl (by decide) (by decide) rfl ?_
      refine kR.s rfl rfl ?_
      refine kR.ia (v := S 48 (i.toNat)) (by omega) rfl (by decide) (by omega) (by omega) (by rfl) ?_
      refine kR.g rfl ?_
      show kR 0 162 b162_27 _ _ _ _
      refine kR.ret rfl rfl ?_
      refine kfin (by first | rfl | omega | (split <;> first | rfl | omega) | (split <;> split <;> first | rfl | omega)) rfl
