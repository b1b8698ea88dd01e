/-! Two longs compared, and the branch behind it. By program (wip/gen/gen31a.py). -/
theorem ku_rngl {z : Int} (h1 : -9223372036854775808 ≤ z) (h2 : z < 9223372036854775808) : (Int64.ofInt z).toInt = z := Int64.toInt_ofInt_of_le (by omega) (by omega)
theorem kzl {a b : Int} (h1 : -9223372036854775808 ≤ a) (h2 : a < 9223372036854775808) (h3 : -9223372036854775808 ≤ b) (h4 : b < 9223372036854775808) : lg_cmp (Int64.ofInt a) (Int64.ofInt b) = if b < a then 1 else if a = b then 0 else -1 := by
  have e1 := ku_rngl h1 h2
  have e2 := ku_rngl h3 h4
  unfold lg_cmp
  have c1 : (Int64.ofInt a > Int64.ofInt b) ↔ b < a := by
    show Int64.ofInt b < Int64.ofInt a ↔ _
    rw [Int64.lt_iff_toInt_lt, e1, e2]
  have c2 : (Int64.ofInt a = Int64.ofInt b) ↔ a = b := ⟨fun h => by rw [← e1, ← e2, h], fun h => by rw [h]⟩
  simp only [c1, c2]
section KLZ
variable {D y pc x pc2 x2 : Nat} {cs : List kI} {ls st : List Value} {h : kH} {r : kO × kH → Prop} {off : Int} {a b : Int}
theorem kR.llt (h1 : -9223372036854775808 ≤ a) (h2 : a < 9223372036854775808) (h3 : -9223372036854775808 ≤ b) (h4 : b < 9223372036854775808) (k1 : a < b → kR D y (blk y x2) ls st h r) (k2 : b ≤ a → kR D y cs ls st h r) : kR D y ((pc, x, .lcmp) :: (pc2, x2, .ifCond .lt off) :: cs) ls (.long (Int64.ofInt b) :: .long (Int64.ofInt a) :: st) h r := by
  refine kR.s (ls1 := ls) (st1 := .int (if b < a then 1 else if a = b then 0 else -1) :: st) (h1 := h) ?_ rfl ?_
  · rw [← kzl h1 h2 h3 h4]
    rfl
  · rcases Int.lt_trichotomy a b with hq | hq | hq
    · rw [if_neg (by omega), if_neg (by omega)]
      exact kR.j rfl rfl (fun z => k1 (by omega)) (fun z => absurd z (by decide))
    · rw [if_neg (by omega), if_pos hq]
      exact kR.j rfl rfl (fun z => absurd z (by decide)) (fun z => k2 (by omega))
    · rw [if_pos hq]
      exact kR.j rfl rfl (fun z => absurd z (by decide)) (fun z => k2 (by omega))
theorem kR.lge (h1 : -9223372036854775808 ≤ a) (h2 : a < 9223372036854775808) (h3 : -9223372036854775808 ≤ b) (h4 : b < 9223372036854775808) (k1 : b ≤ a → kR D y (blk y x2) ls st h r) (k2 : a < b → kR D y cs ls st h r) : kR D y ((pc, x, .lcmp) :: (pc2, x2, .ifCond .ge off) :: cs) ls (.long (Int64.ofInt b) :: .long (Int64.ofInt a) :: st) h r := by
  refine kR.s (ls1 := ls) (st1 := .int (if b < a then 1 else if a = b then 0 else -1) :: st) (h1 := h) ?_ rfl ?_
  · rw [← kzl h1 h2 h3 h4]
    rfl
  · rcases Int.lt_trichotomy a b with hq | hq | hq
    · rw [if_neg (by omega), if_neg (by omega)]
      exact kR.j rfl rfl (fun z => absurd z (by decide)) (fun z => k2 (by omega))
    · rw [if_neg (by omega), if_pos hq]
      exact kR.j rfl rfl (fun z => k1 (by omega)) (fun z => absurd z (by decide))
    · rw [if_pos hq]
      exact kR.j rfl rfl (fun z => k1 (by omega)) (fun z => absurd z (by decide))
theorem kR.lgt (h1 : -9223372036854775808 ≤ a) (h2 : a < 9223372036854775808) (h3 : -9223372036854775808 ≤ b) (h4 : b < 9223372036854775808) (k1 : b < a → kR D y (blk y x2) ls st h r) (k2 : a ≤ b → kR D y cs ls st h r) : kR D y ((pc, x, .lcmp) :: (pc2, x2, .ifCond .gt off) :: cs) ls (.long (Int64.ofInt b) :: .long (Int64.ofInt a) :: st) h r := by
  refine kR.s (ls1 := ls) (st1 := .int (if b < a then 1 else if a = b then 0 else -1) :: st) (h1 := h) ?_ rfl ?_
  · rw [← kzl h1 h2 h3 h4]
    rfl
  · rcases Int.lt_trichotomy a b with hq | hq | hq
    · rw [if_neg (by omega), if_neg (by omega)]
      exact kR.j rfl rfl (fun z => absurd z (by decide)) (fun z => k2 (by omega))
    · rw [if_neg (by omega), if_pos hq]
      exact kR.j rfl rfl (fun z => absurd z (by decide)) (fun z => k2 (by omega))
    · rw [if_pos hq]
      exact kR.j rfl rfl (fun z => k1 (by omega)) (fun z => absurd z (by decide))
theorem kR.lle (h1 : -9223372036854775808 ≤ a) (h2 : a < 9223372036854775808) (h3 : -9223372036854775808 ≤ b) (h4 : b < 9223372036854775808) (k1 : a ≤ b → kR D y (blk y x2) ls st h r) (k2 : b < a → kR D y cs ls st h r) : kR D y ((pc, x, .lcmp) :: (pc2, x2, .ifCond .le off) :: cs) ls (.long (Int64.ofInt b) :: .long (Int64.ofInt a) :: st) h r := by
  refine kR.s (ls1 := ls) (st1 := .int (if b < a then 1 else if a = b then 0 else -1) :: st) (h1 := h) ?_ rfl ?_
  · rw [← kzl h1 h2 h3 h4]
    rfl
  · rcases Int.lt_trichotomy a b with hq | hq | hq
    · rw [if_neg (by omega), if_neg (by omega)]
      exact kR.j rfl rfl (fun z => k1 (by omega)) (fun z => absurd z (by decide))
    · rw [if_neg (by omega), if_pos hq]
      exact kR.j rfl rfl (fun z => k1 (by omega)) (fun z => absurd z (by decide))
    · rw [if_pos hq]
      exact kR.j rfl rfl (fun z => absurd z (by decide)) (fun z => k2 (by omega))
theorem kR.leq (h1 : -9223372036854775808 ≤ a) (h2 : a < 9223372036854775808) (h3 : -9223372036854775808 ≤ b) (h4 : b < 9223372036854775808) (k1 : a = b → kR D y (blk y x2) ls st h r) (k2 : ¬ a = b → kR D y cs ls st h r) : kR D y ((pc, x, .lcmp) :: (pc2, x2, .ifCond .eq off) :: cs) ls (.long (Int64.ofInt b) :: .long (Int64.ofInt a) :: st) h r := by
  refine kR.s (ls1 := ls) (st1 := .int (if b < a then 1 else if a = b then 0 else -1) :: st) (h1 := h) ?_ rfl ?_
  · rw [← kzl h1 h2 h3 h4]
    rfl
  · rcases Int.lt_trichotomy a b with hq | hq | hq
    · rw [if_neg (by omega), if_neg (by omega)]
      exact kR.j rfl rfl (fun z => absurd z (by decide)) (fun z => k2 (by omega))
    · rw [if_neg (by omega), if_pos hq]
      exact kR.j rfl rfl (fun z => k1 (by omega)) (fun z => absurd z (by decide))
    · rw [if_pos hq]
      exact kR.j rfl rfl (fun z => absurd z (by decide)) (fun z => k2 (by omega))
theorem kR.lne (h1 : -9223372036854775808 ≤ a) (h2 : a < 9223372036854775808) (h3 : -9223372036854775808 ≤ b) (h4 : b < 9223372036854775808) (k1 : ¬ a = b → kR D y (blk y x2) ls st h r) (k2 : a = b → kR D y cs ls st h r) : kR D y ((pc, x, .lcmp) :: (pc2, x2, .ifCond .ne off) :: cs) ls (.long (Int64.ofInt b) :: .long (Int64.ofInt a) :: st) h r := by
  refine kR.s (ls1 := ls) (st1 := .int (if b < a then 1 else if a = b then 0 else -1) :: st) (h1 := h) ?_ rfl ?_
  · rw [← kzl h1 h2 h3 h4]
    rfl
  · rcases Int.lt_trichotomy a b with hq | hq | hq
    · rw [if_neg (by omega), if_neg (by omega)]
      exact kR.j rfl rfl (fun z => k1 (by omega)) (fun z => absurd z (by decide))
    · rw [if_neg (by omega), if_pos hq]
      exact kR.j rfl rfl (fun z => absurd z (by decide)) (fun z => k2 (by omega))
    · rw [if_pos hq]
      exact kR.j rfl rfl (fun z => k1 (by omega)) (fun z => absurd z (by decide))
end KLZ
