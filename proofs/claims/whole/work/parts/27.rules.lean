/-! Rules over the canonical heap: ints as Int. -/
theorem kz {a b : Int} (h1 : -2147483648 ≤ a) (h2 : a < 2147483648) (h3 : -2147483648 ≤ b) (h4 : b < 2147483648) : (Int32.ofInt a < Int32.ofInt b ↔ a < b) ∧ (Int32.ofInt a ≤ Int32.ofInt b ↔ a ≤ b) ∧ (Int32.ofInt a = Int32.ofInt b ↔ a = b) := by
  have e1 := ku_rng h1 h2
  have e2 := ku_rng h3 h4
  refine ⟨by rw [Int32.lt_iff_toInt_lt, e1, e2], by rw [Int32.le_iff_toInt_le, e1, e2], ⟨fun h => ?_, fun h => by rw [h]⟩⟩
  rw [← e1, ← e2, h]
section KRZ
variable {D y pc x : Nat} {cs : List kI} {ls st : List Value} {h : kH} {r : kO × kH → Prop} {off : Int}
theorem kR.jlt {a b : Int} (h1 : -2147483648 ≤ a) (h2 : a < 2147483648) (h3 : -2147483648 ≤ b) (h4 : b < 2147483648) (k1 : a < b → kR D y (blk y x) ls st h r) (k2 : b ≤ a → kR D y cs ls st h r) : kR D y ((pc, x, .if_icmp .lt off) :: cs) ls (.int (Int32.ofInt b) :: .int (Int32.ofInt a) :: st) h r := by
  have e := (kz h1 h2 h3 h4).1
  refine kR.j rfl rfl (fun hq => k1 ?_) (fun hq => k2 ?_)
  · exact e.mp (of_decide_eq_true hq)
  · exact Int.not_lt.mp (fun w => of_decide_eq_false hq (e.mpr w))
theorem kR.zlt {a : Int} (h1 : -2147483648 ≤ a) (h2 : a < 2147483648) (k1 : a < 0 → kR D y (blk y x) ls st h r) (k2 : 0 ≤ a → kR D y cs ls st h r) : kR D y ((pc, x, .ifCond .lt off) :: cs) ls (.int (Int32.ofInt a) :: st) h r := by
  have e := (kz h1 h2 (b := 0) (by decide) (by decide)).1
  refine kR.j rfl rfl (fun hq => k1 ?_) (fun hq => k2 ?_)
  · exact e.mp (of_decide_eq_true hq)
  · exact Int.not_lt.mp (fun w => of_decide_eq_false hq (e.mpr w))
theorem kR.jge {a b : Int} (h1 : -2147483648 ≤ a) (h2 : a < 2147483648) (h3 : -2147483648 ≤ b) (h4 : b < 2147483648) (k1 : b ≤ a → kR D y (blk y x) ls st h r) (k2 : a < b → kR D y cs ls st h r) : kR D y ((pc, x, .if_icmp .ge off) :: cs) ls (.int (Int32.ofInt b) :: .int (Int32.ofInt a) :: st) h r := by
  have e := (kz h3 h4 h1 h2).2.1
  refine kR.j rfl rfl (fun hq => k1 ?_) (fun hq => k2 ?_)
  · exact e.mp (of_decide_eq_true hq)
  · exact Int.not_le.mp (fun w => of_decide_eq_false hq (e.mpr w))
theorem kR.zge {a : Int} (h1 : -2147483648 ≤ a) (h2 : a < 2147483648) (k1 : 0 ≤ a → kR D y (blk y x) ls st h r) (k2 : a < 0 → kR D y cs ls st h r) : kR D y ((pc, x, .ifCond .ge off) :: cs) ls (.int (Int32.ofInt a) :: st) h r := by
  have e := (kz (a := 0) (by decide) (by decide) h1 h2).2.1
  refine kR.j rfl rfl (fun hq => k1 ?_) (fun hq => k2 ?_)
  · exact e.mp (of_decide_eq_true hq)
  · exact Int.not_le.mp (fun w => of_decide_eq_false hq (e.mpr w))
theorem kR.jgt {a b : Int} (h1 : -2147483648 ≤ a) (h2 : a < 2147483648) (h3 : -2147483648 ≤ b) (h4 : b < 2147483648) (k1 : b < a → kR D y (blk y x) ls st h r) (k2 : a ≤ b → kR D y cs ls st h r) : kR D y ((pc, x, .if_icmp .gt off) :: cs) ls (.int (Int32.ofInt b) :: .int (Int32.ofInt a) :: st) h r := by
  have e := (kz h3 h4 h1 h2).1
  refine kR.j rfl rfl (fun hq => k1 ?_) (fun hq => k2 ?_)
  · exact e.mp (of_decide_eq_true hq)
  · exact Int.not_lt.mp (fun w => of_decide_eq_false hq (e.mpr w))
theorem kR.zgt {a : Int} (h1 : -2147483648 ≤ a) (h2 : a < 2147483648) (k1 : 0 < a → kR D y (blk y x) ls st h r) (k2 : a ≤ 0 → kR D y cs ls st h r) : kR D y ((pc, x, .ifCond .gt off) :: cs) ls (.int (Int32.ofInt a) :: st) h r := by
  have e := (kz (a := 0) (by decide) (by decide) h1 h2).1
  refine kR.j rfl rfl (fun hq => k1 ?_) (fun hq => k2 ?_)
  · exact e.mp (of_decide_eq_true hq)
  · exact Int.not_lt.mp (fun w => of_decide_eq_false hq (e.mpr w))
theorem kR.jle {a b : Int} (h1 : -2147483648 ≤ a) (h2 : a < 2147483648) (h3 : -2147483648 ≤ b) (h4 : b < 2147483648) (k1 : a ≤ b → kR D y (blk y x) ls st h r) (k2 : b < a → kR D y cs ls st h r) : kR D y ((pc, x, .if_icmp .le off) :: cs) ls (.int (Int32.ofInt b) :: .int (Int32.ofInt a) :: st) h r := by
  have e := (kz h1 h2 h3 h4).2.1
  refine kR.j rfl rfl (fun hq => k1 ?_) (fun hq => k2 ?_)
  · exact e.mp (of_decide_eq_true hq)
  · exact Int.not_le.mp (fun w => of_decide_eq_false hq (e.mpr w))
theorem kR.zle {a : Int} (h1 : -2147483648 ≤ a) (h2 : a < 2147483648) (k1 : a ≤ 0 → kR D y (blk y x) ls st h r) (k2 : 0 < a → kR D y cs ls st h r) : kR D y ((pc, x, .ifCond .le off) :: cs) ls (.int (Int32.ofInt a) :: st) h r := by
  have e := (kz h1 h2 (b := 0) (by decide) (by decide)).2.1
  refine kR.j rfl rfl (fun hq => k1 ?_) (fun hq => k2 ?_)
  · exact e.mp (of_decide_eq_true hq)
  · exact Int.not_le.mp (fun w => of_decide_eq_false hq (e.mpr w))
theorem kR.jeq {a b : Int} (h1 : -2147483648 ≤ a) (h2 : a < 2147483648) (h3 : -2147483648 ≤ b) (h4 : b < 2147483648) (k1 : a = b → kR D y (blk y x) ls st h r) (k2 : ¬ a = b → kR D y cs ls st h r) : kR D y ((pc, x, .if_icmp .eq off) :: cs) ls (.int (Int32.ofInt b) :: .int (Int32.ofInt a) :: st) h r := by
  have e := (kz h1 h2 h3 h4).2.2
  refine kR.j rfl rfl (fun hq => k1 ?_) (fun hq => k2 ?_)
  · exact e.mp (of_decide_eq_true hq)
  · exact fun w => of_decide_eq_false hq (e.mpr w)
theorem kR.zeq {a : Int} (h1 : -2147483648 ≤ a) (h2 : a < 2147483648) (k1 : a = 0 → kR D y (blk y x) ls st h r) (k2 : ¬ a = 0 → kR D y cs ls st h r) : kR D y ((pc, x, .ifCond .eq off) :: cs) ls (.int (Int32.ofInt a) :: st) h r := by
  have e := (kz h1 h2 (b := 0) (by decide) (by decide)).2.2
  refine kR.j rfl rfl (fun hq => k1 ?_) (fun hq => k2 ?_)
  · exact e.mp (of_decide_eq_true hq)
  · exact fun w => of_decide_eq_false hq (e.mpr w)
theorem kR.jne {a b : Int} (h1 : -2147483648 ≤ a) (h2 : a < 2147483648) (h3 : -2147483648 ≤ b) (h4 : b < 2147483648) (k1 : ¬ a = b → kR D y (blk y x) ls st h r) (k2 : a = b → kR D y cs ls st h r) : kR D y ((pc, x, .if_icmp .ne off) :: cs) ls (.int (Int32.ofInt b) :: .int (Int32.ofInt a) :: st) h r := by
  have e := (kz h1 h2 h3 h4).2.2
  refine kR.j rfl rfl (fun hq => k1 ?_) (fun hq => k2 ?_)
  · exact fun w => of_decide_eq_true hq (e.mpr w)
  · exact e.mp (Classical.not_not.mp (of_decide_eq_false hq))
theorem kR.zne {a : Int} (h1 : -2147483648 ≤ a) (h2 : a < 2147483648) (k1 : ¬ a = 0 → kR D y (blk y x) ls st h r) (k2 : a = 0 → kR D y cs ls st h r) : kR D y ((pc, x, .ifCond .ne off) :: cs) ls (.int (Int32.ofInt a) :: st) h r := by
  have e := (kz h1 h2 (b := 0) (by decide) (by decide)).2.2
  refine kR.j rfl rfl (fun hq => k1 ?_) (fun hq => k2 ?_)
  · exact fun w => of_decide_eq_true hq (e.mpr w)
  · exact e.mp (Classical.not_not.mp (of_decide_eq_false hq))
theorem kR.add {a b : Int} (k : kR D y cs ls (.int (Int32.ofInt (a + b)) :: st) h r) : kR D y ((pc, x, .iadd) :: cs) ls (.int (Int32.ofInt b) :: .int (Int32.ofInt a) :: st) h r := by
  rw [Int32.ofInt_add] at k
  exact kR.s rfl rfl k
theorem kR.sub {a b : Int} (k : kR D y cs ls (.int (Int32.ofInt (a - b)) :: st) h r) : kR D y ((pc, x, .isub) :: cs) ls (.int (Int32.ofInt b) :: .int (Int32.ofInt a) :: st) h r := by
  rw [Int32.ofInt_sub] at k
  exact kR.s rfl rfl k
theorem kR.mul {a b : Int} (k : kR D y cs ls (.int (Int32.ofInt (a * b)) :: st) h r) : kR D y ((pc, x, .imul) :: cs) ls (.int (Int32.ofInt b) :: .int (Int32.ofInt a) :: st) h r := by
  rw [Int32.ofInt_mul] at k
  exact kR.s rfl rfl k
theorem kR.inc {a : Int} {j : Nat} {v : Int} (e : ls[j]? = some (.int (Int32.ofInt a))) (k : kR D y cs (kst1 ls j (.int (Int32.ofInt (a + v)))) st h r) : kR D y ((pc, x, .iinc j v) :: cs) ls st h r := by
  rw [Int32.ofInt_add] at k
  refine kR.s (ls1 := kst1 ls j (.int (Int32.ofInt a + Int32.ofInt v))) (st1 := st) (h1 := h) ?_ rfl k
  simp only [ksimple, k_inc, e]
theorem kR.bi {v : Int} (e : (Int8.ofInt v).toInt32 = Int32.ofInt v) (k : kR D y cs ls (.int (Int32.ofInt v) :: st) h r) : kR D y ((pc, x, .bipush v) :: cs) ls st h r := by
  rw [← e] at k
  exact kR.s rfl rfl k
theorem kR.si {v : Int} (e : (Int16.ofInt v).toInt32 = Int32.ofInt v) (k : kR D y cs ls (.int (Int32.ofInt v) :: st) h r) : kR D y ((pc, x, .sipush v) :: cs) ls st h r := by
  rw [← e] at k
  exact kR.s rfl rfl k
variable {m : Nat} {E : Nat → kC} {S : Nat → Nat → Int} {sz : Nat × Nat} {a k t n : Nat} {rs : List (Nat × Nat)}
theorem kTq_lt {a : Nat} {q : Nat × Nat × List (Nat × Nat)} (h : kTq a = q) (hq : q.1 ≠ 0) : a < 57 := by
  apply Classical.byContradiction
  intro hn
  have e : kTb[a]? = none := List.getElem?_eq_none (by show 57 ≤ a; omega)
  unfold kTq List.getD at h
  rw [e] at h
  rw [← h] at hq
  exact hq rfl
theorem kR.gi {v : Int} (ha : a < m) (hq : kTq a = (t, n, rs)) (hx : x / 100 % 100 = t) (hk : x % 100 = k) (hn : k < n) (ht : ¬ t = 22) (hl : rs.lookup k = none) (hv : S a k = v) {idx : Nat} (kk : kR D y cs ls (.int (Int32.ofInt v) :: st) (sz, hp m E S) r) : kR D y ((pc, x, .getfield idx) :: cs) ls (.ref a :: st) (sz, hp m E S) r := by
  subst hv
  refine kR.s (ls1 := ls) (st1 := .int (Int32.ofInt (S a k)) :: st) (h1 := (sz, hp m E S)) ?_ rfl kk
  have e : hp m E S a = kcell a (S a) := hp_at ha
  have hnn : ¬ (t < 20 ∧ n ≤ k) := by omega
  simp only [ksimple, ko_get, kget, e, kcell, hq, hx, hk, hn, k_st, kval, if_neg hnn, if_neg ht, hl, true_and, if_true, and_self]
theorem kR.gr (ha : a < m) (hq : kTq a = (t, n, rs)) (hx : x / 100 % 100 = t) (hk : x % 100 = k) (hn : k < n) (ht : ¬ t = 22) {b : Nat} (hl : rs.lookup k = some b) {idx : Nat} (kk : kR D y cs ls (.ref b :: st) (sz, hp m E S) r) : kR D y ((pc, x, .getfield idx) :: cs) ls (.ref a :: st) (sz, hp m E S) r := by
  refine kR.s (ls1 := ls) (st1 := .ref b :: st) (h1 := (sz, hp m E S)) ?_ rfl kk
  have e : hp m E S a = kcell a (S a) := hp_at ha
  have hnn : ¬ (t < 20 ∧ n ≤ k) := by omega
  simp only [ksimple, ko_get, kget, e, kcell, hq, hx, hk, hn, k_st, kval, if_neg hnn, if_neg ht, hl, true_and, if_true, and_self]
theorem kR.pi {v : Int} (ha : a < m) (hq : kTq a = (t, n, rs)) (hx : x / 100 % 100 = t) (hk : x % 100 = k) (hn : k < n) (ht : ¬ t = 22) (hl : rs.lookup k = none) (hf : kfit (x / 10000) (.int (Int32.ofInt v)) = true) {idx : Nat} (kk : kR D y cs ls st (sz, hp m E (ku S a k v)) r) : kR D y ((pc, x, .putfield idx) :: cs) ls (.int (Int32.ofInt v) :: .ref a :: st) (sz, hp m E S) r := by
  refine kR.s (ls1 := ls) (st1 := st) (h1 := (sz, hp m E (ku S a k v))) ?_ rfl kk
  have e : kput (sz, hp m E S) a x (.int (Int32.ofInt v)) = some (sz, hp m E (ku S a k v)) := by
    rw [← hk]
    refine hp_put ha (by rw [hq, hx]) (by rw [hq, hk]; exact hn) ?_ hf
    rw [hq, hk]
    have hnn : ¬ (t < 20 ∧ n ≤ k) := by omega
    simp only [kval, if_neg hnn, if_neg ht, hl]
  simp only [ksimple, ko_put, e, k_hp]
theorem kR.ia {z v : Int} (ha : a < m) (hq : kTq a = (20, n, [])) (hn : n ≤ 100000) (h0 : 0 ≤ z) (h1 : z < n) (hv : S a z.toNat = v) (kk : kR D y cs ls (.int (Int32.ofInt v) :: st) (sz, hp m E S) r) : kR D y ((pc, x, .iaload) :: cs) ls (.int (Int32.ofInt z) :: .ref a :: st) (sz, hp m E S) r := by
  subst hv
  refine kR.s (ls1 := ls) (st1 := .int (Int32.ofInt (S a z.toNat)) :: st) (h1 := (sz, hp m E S)) ?_ rfl kk
  have e : hp m E S a = kcell a (S a) := hp_at ha
  simp [ksimple, ko_ald, e, kcell, hq, kin_of h0 h1 hn, k_st, kval, ku_nat h0 (by omega)]
theorem kR.ca {z v : Int} (ha : a < m) (hq : kTq a = (21, n, [])) (hn : n ≤ 100000) (h0 : 0 ≤ z) (h1 : z < n) (hv : S a z.toNat = v) (kk : kR D y cs ls (.int (Int32.ofInt v) :: st) (sz, hp m E S) r) : kR D y ((pc, x, .caload) :: cs) ls (.int (Int32.ofInt z) :: .ref a :: st) (sz, hp m E S) r := by
  subst hv
  refine kR.s (ls1 := ls) (st1 := .int (Int32.ofInt (S a z.toNat)) :: st) (h1 := (sz, hp m E S)) ?_ rfl kk
  have e : hp m E S a = kcell a (S a) := hp_at ha
  simp [ksimple, ko_ald, e, kcell, hq, kin_of h0 h1 hn, k_st, kval, ku_nat h0 (by omega)]
theorem kR.la {z v : Int} (ha : a < m) (hq : kTq a = (22, n, [])) (hn : n ≤ 100000) (h0 : 0 ≤ z) (h1 : z < n) (hv : S a z.toNat = v) (kk : kR D y cs ls (.long (Int64.ofInt v) :: st) (sz, hp m E S) r) : kR D y ((pc, x, .laload) :: cs) ls (.int (Int32.ofInt z) :: .ref a :: st) (sz, hp m E S) r := by
  subst hv
  refine kR.s (ls1 := ls) (st1 := .long (Int64.ofInt (S a z.toNat)) :: st) (h1 := (sz, hp m E S)) ?_ rfl kk
  have e : hp m E S a = kcell a (S a) := hp_at ha
  simp [ksimple, ko_ald, e, kcell, hq, kin_of h0 h1 hn, k_st, kval, ku_nat h0 (by omega)]
theorem kR.ist {z v : Int} (ha : a < m) (hq : kTq a = (20, n, [])) (hn : n ≤ 100000) (h0 : 0 ≤ z) (h1 : z < n) (kk : kR D y cs ls st (sz, hp m E (ku S a z.toNat v)) r) : kR D y ((pc, x, .iastore) :: cs) ls (.int (Int32.ofInt v) :: .int (Int32.ofInt z) :: .ref a :: st) (sz, hp m E S) r := by
  refine kR.s (ls1 := ls) (st1 := st) (h1 := (sz, hp m E (ku S a z.toNat v))) ?_ rfl kk
  have e : hp m E S a = kcell a (S a) := hp_at ha
  have e2 := hp_ast (sz := sz) (E := E) (S := S) (i := z) (v := v) (w := .int (Int32.ofInt v)) ha h0 (by omega) (by rw [hq]; rfl)
  simp [ksimple, ko_ast, e, kcell, hq, kin_of h0 h1 hn, k_hp, e2]
theorem kR.cst {z v : Int} (ha : a < m) (hq : kTq a = (21, n, [])) (hn : n ≤ 100000) (h0 : 0 ≤ z) (h1 : z < n) (hv : vp_nar .char (Int32.ofInt v) = Int32.ofInt v) (kk : kR D y cs ls st (sz, hp m E (ku S a z.toNat v)) r) : kR D y ((pc, x, .castore) :: cs) ls (.int (Int32.ofInt v) :: .int (Int32.ofInt z) :: .ref a :: st) (sz, hp m E S) r := by
  refine kR.s (ls1 := ls) (st1 := st) (h1 := (sz, hp m E (ku S a z.toNat v))) ?_ rfl kk
  have e : hp m E S a = kcell a (S a) := hp_at ha
  have e2 := hp_ast (sz := sz) (E := E) (S := S) (i := z) (v := v) (w := .int (Int32.ofInt v)) ha h0 (by omega) (by rw [hq]; rfl)
  simp [ksimple, ko_ast, e, kcell, hq, kin_of h0 h1 hn, k_hp, hv, e2]
theorem kR.lst {z v : Int} (ha : a < m) (hq : kTq a = (22, n, [])) (hn : n ≤ 100000) (h0 : 0 ≤ z) (h1 : z < n) (kk : kR D y cs ls st (sz, hp m E (ku S a z.toNat v)) r) : kR D y ((pc, x, .lastore) :: cs) ls (.long (Int64.ofInt v) :: .int (Int32.ofInt z) :: .ref a :: st) (sz, hp m E S) r := by
  refine kR.s (ls1 := ls) (st1 := st) (h1 := (sz, hp m E (ku S a z.toNat v))) ?_ rfl kk
  have e : hp m E S a = kcell a (S a) := hp_at ha
  have e2 := hp_ast (sz := sz) (E := E) (S := S) (i := z) (v := v) (w := .long (Int64.ofInt v)) ha h0 (by omega) (by rw [hq]; rfl)
  simp [ksimple, ko_lst, e, kcell, hq, kin_of h0 h1 hn, k_hp, e2]
end KRZ
