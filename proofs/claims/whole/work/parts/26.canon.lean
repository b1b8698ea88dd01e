/-! The heap in its one form: every int, boolean, char and long of it is an Int of the table S (address, place). -/
def kTb : List (Nat × Nat × List (Nat × Nat)) := [
  (1, 4, [(0, 1), (1, 7), (2, 10), (3, 20)]),
  (2, 7, [(0, 2), (1, 3), (2, 4), (3, 5), (4, 6)]), (21, 200, []), (20, 201, []), (20, 201, []), (20, 201, []), (20, 201, []),
  (3, 4, [(0, 8), (2, 9)]), (21, 2000, []), (20, 60, []),
  (4, 12, [(0, 11), (1, 12), (2, 13), (3, 14), (4, 15), (6, 16), (8, 17), (9, 18), (10, 19)]), (20, 60, []), (20, 60, []), (22, 60, []), (20, 60, []), (20, 60, []), (21, 200, []), (20, 200, []), (20, 200, []), (20, 200, []),
  (4, 12, [(0, 21), (1, 22), (2, 23), (3, 24), (4, 25), (6, 26), (8, 27), (9, 28), (10, 29)]), (20, 60, []), (20, 60, []), (22, 60, []), (20, 60, []), (20, 60, []), (21, 200, []), (20, 200, []), (20, 200, []), (20, 200, []),
  (8, 42, [(1, 31), (3, 32), (6, 33), (9, 34), (10, 35), (11, 36), (12, 37), (13, 38), (16, 39), (17, 40), (18, 41), (25, 42), (30, 43), (31, 44), (32, 45), (33, 46), (35, 47), (36, 48), (38, 49), (39, 50), (41, 51)]),
  (20, 200, []), (20, 200, []), (20, 200, []), (20, 60, []), (22, 60, []), (20, 60, []), (20, 60, []), (20, 500, []), (20, 200, []), (20, 200, []), (20, 200, []), (20, 26, []), (20, 9, []), (20, 9, []), (20, 9, []), (20, 9, []), (20, 200, []), (20, 3000, []), (20, 60, []), (20, 60, []), (20, 10, []),
  (22, 1, []),
  (5, 4, [(0, 1)]), (6, 4, [(0, 53), (1, 20), (2, 55)]), (20, 26, []), (7, 4, [(0, 1), (1, 20), (2, 53), (3, 54)])]
def kval (t n : Nat) (rs : List (Nat × Nat)) (k : Nat) (z : Int) : Value := if t < 20 ∧ n ≤ k then kdef t k else if t = 22 then .long (Int64.ofInt z) else match rs.lookup k with
  | some a => .ref a
  | none => .int (Int32.ofInt z)
def kTq (i : Nat) : Nat × Nat × List (Nat × Nat) := kTb.getD i (0, 0, [])
def kcell (i : Nat) (f : Nat → Int) : kC := ((kTq i).1, (kTq i).2.1, fun k => kval (kTq i).1 (kTq i).2.1 (kTq i).2.2 k (f k))
def hp (m : Nat) (E : Nat → kC) (S : Nat → Nat → Int) : Nat → kC := fun i => if i < m then kcell i (S i) else if 1000000 ≤ i then E i else (0, 0, fun _ => .null)
def ku (S : Nat → Nat → Int) (a k : Nat) (v : Int) : Nat → Nat → Int := kup S a (kup (S a) k v)
section KCN
variable {m : Nat} {E : Nat → kC} {S : Nat → Nat → Int} {sz : Nat × Nat}
theorem hp_set {a : Nat} {f : Nat → Int} (ha : a < m) : kup (hp m E S) a (kcell a f) = hp m E (kup S a f) := by
  funext i
  by_cases hi : i = a
  · subst hi
    simp [kup, hp, ha]
  · simp [kup, hp, hi]
theorem kcell_set {a k : Nat} {f : Nat → Int} {v : Int} {w : Value} (h : kval (kTq a).1 (kTq a).2.1 (kTq a).2.2 k v = w) : ((kcell a f).1, (kcell a f).2.1, kup (kcell a f).2.2 k w) = kcell a (kup f k v) := by
  unfold kcell
  refine Prod.ext rfl (Prod.ext rfl ?_)
  funext j
  by_cases hj : j = k
  · subst hj
    simp [kup, h]
  · simp [kup, hj]
theorem hp_at {a : Nat} (ha : a < m) : hp m E S a = kcell a (S a) := if_pos ha
theorem hp_put {a x : Nat} {v : Int} {w : Value} (ha : a < m) (h1 : (kTq a).1 = x / 100 % 100) (h2 : x % 100 < (kTq a).2.1) (h3 : kval (kTq a).1 (kTq a).2.1 (kTq a).2.2 (x % 100) v = w) (h4 : kfit (x / 10000) w = true) : kput (sz, hp m E S) a x w = some (sz, hp m E (ku S a (x % 100) v)) := by
  unfold kput
  have e : (sz, hp m E S).2 a = kcell a (S a) := hp_at ha
  rw [if_pos (by rw [e]; exact ⟨h1, h2, h4⟩), e, kcell_set h3]
  show some (sz, kup (hp m E S) a _) = _
  rw [hp_set ha]
  rfl
theorem ku_rng {z : Int} (h1 : -2147483648 ≤ z) (h2 : z < 2147483648) : (Int32.ofInt z).toInt = z := Int32.toInt_ofInt_of_le (by omega) (by omega)
theorem ku_nat {z : Int} (h1 : 0 ≤ z) (h2 : z < 2147483648) : (Int32.ofInt z).toNatClampNeg = z.toNat := by
  show (Int32.ofInt z).toInt.toNat = z.toNat
  rw [ku_rng (by omega) h2]
theorem kin_of {z : Int} {n : Nat} (h1 : 0 ≤ z) (h2 : z < n) (hn : n ≤ 100000) : kin (Int32.ofInt z) n = true := by
  unfold kin
  have e1 : ¬ Int32.ofInt z < 0 := by
    rw [Int32.lt_iff_toInt_lt, ku_rng (by omega) (by omega)]
    show ¬ z < 0
    omega
  have e2 : ¬ n ≤ (Int32.ofInt z).toNatClampNeg := by
    rw [ku_nat h1 (by omega)]
    omega
  simp [e1, e2]
theorem hp_ast {a : Nat} {i v : Int} {w : Value} (ha : a < m) (h0 : 0 ≤ i) (h1 : i < 100000) (h3 : kval (kTq a).1 (kTq a).2.1 (kTq a).2.2 i.toNat v = w) : kast (sz, hp m E S) a (Int32.ofInt i) w = (sz, hp m E (ku S a i.toNat v)) := by
  unfold kast
  have e : (sz, hp m E S).2 a = kcell a (S a) := hp_at ha
  rw [e, ku_nat h0 (by omega), kcell_set h3]
  show (sz, kup (hp m E S) a _) = _
  rw [hp_set ha]
  rfl
end KCN
/-- the run of a piece of code, with so much depth of calls at least, ends so that Q -/
def kR (D y : Nat) (cs : List kI) (ls st : List Value) (h : kH) (Q : kO × kH → Prop) : Prop := ∃ n r, (∀ d, D ≤ d → krun n d y cs ls st h = some r) ∧ Q r
/-- what is to be shown behind a call that ended so -/
def kCl (D y pc : Nat) (cs : List kI) (ls st : List Value) (Q : kO × kH → Prop) (r : kO × kH) : Prop := match r.1 with
  | .inl v => kR D y cs ls (v.toList ++ st) r.2 Q
  | .inr a => match kfind (khl y) pc (r.2.2 a).1 with
    | some (some t) => kR D y (blk y t) ls [.ref a] r.2 Q
    | some none => Q (.inr a, r.2)
    | none => False
section KRR
variable {D y pc x : Nat} {i : Instr} {cs : List kI} {ls ls1 st st1 : List Value} {h h1 : kH} {r : kO × kH → Prop}
theorem kR.s (e : ksimple i x ls st h = some (ls1, st1, h1)) (hk : kkind i x = 0) (k : kR D y cs ls1 st1 h1 r) : kR D y ((pc, x, i) :: cs) ls st h r := by
  obtain ⟨n, u, hn, hu⟩ := k
  refine ⟨n + 1, u, fun d hd => ?_, hu⟩
  rw [krun.eq_def]
  dsimp only
  rw [hk, e]
  exact hn d hd
theorem kR.j {q : Bool} (e : kbr i st = some (q, st1)) (hk : kkind i x = 1) (k1 : q = true → kR D y (blk y x) ls st1 h r) (k2 : q = false → kR D y cs ls st1 h r) : kR D y ((pc, x, i) :: cs) ls st h r := by
  cases hq : q with
  | true =>
    obtain ⟨n, u, hn, hu⟩ := k1 hq
    refine ⟨n + 1, u, fun d hd => ?_, hu⟩
    rw [krun.eq_def]
    dsimp only
    rw [hk, e, hq]
    exact hn d hd
  | false =>
    obtain ⟨n, u, hn, hu⟩ := k2 hq
    refine ⟨n + 1, u, fun d hd => ?_, hu⟩
    rw [krun.eq_def]
    dsimp only
    rw [hk, e, hq]
    exact hn d hd
theorem kR.g (hk : kkind i x = 2) (k : kR D y (blk y x) ls st h r) : kR D y ((pc, x, i) :: cs) ls st h r := by
  obtain ⟨n, u, hn, hu⟩ := k
  refine ⟨n + 1, u, fun d hd => ?_, hu⟩
  rw [krun.eq_def]
  dsimp only
  rw [hk]
  exact hn d hd
theorem kR.n (k : kR D y (blk y pc) ls st h r) : kR D y ((pc, x, .nop) :: cs) ls st h r := by
  obtain ⟨n, u, hn, hu⟩ := k
  refine ⟨n + 1, u, fun d hd => ?_, hu⟩
  rw [krun.eq_def]
  exact hn d hd
theorem kR.w {t : Nat} (e : kswitch i pc st = some (t, st1)) (hk : kkind i x = 3) (k : kR D y (blk y t) ls st1 h r) : kR D y ((pc, x, i) :: cs) ls st h r := by
  obtain ⟨n, u, hn, hu⟩ := k
  refine ⟨n + 1, u, fun d hd => ?_, hu⟩
  rw [krun.eq_def]
  dsimp only
  rw [hk, e]
  exact hn d hd
theorem kR.ret {v : Option Value} (e : kret (kme y).2.2.2.2.2 i st = some v) (hk : kkind i x = 4) (hr : r (.inl v, h)) : kR D y ((pc, x, i) :: cs) ls st h r := by
  refine ⟨1, _, fun d hd => ?_, hr⟩
  rw [krun.eq_def]
  dsimp only
  rw [hk, e]
  rfl
theorem kR.c {Q1 : kO × kH → Prop} {as : List Value} (e : kargs x st h = some (as, st1)) (hk : kkind i x = 5) (k1 : kR D x (blk x 0) (kent x as) [] h Q1) (k2 : ∀ u, Q1 u → kCl (D + 1) y pc cs ls st1 r u) : kR (D + 1) y ((pc, x, i) :: cs) ls st h r := by
  obtain ⟨n1, u1, hn1, hu1⟩ := k1
  have k3 := k2 u1 hu1
  unfold kCl at k3
  obtain ⟨o, h2⟩ := u1
  cases o with
  | inl v =>
    obtain ⟨n2, u, hn2, hu⟩ := k3
    refine ⟨max n1 n2 + 1, u, fun d hd => ?_, hu⟩
    obtain ⟨d, rfl⟩ : ∃ d', d = d' + 1 := ⟨d - 1, by omega⟩
    rw [krun.eq_def]
    dsimp only
    rw [hk, e]
    dsimp only
    rw [krun_le (Nat.le_max_left n1 n2) (hn1 d (by omega))]
    exact krun_le (Nat.le_max_right n1 n2) (hn2 (d + 1) hd)
  | inr a =>
    dsimp only at k3
    split at k3
    · rename_i t ht
      obtain ⟨n2, u, hn2, hu⟩ := k3
      refine ⟨max n1 n2 + 1, u, fun d hd => ?_, hu⟩
      obtain ⟨d, rfl⟩ : ∃ d', d = d' + 1 := ⟨d - 1, by omega⟩
      rw [krun.eq_def]
      dsimp only
      rw [hk, e]
      dsimp only
      rw [krun_le (Nat.le_max_left n1 n2) (hn1 d (by omega))]
      dsimp only [kthr]
      rw [ht]
      exact krun_le (Nat.le_max_right n1 n2) (hn2 (d + 1) hd)
    · rename_i ht
      refine ⟨n1 + 1, _, fun d hd => ?_, k3⟩
      obtain ⟨d, rfl⟩ : ∃ d', d = d' + 1 := ⟨d - 1, by omega⟩
      rw [krun.eq_def]
      dsimp only
      rw [hk, e]
      dsimp only
      rw [hn1 d (by omega)]
      dsimp only [kthr]
      rw [ht]
      rfl
    · exact absurd k3 id
theorem kR.t (hk : kkind i x = 6) (hy : khl y = []) (hs : st.length ≤ 10) (hr : r (.inr h.1.1, knew h (x - 1000) 6 (fun _ => .null))) : kR D y ((pc, x, i) :: cs) ls st h r := by
  refine ⟨1, _, fun d hd => ?_, hr⟩
  rw [krun.eq_def]
  dsimp only
  rw [hk]
  exact if_pos ⟨by rw [hy]; rfl, hs⟩
theorem kR.p (e : kprim x st = some st1) (hk : kkind i x = 8) (k : kR D y cs ls st1 h r) : kR D y ((pc, x, i) :: cs) ls st h r := by
  obtain ⟨n, u, hn, hu⟩ := k
  refine ⟨n + 1, u, fun d hd => ?_, hu⟩
  rw [krun.eq_def]
  dsimp only
  rw [hk, e]
  exact hn d hd
theorem kR.up {D' : Nat} (k : kR D y cs ls st h r) (hD : D ≤ D') : kR D' y cs ls st h r := by
  obtain ⟨n, u, hn, hu⟩ := k
  exact ⟨n, u, fun d hd => hn d (by omega), hu⟩
theorem kR.wk {r' : kO × kH → Prop} (k : kR D y cs ls st h r) (hD : ∀ u, r u → r' u) : kR D y cs ls st h r' := by
  obtain ⟨n, u, hn, hu⟩ := k
  exact ⟨n, u, hn, hD u hu⟩
end KRR
