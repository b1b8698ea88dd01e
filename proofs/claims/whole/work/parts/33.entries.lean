/-! Entries: the looks through them. By program (wip/gen/gen33.py). -/
theorem kzw {a : Int} (h1 : -4294967296 < a) (h2 : a < 4294967296) : Int32.ofInt a = 0 ↔ a = 0 := by
  constructor
  · intro h
    have e : (Int32.ofInt a).toInt = 0 := by rw [h]; rfl
    rw [Int32.toInt_ofInt] at e
    unfold Int.bmod at e
    simp only [Int32.size] at e
    split at e <;> omega
  · intro h
    rw [h]
    rfl
theorem kR.zneW {D y pc x : Nat} {cs : List kI} {ls st : List Value} {h : kH} {r : kO × kH → Prop} {off a : Int} (h1 : -4294967296 < a) (h2 : a < 4294967296) (k1 : ¬ a = 0 → kR D y (blk y x) ls st h r) (k2 : a = 0 → kR D y cs ls st h r) : kR D y ((pc, x, .ifCond .ne off) :: cs) ls (.int (Int32.ofInt a) :: st) h r := by
  have e := kzw h1 h2
  refine kR.j rfl rfl (fun hq => k1 ?_) (fun hq => k2 ?_)
  · exact fun w => of_decide_eq_true hq (e.mpr w)
  · exact e.mp (Classical.not_not.mp (of_decide_eq_false hq))
def kfh (f : Nat → Int) (o : Int) : Nat → Nat → Int → Int
  | 0, _, _ => -1
  | j + 1, e, l => if f e = o then (if l = 0 then (e : Int) else kfh f o j (e + 1) (l - 1)) else kfh f o j (e + 1) l
/-- the place of the l-th entry of o from e on, before n; else -1 -/
def kfe (f : Nat → Int) (o : Int) (n e : Nat) (l : Int) : Int := kfh f o (n - e) e l
theorem kfe_end {f : Nat → Int} {o : Int} {n e : Nat} {l : Int} (h : n ≤ e) : kfe f o n e l = -1 := by
  unfold kfe
  rw [show n - e = 0 by omega, kfh]
theorem kfe_hit {f : Nat → Int} {o : Int} {n e : Nat} {l : Int} (h : e < n) (h1 : f e = o) (h2 : l = 0) : kfe f o n e l = e := by
  unfold kfe
  rw [show n - e = n - (e + 1) + 1 by omega, kfh, if_pos h1, if_pos h2]
theorem kfe_dec {f : Nat → Int} {o : Int} {n e : Nat} {l : Int} (h : e < n) (h1 : f e = o) (h2 : ¬ l = 0) : kfe f o n e l = kfe f o n (e + 1) (l - 1) := by
  unfold kfe
  rw [show n - e = n - (e + 1) + 1 by omega, kfh, if_pos h1, if_neg h2]
theorem kfe_skip {f : Nat → Int} {o : Int} {n e : Nat} {l : Int} (h : e < n) (h1 : ¬ f e = o) : kfe f o n e l = kfe f o n (e + 1) l := by
  unfold kfe
  rw [show n - e = n - (e + 1) + 1 by omega, kfh, if_neg h1]
theorem l_40 {m : Nat} {E : Nat → kC} {S : Nat → Nat → Int} {sz : Nat × Nat} (hm : 53 ≤ m ∧ m ≤ 57) {o i : Int} (h1 : 0 ≤ S 10 11 ∧ S 10 11 ≤ 200) (ho : -2147483648 ≤ o ∧ o < 2147483648) (hS : ∀ j : Nat, j < 200 → -2147483648 ≤ S 17 j ∧ S 17 j < 2147483648) : ∀ (j e : Nat) (l : Int), 200 - e = j → e ≤ 200 → -2147483648 - (e : Int) ≤ l → l < 2147483648 → kR 0 40 (blk 40 5) [.ref 10, .int (Int32.ofInt o), .int (Int32.ofInt i), .int (Int32.ofInt l), .int (Int32.ofInt (e : Int))] [] (sz, hp m E S) (fun r => r = (.inl (some (.int (Int32.ofInt (kfe (S 17) o (S 10 11).toNat e l)))), (sz, hp m E S))) := by
  intro j
  induction j using Nat.strongRecOn with
  | _ j ih =>
    intro e l hj he hl1 hl2
    have hS1 := hS e
    show kR 0 40 b40_5 _ _ _ _
    refine kR.s rfl rfl ?_
    refine kR.s rfl rfl ?_
    refine kR.gi (k := 11) (v := S 10 11) (by omega) rfl rfl rfl (by decide) (by decide) rfl (by rfl) ?_
    refine kR.jge (by omega) (by omega) (by omega) (by omega) (fun q1 => ?_) (fun q1 => ?_)
    · skip
      show kR 0 40 b40_41 _ _ _ _
      refine kR.s rfl rfl ?_
      refine kR.ret rfl rfl ?_
      rw [kfe_end (by omega)]
    · skip
      refine kR.s rfl rfl ?_
      refine kR.gr (k := 8) (by omega) rfl rfl rfl (by decide) (by decide) rfl ?_
      refine kR.s rfl rfl ?_
      refine kR.ia (v := S 17 e) (by omega) rfl (by decide) (by omega) (by omega) (by rfl) ?_
      refine kR.s rfl rfl ?_
      refine kR.jne (by omega) (by omega) (by omega) (by omega) (fun q2 => ?_) (fun q2 => ?_)
      · skip
        show kR 0 40 b40_35 _ _ _ _
        refine kR.inc rfl ?_
        refine kR.g rfl ?_
        rw [kfe_skip (by omega) (by omega)]
        exact ih (200 - (e + 1)) (by omega) (e + 1) l rfl (by omega) (by omega) (by omega)
      · skip
        refine kR.s rfl rfl ?_
        refine kR.zneW (by omega) (by omega) (fun q3 => ?_) (fun q3 => ?_)
        · skip
          show kR 0 40 b40_32 _ _ _ _
          refine kR.inc rfl ?_
          refine kR.n ?_
          show kR 0 40 b40_35 _ _ _ _
          refine kR.inc rfl ?_
          refine kR.g rfl ?_
          rw [kfe_dec (by omega) (by omega) (by omega)]
          exact ih (200 - (e + 1)) (by omega) (e + 1) (l - 1) rfl (by omega) (by omega) (by omega)
        · skip
          refine kR.s rfl rfl ?_
          refine kR.ret rfl rfl ?_
          rw [kfe_hit (by omega) (by omega) (by omega)]
theorem c_40 {m : Nat} {E : Nat → kC} {S : Nat → Nat → Int} {sz : Nat × Nat} (hm : 53 ≤ m ∧ m ≤ 57) {o i : Int} (hi : -2147483648 ≤ i ∧ i < 2147483648) (h1 : 0 ≤ S 10 11 ∧ S 10 11 ≤ 200) (ho : -2147483648 ≤ o ∧ o < 2147483648) (hS : ∀ j : Nat, j < 200 → -2147483648 ≤ S 17 j ∧ S 17 j < 2147483648) : kR 0 40 (blk 40 0) (kent 40 [.ref 10, .int (Int32.ofInt o), .int (Int32.ofInt i)]) [] (sz, hp m E S) (fun r => r = (.inl (some (.int (Int32.ofInt (kfe (S 17) o (S 10 11).toNat 0 i)))), (sz, hp m E S))) := by
  show kR 0 40 b40_0 _ _ _ _
  refine kR.s rfl rfl ?_
  refine kR.s rfl rfl ?_
  refine kR.s rfl rfl ?_
  refine kR.s rfl rfl ?_
  refine kR.n ?_
  exact l_40 hm h1 ho hS 200 0 i rfl (by omega) (by omega) (by omega)
