/-! The reference's type. By program (wip/gen/gen32.py). -/
theorem kR.ldl {D y pc x i : Nat} {cs : List kI} {ls st : List Value} {h : kH} {r : kO × kH → Prop} {c : Int} (e : kcst x = .long (Int64.ofInt c)) (k : kR D y cs ls (.long (Int64.ofInt c) :: st) h r) : kR D y ((pc, x, .ldc2_w i) :: cs) ls st h r := by
  rw [← e] at k
  exact kR.s rfl rfl k
/-- the k-th byte, as the reference takes it -/
theorem kR.by {D y p1 x1 p2 i2 p3 x3 : Nat} {cs : List kI} {ls st : List Value} {h : kH} {r : kO × kH → Prop} {a : Int64} {k : Nat} (hk : k < 8) (kk : kR D y cs ls (.long (Int64.ofInt (kby8 a k : Int)) :: st) h r) : kR D y ((p1, x1, .lshr) :: (p2, 13, .ldc2_w i2) :: (p3, x3, .land) :: cs) ls (.int (Int32.ofInt (8 * (k : Int))) :: .long a :: st) h r := by
  rw [← kby8_m hk] at kk
  refine kR.s rfl rfl ?_
  refine kR.s rfl rfl ?_
  exact kR.s rfl rfl kk
theorem kR.l2i {D y pc x : Nat} {cs : List kI} {ls st : List Value} {h : kH} {r : kO × kH → Prop} {c : Int} (k : kR D y cs ls (.int (Int32.ofInt c) :: st) h r) : kR D y ((pc, x, .l2i) :: cs) ls (.long (Int64.ofInt c) :: st) h r := by
  rw [show Int32.ofInt c = (Int64.ofInt c).toInt32 by simp] at k
  exact kR.s rfl rfl k
def kld (v : Value) : Prop := v = kun ∨ ∃ c, v = .long c
theorem l_102a {h : kH} {a : Int64} {n : Nat} (hn : n ≤ 8) {Q : kO × kH → Prop} (h1 : (∀ i, i < n → ((kby8 a i : Int) = 10 ∨ 32 ≤ (kby8 a i : Int) ∧ (kby8 a i : Int) ≤ 126)) → ∀ v5 v6, kR 0 102 (blk 102 87) [.ref 30, .long a, kun, .int (Int32.ofInt (n : Int)), .int (Int32.ofInt (n : Int)), v5, v6] [] h Q) (h2 : ¬ (∀ i, i < n → ((kby8 a i : Int) = 10 ∨ 32 ≤ (kby8 a i : Int) ∧ (kby8 a i : Int) ≤ 126)) → Q (.inl (some (.int (Int32.ofInt (-1)))), h)) : ∀ (j k : Nat) (v5 v6 : Value), n - k = j → k ≤ n → (∀ i, i < k → ((kby8 a i : Int) = 10 ∨ 32 ≤ (kby8 a i : Int) ∧ (kby8 a i : Int) ≤ 126)) → kR 0 102 (blk 102 33) [.ref 30, .long a, kun, .int (Int32.ofInt (n : Int)), .int (Int32.ofInt (k : Int)), v5, v6] [] h Q := by
  intro j
  induction j using Nat.strongRecOn with
  | _ j ih =>
    intro k v5 v6 hk hk2 hall
    have hlt := kby8_lt a k
    show kR 0 102 b102_33 _ _ _ _
    refine kR.s rfl rfl ?_
    refine kR.s rfl rfl ?_
    refine kR.jge (by omega) (by omega) (by omega) (by omega) (fun q1 => ?_) (fun q1 => ?_)
    · skip
      have hkn : k = n := by omega
      subst hkn
      exact h1 hall _ _
    · skip
      refine kR.s rfl rfl ?_
      refine kR.bi rfl ?_
      refine kR.s rfl rfl ?_
      refine kR.mul ?_
      refine kR.by (k := k) (by omega) ?_
      refine kR.s rfl rfl ?_
      refine kR.s rfl rfl ?_
      refine kR.ldl (c := 10) rfl ?_
      refine kR.leq (by omega) (by omega) (by omega) (by omega) (fun q2 => ?_) (fun q2 => ?_)
      · skip
        show kR 0 102 b102_81 _ _ _ _
        refine kR.inc rfl ?_
        refine kR.g rfl ?_
        exact ih (n - (k + 1)) (by omega) (k + 1) _ _ rfl (by omega) (fun i hi => by rcases Nat.lt_or_ge i k with z | z; exact hall i z; rw [show i = k by omega]; omega)
      · skip
        refine kR.s rfl rfl ?_
        refine kR.ldl (c := 32) rfl ?_
        refine kR.llt (by omega) (by omega) (by omega) (by omega) (fun q3 => ?_) (fun q3 => ?_)
        · skip
          show kR 0 102 b102_79 _ _ _ _
          refine kR.s rfl rfl ?_
          refine kR.ret rfl rfl ?_
          exact h2 (fun z => by have := z k (by omega); omega)
        · skip
          refine kR.s rfl rfl ?_
          refine kR.ldl (c := 126) rfl ?_
          refine kR.lle (by omega) (by omega) (by omega) (by omega) (fun q4 => ?_) (fun q4 => ?_)
          · skip
            show kR 0 102 b102_81 _ _ _ _
            refine kR.inc rfl ?_
            refine kR.g rfl ?_
            exact ih (n - (k + 1)) (by omega) (k + 1) _ _ rfl (by omega) (fun i hi => by rcases Nat.lt_or_ge i k with z | z; exact hall i z; rw [show i = k by omega]; omega)
          · skip
            refine kR.n ?_
            show kR 0 102 b102_79 _ _ _ _
            refine kR.s rfl rfl ?_
            refine kR.ret rfl rfl ?_
            exact h2 (fun z => by have := z k (by omega); omega)
def kapm (S : Nat → Nat → Int) (c : Int) : Nat → Nat → Int := ku (ku S 31 (S 30 2).toNat c) 30 2 (S 30 2 + 1)
/-- the reference's text behind the last k bytes of a, the upper first -/
def ktm (a : Int64) : Nat → (Nat → Nat → Int) → (Nat → Nat → Int)
  | 0, S => S
  | k + 1, S => ktm a k (kapm S (kby8 a k : Int))
theorem l_102b {m : Nat} {E : Nat → kC} {sz : Nat × Nat} (hm : 53 ≤ m ∧ m ≤ 57) {a : Int64} {n : Int} {v5 v6 : Value} : ∀ (k : Nat) (S : Nat → Nat → Int), k ≤ 8 → 0 ≤ S 30 2 → S 30 2 + k ≤ 200 → kR 0 102 (blk 102 92) [.ref 30, .long a, kun, .int (Int32.ofInt n), .int (Int32.ofInt ((k : Int) - 1)), v5, v6] [] (sz, hp m E S) (fun r => r = (.inl (some (.int (Int32.ofInt (ktm a k S 30 2)))), (sz, hp m E (ktm a k S)))) := by
  intro k
  induction k with
  | zero =>
    intro S h1 h2 h3
    show kR 0 102 (blk 102 92) [.ref 30, .long a, kun, .int (Int32.ofInt n), .int (Int32.ofInt (-1)), v5, v6] [] (sz, hp m E S) _
    show kR 0 102 b102_92 _ _ _ _
    refine kR.s rfl rfl ?_
    refine kR.zlt (by decide) (by decide) (fun q1 => ?_) (fun q1 => absurd q1 (by decide))
    show kR 0 102 b102_134 _ _ _ _
    refine kR.s rfl rfl ?_
    refine kR.gi (k := 2) (v := S 30 2) (by omega) rfl rfl rfl (by decide) (by decide) rfl (by rfl) ?_
    refine kR.ret rfl rfl ?_
    rfl
  | succ k ih =>
    intro S h1 h2 h3
    have hlt := kby8_lt a k
    rw [show ((k + 1 : Nat) : Int) - 1 = (k : Int) by omega]
    show kR 0 102 b102_92 _ _ _ _
    refine kR.s rfl rfl ?_
    refine kR.zlt (by omega) (by omega) (fun q1 => ?_) (fun q1 => ?_)
    · skip
      exact absurd ‹_› (by omega)
    · skip
      refine kR.s rfl rfl ?_
      refine kR.gr (k := 1) (by omega) rfl rfl rfl (by decide) (by decide) rfl ?_
      refine kR.s rfl rfl ?_
      refine kR.gi (k := 2) (v := S 30 2) (by omega) rfl rfl rfl (by decide) (by decide) rfl (by rfl) ?_
      refine kR.s rfl rfl ?_
      refine kR.bi rfl ?_
      refine kR.s rfl rfl ?_
      refine kR.mul ?_
      refine kR.by (k := k) (by omega) ?_
      refine kR.l2i ?_
      refine kR.ist (by omega) rfl (by decide) (by omega) (by omega) ?_
      refine kR.s rfl rfl ?_
      refine kR.s rfl rfl ?_
      refine kR.gi (k := 2) (v := S 30 2) (by omega) rfl rfl rfl (by decide) (by decide) rfl (by rfl) ?_
      refine kR.s rfl rfl ?_
      refine kR.add ?_
      refine kR.pi (k := 2) (by omega) rfl rfl rfl (by decide) (by decide) rfl rfl ?_
      refine kR.inc rfl ?_
      refine kR.g rfl ?_
      exact ih (kapm S (kby8 a k : Int)) (by omega) (by show 0 ≤ S 30 2 + 1; omega) (by show S 30 2 + 1 + (k : Int) ≤ 200; omega)
theorem c_102 {m : Nat} {E : Nat → kC} {S : Nat → Nat → Int} {sz : Nat × Nat} (hm : 53 ≤ m ∧ m ≤ 57) {a : Int64} {i : Int} (hi : -2147483648 ≤ i ∧ i < 2147483648) (h1 : 0 ≤ S 30 2 ∧ S 30 2 ≤ 200) : kR 0 102 (blk 102 0) (kent 102 [.ref 30, .long a, .int (Int32.ofInt i)]) [] (sz, hp m E S) (fun r => (kTy a i (S 30 2) → r = (.inl (some (.int (Int32.ofInt (ktm a i.toNat (ku S 30 0 0) 30 2)))), (sz, hp m E (ktm a i.toNat (ku S 30 0 0))))) ∧ (¬ kTy a i (S 30 2) → r = (.inl (some (.int (Int32.ofInt (-1)))), (sz, hp m E (ku S 30 0 0))))) := by
  show kR 0 102 b102_0 _ _ _ _
  refine kR.s rfl rfl ?_
  refine kR.s rfl rfl ?_
  refine kR.pi (k := 0) (by omega) rfl rfl rfl (by decide) (by decide) rfl rfl ?_
  refine kR.s rfl rfl ?_
  refine kR.s rfl rfl ?_
  refine kR.jlt (by omega) (by omega) (by omega) (by omega) (fun q1 => ?_) (fun q1 => ?_)
  · skip
    show kR 0 102 b102_28 _ _ _ _
    refine kR.s rfl rfl ?_
    refine kR.ret rfl rfl ?_
    exact ⟨fun z => absurd z (by unfold kTy; omega), fun _ => rfl⟩
  · skip
    refine kR.s rfl rfl ?_
    refine kR.bi rfl ?_
    refine kR.jgt (by omega) (by omega) (by omega) (by omega) (fun q2 => ?_) (fun q2 => ?_)
    · skip
      show kR 0 102 b102_28 _ _ _ _
      refine kR.s rfl rfl ?_
      refine kR.ret rfl rfl ?_
      exact ⟨fun z => absurd z (by unfold kTy; omega), fun _ => rfl⟩
    · skip
      refine kR.s rfl rfl ?_
      refine kR.gi (k := 2) (v := S 30 2) (by omega) rfl rfl rfl (by decide) (by decide) rfl (by rfl) ?_
      refine kR.s rfl rfl ?_
      refine kR.add ?_
      refine kR.si rfl ?_
      refine kR.jle (by omega) (by omega) (by omega) (by omega) (fun q3 => ?_) (fun q3 => ?_)
      · skip
        obtain ⟨n, rfl⟩ : ∃ n : Nat, i = n := ⟨i.toNat, by omega⟩
        show kR 0 102 b102_30 _ _ _ _
        refine kR.s rfl rfl ?_
        refine kR.s rfl rfl ?_
        refine kR.n ?_
        refine l_102a (n := n) (by omega) (fun hall v5 v6 => ?_) (fun hno => ⟨fun z => absurd z.2.2.2 hno, fun _ => rfl⟩) n 0 _ _ rfl (by omega) (fun i hi => by omega)
        show kR 0 102 b102_87 _ _ _ _
        refine kR.s rfl rfl ?_
        refine kR.s rfl rfl ?_
        refine kR.sub ?_
        refine kR.s rfl rfl ?_
        refine kR.n ?_
        exact kR.wk (l_102b hm n (ku S 30 0 0) (by omega) h1.1 (by show S 30 2 + (n : Int) ≤ 200; omega)) (fun u hu => ⟨fun _ => hu, fun z => absurd ⟨by omega, by omega, by omega, hall⟩ z⟩)
      · skip
        refine kR.n ?_
        show kR 0 102 b102_28 _ _ _ _
        refine kR.s rfl rfl ?_
        refine kR.ret rfl rfl ?_
        exact ⟨fun z => absurd z (by unfold kTy; omega), fun _ => rfl⟩
