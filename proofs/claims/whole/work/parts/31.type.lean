/-! type. By program (wip/gen/gen31.py). -/
theorem c_14 {h : kH} {a : Int64} {k : Nat} (hk : k < 8) : kR 0 14 (blk 14 0) (kent 14 [.long a, .int (Int32.ofInt (k : Int))]) [] h (fun r => r = (.inl (some (.int (Int32.ofInt (kby8 a k : Int)))), h)) := by
  show kR 0 14 b14_0 _ _ _ _
  refine kR.s rfl rfl ?_
  refine kR.bi rfl ?_
  refine kR.s rfl rfl ?_
  refine kR.mul ?_
  refine kR.s rfl rfl ?_
  refine kR.s rfl rfl ?_
  refine kR.si rfl ?_
  refine kR.s rfl rfl ?_
  show kR 0 14 _ _ [Value.int (_ &&& _)] _ _
  rw [kby8_c hk]
  exact kR.ret rfl rfl rfl
theorem ki2c {c : Int} (h1 : 0 ≤ c) (h2 : c < 65536) : ((Int32.ofInt c).toUInt32 % 65536).toInt32 = Int32.ofInt c := by
  obtain ⟨n, rfl⟩ : ∃ n : Nat, c = n := ⟨c.toNat, by omega⟩
  apply Int32.toBitVec_inj.mp
  apply BitVec.eq_of_toNat_eq
  simp
  omega
theorem kchar {c : Int} (h1 : 0 ≤ c) (h2 : c < 65536) : vp_nar .char (Int32.ofInt c) = Int32.ofInt c := ki2c h1 h2
theorem c_15 {h : kH} {i : Int} (hi : 0 ≤ i ∧ i < 65536) : kR 0 15 (blk 15 0) (kent 15 [.int (Int32.ofInt i)]) [] h (fun r => r = (.inl (some (.int (Int32.ofInt (if i = 10 ∨ 32 ≤ i ∧ i ≤ 126 then 1 else 0)))), h)) := by
  show kR 0 15 b15_0 _ _ _ _
  refine kR.s rfl rfl ?_
  refine kR.bi rfl ?_
  refine kR.jeq (by omega) (by omega) (by omega) (by omega) (fun q1 => ?_) (fun q1 => ?_)
  · skip
    show kR 0 15 b15_18 _ _ _ _
    refine kR.s rfl rfl ?_
    refine kR.g rfl ?_
    show kR 0 15 b15_23 _ _ _ _
    refine kR.ret rfl rfl ?_
    first | rw [if_pos (by omega)] | rw [if_neg (by omega)]
  · skip
    refine kR.s rfl rfl ?_
    refine kR.bi rfl ?_
    refine kR.jlt (by omega) (by omega) (by omega) (by omega) (fun q2 => ?_) (fun q2 => ?_)
    · skip
      show kR 0 15 b15_22 _ _ _ _
      refine kR.s rfl rfl ?_
      refine kR.n ?_
      show kR 0 15 b15_23 _ _ _ _
      refine kR.ret rfl rfl ?_
      first | rw [if_pos (by omega)] | rw [if_neg (by omega)]
    · skip
      refine kR.s rfl rfl ?_
      refine kR.bi rfl ?_
      refine kR.jgt (by omega) (by omega) (by omega) (by omega) (fun q3 => ?_) (fun q3 => ?_)
      · skip
        show kR 0 15 b15_22 _ _ _ _
        refine kR.s rfl rfl ?_
        refine kR.n ?_
        show kR 0 15 b15_23 _ _ _ _
        refine kR.ret rfl rfl ?_
        first | rw [if_pos (by omega)] | rw [if_neg (by omega)]
      · skip
        refine kR.n ?_
        show kR 0 15 b15_18 _ _ _ _
        refine kR.s rfl rfl ?_
        refine kR.g rfl ?_
        show kR 0 15 b15_23 _ _ _ _
        refine kR.ret rfl rfl ?_
        first | rw [if_pos (by omega)] | rw [if_neg (by omega)]
def kap (S : Nat → Nat → Int) (c : Int) : Nat → Nat → Int := ku (ku S 2 (S 1 5).toNat c) 1 5 (S 1 5 + 1)
theorem c_17 {m : Nat} {E : Nat → kC} {S : Nat → Nat → Int} {sz : Nat × Nat} (hm : 53 ≤ m ∧ m ≤ 57) {c : Int} (hc : 0 ≤ c ∧ c < 65536) (h1 : 0 ≤ S 1 5 ∧ S 1 5 < 200) : kR 0 17 (blk 17 0) (kent 17 [.ref 1, .int (Int32.ofInt c)]) [] (sz, hp m E S) (fun r => r = (.inl none, (sz, hp m E (kap S c)))) := by
  have hcc := kchar hc.1 hc.2
  show kR 0 17 b17_0 _ _ _ _
  refine kR.s rfl rfl ?_
  refine kR.gi (k := 5) (v := S 1 5) (by omega) rfl rfl rfl (by decide) (by decide) rfl (by rfl) ?_
  refine kR.si rfl ?_
  refine kR.jge (by omega) (by omega) (by omega) (by omega) (fun q1 => ?_) (fun q1 => ?_)
  · skip
    exact absurd ‹_› (by omega)
  · skip
    refine kR.s rfl rfl ?_
    refine kR.gr (k := 0) (by omega) rfl rfl rfl (by decide) (by decide) rfl ?_
    refine kR.s rfl rfl ?_
    refine kR.gi (k := 5) (v := S 1 5) (by omega) rfl rfl rfl (by decide) (by decide) rfl (by rfl) ?_
    refine kR.s rfl rfl ?_
    refine kR.cst (by omega) rfl (by decide) (by omega) (by omega) (by first | rfl | assumption) ?_
    refine kR.s rfl rfl ?_
    refine kR.s rfl rfl ?_
    refine kR.gi (k := 5) (v := S 1 5) (by omega) rfl rfl rfl (by decide) (by decide) rfl (by rfl) ?_
    refine kR.s rfl rfl ?_
    refine kR.add ?_
    refine kR.pi (k := 5) (by omega) rfl rfl rfl (by decide) (by decide) rfl rfl ?_
    refine kR.n ?_
    show kR 0 17 b17_30 _ _ _ _
    refine kR.ret rfl rfl ?_
    rfl
theorem l_2a {h : kH} {a : Int64} {n : Nat} (hn : n ≤ 8) {Q : kO × kH → Prop} (h1 : (∀ i, i < n → ((kby8 a i : Int) = 10 ∨ 32 ≤ (kby8 a i : Int) ∧ (kby8 a i : Int) ≤ 126)) → kR 1 2 (blk 2 57) [.ref 0, .long a, kun, .int (Int32.ofInt (n : Int)), .int (Int32.ofInt (n : Int))] [] h Q) (h2 : ¬ (∀ i, i < n → ((kby8 a i : Int) = 10 ∨ 32 ≤ (kby8 a i : Int) ∧ (kby8 a i : Int) ≤ 126)) → Q (.inl (some (.int (Int32.ofInt (-1)))), h)) : ∀ (j k : Nat), n - k = j → k ≤ n → (∀ i, i < k → ((kby8 a i : Int) = 10 ∨ 32 ≤ (kby8 a i : Int) ∧ (kby8 a i : Int) ≤ 126)) → kR 1 2 (blk 2 31) [.ref 0, .long a, kun, .int (Int32.ofInt (n : Int)), .int (Int32.ofInt (k : Int))] [] h Q := by
  intro j
  induction j using Nat.strongRecOn with
  | _ j ih =>
    intro k hk hk2 hall
    show kR 1 2 b2_31 _ _ _ _
    refine kR.s rfl rfl ?_
    refine kR.s rfl rfl ?_
    refine kR.jge (by omega) (by omega) (by omega) (by omega) (fun q1 => ?_) (fun q1 => ?_)
    · skip
      have hkn : k = n := by omega
      subst hkn
      exact h1 hall
    · skip
      refine kR.s rfl rfl ?_
      refine kR.s rfl rfl ?_
      refine kR.c rfl rfl (kR.up (c_14 (a := a) (k := k) (by omega)) (by decide)) (fun u hu => ?_)
      subst hu
      show kR 1 2 _ _ _ _ _
      refine kR.c rfl rfl (kR.up (c_15 (i := (kby8 a k : Int)) (by have := kby8_lt a k; omega)) (by decide)) (fun u hu => ?_)
      subst hu
      by_cases hok : ((kby8 a k : Int) = 10 ∨ 32 ≤ (kby8 a k : Int) ∧ (kby8 a k : Int) ≤ 126)
      · skip
        rw [if_pos hok]
        show kR 1 2 _ _ _ _ _
        refine kR.zne (by decide) (by decide) (fun q2 => ?_) (fun q2 => absurd q2 (by decide))
        show kR 1 2 b2_51 _ _ _ _
        refine kR.inc rfl ?_
        refine kR.g rfl ?_
        exact ih (n - (k + 1)) (by omega) (k + 1) rfl (by omega) (fun i hi => by rcases Nat.lt_or_ge i k with z | z; exact hall i z; rw [show i = k by omega]; exact hok)
      · skip
        rw [if_neg hok]
        show kR 1 2 _ _ _ _ _
        refine kR.zne (by decide) (by decide) (fun q3 => absurd q3 (by decide)) (fun q3 => ?_)
        refine kR.s rfl rfl ?_
        refine kR.ret rfl rfl ?_
        exact h2 (fun z => hok (z k (by omega)))
theorem kR.chr {D y pc x : Nat} {cs : List kI} {ls st : List Value} {h : kH} {r : kO × kH → Prop} {c : Int} (h1 : 0 ≤ c) (h2 : c < 65536) (k : kR D y cs ls (.int (Int32.ofInt c) :: st) h r) : kR D y ((pc, x, .i2c) :: cs) ls (.int (Int32.ofInt c) :: st) h r := by
  rw [← ki2c h1 h2] at k
  exact kR.s rfl rfl k
/-- the class's text behind the last k bytes of a, the upper first -/
def kty (a : Int64) : Nat → (Nat → Nat → Int) → (Nat → Nat → Int)
  | 0, S => S
  | k + 1, S => kty a k (kap S (kby8 a k : Int))
theorem l_2b {m : Nat} {E : Nat → kC} {sz : Nat × Nat} (hm : 53 ≤ m ∧ m ≤ 57) {a : Int64} {n : Int} : ∀ (k : Nat) (S : Nat → Nat → Int), k ≤ 8 → 0 ≤ S 1 5 → S 1 5 + k ≤ 200 → kR 1 2 (blk 2 62) [.ref 0, .long a, kun, .int (Int32.ofInt n), .int (Int32.ofInt ((k : Int) - 1))] [] (sz, hp m E S) (fun r => r = (.inl (some (.int (Int32.ofInt (kty a k S 1 5)))), (sz, hp m E (kty a k S)))) := by
  intro k
  induction k with
  | zero =>
    intro S h1 h2 h3
    show kR 1 2 (blk 2 62) [.ref 0, .long a, kun, .int (Int32.ofInt n), .int (Int32.ofInt (-1))] [] (sz, hp m E S) _
    show kR 1 2 b2_62 _ _ _ _
    refine kR.s rfl rfl ?_
    refine kR.zlt (by decide) (by decide) (fun q1 => ?_) (fun q1 => absurd q1 (by decide))
    show kR 1 2 b2_87 _ _ _ _
    refine kR.s rfl rfl ?_
    refine kR.gr (k := 0) (by omega) rfl rfl rfl (by decide) (by decide) rfl ?_
    refine kR.gi (k := 5) (v := S 1 5) (by omega) rfl rfl rfl (by decide) (by decide) rfl (by rfl) ?_
    refine kR.ret rfl rfl ?_
    rfl
  | succ k ih =>
    intro S h1 h2 h3
    have hlt := kby8_lt a k
    rw [show ((k + 1 : Nat) : Int) - 1 = (k : Int) by omega]
    show kR 1 2 b2_62 _ _ _ _
    refine kR.s rfl rfl ?_
    refine kR.zlt (by omega) (by omega) (fun q1 => ?_) (fun q1 => ?_)
    · skip
      exact absurd ‹_› (by omega)
    · skip
      refine kR.s rfl rfl ?_
      refine kR.gr (k := 0) (by omega) rfl rfl rfl (by decide) (by decide) rfl ?_
      refine kR.s rfl rfl ?_
      refine kR.s rfl rfl ?_
      refine kR.c rfl rfl (kR.up (c_14 (a := a) (k := k) (by omega)) (by decide)) (fun u hu => ?_)
      subst hu
      show kR 1 2 _ _ _ _ _
      refine kR.chr (by omega) (by omega) ?_
      refine kR.c (kargs_m hm (by decide) rfl) rfl (kR.up (c_17 hm (c := (kby8 a k : Int)) (by omega) (by omega)) (by decide)) (fun u hu => ?_)
      subst hu
      show kR 1 2 _ _ _ _ _
      refine kR.inc rfl ?_
      refine kR.g rfl ?_
      exact ih (kap S (kby8 a k : Int)) (by omega) (by show 0 ≤ S 1 5 + 1; omega) (by show S 1 5 + 1 + (k : Int) ≤ 200; omega)
/-- what type takes: so many characters, all of them allowed, and there is room -/
def kTy (a : Int64) (i c : Int) : Prop := 1 ≤ i ∧ i ≤ 8 ∧ c + i ≤ 200 ∧ ∀ k, k < i.toNat → ((kby8 a k : Int) = 10 ∨ 32 ≤ (kby8 a k : Int) ∧ (kby8 a k : Int) ≤ 126)
theorem c_2 {m : Nat} {E : Nat → kC} {S : Nat → Nat → Int} {sz : Nat × Nat} (hm : 53 ≤ m ∧ m ≤ 57) {a : Int64} {i : Int} (hi : -2147483648 ≤ i ∧ i < 2147483648) (h1 : 0 ≤ S 1 5 ∧ S 1 5 ≤ 200) : kR 1 2 (blk 2 0) (kent 2 [.ref 0, .long a, .int (Int32.ofInt i)]) [] (sz, hp m E S) (fun r => (kTy a i (S 1 5) → r = (.inl (some (.int (Int32.ofInt (kty a i.toNat S 1 5)))), (sz, hp m E (kty a i.toNat S)))) ∧ (¬ kTy a i (S 1 5) → r = (.inl (some (.int (Int32.ofInt (-1)))), (sz, hp m E S)))) := by
  show kR 1 2 b2_0 _ _ _ _
  refine kR.s rfl rfl ?_
  refine kR.s rfl rfl ?_
  refine kR.jlt (by omega) (by omega) (by omega) (by omega) (fun q1 => ?_) (fun q1 => ?_)
  · skip
    show kR 1 2 b2_26 _ _ _ _
    refine kR.s rfl rfl ?_
    refine kR.ret rfl rfl ?_
    exact ⟨fun z => absurd z (by unfold kTy; omega), fun _ => rfl⟩
  · skip
    refine kR.s rfl rfl ?_
    refine kR.bi rfl ?_
    refine kR.jgt (by omega) (by omega) (by omega) (by omega) (fun q2 => ?_) (fun q2 => ?_)
    · skip
      show kR 1 2 b2_26 _ _ _ _
      refine kR.s rfl rfl ?_
      refine kR.ret rfl rfl ?_
      exact ⟨fun z => absurd z (by unfold kTy; omega), fun _ => rfl⟩
    · skip
      refine kR.s rfl rfl ?_
      refine kR.gr (k := 0) (by omega) rfl rfl rfl (by decide) (by decide) rfl ?_
      refine kR.gi (k := 5) (v := S 1 5) (by omega) rfl rfl rfl (by decide) (by decide) rfl (by rfl) ?_
      refine kR.s rfl rfl ?_
      refine kR.add ?_
      refine kR.si rfl ?_
      refine kR.jle (by omega) (by omega) (by omega) (by omega) (fun q3 => ?_) (fun q3 => ?_)
      · skip
        obtain ⟨n, rfl⟩ : ∃ n : Nat, i = n := ⟨i.toNat, by omega⟩
        show kR 1 2 b2_28 _ _ _ _
        refine kR.s rfl rfl ?_
        refine kR.s rfl rfl ?_
        refine kR.n ?_
        refine l_2a (n := n) (by omega) (fun hall => ?_) (fun hno => ⟨fun z => absurd z.2.2.2 hno, fun _ => rfl⟩) n 0 rfl (by omega) (fun i hi => by omega)
        show kR 1 2 b2_57 _ _ _ _
        refine kR.s rfl rfl ?_
        refine kR.s rfl rfl ?_
        refine kR.sub ?_
        refine kR.s rfl rfl ?_
        refine kR.n ?_
        exact kR.wk (l_2b hm n S (by omega) h1.1 (by omega)) (fun u hu => ⟨fun _ => hu, fun z => absurd ⟨by omega, by omega, by omega, hall⟩ z⟩)
      · skip
        refine kR.n ?_
        show kR 1 2 b2_26 _ _ _ _
        refine kR.s rfl rfl ?_
        refine kR.ret rfl rfl ?_
        exact ⟨fun z => absurd z (by unfold kTy; omega), fun _ => rfl⟩
