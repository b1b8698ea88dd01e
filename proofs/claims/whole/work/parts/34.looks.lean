/-! Rules for calls. -/
section KCC
variable {D y pc x : Nat} {i : Instr} {cs : List kI} {ls st st1 as : List Value} {h h1 h2 : kH} {r : kO × kH → Prop}
theorem kR.cv {v : Value} (e : kargs x st h = some (as, st1)) (hk : kkind i x = 5) (k1 : kR D x (blk x 0) (kent x as) [] h (fun r => r = (.inl (some v), h1))) (k2 : kR (D + 1) y cs ls (v :: st1) h1 r) : kR (D + 1) y ((pc, x, i) :: cs) ls st h r :=
  kR.c e hk k1 (fun u hu => by subst hu; exact k2)
theorem kR.c0 (e : kargs x st h = some (as, st1)) (hk : kkind i x = 5) (k1 : kR D x (blk x 0) (kent x as) [] h (fun r => r = (.inl none, h1))) (k2 : kR (D + 1) y cs ls st1 h1 r) : kR (D + 1) y ((pc, x, i) :: cs) ls st h r :=
  kR.c e hk k1 (fun u hu => by subst hu; exact k2)
theorem kR.cb {P : Prop} [Decidable P] (e : kargs x st h = some (as, st1)) (hk : kkind i x = 5) (k1 : kR D x (blk x 0) (kent x as) [] h (fun r => r = (.inl (some (.int (Int32.ofInt (if P then 1 else 0)))), h))) (kt : P → kR (D + 1) y cs ls (.int (Int32.ofInt 1) :: st1) h r) (kf : ¬ P → kR (D + 1) y cs ls (.int (Int32.ofInt 0) :: st1) h r) : kR (D + 1) y ((pc, x, i) :: cs) ls st h r :=
  kR.c e hk k1 (fun u hu => by
    subst hu
    by_cases hP : P
    · simp only [if_pos hP]
      exact kt hP
    · simp only [if_neg hP]
      exact kf hP)
theorem kR.cx {P : Prop} {v : Option Value} {a : Nat} (e : kargs x st h = some (as, st1)) (hk : kkind i x = 5) (hy : khl y = []) (k1 : kR D x (blk x 0) (kent x as) [] h (fun r => (P → r = (.inl v, h1)) ∧ (¬ P → r = (.inr a, h2)))) (kt : P → kR (D + 1) y cs ls (v.toList ++ st1) h1 r) (kf : ¬ P → r (.inr a, h2)) : kR (D + 1) y ((pc, x, i) :: cs) ls st h r :=
  kR.c e hk k1 (fun u hu => by
    by_cases hP : P
    · have hu := hu.1 hP
      subst hu
      exact kt hP
    · have hu := hu.2 hP
      subst hu
      show (match kfind (khl y) pc (h2.2 a).1 with
        | some (some t) => kR (D + 1) y (blk y t) ls [.ref a] h2 r
        | some none => r (.inr a, h2)
        | none => False)
      rw [hy]
      exact kf hP)
theorem kR.retc {c : Int} (hy : (kme y).2.2.2.2.2 = 3) (h1 : 0 ≤ c) (h2 : c < 65536) (hr : r (.inl (some (.int (Int32.ofInt c))), h)) : kR D y ((pc, x, .ireturn) :: cs) ls [.int (Int32.ofInt c)] h r := by
  refine kR.ret (v := some (.int (Int32.ofInt c))) ?_ rfl hr
  rw [hy]
  show (if vp_nar .char (Int32.ofInt c) = Int32.ofInt c then some (some (Value.int (Int32.ofInt c))) else none) = _
  rw [if_pos (kchar h1 h2)]
theorem kR.retb {c : Int} (hy : (kme y).2.2.2.2.2 = 2) (hc : c = 0 ∨ c = 1) (hr : r (.inl (some (.int (Int32.ofInt c))), h)) : kR D y ((pc, x, .ireturn) :: cs) ls [.int (Int32.ofInt c)] h r := by
  refine kR.ret (v := some (.int (Int32.ofInt c))) ?_ rfl hr
  rw [hy]
  rcases hc with rfl | rfl <;> rfl
theorem kR.i2l {a : Int} (h1 : -2147483648 ≤ a) (h2 : a < 2147483648) (k : kR D y cs ls (.long (Int64.ofInt a) :: st) h r) : kR D y ((pc, x, .i2l) :: cs) ls (.int (Int32.ofInt a) :: st) h r := by
  have e : (Int32.ofInt a).toInt64 = Int64.ofInt a := by
    apply Int64.toInt_inj.mp
    rw [Int32.toInt_toInt64, ku_rng h1 h2, ku_rngl (by omega) (by omega)]
  rw [← e] at k
  exact kR.s rfl rfl k
theorem kR.lcn {c : Int} {v : Fin 2} (e : Int64.ofNat v = Int64.ofInt c) (k : kR D y cs ls (.long (Int64.ofInt c) :: st) h r) : kR D y ((pc, x, .lconst v) :: cs) ls st h r := by
  rw [← e] at k
  exact kR.s rfl rfl k
end KCC
theorem kfh_rng (f : Nat → Int) (o : Int) : ∀ (j e : Nat) (l : Int), kfh f o j e l = -1 ∨ ((e : Int) ≤ kfh f o j e l ∧ kfh f o j e l < (e : Int) + j ∧ f (kfh f o j e l).toNat = o)
  | 0, e, l => Or.inl rfl
  | j + 1, e, l => by
    unfold kfh
    split
    · rename_i h
      split
      · exact Or.inr ⟨by omega, by omega, h⟩
      · rcases kfh_rng f o j (e + 1) (l - 1) with h1 | ⟨h1, h2, h3⟩
        · exact Or.inl h1
        · exact Or.inr ⟨by omega, by omega, h3⟩
    · rcases kfh_rng f o j (e + 1) l with h1 | ⟨h1, h2, h3⟩
      · exact Or.inl h1
      · exact Or.inr ⟨by omega, by omega, h3⟩
theorem kfe_rng (f : Nat → Int) (o : Int) (n : Nat) (l : Int) : kfe f o n 0 l = -1 ∨ (0 ≤ kfe f o n 0 l ∧ kfe f o n 0 l < n ∧ f (kfe f o n 0 l).toNat = o) := by
  have h := kfh_rng f o (n - 0) 0 l
  unfold kfe
  rcases h with h | ⟨h1, h2, h3⟩
  · exact Or.inl h
  · exact Or.inr ⟨by omega, by omega, h3⟩
theorem kfh_neg (f : Nat → Int) (o : Int) : ∀ (j e : Nat) (l : Int), l < 0 → kfh f o j e l = -1
  | 0, e, l, _ => rfl
  | j + 1, e, l, h => by
    unfold kfh
    split
    · rw [if_neg (by omega)]
      exact kfh_neg f o j (e + 1) (l - 1) (by omega)
    · exact kfh_neg f o j (e + 1) l h
theorem c_36 {m : Nat} {E : Nat → kC} {S : Nat → Nat → Int} {sz : Nat × Nat} (hm : 53 ≤ m ∧ m ≤ 57) {i k : Int} (r_i : -2147483648 ≤ i ∧ i < 2147483648) (r_k : -2147483648 ≤ k ∧ k < 2147483648) (h5 : 0 ≤ S 10 5 ∧ S 10 5 ≤ 60) (hK : ∀ j : Nat, (j : Int) < S 10 5 → 0 ≤ S 11 j ∧ S 11 j ≤ 5) : kR 1 36 (blk 36 0) (kent 36 [.ref 10, .int (Int32.ofInt (i)), .int (Int32.ofInt (k))]) [] (sz, hp m E S) (fun r => r = (.inl (some (.int (Int32.ofInt (if (0 ≤ i ∧ i < S 10 5) ∧ S 11 i.toNat = k then 1 else 0)))), (sz, hp m E S))) := by
  have hK1 := hK i.toNat
  show kR 1 36 b36_0 _ _ _ _
  refine kR.s rfl rfl ?_
  refine kR.s rfl rfl ?_
  refine kR.cb (P := 0 ≤ i ∧ i < S 10 5) (kargs_m hm (by decide) rfl) rfl (kR.up (c_35 hm (by omega) h5) (by decide)) (fun q1 => ?_) (fun q1 => ?_)
  · skip
    refine kR.zeq (by decide) (by decide) (fun q2 => absurd q2 (by decide)) (fun q2 => ?_)
    refine kR.s rfl rfl ?_
    refine kR.gr (k := 0) (by omega) rfl rfl rfl (by decide) (by decide) rfl ?_
    refine kR.s rfl rfl ?_
    refine kR.ia (v := S 11 i.toNat) (by omega) rfl (by decide) (by omega) (by omega) (by rfl) ?_
    refine kR.s rfl rfl ?_
    refine kR.jne (by omega) (by omega) (by omega) (by omega) (fun q3 => ?_) (fun q3 => ?_)
    · skip
      show kR 1 36 b36_22 _ _ _ _
      refine kR.s rfl rfl ?_
      refine kR.n ?_
      show kR 1 36 b36_23 _ _ _ _
      refine kR.ret rfl rfl ?_
      first | rw [if_pos (by omega)] | rw [if_neg (by omega)]
    · skip
      refine kR.s rfl rfl ?_
      refine kR.g rfl ?_
      show kR 1 36 b36_23 _ _ _ _
      refine kR.ret rfl rfl ?_
      first | rw [if_pos (by omega)] | rw [if_neg (by omega)]
  · skip
    refine kR.zeq (by decide) (by decide) (fun q4 => ?_) (fun q4 => absurd q4 (by decide))
    show kR 1 36 b36_22 _ _ _ _
    refine kR.s rfl rfl ?_
    refine kR.n ?_
    show kR 1 36 b36_23 _ _ _ _
    refine kR.ret rfl rfl ?_
    first | rw [if_pos (by omega)] | rw [if_neg (by omega)]
theorem c_43 {m : Nat} {E : Nat → kC} {S : Nat → Nat → Int} {sz : Nat × Nat} (hm : 53 ≤ m ∧ m ≤ 57) {n i : Int} (r_i : -2147483648 ≤ i ∧ i < 2147483648) (hn : 0 ≤ n ∧ n < 60) (hz : 0 ≤ S 12 n.toNat ∧ S 12 n.toNat ≤ 200) (hb : 0 ≤ i → i < S 12 n.toNat → 0 ≤ S 14 n.toNat ∧ S 14 n.toNat + i < 200) : kR 0 43 (blk 43 0) (kent 43 [.ref 10, .int (Int32.ofInt (n)), .int (Int32.ofInt (i))]) [] (sz, hp m E S) (fun r => r = (.inl (some (.int (Int32.ofInt (if 0 ≤ i ∧ i < S 12 n.toNat then S 16 (S 14 n.toNat + i).toNat else -1)))), (sz, hp m E S))) := by
  show kR 0 43 b43_0 _ _ _ _
  refine kR.s rfl rfl ?_
  refine kR.zlt (by omega) (by omega) (fun q1 => ?_) (fun q1 => ?_)
  · skip
    show kR 0 43 b43_30 _ _ _ _
    refine kR.s rfl rfl ?_
    refine kR.n ?_
    show kR 0 43 b43_31 _ _ _ _
    refine kR.ret rfl rfl ?_
    first | rw [if_pos (by omega)] | rw [if_neg (by omega)]
  · skip
    refine kR.s rfl rfl ?_
    refine kR.s rfl rfl ?_
    refine kR.gr (k := 1) (by omega) rfl rfl rfl (by decide) (by decide) rfl ?_
    refine kR.s rfl rfl ?_
    refine kR.ia (v := S 12 n.toNat) (by omega) rfl (by decide) (by omega) (by omega) (by rfl) ?_
    refine kR.jge (by omega) (by omega) (by omega) (by omega) (fun q2 => ?_) (fun q2 => ?_)
    · skip
      show kR 0 43 b43_30 _ _ _ _
      refine kR.s rfl rfl ?_
      refine kR.n ?_
      show kR 0 43 b43_31 _ _ _ _
      refine kR.ret rfl rfl ?_
      first | rw [if_pos (by omega)] | rw [if_neg (by omega)]
    · skip
      refine kR.s rfl rfl ?_
      refine kR.gr (k := 6) (by omega) rfl rfl rfl (by decide) (by decide) rfl ?_
      refine kR.s rfl rfl ?_
      refine kR.gr (k := 3) (by omega) rfl rfl rfl (by decide) (by decide) rfl ?_
      refine kR.s rfl rfl ?_
      refine kR.ia (v := S 14 n.toNat) (by omega) rfl (by decide) (by omega) (by omega) (by rfl) ?_
      refine kR.s rfl rfl ?_
      refine kR.add ?_
      refine kR.ca (v := S 16 (((S 14 n.toNat) + i).toNat)) (by omega) rfl (by decide) (by omega) (by omega) (by rfl) ?_
      refine kR.g rfl ?_
      show kR 0 43 b43_31 _ _ _ _
      refine kR.ret rfl rfl ?_
      first | rw [if_pos (by omega)] | rw [if_neg (by omega)]
theorem c_43h {m : Nat} {E : Nat → kC} {S : Nat → Nat → Int} {sz : Nat × Nat} (hm : 53 ≤ m ∧ m ≤ 57) {n i : Int} (r_i : -2147483648 ≤ i ∧ i < 2147483648) (hn : 0 ≤ n ∧ n < 60) (hi : 0 ≤ i) (hz : i < S 12 n.toNat ∧ S 12 n.toNat ≤ 200) (hb : 0 ≤ S 14 n.toNat ∧ S 14 n.toNat + i < 200) : kR 0 43 (blk 43 0) (kent 43 [.ref 10, .int (Int32.ofInt (n)), .int (Int32.ofInt (i))]) [] (sz, hp m E S) (fun r => r = (.inl (some (.int (Int32.ofInt (S 16 (S 14 n.toNat + i).toNat)))), (sz, hp m E S))) := by
  have z := c_43 hm (E := E) (S := S) (sz := sz) r_i hn (by omega) (fun _ _ => hb)
  rw [if_pos (by omega)] at z
  exact z
theorem c_44 {m : Nat} {E : Nat → kC} {S : Nat → Nat → Int} {sz : Nat × Nat} (hm : 53 ≤ m ∧ m ≤ 57) {n c : Int} (r_n : -2147483648 ≤ n ∧ n < 2147483648) (r_c : -2147483648 ≤ c ∧ c < 2147483648) (h5 : 0 ≤ S 10 5 ∧ S 10 5 ≤ 60) (hK : ∀ j : Nat, (j : Int) < S 10 5 → 0 ≤ S 11 j ∧ S 11 j ≤ 5) (hZ : ∀ j : Nat, (j : Int) < S 10 5 → 0 ≤ S 12 j ∧ S 12 j ≤ 200 ∧ (S 11 j = 3 → 0 ≤ S 14 j ∧ S 14 j + S 12 j ≤ 200)) (hC : ∀ j : Nat, j < 200 → -2147483648 ≤ S 16 j ∧ S 16 j < 2147483648) : kR 2 44 (blk 44 0) (kent 44 [.ref 10, .int (Int32.ofInt (n)), .int (Int32.ofInt (c))]) [] (sz, hp m E S) (fun r => r = (.inl (some (.int (Int32.ofInt (if ((0 ≤ n ∧ n < S 10 5) ∧ S 11 n.toNat = 3) ∧ S 12 n.toNat = 1 ∧ S 16 (S 14 n.toNat + 0).toNat = c then 1 else 0)))), (sz, hp m E S))) := by
  have hZ1 := hZ n.toNat
  have hC1 := hC (S 14 n.toNat + 0).toNat
  show kR 2 44 b44_0 _ _ _ _
  refine kR.s rfl rfl ?_
  refine kR.s rfl rfl ?_
  refine kR.s rfl rfl ?_
  refine kR.cb (P := (0 ≤ n ∧ n < S 10 5) ∧ S 11 n.toNat = 3) (kargs_m hm (by decide) rfl) rfl (kR.up (c_36 hm (by omega) (by omega) h5 hK) (by decide)) (fun q1 => ?_) (fun q1 => ?_)
  · skip
    refine kR.zeq (by decide) (by decide) (fun q2 => absurd q2 (by decide)) (fun q2 => ?_)
    refine kR.s rfl rfl ?_
    refine kR.gr (k := 1) (by omega) rfl rfl rfl (by decide) (by decide) rfl ?_
    refine kR.s rfl rfl ?_
    refine kR.ia (v := S 12 n.toNat) (by omega) rfl (by decide) (by omega) (by omega) (by rfl) ?_
    refine kR.s rfl rfl ?_
    refine kR.jne (by omega) (by omega) (by omega) (by omega) (fun q3 => ?_) (fun q3 => ?_)
    · skip
      show kR 2 44 b44_33 _ _ _ _
      refine kR.s rfl rfl ?_
      refine kR.n ?_
      show kR 2 44 b44_34 _ _ _ _
      refine kR.ret rfl rfl ?_
      first | rw [if_pos (by omega)] | rw [if_neg (by omega)]
    · skip
      refine kR.s rfl rfl ?_
      refine kR.s rfl rfl ?_
      refine kR.s rfl rfl ?_
      refine kR.cv (v := .int (Int32.ofInt (S 16 (S 14 n.toNat + 0).toNat))) (kargs_m hm (by decide) rfl) rfl (kR.up (c_43h hm (by omega) (by omega) (by omega) (by omega) (by omega)) (by decide)) ?_
      refine kR.s rfl rfl ?_
      refine kR.jne (by omega) (by omega) (by omega) (by omega) (fun q5 => ?_) (fun q5 => ?_)
      · skip
        show kR 2 44 b44_33 _ _ _ _
        refine kR.s rfl rfl ?_
        refine kR.n ?_
        show kR 2 44 b44_34 _ _ _ _
        refine kR.ret rfl rfl ?_
        first | rw [if_pos (by omega)] | rw [if_neg (by omega)]
      · skip
        refine kR.s rfl rfl ?_
        refine kR.g rfl ?_
        show kR 2 44 b44_34 _ _ _ _
        refine kR.ret rfl rfl ?_
        first | rw [if_pos (by omega)] | rw [if_neg (by omega)]
  · skip
    refine kR.zeq (by decide) (by decide) (fun q6 => ?_) (fun q6 => absurd q6 (by decide))
    show kR 2 44 b44_33 _ _ _ _
    refine kR.s rfl rfl ?_
    refine kR.n ?_
    show kR 2 44 b44_34 _ _ _ _
    refine kR.ret rfl rfl ?_
    first | rw [if_pos (by omega)] | rw [if_neg (by omega)]
theorem c_7 {E : Nat → kC} {S : Nat → Nat → Int} {s : Nat} {n i : Int} (r_n : -2147483648 ≤ n ∧ n < 2147483648) (r_i : -2147483648 ≤ i ∧ i < 2147483648) (h1 : 0 ≤ S 10 11 ∧ S 10 11 ≤ 200) (hS : ∀ j : Nat, j < 200 → -2147483648 ≤ S 17 j ∧ S 17 j < 2147483648) : kR 1 7 (blk 7 0) (kent 7 [.ref 0, .int (Int32.ofInt (n)), .int (Int32.ofInt (i))]) [] ((53, s), hp 53 E S) (fun r => (¬ kfe (S 17) n (S 10 11).toNat 0 i = -1 → r = (.inl (some (.int (Int32.ofInt (S 19 (kfe (S 17) n (S 10 11).toNat 0 i).toNat)))), ((53, s), hp 53 E S))) ∧ (¬ (¬ kfe (S 17) n (S 10 11).toNat 0 i = -1) → r = (.inr 53, knew ((53, s), hp 53 E S) 31 6 (fun _ => .null)))) := by
  have hm : 53 ≤ 53 ∧ 53 ≤ 57 := by omega
  have hz := kfe_rng (S 17) n (S 10 11).toNat i
  show kR 1 7 b7_0 _ _ _ _
  refine kR.s rfl rfl ?_
  refine kR.gr (k := 2) (by omega) rfl rfl rfl (by decide) (by decide) rfl ?_
  refine kR.s rfl rfl ?_
  refine kR.s rfl rfl ?_
  refine kR.cv (v := .int (Int32.ofInt (kfe (S 17) n (S 10 11).toNat 0 i))) (kargs_m hm (by decide) rfl) rfl (kR.up (c_40 hm (by omega) h1 (by omega) hS) (by decide)) ?_
  refine kR.s rfl rfl ?_
  refine kR.s rfl rfl ?_
  refine kR.s rfl rfl ?_
  refine kR.jne (by omega) (by omega) (by omega) (by omega) (fun q2 => ?_) (fun q2 => ?_)
  · skip
    show kR 1 7 b7_25 _ _ _ _
    refine kR.s rfl rfl ?_
    refine kR.gr (k := 2) (by omega) rfl rfl rfl (by decide) (by decide) rfl ?_
    refine kR.gr (k := 10) (by omega) rfl rfl rfl (by decide) (by decide) rfl ?_
    refine kR.s rfl rfl ?_
    refine kR.ia (v := S 19 ((kfe (S 17) n (S 10 11).toNat 0 i).toNat)) (by omega) rfl (by decide) (by omega) (by omega) (by rfl) ?_
    refine kR.ret rfl rfl ?_
    exact ⟨fun _ => rfl, fun z => absurd (by omega) z⟩
  · skip
    refine kR.t rfl rfl (Nat.le_of_ble_eq_true rfl) ?_
    exact ⟨fun z => absurd z (by omega), fun _ => rfl⟩
theorem c_8 {E : Nat → kC} {S : Nat → Nat → Int} {s : Nat} {n i : Int} (r_n : -2147483648 ≤ n ∧ n < 2147483648) (r_i : -2147483648 ≤ i ∧ i < 2147483648) (h1 : 0 ≤ S 10 11 ∧ S 10 11 ≤ 200) (hS : ∀ j : Nat, j < 200 → -2147483648 ≤ S 17 j ∧ S 17 j < 2147483648) (h5 : 0 ≤ S 10 5 ∧ S 10 5 ≤ 60) (hK : ∀ j : Nat, (j : Int) < S 10 5 → 0 ≤ S 11 j ∧ S 11 j ≤ 5) : kR 2 8 (blk 8 0) (kent 8 [.ref 0, .int (Int32.ofInt (n)), .int (Int32.ofInt (i))]) [] ((53, s), hp 53 E S) (fun r => ((((0 ≤ n ∧ n < S 10 5) ∧ S 11 n.toNat = 5) ∧ ¬ kfe (S 17) n (S 10 11).toNat 0 i = -1) → r = (.inl (some (.int (Int32.ofInt (S 18 (kfe (S 17) n (S 10 11).toNat 0 i).toNat)))), ((53, s), hp 53 E S))) ∧ (¬ ((((0 ≤ n ∧ n < S 10 5) ∧ S 11 n.toNat = 5) ∧ ¬ kfe (S 17) n (S 10 11).toNat 0 i = -1)) → r = (.inr 53, knew ((53, s), hp 53 E S) 31 6 (fun _ => .null)))) := by
  have hm : 53 ≤ 53 ∧ 53 ≤ 57 := by omega
  have hz := kfe_rng (S 17) n (S 10 11).toNat i
  show kR 2 8 b8_0 _ _ _ _
  refine kR.s rfl rfl ?_
  refine kR.gr (k := 2) (by omega) rfl rfl rfl (by decide) (by decide) rfl ?_
  refine kR.s rfl rfl ?_
  refine kR.s rfl rfl ?_
  refine kR.cb (P := (0 ≤ n ∧ n < S 10 5) ∧ S 11 n.toNat = 5) (kargs_m hm (by decide) rfl) rfl (kR.up (c_36 hm (by omega) (by omega) h5 hK) (by decide)) (fun q1 => ?_) (fun q1 => ?_)
  · skip
    refine kR.zeq (by decide) (by decide) (fun q2 => absurd q2 (by decide)) (fun q2 => ?_)
    refine kR.s rfl rfl ?_
    refine kR.gr (k := 2) (by omega) rfl rfl rfl (by decide) (by decide) rfl ?_
    refine kR.s rfl rfl ?_
    refine kR.s rfl rfl ?_
    refine kR.cv (v := .int (Int32.ofInt (kfe (S 17) n (S 10 11).toNat 0 i))) (kargs_m hm (by decide) rfl) rfl (kR.up (c_40 hm (by omega) h1 (by omega) hS) (by decide)) ?_
    refine kR.g rfl ?_
    show kR 2 8 b8_25 _ _ _ _
    refine kR.s rfl rfl ?_
    refine kR.s rfl rfl ?_
    refine kR.s rfl rfl ?_
    refine kR.jne (by omega) (by omega) (by omega) (by omega) (fun q4 => ?_) (fun q4 => ?_)
    · skip
      show kR 2 8 b8_41 _ _ _ _
      refine kR.s rfl rfl ?_
      refine kR.gr (k := 2) (by omega) rfl rfl rfl (by decide) (by decide) rfl ?_
      refine kR.gr (k := 9) (by omega) rfl rfl rfl (by decide) (by decide) rfl ?_
      refine kR.s rfl rfl ?_
      refine kR.ia (v := S 18 ((kfe (S 17) n (S 10 11).toNat 0 i).toNat)) (by omega) rfl (by decide) (by omega) (by omega) (by rfl) ?_
      refine kR.ret rfl rfl ?_
      exact ⟨fun _ => rfl, fun z => absurd (by omega) z⟩
    · skip
      refine kR.t rfl rfl (Nat.le_of_ble_eq_true rfl) ?_
      exact ⟨fun z => absurd z (by omega), fun _ => rfl⟩
  · skip
    refine kR.zeq (by decide) (by decide) (fun q5 => ?_) (fun q5 => absurd q5 (by decide))
    show kR 2 8 b8_24 _ _ _ _
    refine kR.s rfl rfl ?_
    refine kR.n ?_
    show kR 2 8 b8_25 _ _ _ _
    refine kR.s rfl rfl ?_
    refine kR.s rfl rfl ?_
    refine kR.s rfl rfl ?_
    refine kR.jne (by decide) (by decide) (by decide) (by decide) (fun q6 => absurd q6 (by decide)) (fun q6 => ?_)
    refine kR.t rfl rfl (Nat.le_of_ble_eq_true rfl) ?_
    exact ⟨fun z => absurd z (by omega), fun _ => rfl⟩
theorem c_9 {E : Nat → kC} {S : Nat → Nat → Int} {s : Nat} {n : Int} (r_n : -2147483648 ≤ n ∧ n < 2147483648) (h5 : 0 ≤ S 10 5 ∧ S 10 5 ≤ 60) (hK : ∀ j : Nat, (j : Int) < S 10 5 → 0 ≤ S 11 j ∧ S 11 j ≤ 5) : kR 2 9 (blk 9 0) (kent 9 [.ref 0, .int (Int32.ofInt (n))]) [] ((53, s), hp 53 E S) (fun r => (((0 ≤ n ∧ n < S 10 5) ∧ (S 11 n.toNat = 2 ∨ S 11 n.toNat = 1)) → r = (.inl (some (.long (Int64.ofInt (S 13 n.toNat)))), ((53, s), hp 53 E S))) ∧ (¬ (((0 ≤ n ∧ n < S 10 5) ∧ (S 11 n.toNat = 2 ∨ S 11 n.toNat = 1))) → r = (.inr 53, knew ((53, s), hp 53 E S) 30 6 (fun _ => .null)))) := by
  have hm : 53 ≤ 53 ∧ 53 ≤ 57 := by omega
  show kR 2 9 b9_0 _ _ _ _
  refine kR.s rfl rfl ?_
  refine kR.gr (k := 2) (by omega) rfl rfl rfl (by decide) (by decide) rfl ?_
  refine kR.s rfl rfl ?_
  refine kR.s rfl rfl ?_
  refine kR.cb (P := (0 ≤ n ∧ n < S 10 5) ∧ S 11 n.toNat = 2) (kargs_m hm (by decide) rfl) rfl (kR.up (c_36 hm (by omega) (by omega) h5 hK) (by decide)) (fun q1 => ?_) (fun q1 => ?_)
  · skip
    refine kR.zne (by decide) (by decide) (fun q2 => ?_) (fun q2 => absurd q2 (by decide))
    show kR 2 9 b9_34 _ _ _ _
    refine kR.s rfl rfl ?_
    refine kR.gr (k := 2) (by omega) rfl rfl rfl (by decide) (by decide) rfl ?_
    refine kR.gr (k := 2) (by omega) rfl rfl rfl (by decide) (by decide) rfl ?_
    refine kR.s rfl rfl ?_
    refine kR.la (v := S 13 n.toNat) (by omega) rfl (by decide) (by omega) (by omega) (by rfl) ?_
    refine kR.ret rfl rfl ?_
    exact ⟨fun _ => rfl, fun z => absurd (by omega) z⟩
  · skip
    refine kR.zne (by decide) (by decide) (fun q3 => absurd q3 (by decide)) (fun q3 => ?_)
    refine kR.s rfl rfl ?_
    refine kR.gr (k := 2) (by omega) rfl rfl rfl (by decide) (by decide) rfl ?_
    refine kR.s rfl rfl ?_
    refine kR.s rfl rfl ?_
    refine kR.cb (P := (0 ≤ n ∧ n < S 10 5) ∧ S 11 n.toNat = 1) (kargs_m hm (by decide) rfl) rfl (kR.up (c_36 hm (by omega) (by omega) h5 hK) (by decide)) (fun q4 => ?_) (fun q4 => ?_)
    · skip
      refine kR.zne (by decide) (by decide) (fun q5 => ?_) (fun q5 => absurd q5 (by decide))
      show kR 2 9 b9_34 _ _ _ _
      refine kR.s rfl rfl ?_
      refine kR.gr (k := 2) (by omega) rfl rfl rfl (by decide) (by decide) rfl ?_
      refine kR.gr (k := 2) (by omega) rfl rfl rfl (by decide) (by decide) rfl ?_
      refine kR.s rfl rfl ?_
      refine kR.la (v := S 13 n.toNat) (by omega) rfl (by decide) (by omega) (by omega) (by rfl) ?_
      refine kR.ret rfl rfl ?_
      exact ⟨fun _ => rfl, fun z => absurd (by omega) z⟩
    · skip
      refine kR.zne (by decide) (by decide) (fun q6 => absurd q6 (by decide)) (fun q6 => ?_)
      refine kR.t rfl rfl (Nat.le_of_ble_eq_true rfl) ?_
      exact ⟨fun z => absurd z (by omega), fun _ => rfl⟩
theorem c_10 {m : Nat} {E : Nat → kC} {S : Nat → Nat → Int} {sz : Nat × Nat} (hm : 53 ≤ m ∧ m ≤ 57) {n i : Int} (r_n : -2147483648 ≤ n ∧ n < 2147483648) (r_i : -2147483648 ≤ i ∧ i < 2147483648) (h5 : 0 ≤ S 10 5 ∧ S 10 5 ≤ 60) (hK : ∀ j : Nat, (j : Int) < S 10 5 → 0 ≤ S 11 j ∧ S 11 j ≤ 5) (hZ : ∀ j : Nat, (j : Int) < S 10 5 → 0 ≤ S 12 j ∧ S 12 j ≤ 200 ∧ (S 11 j = 3 → 0 ≤ S 14 j ∧ S 14 j + S 12 j ≤ 200)) : kR 2 10 (blk 10 0) (kent 10 [.ref 0, .int (Int32.ofInt (n)), .int (Int32.ofInt (i))]) [] (sz, hp m E S) (fun r => r = (.inl (some (.int (Int32.ofInt (if ((0 ≤ n ∧ n < S 10 5) ∧ S 11 n.toNat = 3) ∧ 0 ≤ i ∧ i < S 12 n.toNat then S 16 (S 14 n.toNat + i).toNat else -1)))), (sz, hp m E S))) := by
  have hZ1 := hZ n.toNat
  show kR 2 10 b10_0 _ _ _ _
  refine kR.s rfl rfl ?_
  refine kR.gr (k := 2) (by omega) rfl rfl rfl (by decide) (by decide) rfl ?_
  refine kR.s rfl rfl ?_
  refine kR.s rfl rfl ?_
  refine kR.cb (P := (0 ≤ n ∧ n < S 10 5) ∧ S 11 n.toNat = 3) (kargs_m hm (by decide) rfl) rfl (kR.up (c_36 hm (by omega) (by omega) h5 hK) (by decide)) (fun q1 => ?_) (fun q1 => ?_)
  · skip
    refine kR.zeq (by decide) (by decide) (fun q2 => absurd q2 (by decide)) (fun q2 => ?_)
    refine kR.s rfl rfl ?_
    refine kR.gr (k := 2) (by omega) rfl rfl rfl (by decide) (by decide) rfl ?_
    refine kR.s rfl rfl ?_
    refine kR.s rfl rfl ?_
    refine kR.cv (v := .int (Int32.ofInt (if 0 ≤ i ∧ i < S 12 n.toNat then S 16 (S 14 n.toNat + i).toNat else -1))) (kargs_m hm (by decide) rfl) rfl (kR.up (c_43 hm (by omega) (by omega) (by omega) (by omega)) (by decide)) ?_
    refine kR.g rfl ?_
    show kR 2 10 b10_25 _ _ _ _
    refine kR.ret rfl rfl ?_
    by_cases c1 : 0 ≤ i ∧ i < S 12 n.toNat
    · rw [if_pos c1, if_pos (by omega)]
    · rw [if_neg c1, if_neg (by omega)]
  · skip
    refine kR.zeq (by decide) (by decide) (fun q4 => ?_) (fun q4 => absurd q4 (by decide))
    show kR 2 10 b10_24 _ _ _ _
    refine kR.s rfl rfl ?_
    refine kR.n ?_
    show kR 2 10 b10_25 _ _ _ _
    refine kR.ret rfl rfl ?_
    rw [if_neg (by omega)]
theorem l_11 {m : Nat} {E : Nat → kC} {S : Nat → Nat → Int} {sz : Nat × Nat} (hm : 53 ≤ m ∧ m ≤ 57) {n c : Int} (r_n : -2147483648 ≤ n ∧ n < 2147483648) (r_c : -2147483648 ≤ c ∧ c < 2147483648) (h5 : 0 ≤ S 10 5 ∧ S 10 5 ≤ 60) (hK : ∀ j : Nat, (j : Int) < S 10 5 → 0 ≤ S 11 j ∧ S 11 j ≤ 5) (hZ : ∀ j : Nat, (j : Int) < S 10 5 → 0 ≤ S 12 j ∧ S 12 j ≤ 200 ∧ (S 11 j = 3 → 0 ≤ S 14 j ∧ S 14 j + S 12 j ≤ 200)) (hC : ∀ j : Nat, j < 200 → -2147483648 ≤ S 16 j ∧ S 16 j < 2147483648) (h1 : 0 ≤ S 10 11 ∧ S 10 11 ≤ 200) (hS : ∀ j : Nat, j < 200 → -2147483648 ≤ S 17 j ∧ S 17 j < 2147483648) (hKy : ∀ j : Nat, j < 200 → -2147483648 ≤ S 18 j ∧ S 18 j < 2147483648) : ∀ (j k : Nat), 200 - k = j → k ≤ 200 → kR 3 11 (blk 11 16) [.ref 0, .int (Int32.ofInt (n)), .int (Int32.ofInt (c)), .int (Int32.ofInt ((k : Int)))] [] (sz, hp m E S) (fun r => r = (.inl (some (.int (Int32.ofInt (if kw (fun e => !decide (S 17 e = n ∧ (((0 ≤ S 18 e ∧ S 18 e < S 10 5) ∧ S 11 ((S 18 e).toNat) = 3) ∧ S 12 ((S 18 e).toNat) = 1 ∧ S 16 (S 14 ((S 18 e).toNat) + 0).toNat = c))) (S 10 11).toNat k < (S 10 11).toNat then S 19 (kw (fun e => !decide (S 17 e = n ∧ (((0 ≤ S 18 e ∧ S 18 e < S 10 5) ∧ S 11 ((S 18 e).toNat) = 3) ∧ S 12 ((S 18 e).toNat) = 1 ∧ S 16 (S 14 ((S 18 e).toNat) + 0).toNat = c))) (S 10 11).toNat k) else -1)))), (sz, hp m E S))) := by
  intro j
  induction j using Nat.strongRecOn with
  | _ j ih =>
    intro k hk hk2
    have hS1 := hS k
    have hK1 := hKy k
    show kR 3 11 b11_16 _ _ _ _
    refine kR.s rfl rfl ?_
    refine kR.s rfl rfl ?_
    refine kR.gr (k := 2) (by omega) rfl rfl rfl (by decide) (by decide) rfl ?_
    refine kR.gi (k := 11) (v := S 10 11) (by omega) rfl rfl rfl (by decide) (by decide) rfl (by rfl) ?_
    refine kR.jge (by omega) (by omega) (by omega) (by omega) (fun q1 => ?_) (fun q1 => ?_)
    · skip
      show kR 3 11 b11_76 _ _ _ _
      refine kR.s rfl rfl ?_
      refine kR.ret rfl rfl ?_
      rw [kw_no (Or.inl (by omega)), if_neg (by omega)]
    · skip
      refine kR.s rfl rfl ?_
      refine kR.gr (k := 2) (by omega) rfl rfl rfl (by decide) (by decide) rfl ?_
      refine kR.gr (k := 8) (by omega) rfl rfl rfl (by decide) (by decide) rfl ?_
      refine kR.s rfl rfl ?_
      refine kR.ia (v := S 17 k) (by omega) rfl (by decide) (by omega) (by omega) (by rfl) ?_
      refine kR.s rfl rfl ?_
      refine kR.jne (by omega) (by omega) (by omega) (by omega) (fun q2 => ?_) (fun q2 => ?_)
      · skip
        show kR 3 11 b11_70 _ _ _ _
        refine kR.inc rfl ?_
        refine kR.g rfl ?_
        rw [kw_go (by omega) (by rw [Bool.not_eq_true']; exact decide_eq_false (by omega))]
        exact ih (200 - (k + 1)) (by omega) (k + 1) rfl (by omega)
      · skip
        refine kR.s rfl rfl ?_
        refine kR.gr (k := 2) (by omega) rfl rfl rfl (by decide) (by decide) rfl ?_
        refine kR.s rfl rfl ?_
        refine kR.gr (k := 2) (by omega) rfl rfl rfl (by decide) (by decide) rfl ?_
        refine kR.gr (k := 9) (by omega) rfl rfl rfl (by decide) (by decide) rfl ?_
        refine kR.s rfl rfl ?_
        refine kR.ia (v := S 18 k) (by omega) rfl (by decide) (by omega) (by omega) (by rfl) ?_
        refine kR.s rfl rfl ?_
        refine kR.cb (P := ((0 ≤ S 18 k ∧ S 18 k < S 10 5) ∧ S 11 ((S 18 k).toNat) = 3) ∧ S 12 ((S 18 k).toNat) = 1 ∧ S 16 (S 14 ((S 18 k).toNat) + 0).toNat = c) (kargs_m hm (by decide) rfl) rfl (kR.up (c_44 hm (by omega) (by omega) h5 hK hZ hC) (by decide)) (fun q3 => ?_) (fun q3 => ?_)
        · skip
          refine kR.zeq (by decide) (by decide) (fun q4 => absurd q4 (by decide)) (fun q4 => ?_)
          refine kR.s rfl rfl ?_
          refine kR.gr (k := 2) (by omega) rfl rfl rfl (by decide) (by decide) rfl ?_
          refine kR.gr (k := 10) (by omega) rfl rfl rfl (by decide) (by decide) rfl ?_
          refine kR.s rfl rfl ?_
          refine kR.ia (v := S 19 k) (by omega) rfl (by decide) (by omega) (by omega) (by rfl) ?_
          refine kR.ret rfl rfl ?_
          rw [kw_no (Or.inr (by rw [Bool.not_eq_false']; exact decide_eq_true (by omega))), if_pos (by omega)]
        · skip
          refine kR.zeq (by decide) (by decide) (fun q5 => ?_) (fun q5 => absurd q5 (by decide))
          show kR 3 11 b11_70 _ _ _ _
          refine kR.inc rfl ?_
          refine kR.g rfl ?_
          rw [kw_go (by omega) (by rw [Bool.not_eq_true']; exact decide_eq_false (by omega))]
          exact ih (200 - (k + 1)) (by omega) (k + 1) rfl (by omega)
theorem c_11 {m : Nat} {E : Nat → kC} {S : Nat → Nat → Int} {sz : Nat × Nat} (hm : 53 ≤ m ∧ m ≤ 57) {n c : Int} (r_n : -2147483648 ≤ n ∧ n < 2147483648) (r_c : -2147483648 ≤ c ∧ c < 2147483648) (h5 : 0 ≤ S 10 5 ∧ S 10 5 ≤ 60) (hK : ∀ j : Nat, (j : Int) < S 10 5 → 0 ≤ S 11 j ∧ S 11 j ≤ 5) (hZ : ∀ j : Nat, (j : Int) < S 10 5 → 0 ≤ S 12 j ∧ S 12 j ≤ 200 ∧ (S 11 j = 3 → 0 ≤ S 14 j ∧ S 14 j + S 12 j ≤ 200)) (hC : ∀ j : Nat, j < 200 → -2147483648 ≤ S 16 j ∧ S 16 j < 2147483648) (h1 : 0 ≤ S 10 11 ∧ S 10 11 ≤ 200) (hS : ∀ j : Nat, j < 200 → -2147483648 ≤ S 17 j ∧ S 17 j < 2147483648) (hKy : ∀ j : Nat, j < 200 → -2147483648 ≤ S 18 j ∧ S 18 j < 2147483648) : kR 3 11 (blk 11 0) (kent 11 [.ref 0, .int (Int32.ofInt (n)), .int (Int32.ofInt (c))]) [] (sz, hp m E S) (fun r => r = (.inl (some (.int (Int32.ofInt (if ((0 ≤ n ∧ n < S 10 5) ∧ S 11 n.toNat = 5) ∧ kw (fun e => !decide (S 17 e = n ∧ (((0 ≤ S 18 e ∧ S 18 e < S 10 5) ∧ S 11 ((S 18 e).toNat) = 3) ∧ S 12 ((S 18 e).toNat) = 1 ∧ S 16 (S 14 ((S 18 e).toNat) + 0).toNat = c))) (S 10 11).toNat 0 < (S 10 11).toNat then S 19 (kw (fun e => !decide (S 17 e = n ∧ (((0 ≤ S 18 e ∧ S 18 e < S 10 5) ∧ S 11 ((S 18 e).toNat) = 3) ∧ S 12 ((S 18 e).toNat) = 1 ∧ S 16 (S 14 ((S 18 e).toNat) + 0).toNat = c))) (S 10 11).toNat 0) else -1)))), (sz, hp m E S))) := by
  show kR 3 11 b11_0 _ _ _ _
  refine kR.s rfl rfl ?_
  refine kR.gr (k := 2) (by omega) rfl rfl rfl (by decide) (by decide) rfl ?_
  refine kR.s rfl rfl ?_
  refine kR.s rfl rfl ?_
  refine kR.cb (P := (0 ≤ n ∧ n < S 10 5) ∧ S 11 n.toNat = 5) (kargs_m hm (by decide) rfl) rfl (kR.up (c_36 hm (by omega) (by omega) h5 hK) (by decide)) (fun q1 => ?_) (fun q1 => ?_)
  · skip
    refine kR.zne (by decide) (by decide) (fun q2 => ?_) (fun q2 => absurd q2 (by decide))
    show kR 3 11 b11_14 _ _ _ _
    refine kR.s rfl rfl ?_
    refine kR.s rfl rfl ?_
    refine kR.n ?_
    have z := l_11 hm (E := E) (S := S) (sz := sz) r_n r_c h5 hK hZ hC h1 hS hKy 200 0 rfl (by omega)
    by_cases c1 : kw (fun e => !decide (S 17 e = n ∧ (((0 ≤ S 18 e ∧ S 18 e < S 10 5) ∧ S 11 ((S 18 e).toNat) = 3) ∧ S 12 ((S 18 e).toNat) = 1 ∧ S 16 (S 14 ((S 18 e).toNat) + 0).toNat = c))) (S 10 11).toNat 0 < (S 10 11).toNat
    · rw [if_pos c1] at z
      rw [if_pos ⟨by omega, c1⟩]
      exact z
    · rw [if_neg c1] at z
      rw [if_neg (fun w => c1 w.2)]
      exact z
  · skip
    refine kR.zne (by decide) (by decide) (fun q3 => absurd q3 (by decide)) (fun q3 => ?_)
    refine kR.s rfl rfl ?_
    refine kR.ret rfl rfl ?_
    rw [if_neg (by omega)]
