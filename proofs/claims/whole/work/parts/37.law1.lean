/-! The law's own methods, and the cases of its loop. By program (wip/gen/gen37.py). -/
theorem kxr (x : Int32) : -2147483648 ≤ x.toInt ∧ x.toInt < 2147483648 := ⟨Int32.le_toInt x, Int32.toInt_lt x⟩
section KL1
variable {w : Bool} {D y pc x c s : Nat} {off : Int} {cs : List kI} {ls st : List Value} {E : Nat → kC} {S : Nat → Nat → Int} {h : kH} {r : kO × kH → Prop}
theorem kR.same {a : Int32} (k : kR D y (blk y x) ls st h r) : kR D y ((pc, x, .if_icmp .eq off) :: cs) ls (.int a :: .int a :: st) h r :=
  kR.j (q := true) (st1 := st) (by simp [kbr, kcmp]) rfl (fun _ => k) (fun z => absurd z (by decide))
theorem kR.lsame {a : Int64} {pc2 x2 : Nat} (k : kR D y (blk y x2) ls st h r) : kR D y ((pc, x, .lcmp) :: (pc2, x2, .ifCond .eq off) :: cs) ls (.long a :: .long a :: st) h r := by
  refine kR.s (ls1 := ls) (st1 := .int 0 :: st) (h1 := h) ?_ rfl ?_
  · simp [ksimple, ko_ll, k_st, lg_cmp]
  · exact kR.j (q := true) (st1 := st) rfl rfl (fun _ => k) (fun z => absurd z (by decide))
theorem kR.lo (hW : kW w c s E S h) (kk : kR D y cs ls (.long (Int64.ofInt (S 52 0)) :: st) h r) : kR D y ((pc, x, .laload) :: cs) ls (.int (Int32.ofInt 0) :: .ref 52 :: st) h r := by
  refine kR.s (ls1 := ls) (st1 := .long (Int64.ofInt (S 52 0)) :: st) (h1 := h) ?_ rfl kk
  have z := (hW.2.2.2 52 (by show (22 : Nat) ≠ 0; decide)).2
  have e : h.2 52 = (22, 1, fun k => .long (Int64.ofInt (S 52 k))) := z
  simp [ksimple, ko_ald, e, k_st, kin]
end KL1
theorem c_165 {E : Nat → kC} {S : Nat → Nat → Int} {n i : Int} (r_n : -2147483648 ≤ n ∧ n < 2147483648) (r_i : -2147483648 ≤ i ∧ i < 2147483648) (h1 : 0 ≤ S 10 11 ∧ S 10 11 ≤ 200) (hS : ∀ j : Nat, j < 200 → -2147483648 ≤ S 17 j ∧ S 17 j < 2147483648) (hV : ∀ j : Nat, j < 200 → -2147483648 ≤ S 19 j ∧ S 19 j < 2147483648) : kR 4 165 (blk 165 0) (kent 165 [.ref 0, .int (Int32.ofInt n), .int (Int32.ofInt i), .ref 52]) [] ((53, 0), hp 53 E S) (fun r => (¬ kfe (S 17) n (S 10 11).toNat 0 i = -1 → r = (.inl (some (.int (Int32.ofInt 0))), ((53, 0), hp 53 E (ku S 52 0 (S 19 (kfe (S 17) n (S 10 11).toNat 0 i).toNat))))) ∧ (¬ ¬ kfe (S 17) n (S 10 11).toNat 0 i = -1 → r = (.inl (some (.int (Int32.ofInt 1))), knew ((53, 0), hp 53 E S) 31 6 (fun _ => .null)))) := by
  have hm : 53 ≤ 53 ∧ 53 ≤ 57 := by omega
  have hz := kfe_rng (S 17) n (S 10 11).toNat i
  have hV1 := hV (kfe (S 17) n (S 10 11).toNat 0 i).toNat
  show kR 4 165 b165_0 _ _ _ _
  refine kR.s rfl rfl ?_
  refine kR.s rfl rfl ?_
  refine kR.s rfl rfl ?_
  refine kR.s rfl rfl ?_
  refine kR.s rfl rfl ?_
  refine kR.c (kargs_m hm (by decide) rfl) rfl (kR.up (c_7 r_n r_i h1 hS) (by decide)) (fun u hu => ?_)
  by_cases hP : ¬ kfe (S 17) n (S 10 11).toNat 0 i = -1
  · have hu := hu.1 hP
    subst hu
    show kR 4 165 _ _ _ _ _
    refine kR.i2l (by omega) (by omega) ?_
    refine kR.lst (z := 0) (by omega) rfl (by decide) (by omega) (by omega) ?_
    refine kR.g rfl ?_
    show kR 4 165 b165_17 _ _ _ _
    refine kR.s rfl rfl ?_
    refine kR.ret rfl rfl ?_
    exact ⟨fun _ => rfl, fun z => absurd hP z⟩
  · have hu := hu.2 hP
    subst hu
    show kR 4 165 b165_13 _ _ _ _
    refine kR.s rfl rfl ?_
    refine kR.s rfl rfl ?_
    refine kR.ret rfl rfl ?_
    exact ⟨fun z => absurd z hP, fun _ => rfl⟩
theorem c_166 {E : Nat → kC} {S : Nat → Nat → Int} {n i : Int} (r_n : -2147483648 ≤ n ∧ n < 2147483648) (r_i : -2147483648 ≤ i ∧ i < 2147483648) (h1 : 0 ≤ S 10 11 ∧ S 10 11 ≤ 200) (hS : ∀ j : Nat, j < 200 → -2147483648 ≤ S 17 j ∧ S 17 j < 2147483648) (h5 : 0 ≤ S 10 5 ∧ S 10 5 ≤ 60) (hK : ∀ j : Nat, (j : Int) < S 10 5 → 0 ≤ S 11 j ∧ S 11 j ≤ 5) (hV : ∀ j : Nat, j < 200 → -2147483648 ≤ S 18 j ∧ S 18 j < 2147483648) : kR 4 166 (blk 166 0) (kent 166 [.ref 0, .int (Int32.ofInt n), .int (Int32.ofInt i), .ref 52]) [] ((53, 0), hp 53 E S) (fun r => ((((0 ≤ n ∧ n < S 10 5) ∧ S 11 n.toNat = 5) ∧ ¬ kfe (S 17) n (S 10 11).toNat 0 i = -1) → r = (.inl (some (.int (Int32.ofInt 0))), ((53, 0), hp 53 E (ku S 52 0 (S 18 (kfe (S 17) n (S 10 11).toNat 0 i).toNat))))) ∧ (¬ (((0 ≤ n ∧ n < S 10 5) ∧ S 11 n.toNat = 5) ∧ ¬ kfe (S 17) n (S 10 11).toNat 0 i = -1) → r = (.inl (some (.int (Int32.ofInt 1))), knew ((53, 0), hp 53 E S) 31 6 (fun _ => .null)))) := by
  have hm : 53 ≤ 53 ∧ 53 ≤ 57 := by omega
  have hz := kfe_rng (S 17) n (S 10 11).toNat i
  have hV1 := hV (kfe (S 17) n (S 10 11).toNat 0 i).toNat
  show kR 4 166 b166_0 _ _ _ _
  refine kR.s rfl rfl ?_
  refine kR.s rfl rfl ?_
  refine kR.s rfl rfl ?_
  refine kR.s rfl rfl ?_
  refine kR.s rfl rfl ?_
  refine kR.c (kargs_m hm (by decide) rfl) rfl (kR.up (c_8 r_n r_i h1 hS h5 hK) (by decide)) (fun u hu => ?_)
  by_cases hP : (((0 ≤ n ∧ n < S 10 5) ∧ S 11 n.toNat = 5) ∧ ¬ kfe (S 17) n (S 10 11).toNat 0 i = -1)
  · have hu := hu.1 hP
    subst hu
    show kR 4 166 _ _ _ _ _
    refine kR.i2l (by omega) (by omega) ?_
    refine kR.lst (z := 0) (by omega) rfl (by decide) (by omega) (by omega) ?_
    refine kR.g rfl ?_
    show kR 4 166 b166_17 _ _ _ _
    refine kR.s rfl rfl ?_
    refine kR.ret rfl rfl ?_
    exact ⟨fun _ => rfl, fun z => absurd hP z⟩
  · have hu := hu.2 hP
    subst hu
    show kR 4 166 b166_13 _ _ _ _
    refine kR.s rfl rfl ?_
    refine kR.s rfl rfl ?_
    refine kR.ret rfl rfl ?_
    exact ⟨fun z => absurd z hP, fun _ => rfl⟩
theorem c_167 {E : Nat → kC} {S : Nat → Nat → Int} {n : Int} (r_n : -2147483648 ≤ n ∧ n < 2147483648) (h5 : 0 ≤ S 10 5 ∧ S 10 5 ≤ 60) (hK : ∀ j : Nat, (j : Int) < S 10 5 → 0 ≤ S 11 j ∧ S 11 j ≤ 5) : kR 4 167 (blk 167 0) (kent 167 [.ref 0, .int (Int32.ofInt n), .ref 52]) [] ((53, 0), hp 53 E S) (fun r => (((0 ≤ n ∧ n < S 10 5) ∧ (S 11 n.toNat = 2 ∨ S 11 n.toNat = 1)) → r = (.inl (some (.int (Int32.ofInt 0))), ((53, 0), hp 53 E (ku S 52 0 (S 13 n.toNat))))) ∧ (¬ ((0 ≤ n ∧ n < S 10 5) ∧ (S 11 n.toNat = 2 ∨ S 11 n.toNat = 1)) → r = (.inl (some (.int (Int32.ofInt 1))), knew ((53, 0), hp 53 E S) 30 6 (fun _ => .null)))) := by
  have hm : 53 ≤ 53 ∧ 53 ≤ 57 := by omega
  show kR 4 167 b167_0 _ _ _ _
  refine kR.s rfl rfl ?_
  refine kR.s rfl rfl ?_
  refine kR.s rfl rfl ?_
  refine kR.s rfl rfl ?_
  refine kR.c (kargs_m hm (by decide) rfl) rfl (kR.up (c_9 r_n h5 hK) (by decide)) (fun u hu => ?_)
  by_cases hP : ((0 ≤ n ∧ n < S 10 5) ∧ (S 11 n.toNat = 2 ∨ S 11 n.toNat = 1))
  · have hu := hu.1 hP
    subst hu
    show kR 4 167 _ _ _ _ _
    refine kR.lst (z := 0) (by omega) rfl (by decide) (by omega) (by omega) ?_
    refine kR.g rfl ?_
    show kR 4 167 b167_14 _ _ _ _
    refine kR.s rfl rfl ?_
    refine kR.ret rfl rfl ?_
    exact ⟨fun _ => rfl, fun z => absurd hP z⟩
  · have hu := hu.2 hP
    subst hu
    show kR 4 167 b167_11 _ _ _ _
    refine kR.s rfl rfl ?_
    refine kR.s rfl rfl ?_
    refine kR.ret rfl rfl ?_
    exact ⟨fun z => absurd z hP, fun _ => rfl⟩
theorem k_c1 {w : Bool} {c s L i : Nat} {xs : Nat → Int32} {S : Nat → Nat → Int} {h : kH} {Q : kO × kH → Prop} {v5 v6 v7 : Value} (hW : kW w c s (kext L xs) S h) (hc : 100 + c ≤ 1000000) (hL : L ≤ 2048) (hi : i + 4 ≤ L) {A B : Int} {S1 S2 : Nat → Nat → Int} (k1 : kR 99 3 (blk 3 0) (kent 3 [.ref 0]) [] ((53, 0), hp 53 (kext L xs) S) (fun r => r = (.inl (some (.int (Int32.ofInt A))), ((53, 0), hp 53 (kext L xs) S1)))) (k2 : kR 99 103 (blk 103 0) (kent 103 [.ref 30]) [] ((53, 0), hp 53 (kext L xs) S1) (fun r => r = (.inl (some (.int (Int32.ofInt B))), ((53, 0), hp 53 (kext L xs) S2)))) (hEq : A = B) (K : ∀ v5 v6 v7 h1, kW w c s (kext L xs) S2 h1 → kR 100 163 (blk 163 610) [.ref 1000000, .ref 0, .ref 30, .ref 52, .int (Int32.ofInt (i : Int)), v5, v6, v7] [] h1 Q) : kR 100 163 (blk 163 169) [.ref 1000000, .ref 0, .ref 30, .ref 52, .int (Int32.ofInt (i : Int)), v5, v6, v7] [] h Q := by
  subst hEq
  show kR 100 163 b163_169 _ _ _ _
  refine kR.s rfl rfl ?_
  refine kR.cW hW hc (by decide) rfl rfl rfl (k1) (fun u hu => by rw [hu]; exact Nat.le_of_ble_eq_true rfl) (fun u h1 hu W1 => ?_)
  subst hu
  show kR 100 163 _ _ (Value.int (Int32.ofInt A) :: _) h1 _
  refine kR.s rfl rfl ?_
  refine kR.cW W1 hc (by decide) rfl rfl rfl (k2) (fun u hu => by rw [hu]; exact Nat.le_of_ble_eq_true rfl) (fun u h2 hu W2 => ?_)
  subst hu
  show kR 100 163 _ _ (Value.int (Int32.ofInt A) :: _) h2 _
  refine kR.same ?_
  exact K _ _ _ h2 W2
theorem k_c3 {w : Bool} {c s L i : Nat} {xs : Nat → Int32} {S : Nat → Nat → Int} {h : kH} {Q : kO × kH → Prop} {v5 v6 v7 : Value} (hW : kW w c s (kext L xs) S h) (hc : 100 + c ≤ 1000000) (hL : L ≤ 2048) (hi : i + 4 ≤ L) {A B : Int} {S1 S2 : Nat → Nat → Int} (k1 : kR 99 5 (blk 5 0) (kent 5 [.ref 0, .int (Int32.ofInt (xs (i + 1)).toInt)]) [] ((53, 0), hp 53 (kext L xs) S) (fun r => r = (.inl (some (.int (Int32.ofInt A))), ((53, 0), hp 53 (kext L xs) S1)))) (k2 : kR 99 147 (blk 147 0) (kent 147 [.ref 30, .int (Int32.ofInt (xs (i + 1)).toInt)]) [] ((53, 0), hp 53 (kext L xs) S1) (fun r => r = (.inl (some (.int (Int32.ofInt B))), ((53, 0), hp 53 (kext L xs) S2)))) (hEq : A = B) (K : ∀ v5 v6 v7 h1, kW w c s (kext L xs) S2 h1 → kR 100 163 (blk 163 610) [.ref 1000000, .ref 0, .ref 30, .ref 52, .int (Int32.ofInt (i : Int)), v5, v6, v7] [] h1 Q) : kR 100 163 (blk 163 226) [.ref 1000000, .ref 0, .ref 30, .ref 52, .int (Int32.ofInt (i : Int)), v5, v6, v7] [] h Q := by
  subst hEq
  show kR 100 163 b163_226 _ _ _ _
  refine kR.s rfl rfl ?_
  refine kR.s rfl rfl ?_
  refine kR.s rfl rfl ?_
  refine kR.s rfl rfl ?_
  refine kR.add ?_
  refine kR.sx (k := i + 1) hW (by omega) hL ?_
  refine kR.cW hW hc (by decide) rfl rfl rfl (k1) (fun u hu => by rw [hu]; exact Nat.le_of_ble_eq_true rfl) (fun u h1 hu W1 => ?_)
  subst hu
  show kR 100 163 _ _ (Value.int (Int32.ofInt A) :: _) h1 _
  refine kR.s rfl rfl ?_
  refine kR.s rfl rfl ?_
  refine kR.s rfl rfl ?_
  refine kR.s rfl rfl ?_
  refine kR.add ?_
  refine kR.sx (k := i + 1) W1 (by omega) hL ?_
  refine kR.cW W1 hc (by decide) rfl rfl rfl (k2) (fun u hu => by rw [hu]; exact Nat.le_of_ble_eq_true rfl) (fun u h2 hu W2 => ?_)
  subst hu
  show kR 100 163 _ _ (Value.int (Int32.ofInt A) :: _) h2 _
  refine kR.same ?_
  exact K _ _ _ h2 W2
theorem k_c4 {w : Bool} {c s L i : Nat} {xs : Nat → Int32} {S : Nat → Nat → Int} {h : kH} {Q : kO × kH → Prop} {v5 v6 v7 : Value} (hW : kW w c s (kext L xs) S h) (hc : 100 + c ≤ 1000000) (hL : L ≤ 2048) (hi : i + 4 ≤ L) {A B : Int} {S1 S2 : Nat → Nat → Int} (k1 : kR 99 6 (blk 6 0) (kent 6 [.ref 0, .int (Int32.ofInt (xs (i + 1)).toInt)]) [] ((53, 0), hp 53 (kext L xs) S) (fun r => r = (.inl (some (.int (Int32.ofInt A))), ((53, 0), hp 53 (kext L xs) S1)))) (k2 : kR 99 148 (blk 148 0) (kent 148 [.ref 30, .int (Int32.ofInt (xs (i + 1)).toInt)]) [] ((53, 0), hp 53 (kext L xs) S1) (fun r => r = (.inl (some (.int (Int32.ofInt B))), ((53, 0), hp 53 (kext L xs) S2)))) (hEq : A = B) (K : ∀ v5 v6 v7 h1, kW w c s (kext L xs) S2 h1 → kR 100 163 (blk 163 610) [.ref 1000000, .ref 0, .ref 30, .ref 52, .int (Int32.ofInt (i : Int)), v5, v6, v7] [] h1 Q) : kR 100 163 (blk 163 251) [.ref 1000000, .ref 0, .ref 30, .ref 52, .int (Int32.ofInt (i : Int)), v5, v6, v7] [] h Q := by
  subst hEq
  show kR 100 163 b163_251 _ _ _ _
  refine kR.s rfl rfl ?_
  refine kR.s rfl rfl ?_
  refine kR.s rfl rfl ?_
  refine kR.s rfl rfl ?_
  refine kR.add ?_
  refine kR.sx (k := i + 1) hW (by omega) hL ?_
  refine kR.cW hW hc (by decide) rfl rfl rfl (k1) (fun u hu => by rw [hu]; exact Nat.le_of_ble_eq_true rfl) (fun u h1 hu W1 => ?_)
  subst hu
  show kR 100 163 _ _ (Value.int (Int32.ofInt A) :: _) h1 _
  refine kR.s rfl rfl ?_
  refine kR.s rfl rfl ?_
  refine kR.s rfl rfl ?_
  refine kR.s rfl rfl ?_
  refine kR.add ?_
  refine kR.sx (k := i + 1) W1 (by omega) hL ?_
  refine kR.cW W1 hc (by decide) rfl rfl rfl (k2) (fun u hu => by rw [hu]; exact Nat.le_of_ble_eq_true rfl) (fun u h2 hu W2 => ?_)
  subst hu
  show kR 100 163 _ _ (Value.int (Int32.ofInt A) :: _) h2 _
  refine kR.same ?_
  exact K _ _ _ h2 W2
theorem k_c8 {w : Bool} {c s L i : Nat} {xs : Nat → Int32} {S : Nat → Nat → Int} {h : kH} {Q : kO × kH → Prop} {v5 v6 v7 : Value} (hW : kW w c s (kext L xs) S h) (hc : 100 + c ≤ 1000000) (hL : L ≤ 2048) (hi : i + 4 ≤ L) {A B : Int} {S1 S2 : Nat → Nat → Int} (k1 : kR 99 10 (blk 10 0) (kent 10 [.ref 0, .int (Int32.ofInt (xs (i + 1)).toInt), .int (Int32.ofInt (xs (i + 2)).toInt)]) [] ((53, 0), hp 53 (kext L xs) S) (fun r => r = (.inl (some (.int (Int32.ofInt A))), ((53, 0), hp 53 (kext L xs) S1)))) (k2 : kR 99 153 (blk 153 0) (kent 153 [.ref 30, .int (Int32.ofInt (xs (i + 1)).toInt), .int (Int32.ofInt (xs (i + 2)).toInt)]) [] ((53, 0), hp 53 (kext L xs) S1) (fun r => r = (.inl (some (.int (Int32.ofInt B))), ((53, 0), hp 53 (kext L xs) S2)))) (hEq : A = B) (K : ∀ v5 v6 v7 h1, kW w c s (kext L xs) S2 h1 → kR 100 163 (blk 163 610) [.ref 1000000, .ref 0, .ref 30, .ref 52, .int (Int32.ofInt (i : Int)), v5, v6, v7] [] h1 Q) : kR 100 163 (blk 163 467) [.ref 1000000, .ref 0, .ref 30, .ref 52, .int (Int32.ofInt (i : Int)), v5, v6, v7] [] h Q := by
  subst hEq
  show kR 100 163 b163_467 _ _ _ _
  refine kR.s rfl rfl ?_
  refine kR.s rfl rfl ?_
  refine kR.s rfl rfl ?_
  refine kR.s rfl rfl ?_
  refine kR.add ?_
  refine kR.sx (k := i + 1) hW (by omega) hL ?_
  refine kR.s rfl rfl ?_
  refine kR.s rfl rfl ?_
  refine kR.s rfl rfl ?_
  refine kR.add ?_
  refine kR.sx (k := i + 2) hW (by omega) hL ?_
  refine kR.cW hW hc (by decide) rfl rfl rfl (k1) (fun u hu => by rw [hu]; exact Nat.le_of_ble_eq_true rfl) (fun u h1 hu W1 => ?_)
  subst hu
  show kR 100 163 _ _ (Value.int (Int32.ofInt A) :: _) h1 _
  refine kR.s rfl rfl ?_
  refine kR.s rfl rfl ?_
  refine kR.s rfl rfl ?_
  refine kR.s rfl rfl ?_
  refine kR.add ?_
  refine kR.sx (k := i + 1) W1 (by omega) hL ?_
  refine kR.s rfl rfl ?_
  refine kR.s rfl rfl ?_
  refine kR.s rfl rfl ?_
  refine kR.add ?_
  refine kR.sx (k := i + 2) W1 (by omega) hL ?_
  refine kR.cW W1 hc (by decide) rfl rfl rfl (k2) (fun u hu => by rw [hu]; exact Nat.le_of_ble_eq_true rfl) (fun u h2 hu W2 => ?_)
  subst hu
  show kR 100 163 _ _ (Value.int (Int32.ofInt A) :: _) h2 _
  refine kR.same ?_
  exact K _ _ _ h2 W2
theorem k_c9 {w : Bool} {c s L i : Nat} {xs : Nat → Int32} {S : Nat → Nat → Int} {h : kH} {Q : kO × kH → Prop} {v5 v6 v7 : Value} (hW : kW w c s (kext L xs) S h) (hc : 100 + c ≤ 1000000) (hL : L ≤ 2048) (hi : i + 4 ≤ L) {A B : Int} {S1 S2 : Nat → Nat → Int} (k1 : kR 99 11 (blk 11 0) (kent 11 [.ref 0, .int (Int32.ofInt (xs (i + 1)).toInt), .int (Int32.ofInt (xs (i + 2)).toInt)]) [] ((53, 0), hp 53 (kext L xs) S) (fun r => r = (.inl (some (.int (Int32.ofInt A))), ((53, 0), hp 53 (kext L xs) S1)))) (k2 : kR 99 154 (blk 154 0) (kent 154 [.ref 30, .int (Int32.ofInt (xs (i + 1)).toInt), .int (Int32.ofInt (xs (i + 2)).toInt)]) [] ((53, 0), hp 53 (kext L xs) S1) (fun r => r = (.inl (some (.int (Int32.ofInt B))), ((53, 0), hp 53 (kext L xs) S2)))) (hEq : A = B) (K : ∀ v5 v6 v7 h1, kW w c s (kext L xs) S2 h1 → kR 100 163 (blk 163 610) [.ref 1000000, .ref 0, .ref 30, .ref 52, .int (Int32.ofInt (i : Int)), v5, v6, v7] [] h1 Q) : kR 100 163 (blk 163 504) [.ref 1000000, .ref 0, .ref 30, .ref 52, .int (Int32.ofInt (i : Int)), v5, v6, v7] [] h Q := by
  subst hEq
  show kR 100 163 b163_504 _ _ _ _
  refine kR.s rfl rfl ?_
  refine kR.s rfl rfl ?_
  refine kR.s rfl rfl ?_
  refine kR.s rfl rfl ?_
  refine kR.add ?_
  refine kR.sx (k := i + 1) hW (by omega) hL ?_
  refine kR.s rfl rfl ?_
  refine kR.s rfl rfl ?_
  refine kR.s rfl rfl ?_
  refine kR.add ?_
  refine kR.sx (k := i + 2) hW (by omega) hL ?_
  refine kR.cW hW hc (by decide) rfl rfl rfl (k1) (fun u hu => by rw [hu]; exact Nat.le_of_ble_eq_true rfl) (fun u h1 hu W1 => ?_)
  subst hu
  show kR 100 163 _ _ (Value.int (Int32.ofInt A) :: _) h1 _
  refine kR.s rfl rfl ?_
  refine kR.s rfl rfl ?_
  refine kR.s rfl rfl ?_
  refine kR.s rfl rfl ?_
  refine kR.add ?_
  refine kR.sx (k := i + 1) W1 (by omega) hL ?_
  refine kR.s rfl rfl ?_
  refine kR.s rfl rfl ?_
  refine kR.s rfl rfl ?_
  refine kR.add ?_
  refine kR.sx (k := i + 2) W1 (by omega) hL ?_
  refine kR.cW W1 hc (by decide) rfl rfl rfl (k2) (fun u hu => by rw [hu]; exact Nat.le_of_ble_eq_true rfl) (fun u h2 hu W2 => ?_)
  subst hu
  show kR 100 163 _ _ (Value.int (Int32.ofInt A) :: _) h2 _
  refine kR.same ?_
  exact K _ _ _ h2 W2
theorem k_c11 {w : Bool} {c s L i : Nat} {xs : Nat → Int32} {S : Nat → Nat → Int} {h : kH} {Q : kO × kH → Prop} {v5 v6 v7 : Value} (hW : kW w c s (kext L xs) S h) (hc : 100 + c ≤ 1000000) (hL : L ≤ 2048) (hi : i + 4 ≤ L) {A B : Int} {S1 S2 : Nat → Nat → Int} (k1 : kR 99 13 (blk 13 0) (kent 13 [.ref 0, .int (Int32.ofInt (xs (i + 1)).toInt)]) [] ((53, 0), hp 53 (kext L xs) S) (fun r => r = (.inl (some (.int (Int32.ofInt A))), ((53, 0), hp 53 (kext L xs) S1)))) (k2 : kR 99 162 (blk 162 0) (kent 162 [.ref 30, .int (Int32.ofInt (xs (i + 1)).toInt)]) [] ((53, 0), hp 53 (kext L xs) S1) (fun r => r = (.inl (some (.int (Int32.ofInt B))), ((53, 0), hp 53 (kext L xs) S2)))) (hEq : A = B) (K : ∀ v5 v6 v7 h1, kW w c s (kext L xs) S2 h1 → kR 100 163 (blk 163 610) [.ref 1000000, .ref 0, .ref 30, .ref 52, .int (Int32.ofInt (i : Int)), v5, v6, v7] [] h1 Q) : kR 100 163 (blk 163 585) [.ref 1000000, .ref 0, .ref 30, .ref 52, .int (Int32.ofInt (i : Int)), v5, v6, v7] [] h Q := by
  subst hEq
  show kR 100 163 b163_585 _ _ _ _
  refine kR.s rfl rfl ?_
  refine kR.s rfl rfl ?_
  refine kR.s rfl rfl ?_
  refine kR.s rfl rfl ?_
  refine kR.add ?_
  refine kR.sx (k := i + 1) hW (by omega) hL ?_
  refine kR.cW hW hc (by decide) rfl rfl rfl (k1) (fun u hu => by rw [hu]; exact Nat.le_of_ble_eq_true rfl) (fun u h1 hu W1 => ?_)
  subst hu
  show kR 100 163 _ _ (Value.int (Int32.ofInt A) :: _) h1 _
  refine kR.s rfl rfl ?_
  refine kR.s rfl rfl ?_
  refine kR.s rfl rfl ?_
  refine kR.s rfl rfl ?_
  refine kR.add ?_
  refine kR.sx (k := i + 1) W1 (by omega) hL ?_
  refine kR.cW W1 hc (by decide) rfl rfl rfl (k2) (fun u hu => by rw [hu]; exact Nat.le_of_ble_eq_true rfl) (fun u h2 hu W2 => ?_)
  subst hu
  show kR 100 163 _ _ (Value.int (Int32.ofInt A) :: _) h2 _
  refine kR.same ?_
  exact K _ _ _ h2 W2
theorem k_c0 {w : Bool} {c s L i : Nat} {xs : Nat → Int32} {S : Nat → Nat → Int} {h : kH} {Q : kO × kH → Prop} {v5 v6 v7 : Value} (hW : kW w c s (kext L xs) S h) (hc : 100 + c ≤ 1000000) (hL : L ≤ 2048) (hi : i + 4 ≤ L) {A B : Int64 → Int} {S1 S2 : Int64 → Nat → Nat → Int} (k1 : ∀ a, kR 99 2 (blk 2 0) (kent 2 [.ref 0, .long a, .int (Int32.ofInt (xs (i + 3)).toInt)]) [] ((53, 0), hp 53 (kext L xs) S) (fun r => r = (.inl (some (.int (Int32.ofInt (A a)))), ((53, 0), hp 53 (kext L xs) (S1 a))))) (k2 : ∀ a, kR 99 102 (blk 102 0) (kent 102 [.ref 30, .long a, .int (Int32.ofInt (xs (i + 3)).toInt)]) [] ((53, 0), hp 53 (kext L xs) (S1 a)) (fun r => r = (.inl (some (.int (Int32.ofInt (B a)))), ((53, 0), hp 53 (kext L xs) (S2 a))))) (hEq : ∀ a, A a = B a) (K : ∀ a v5 v6 v7 h1, kW w c s (kext L xs) (S2 a) h1 → kR 100 163 (blk 163 610) [.ref 1000000, .ref 0, .ref 30, .ref 52, .int (Int32.ofInt (i : Int)), v5, v6, v7] [] h1 Q) : kR 100 163 (blk 163 100) [.ref 1000000, .ref 0, .ref 30, .ref 52, .int (Int32.ofInt (i : Int)), v5, v6, v7] [] h Q := by
  show kR 100 163 b163_100 _ _ _ _
  refine kR.s rfl rfl ?_
  refine kR.s rfl rfl ?_
  refine kR.s rfl rfl ?_
  refine kR.s rfl rfl ?_
  refine kR.add ?_
  refine kR.sx (k := i + 1) hW (by omega) hL ?_
  refine kR.s rfl rfl ?_
  refine kR.s rfl rfl ?_
  refine kR.s rfl rfl ?_
  refine kR.s rfl rfl ?_
  refine kR.s rfl rfl ?_
  refine kR.s rfl rfl ?_
  refine kR.add ?_
  refine kR.sx (k := i + 2) hW (by omega) hL ?_
  refine kR.s rfl rfl ?_
  refine kR.s rfl rfl ?_
  refine kR.s rfl rfl ?_
  refine kR.s rfl rfl ?_
  refine kR.s rfl rfl ?_
  refine kR.s rfl rfl ?_
  refine kR.s rfl rfl ?_
  refine kR.add ?_
  refine kR.sx (k := i + 3) hW (by omega) hL ?_
  refine kR.cW hW hc (by decide) rfl rfl rfl (k1 _) (fun u hu => by rw [hu]; exact Nat.le_of_ble_eq_true rfl) (fun u h1 hu W1 => ?_)
  subst hu
  show kR 100 163 _ _ (Value.int (Int32.ofInt _) :: _) h1 _
  refine kR.s rfl rfl ?_
  refine kR.s rfl rfl ?_
  refine kR.s rfl rfl ?_
  refine kR.s rfl rfl ?_
  refine kR.add ?_
  refine kR.sx (k := i + 1) W1 (by omega) hL ?_
  refine kR.s rfl rfl ?_
  refine kR.s rfl rfl ?_
  refine kR.s rfl rfl ?_
  refine kR.s rfl rfl ?_
  refine kR.s rfl rfl ?_
  refine kR.s rfl rfl ?_
  refine kR.add ?_
  refine kR.sx (k := i + 2) W1 (by omega) hL ?_
  refine kR.s rfl rfl ?_
  refine kR.s rfl rfl ?_
  refine kR.s rfl rfl ?_
  refine kR.s rfl rfl ?_
  refine kR.s rfl rfl ?_
  refine kR.s rfl rfl ?_
  refine kR.s rfl rfl ?_
  refine kR.add ?_
  refine kR.sx (k := i + 3) W1 (by omega) hL ?_
  refine kR.cW W1 hc (by decide) rfl rfl rfl (k2 _) (fun u hu => by rw [hu]; exact Nat.le_of_ble_eq_true rfl) (fun u h2 hu W2 => ?_)
  subst hu
  show kR 100 163 _ _ (Value.int (Int32.ofInt (B _)) :: Value.int (Int32.ofInt (A _)) :: _) h2 _
  rw [hEq]
  refine kR.same ?_
  exact K _ _ _ _ h2 W2
theorem k_c2 {w : Bool} {c s L i : Nat} {xs : Nat → Int32} {S : Nat → Nat → Int} {h : kH} {Q : kO × kH → Prop} {v5 v6 v7 : Value} (hW : kW w c s (kext L xs) S h) (hc : 100 + c ≤ 1000000) (hL : L ≤ 2048) (hi : i + 4 ≤ L) {Q1 : kO × kH → Prop} (k1 : kR 99 164 (blk 164 0) (kent 164 [.ref 0, .ref 52]) [] ((53, 0), hp 53 (kext L xs) S) Q1) (hN : ∀ u, Q1 u → u.2.1.1 ≤ 100) (hQ : ∀ u h1, Q1 u → kG (kpi w c) 53 c s u.2 h1 → ∃ (k : Int) (w1 : Bool) (c1 s1 : Nat) (S1 S2 : Nat → Nat → Int) (b : Int), (k = 0 ∨ k = 1) ∧ u.1 = .inl (some (.int (Int32.ofInt k))) ∧ 100 + c1 ≤ 1000000 ∧ kW w1 c1 s1 (kext L xs) S1 h1 ∧ kR 99 145 (blk 145 0) (kent 145 [.ref 30]) [] ((53, 0), hp 53 (kext L xs) S1) (fun r => r = (.inl (some (.int (Int32.ofInt b))), ((53, 0), hp 53 (kext L xs) S2))) ∧ S2 30 0 = k ∧ (k = 0 → S2 52 0 = b ∧ -2147483648 ≤ b ∧ b < 2147483648) ∧ ∀ v5 v6 v7 h2, kW w1 c1 s1 (kext L xs) S2 h2 → kR 100 163 (blk 163 610) [.ref 1000000, .ref 0, .ref 30, .ref 52, .int (Int32.ofInt (i : Int)), v5, v6, v7] [] h2 Q) : kR 100 163 (blk 163 182) [.ref 1000000, .ref 0, .ref 30, .ref 52, .int (Int32.ofInt (i : Int)), v5, v6, v7] [] h Q := by
  show kR 100 163 b163_182 _ _ _ _
  refine kR.s rfl rfl ?_
  refine kR.s rfl rfl ?_
  refine kR.cW hW hc (by decide) rfl rfl rfl (k1) hN (fun u h1 hu W1 => ?_)
  obtain ⟨k, w1, c1, s1, S1, S2, b, hk, hu1, hc1, W2, k2, ht, hb, K⟩ := hQ u h1 hu W1
  rw [hu1]
  show kR 100 163 _ _ (Value.int (Int32.ofInt k) :: _) h1 _
  refine kR.s rfl rfl ?_
  refine kR.s rfl rfl ?_
  refine kR.cW W2 hc1 (by decide) rfl rfl rfl (k2) (fun u hu => by rw [hu]; exact Nat.le_of_ble_eq_true rfl) (fun u h3 hu W3 => ?_)
  subst hu
  show kR 100 163 _ _ (Value.int (Int32.ofInt b) :: _) h3 _
  refine kR.s rfl rfl ?_
  refine kR.s rfl rfl ?_
  refine kR.cW W3 hc1 (by decide) rfl rfl rfl (kR.up (c_100 (m := 53) ⟨by omega, by omega⟩) (by decide)) (fun u hu => by rw [hu]; exact Nat.le_of_ble_eq_true rfl) (fun u h4 hu W4 => ?_)
  subst hu
  show kR 100 163 _ _ (Value.int (Int32.ofInt (S2 30 0)) :: _) h4 _
  rw [ht]
  refine kR.s rfl rfl ?_
  refine kR.same ?_
  show kR 100 163 b163_206 _ _ _ _
  refine kR.s rfl rfl ?_
  rcases hk with rfl | rfl
  · refine kR.zne (by decide) (by decide) (fun q => absurd rfl q) (fun q => ?_)
    refine kR.s rfl rfl ?_
    refine kR.s rfl rfl ?_
    refine kR.lo W4 ?_
    obtain ⟨hb1, hb2⟩ : S2 52 0 = b ∧ -2147483648 ≤ b ∧ b < 2147483648 := hb rfl
    rw [hb1]
    refine kR.s rfl rfl ?_
    refine kR.i2l (by omega) (by omega) ?_
    refine kR.lsame ?_
    show kR 100 163 b163_223 _ _ _ _
    refine kR.g rfl ?_
    exact K _ _ _ h4 W4
  · refine kR.zne (by decide) (by decide) (fun q => ?_) (fun q => absurd q (by decide))
    show kR 100 163 b163_223 _ _ _ _
    refine kR.g rfl ?_
    exact K _ _ _ h4 W4
theorem k_c5 {w : Bool} {c s L i : Nat} {xs : Nat → Int32} {S : Nat → Nat → Int} {h : kH} {Q : kO × kH → Prop} {v5 v6 v7 : Value} (hW : kW w c s (kext L xs) S h) (hc : 100 + c ≤ 1000000) (hL : L ≤ 2048) (hi : i + 4 ≤ L) {Q1 : kO × kH → Prop} (k1 : kR 99 165 (blk 165 0) (kent 165 [.ref 0, .int (Int32.ofInt (xs (i + 1)).toInt), .int (Int32.ofInt (xs (i + 2)).toInt), .ref 52]) [] ((53, 0), hp 53 (kext L xs) S) Q1) (hN : ∀ u, Q1 u → u.2.1.1 ≤ 100) (hQ : ∀ u h1, Q1 u → kG (kpi w c) 53 c s u.2 h1 → ∃ (k : Int) (w1 : Bool) (c1 s1 : Nat) (S1 S2 : Nat → Nat → Int) (b : Int), (k = 0 ∨ k = 1) ∧ u.1 = .inl (some (.int (Int32.ofInt k))) ∧ 100 + c1 ≤ 1000000 ∧ kW w1 c1 s1 (kext L xs) S1 h1 ∧ kR 99 150 (blk 150 0) (kent 150 [.ref 30, .int (Int32.ofInt (xs (i + 1)).toInt), .int (Int32.ofInt (xs (i + 2)).toInt)]) [] ((53, 0), hp 53 (kext L xs) S1) (fun r => r = (.inl (some (.int (Int32.ofInt b))), ((53, 0), hp 53 (kext L xs) S2))) ∧ S2 30 0 = k ∧ (k = 0 → S2 52 0 = b ∧ -2147483648 ≤ b ∧ b < 2147483648) ∧ ∀ v5 v6 v7 h2, kW w1 c1 s1 (kext L xs) S2 h2 → kR 100 163 (blk 163 610) [.ref 1000000, .ref 0, .ref 30, .ref 52, .int (Int32.ofInt (i : Int)), v5, v6, v7] [] h2 Q) : kR 100 163 (blk 163 276) [.ref 1000000, .ref 0, .ref 30, .ref 52, .int (Int32.ofInt (i : Int)), v5, v6, v7] [] h Q := by
  show kR 100 163 b163_276 _ _ _ _
  refine kR.s rfl rfl ?_
  refine kR.s rfl rfl ?_
  refine kR.s rfl rfl ?_
  refine kR.s rfl rfl ?_
  refine kR.add ?_
  refine kR.sx (k := i + 1) hW (by omega) hL ?_
  refine kR.s rfl rfl ?_
  refine kR.s rfl rfl ?_
  refine kR.s rfl rfl ?_
  refine kR.add ?_
  refine kR.sx (k := i + 2) hW (by omega) hL ?_
  refine kR.s rfl rfl ?_
  refine kR.cW hW hc (by decide) rfl rfl rfl (k1) hN (fun u h1 hu W1 => ?_)
  obtain ⟨k, w1, c1, s1, S1, S2, b, hk, hu1, hc1, W2, k2, ht, hb, K⟩ := hQ u h1 hu W1
  rw [hu1]
  show kR 100 163 _ _ (Value.int (Int32.ofInt k) :: _) h1 _
  refine kR.s rfl rfl ?_
  refine kR.s rfl rfl ?_
  refine kR.s rfl rfl ?_
  refine kR.s rfl rfl ?_
  refine kR.s rfl rfl ?_
  refine kR.add ?_
  refine kR.sx (k := i + 1) W2 (by omega) hL ?_
  refine kR.s rfl rfl ?_
  refine kR.s rfl rfl ?_
  refine kR.s rfl rfl ?_
  refine kR.add ?_
  refine kR.sx (k := i + 2) W2 (by omega) hL ?_
  refine kR.cW W2 hc1 (by decide) rfl rfl rfl (k2) (fun u hu => by rw [hu]; exact Nat.le_of_ble_eq_true rfl) (fun u h3 hu W3 => ?_)
  subst hu
  show kR 100 163 _ _ (Value.int (Int32.ofInt b) :: _) h3 _
  refine kR.s rfl rfl ?_
  refine kR.s rfl rfl ?_
  refine kR.cW W3 hc1 (by decide) rfl rfl rfl (kR.up (c_100 (m := 53) ⟨by omega, by omega⟩) (by decide)) (fun u hu => by rw [hu]; exact Nat.le_of_ble_eq_true rfl) (fun u h4 hu W4 => ?_)
  subst hu
  show kR 100 163 _ _ (Value.int (Int32.ofInt (S2 30 0)) :: _) h4 _
  rw [ht]
  refine kR.s rfl rfl ?_
  refine kR.same ?_
  show kR 100 163 b163_324 _ _ _ _
  refine kR.s rfl rfl ?_
  rcases hk with rfl | rfl
  · refine kR.zne (by decide) (by decide) (fun q => absurd rfl q) (fun q => ?_)
    refine kR.s rfl rfl ?_
    refine kR.s rfl rfl ?_
    refine kR.lo W4 ?_
    obtain ⟨hb1, hb2⟩ : S2 52 0 = b ∧ -2147483648 ≤ b ∧ b < 2147483648 := hb rfl
    rw [hb1]
    refine kR.s rfl rfl ?_
    refine kR.i2l (by omega) (by omega) ?_
    refine kR.lsame ?_
    show kR 100 163 b163_341 _ _ _ _
    refine kR.g rfl ?_
    exact K _ _ _ h4 W4
  · refine kR.zne (by decide) (by decide) (fun q => ?_) (fun q => absurd q (by decide))
    show kR 100 163 b163_341 _ _ _ _
    refine kR.g rfl ?_
    exact K _ _ _ h4 W4
theorem k_c6 {w : Bool} {c s L i : Nat} {xs : Nat → Int32} {S : Nat → Nat → Int} {h : kH} {Q : kO × kH → Prop} {v5 v6 v7 : Value} (hW : kW w c s (kext L xs) S h) (hc : 100 + c ≤ 1000000) (hL : L ≤ 2048) (hi : i + 4 ≤ L) {Q1 : kO × kH → Prop} (k1 : kR 99 166 (blk 166 0) (kent 166 [.ref 0, .int (Int32.ofInt (xs (i + 1)).toInt), .int (Int32.ofInt (xs (i + 2)).toInt), .ref 52]) [] ((53, 0), hp 53 (kext L xs) S) Q1) (hN : ∀ u, Q1 u → u.2.1.1 ≤ 100) (hQ : ∀ u h1, Q1 u → kG (kpi w c) 53 c s u.2 h1 → ∃ (k : Int) (w1 : Bool) (c1 s1 : Nat) (S1 S2 : Nat → Nat → Int) (b : Int), (k = 0 ∨ k = 1) ∧ u.1 = .inl (some (.int (Int32.ofInt k))) ∧ 100 + c1 ≤ 1000000 ∧ kW w1 c1 s1 (kext L xs) S1 h1 ∧ kR 99 151 (blk 151 0) (kent 151 [.ref 30, .int (Int32.ofInt (xs (i + 1)).toInt), .int (Int32.ofInt (xs (i + 2)).toInt)]) [] ((53, 0), hp 53 (kext L xs) S1) (fun r => r = (.inl (some (.int (Int32.ofInt b))), ((53, 0), hp 53 (kext L xs) S2))) ∧ S2 30 0 = k ∧ (k = 0 → S2 52 0 = b ∧ -2147483648 ≤ b ∧ b < 2147483648) ∧ ∀ v5 v6 v7 h2, kW w1 c1 s1 (kext L xs) S2 h2 → kR 100 163 (blk 163 610) [.ref 1000000, .ref 0, .ref 30, .ref 52, .int (Int32.ofInt (i : Int)), v5, v6, v7] [] h2 Q) : kR 100 163 (blk 163 344) [.ref 1000000, .ref 0, .ref 30, .ref 52, .int (Int32.ofInt (i : Int)), v5, v6, v7] [] h Q := by
  show kR 100 163 b163_344 _ _ _ _
  refine kR.s rfl rfl ?_
  refine kR.s rfl rfl ?_
  refine kR.s rfl rfl ?_
  refine kR.s rfl rfl ?_
  refine kR.add ?_
  refine kR.sx (k := i + 1) hW (by omega) hL ?_
  refine kR.s rfl rfl ?_
  refine kR.s rfl rfl ?_
  refine kR.s rfl rfl ?_
  refine kR.add ?_
  refine kR.sx (k := i + 2) hW (by omega) hL ?_
  refine kR.s rfl rfl ?_
  refine kR.cW hW hc (by decide) rfl rfl rfl (k1) hN (fun u h1 hu W1 => ?_)
  obtain ⟨k, w1, c1, s1, S1, S2, b, hk, hu1, hc1, W2, k2, ht, hb, K⟩ := hQ u h1 hu W1
  rw [hu1]
  show kR 100 163 _ _ (Value.int (Int32.ofInt k) :: _) h1 _
  refine kR.s rfl rfl ?_
  refine kR.s rfl rfl ?_
  refine kR.s rfl rfl ?_
  refine kR.s rfl rfl ?_
  refine kR.s rfl rfl ?_
  refine kR.add ?_
  refine kR.sx (k := i + 1) W2 (by omega) hL ?_
  refine kR.s rfl rfl ?_
  refine kR.s rfl rfl ?_
  refine kR.s rfl rfl ?_
  refine kR.add ?_
  refine kR.sx (k := i + 2) W2 (by omega) hL ?_
  refine kR.cW W2 hc1 (by decide) rfl rfl rfl (k2) (fun u hu => by rw [hu]; exact Nat.le_of_ble_eq_true rfl) (fun u h3 hu W3 => ?_)
  subst hu
  show kR 100 163 _ _ (Value.int (Int32.ofInt b) :: _) h3 _
  refine kR.s rfl rfl ?_
  refine kR.s rfl rfl ?_
  refine kR.cW W3 hc1 (by decide) rfl rfl rfl (kR.up (c_100 (m := 53) ⟨by omega, by omega⟩) (by decide)) (fun u hu => by rw [hu]; exact Nat.le_of_ble_eq_true rfl) (fun u h4 hu W4 => ?_)
  subst hu
  show kR 100 163 _ _ (Value.int (Int32.ofInt (S2 30 0)) :: _) h4 _
  rw [ht]
  refine kR.s rfl rfl ?_
  refine kR.same ?_
  show kR 100 163 b163_392 _ _ _ _
  refine kR.s rfl rfl ?_
  rcases hk with rfl | rfl
  · refine kR.zne (by decide) (by decide) (fun q => absurd rfl q) (fun q => ?_)
    refine kR.s rfl rfl ?_
    refine kR.s rfl rfl ?_
    refine kR.lo W4 ?_
    obtain ⟨hb1, hb2⟩ : S2 52 0 = b ∧ -2147483648 ≤ b ∧ b < 2147483648 := hb rfl
    rw [hb1]
    refine kR.s rfl rfl ?_
    refine kR.i2l (by omega) (by omega) ?_
    refine kR.lsame ?_
    show kR 100 163 b163_409 _ _ _ _
    refine kR.g rfl ?_
    exact K _ _ _ h4 W4
  · refine kR.zne (by decide) (by decide) (fun q => ?_) (fun q => absurd q (by decide))
    show kR 100 163 b163_409 _ _ _ _
    refine kR.g rfl ?_
    exact K _ _ _ h4 W4
theorem k_c7 {w : Bool} {c s L i : Nat} {xs : Nat → Int32} {S : Nat → Nat → Int} {h : kH} {Q : kO × kH → Prop} {v5 v6 v7 : Value} (hW : kW w c s (kext L xs) S h) (hc : 100 + c ≤ 1000000) (hL : L ≤ 2048) (hi : i + 4 ≤ L) {Q1 : kO × kH → Prop} (k1 : kR 99 167 (blk 167 0) (kent 167 [.ref 0, .int (Int32.ofInt (xs (i + 1)).toInt), .ref 52]) [] ((53, 0), hp 53 (kext L xs) S) Q1) (hN : ∀ u, Q1 u → u.2.1.1 ≤ 100) (hQ : ∀ u h1, Q1 u → kG (kpi w c) 53 c s u.2 h1 → ∃ (k : Int) (w1 : Bool) (c1 s1 : Nat) (S1 S2 : Nat → Nat → Int) (b : Int), (k = 0 ∨ k = 1) ∧ u.1 = .inl (some (.int (Int32.ofInt k))) ∧ 100 + c1 ≤ 1000000 ∧ kW w1 c1 s1 (kext L xs) S1 h1 ∧ kR 99 152 (blk 152 0) (kent 152 [.ref 30, .int (Int32.ofInt (xs (i + 1)).toInt)]) [] ((53, 0), hp 53 (kext L xs) S1) (fun r => r = (.inl (some (.long (Int64.ofInt b))), ((53, 0), hp 53 (kext L xs) S2))) ∧ S2 30 0 = k ∧ (k = 0 → S2 52 0 = b) ∧ ∀ v5 v6 v7 h2, kW w1 c1 s1 (kext L xs) S2 h2 → kR 100 163 (blk 163 610) [.ref 1000000, .ref 0, .ref 30, .ref 52, .int (Int32.ofInt (i : Int)), v5, v6, v7] [] h2 Q) : kR 100 163 (blk 163 412) [.ref 1000000, .ref 0, .ref 30, .ref 52, .int (Int32.ofInt (i : Int)), v5, v6, v7] [] h Q := by
  show kR 100 163 b163_412 _ _ _ _
  refine kR.s rfl rfl ?_
  refine kR.s rfl rfl ?_
  refine kR.s rfl rfl ?_
  refine kR.s rfl rfl ?_
  refine kR.add ?_
  refine kR.sx (k := i + 1) hW (by omega) hL ?_
  refine kR.s rfl rfl ?_
  refine kR.cW hW hc (by decide) rfl rfl rfl (k1) hN (fun u h1 hu W1 => ?_)
  obtain ⟨k, w1, c1, s1, S1, S2, b, hk, hu1, hc1, W2, k2, ht, hb, K⟩ := hQ u h1 hu W1
  rw [hu1]
  show kR 100 163 _ _ (Value.int (Int32.ofInt k) :: _) h1 _
  refine kR.s rfl rfl ?_
  refine kR.s rfl rfl ?_
  refine kR.s rfl rfl ?_
  refine kR.s rfl rfl ?_
  refine kR.s rfl rfl ?_
  refine kR.add ?_
  refine kR.sx (k := i + 1) W2 (by omega) hL ?_
  refine kR.cW W2 hc1 (by decide) rfl rfl rfl (k2) (fun u hu => by rw [hu]; exact Nat.le_of_ble_eq_true rfl) (fun u h3 hu W3 => ?_)
  subst hu
  show kR 100 163 _ _ (Value.long (Int64.ofInt b) :: _) h3 _
  refine kR.s rfl rfl ?_
  refine kR.s rfl rfl ?_
  refine kR.cW W3 hc1 (by decide) rfl rfl rfl (kR.up (c_100 (m := 53) ⟨by omega, by omega⟩) (by decide)) (fun u hu => by rw [hu]; exact Nat.le_of_ble_eq_true rfl) (fun u h4 hu W4 => ?_)
  subst hu
  show kR 100 163 _ _ (Value.int (Int32.ofInt (S2 30 0)) :: _) h4 _
  rw [ht]
  refine kR.s rfl rfl ?_
  refine kR.same ?_
  show kR 100 163 b163_448 _ _ _ _
  refine kR.s rfl rfl ?_
  rcases hk with rfl | rfl
  · refine kR.zne (by decide) (by decide) (fun q => absurd rfl q) (fun q => ?_)
    refine kR.s rfl rfl ?_
    refine kR.s rfl rfl ?_
    refine kR.lo W4 ?_
    have hb1 : S2 52 0 = b := hb rfl
    rw [hb1]
    refine kR.s rfl rfl ?_
    refine kR.lsame ?_
    show kR 100 163 b163_464 _ _ _ _
    refine kR.g rfl ?_
    exact K _ _ _ h4 W4
  · refine kR.zne (by decide) (by decide) (fun q => ?_) (fun q => absurd q (by decide))
    show kR 100 163 b163_464 _ _ _ _
    refine kR.g rfl ?_
    exact K _ _ _ h4 W4
theorem k_c10 {w : Bool} {c s L i : Nat} {xs : Nat → Int32} {S : Nat → Nat → Int} {h : kH} {Q : kO × kH → Prop} {v5 v6 v7 : Value} (hW : kW w c s (kext L xs) S h) (hc : 100 + c ≤ 1000000) (hL : L ≤ 2048) (hi : i + 4 ≤ L) {Q1 : kO × kH → Prop} (k1 : kR 99 168 (blk 168 0) (kent 168 [.ref 0, .ref 52]) [] ((53, 0), hp 53 (kext L xs) S) Q1) (hN : ∀ u, Q1 u → u.2.1.1 ≤ 100) (hQ : ∀ u h1, Q1 u → kG (kpi w c) 53 c s u.2 h1 → ∃ (k : Int) (w1 : Bool) (c1 s1 : Nat) (S1 S2 : Nat → Nat → Int) (b : Int), (k = 0 ∨ k = 1) ∧ u.1 = .inl (some (.int (Int32.ofInt k))) ∧ 100 + c1 ≤ 1000000 ∧ kW w1 c1 s1 (kext L xs) S1 h1 ∧ kR 99 161 (blk 161 0) (kent 161 [.ref 30]) [] ((53, 0), hp 53 (kext L xs) S1) (fun r => r = (.inl (some (.int (Int32.ofInt b))), ((53, 0), hp 53 (kext L xs) S2))) ∧ S2 30 0 = k ∧ (k = 0 → S2 52 0 = b ∧ -2147483648 ≤ b ∧ b < 2147483648) ∧ ∀ v5 v6 v7 h2, kW w1 c1 s1 (kext L xs) S2 h2 → kR 100 163 (blk 163 610) [.ref 1000000, .ref 0, .ref 30, .ref 52, .int (Int32.ofInt (i : Int)), v5, v6, v7] [] h2 Q) : kR 100 163 (blk 163 541) [.ref 1000000, .ref 0, .ref 30, .ref 52, .int (Int32.ofInt (i : Int)), v5, v6, v7] [] h Q := by
  show kR 100 163 b163_541 _ _ _ _
  refine kR.s rfl rfl ?_
  refine kR.s rfl rfl ?_
  refine kR.cW hW hc (by decide) rfl rfl rfl (k1) hN (fun u h1 hu W1 => ?_)
  obtain ⟨k, w1, c1, s1, S1, S2, b, hk, hu1, hc1, W2, k2, ht, hb, K⟩ := hQ u h1 hu W1
  rw [hu1]
  show kR 100 163 _ _ (Value.int (Int32.ofInt k) :: _) h1 _
  refine kR.s rfl rfl ?_
  refine kR.s rfl rfl ?_
  refine kR.cW W2 hc1 (by decide) rfl rfl rfl (k2) (fun u hu => by rw [hu]; exact Nat.le_of_ble_eq_true rfl) (fun u h3 hu W3 => ?_)
  subst hu
  show kR 100 163 _ _ (Value.int (Int32.ofInt b) :: _) h3 _
  refine kR.s rfl rfl ?_
  refine kR.s rfl rfl ?_
  refine kR.cW W3 hc1 (by decide) rfl rfl rfl (kR.up (c_100 (m := 53) ⟨by omega, by omega⟩) (by decide)) (fun u hu => by rw [hu]; exact Nat.le_of_ble_eq_true rfl) (fun u h4 hu W4 => ?_)
  subst hu
  show kR 100 163 _ _ (Value.int (Int32.ofInt (S2 30 0)) :: _) h4 _
  rw [ht]
  refine kR.s rfl rfl ?_
  refine kR.same ?_
  show kR 100 163 b163_565 _ _ _ _
  refine kR.s rfl rfl ?_
  rcases hk with rfl | rfl
  · refine kR.zne (by decide) (by decide) (fun q => absurd rfl q) (fun q => ?_)
    refine kR.s rfl rfl ?_
    refine kR.s rfl rfl ?_
    refine kR.lo W4 ?_
    obtain ⟨hb1, hb2⟩ : S2 52 0 = b ∧ -2147483648 ≤ b ∧ b < 2147483648 := hb rfl
    rw [hb1]
    refine kR.s rfl rfl ?_
    refine kR.i2l (by omega) (by omega) ?_
    refine kR.lsame ?_
    show kR 100 163 b163_582 _ _ _ _
    refine kR.g rfl ?_
    exact K _ _ _ h4 W4
  · refine kR.zne (by decide) (by decide) (fun q => ?_) (fun q => absurd q (by decide))
    show kR 100 163 b163_582 _ _ _ _
    refine kR.g rfl ?_
    exact K _ _ _ h4 W4
theorem k_head {w : Bool} {c s L i : Nat} {xs : Nat → Int32} {S : Nat → Nat → Int} {h : kH} {Q : kO × kH → Prop} {v5 v6 v7 : Value} (hW : kW w c s (kext L xs) S h) (hL : L ≤ 2048) (hi : i ≤ L) (hx : L < i + 4 → Q (.inl (some (.int 1)), h)) (hk : i + 4 ≤ L → ∀ t ∈ [100, 169, 182, 226, 251, 276, 344, 412, 467, 504, 541, 585, 610], kR 100 163 (blk 163 t) [.ref 1000000, .ref 0, .ref 30, .ref 52, .int (Int32.ofInt (i : Int)), v5, v6, v7] [] h Q) : kR 100 163 (blk 163 23) [.ref 1000000, .ref 0, .ref 30, .ref 52, .int (Int32.ofInt (i : Int)), v5, v6, v7] [] h Q := by
  show kR 100 163 b163_23 _ _ _ _
  refine kR.s rfl rfl ?_
  refine kR.s rfl rfl ?_
  refine kR.xl hW ?_
  refine kR.s rfl rfl ?_
  refine kR.sub ?_
  refine kR.jgt (by omega) (by omega) (by omega) (by omega) (fun q1 => ?_) (fun q1 => ?_)
  · show kR 100 163 b163_616 _ _ _ _
    refine kR.s rfl rfl ?_
    refine kR.ret rfl rfl ?_
    exact hx (by omega)
  · refine kR.s rfl rfl ?_
    refine kR.s rfl rfl ?_
    refine kR.sx (k := i) hW (by omega) hL ?_
    refine kR.bi rfl ?_
    refine kR.s rfl rfl ?_
    have hk := hk (by omega)
    obtain ⟨k, h1, h2⟩ := kand15 (Int32.ofInt (xs i).toInt)
    show kR 100 163 _ _ (Value.int (Int32.ofInt (xs i).toInt &&& Int32.ofInt 15) :: _) h Q
    rw [h2]
    rcases (show k = 0 ∨ k = 1 ∨ k = 2 ∨ k = 3 ∨ k = 4 ∨ k = 5 ∨ k = 6 ∨ k = 7 ∨ k = 8 ∨ k = 9 ∨ k = 10 ∨ k = 11 ∨ k = 12 ∨ k = 13 ∨ k = 14 ∨ k = 15 by omega) with rfl | rfl | rfl | rfl | rfl | rfl | rfl | rfl | rfl | rfl | rfl | rfl | rfl | rfl | rfl | rfl
    all_goals (refine kR.w rfl rfl ?_; exact hk _ (by decide))
theorem k_next {i : Nat} {h : kH} {Q : kO × kH → Prop} {v5 v6 v7 : Value} (k : kR 100 163 (blk 163 23) [.ref 1000000, .ref 0, .ref 30, .ref 52, .int (Int32.ofInt ((i + 4 : Nat) : Int)), v5, v6, v7] [] h Q) : kR 100 163 (blk 163 610) [.ref 1000000, .ref 0, .ref 30, .ref 52, .int (Int32.ofInt (i : Int)), v5, v6, v7] [] h Q := by
  show kR 100 163 b163_610 _ _ _ _
  refine kR.inc rfl ?_
  refine kR.g rfl ?_
  exact k
