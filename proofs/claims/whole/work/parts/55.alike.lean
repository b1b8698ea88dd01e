/-! Keys alike, both sides. By program (wip/gen/gen55.py). -/
def kNd (K N Z B : Nat → Int) (j : Nat) : Prop := 0 ≤ K j ∧ K j ≤ 5 ∧ -999999999999999999 ≤ N j ∧ N j ≤ 999999999999999999 ∧ 0 ≤ Z j ∧ 0 ≤ B j ∧ B j + Z j ≤ 200
def kalk (K N Z B C : Nat → Int) (a b : Nat) : Int := if K a = K b ∧ N a = N b ∧ Z a = Z b ∧ ∀ i, i < (Z a).toNat → C (B a + i).toNat = C (B b + i).toNat then 1 else 0
theorem kalk_o (K N Z B C : Nat → Int) (a b : Nat) : (kalk K N Z B C a b = 1 ∧ K a = K b ∧ N a = N b ∧ Z a = Z b ∧ ∀ i, i < (Z a).toNat → C (B a + i).toNat = C (B b + i).toNat) ∨ (kalk K N Z B C a b = 0 ∧ ¬ (K a = K b ∧ N a = N b ∧ Z a = Z b ∧ ∀ i, i < (Z a).toNat → C (B a + i).toNat = C (B b + i).toNat)) := by
  unfold kalk
  split
  · rename_i h; exact Or.inl ⟨rfl, h⟩
  · rename_i h; exact Or.inr ⟨rfl, h⟩
theorem kalk_01 (K N Z B C : Nat → Int) (a b : Nat) : 0 ≤ kalk K N Z B C a b ∧ kalk K N Z B C a b ≤ 1 := by
  unfold kalk
  split <;> omega
/-- some entry of the table has a key like this one -/
def khk (K N Z B C O Y : Nat → Int) (n : Nat) (t : Int) (b : Nat) : Int := if ∃ e, e < n ∧ O e = t ∧ kalk K N Z B C (Y e).toNat b = 1 then 1 else 0
theorem khk_yes {K N Z B C O Y : Nat → Int} {n : Nat} {t : Int} {b e : Nat} (h1 : e < n) (h2 : O e = t) (h3 : kalk K N Z B C (Y e).toNat b = 1) : khk K N Z B C O Y n t b = 1 := if_pos ⟨e, h1, h2, h3⟩
theorem khk_no {K N Z B C O Y : Nat → Int} {n : Nat} {t : Int} {b : Nat} (h : ∀ e, e < n → ¬ (O e = t ∧ kalk K N Z B C (Y e).toNat b = 1)) : khk K N Z B C O Y n t b = 0 := if_neg (fun ⟨e, h1, h2⟩ => h e h1 h2)
theorem c_43s {E : Nat → kC} {S : Nat → Nat → Int} {sz : Nat × Nat} {a i : Nat} (ha : a < 60) (hd : kNd (S 21) (S 23) (S 22) (S 24) a) (hi : (i : Int) < S 22 a) : kR 0 43 (blk 43 0) (kent 43 [.ref 20, .int (Int32.ofInt ((a : Int))), .int (Int32.ofInt ((i : Int)))]) [] (sz, hp 57 E S) (fun r => r = (.inl (some (.int (Int32.ofInt (S 26 (S 24 a + (i : Int)).toNat)))), (sz, hp 57 E S))) := by
  have hm : 53 ≤ 57 ∧ 57 ≤ 57 := by omega
  obtain ⟨d1, d2, d3, d4, d5, d6, d7⟩ := hd
  show kR 0 43 b43_0 _ _ _ _
  refine kR.s rfl rfl ?_
  refine kR.zlt (by omega) (by omega) (fun q1 => ?_) (fun q1 => ?_)
  · skip
    exfalso
    omega
  · skip
    refine kR.s rfl rfl ?_
    refine kR.s rfl rfl ?_
    refine kR.gr (a := 20) (b := 22) (k := 1) (by omega) rfl rfl rfl (by decide) (by decide) rfl ?_
    refine kR.s rfl rfl ?_
    refine kR.ia (a := 22) (v := S 22 a) (by omega) rfl (by decide) (by omega) (by omega) (by rfl) ?_
    refine kR.jge (by omega) (by omega) (by omega) (by omega) (fun q2 => ?_) (fun q2 => ?_)
    · skip
      exfalso
      omega
    · skip
      refine kR.s rfl rfl ?_
      refine kR.gr (a := 20) (b := 26) (k := 6) (by omega) rfl rfl rfl (by decide) (by decide) rfl ?_
      refine kR.s rfl rfl ?_
      refine kR.gr (a := 20) (b := 24) (k := 3) (by omega) rfl rfl rfl (by decide) (by decide) rfl ?_
      refine kR.s rfl rfl ?_
      refine kR.ia (a := 24) (v := S 24 a) (by omega) rfl (by decide) (by omega) (by omega) (by rfl) ?_
      refine kR.s rfl rfl ?_
      refine kR.add ?_
      refine kR.ca (a := 26) (v := S 26 (((S 24 a) + (i : Int)).toNat)) (by omega) rfl (by decide) (by omega) (by omega) (by rfl) ?_
      refine kR.g rfl ?_
      show kR 0 43 b43_31 _ _ _ _
      refine kR.ret rfl rfl ?_
      rfl
theorem l_42 {E : Nat → kC} {S : Nat → Nat → Int} {sz : Nat × Nat} {a b : Nat} (ha : a < 60) (hb : b < 60) (hda : kNd (S 21) (S 23) (S 22) (S 24) a) (hdb : kNd (S 21) (S 23) (S 22) (S 24) b) (hch : ∀ j, j < 200 → -2147483648 ≤ S 26 j ∧ S 26 j < 2147483648) (e1 : S 21 a = S 21 b) (e2 : S 23 a = S 23 b) (e3 : S 22 a = S 22 b) : ∀ (j k : Nat), 200 - k = j → k ≤ 200 → (∀ i, i < k → S 26 (S 24 a + i).toNat = S 26 (S 24 b + i).toNat) → kR 1 42 (blk 42 50) [.ref 20, .int (Int32.ofInt ((a : Int))), .int (Int32.ofInt ((b : Int))), .int (Int32.ofInt ((k : Int)))] [] (sz, hp 57 E S) (fun r => r = (.inl (some (.int (Int32.ofInt (kalk (S 21) (S 23) (S 22) (S 24) (S 26) a b)))), (sz, hp 57 E S))) := by
  have hm : 53 ≤ 57 ∧ 57 ≤ 57 := by omega
  intro j
  induction j using Nat.strongRecOn with
  | _ j ih =>
    intro k hj hk hall
    have hda0 := hda
    have hdb0 := hdb
    obtain ⟨d1, d2, d3, d4, d5, d6, d7⟩ := hda0
    obtain ⟨f1, f2, f3, f4, f5, f6, f7⟩ := hdb0
    have y1 := hch (S 24 a + (k : Int)).toNat
    have y2 := hch (S 24 b + (k : Int)).toNat
    show kR 1 42 b42_50 _ _ _ _
    refine kR.s rfl rfl ?_
    refine kR.s rfl rfl ?_
    refine kR.gr (a := 20) (b := 22) (k := 1) (by omega) rfl rfl rfl (by decide) (by decide) rfl ?_
    refine kR.s rfl rfl ?_
    refine kR.ia (a := 22) (v := S 22 a) (by omega) rfl (by decide) (by omega) (by omega) (by rfl) ?_
    refine kR.jge (by omega) (by omega) (by omega) (by omega) (fun q1 => ?_) (fun q1 => ?_)
    · skip
      show kR 1 42 b42_83 _ _ _ _
      refine kR.s rfl rfl ?_
      refine kR.ret rfl rfl ?_
      rcases kalk_o (S 21) (S 23) (S 22) (S 24) (S 26) a b with ⟨z, z1, z2, z3, z4⟩ | ⟨z, z1⟩
      · rw [z]
      · exact absurd ⟨e1, e2, e3, fun i hi => hall i (by omega)⟩ z1
    · skip
      refine kR.s rfl rfl ?_
      refine kR.s rfl rfl ?_
      refine kR.s rfl rfl ?_
      refine kR.cv (v := .int (Int32.ofInt (S 26 (S 24 a + (k : Int)).toNat))) rfl rfl (kR.up (c_43s (a := a) (i := k) (by omega) hda (by omega)) (by decide)) ?_
      refine kR.s rfl rfl ?_
      refine kR.s rfl rfl ?_
      refine kR.s rfl rfl ?_
      refine kR.cv (v := .int (Int32.ofInt (S 26 (S 24 b + (k : Int)).toNat))) rfl rfl (kR.up (c_43s (a := b) (i := k) (by omega) hdb (by omega)) (by decide)) ?_
      refine kR.jeq (by omega) (by omega) (by omega) (by omega) (fun q4 => ?_) (fun q4 => ?_)
      · skip
        show kR 1 42 b42_77 _ _ _ _
        refine kR.inc rfl ?_
        refine kR.g rfl ?_
        exact ih (200 - (k + 1)) (by omega) (k + 1) rfl (by omega) (fun i hi => by rcases Nat.lt_or_ge i k with z | z; exact hall i z; rw [show i = k by omega]; assumption)
      · skip
        refine kR.s rfl rfl ?_
        refine kR.ret rfl rfl ?_
        rcases kalk_o (S 21) (S 23) (S 22) (S 24) (S 26) a b with ⟨z, z1, z2, z3, z4⟩ | ⟨z, z1⟩
        · exact absurd (z4 k (by omega)) ‹_›
        · rw [z]
theorem c_42 {E : Nat → kC} {S : Nat → Nat → Int} {sz : Nat × Nat} {a b : Nat} (ha : a < 60) (hb : b < 60) (hda : kNd (S 21) (S 23) (S 22) (S 24) a) (hdb : kNd (S 21) (S 23) (S 22) (S 24) b) (hch : ∀ j, j < 200 → -2147483648 ≤ S 26 j ∧ S 26 j < 2147483648) : kR 1 42 (blk 42 0) (kent 42 [.ref 20, .int (Int32.ofInt ((a : Int))), .int (Int32.ofInt ((b : Int)))]) [] (sz, hp 57 E S) (fun r => r = (.inl (some (.int (Int32.ofInt (kalk (S 21) (S 23) (S 22) (S 24) (S 26) a b)))), (sz, hp 57 E S))) := by
  have hm : 53 ≤ 57 ∧ 57 ≤ 57 := by omega
  have hda0 := hda
  have hdb0 := hdb
  obtain ⟨d1, d2, d3, d4, d5, d6, d7⟩ := hda0
  obtain ⟨f1, f2, f3, f4, f5, f6, f7⟩ := hdb0
  show kR 1 42 b42_0 _ _ _ _
  refine kR.s rfl rfl ?_
  refine kR.gr (a := 20) (b := 21) (k := 0) (by omega) rfl rfl rfl (by decide) (by decide) rfl ?_
  refine kR.s rfl rfl ?_
  refine kR.ia (a := 21) (v := S 21 a) (by omega) rfl (by decide) (by omega) (by omega) (by rfl) ?_
  refine kR.s rfl rfl ?_
  refine kR.gr (a := 20) (b := 21) (k := 0) (by omega) rfl rfl rfl (by decide) (by decide) rfl ?_
  refine kR.s rfl rfl ?_
  refine kR.ia (a := 21) (v := S 21 b) (by omega) rfl (by decide) (by omega) (by omega) (by rfl) ?_
  refine kR.jne (by omega) (by omega) (by omega) (by omega) (fun q1 => ?_) (fun q1 => ?_)
  · skip
    show kR 1 42 b42_46 _ _ _ _
    refine kR.s rfl rfl ?_
    refine kR.ret rfl rfl ?_
    rcases kalk_o (S 21) (S 23) (S 22) (S 24) (S 26) a b with ⟨z, z1, z2, z3, z4⟩ | ⟨z, z1⟩
    · exfalso; omega
    · rw [z]
  · skip
    refine kR.s rfl rfl ?_
    refine kR.gr (a := 20) (b := 23) (k := 2) (by omega) rfl rfl rfl (by decide) (by decide) rfl ?_
    refine kR.s rfl rfl ?_
    refine kR.la (a := 23) (v := S 23 a) (by omega) rfl (by decide) (by omega) (by omega) (by rfl) ?_
    refine kR.s rfl rfl ?_
    refine kR.gr (a := 20) (b := 23) (k := 2) (by omega) rfl rfl rfl (by decide) (by decide) rfl ?_
    refine kR.s rfl rfl ?_
    refine kR.la (a := 23) (v := S 23 b) (by omega) rfl (by decide) (by omega) (by omega) (by rfl) ?_
    refine kR.lne (by omega) (by omega) (by omega) (by omega) (fun q2 => ?_) (fun q2 => ?_)
    · skip
      show kR 1 42 b42_46 _ _ _ _
      refine kR.s rfl rfl ?_
      refine kR.ret rfl rfl ?_
      rcases kalk_o (S 21) (S 23) (S 22) (S 24) (S 26) a b with ⟨z, z1, z2, z3, z4⟩ | ⟨z, z1⟩
      · exfalso; omega
      · rw [z]
    · skip
      refine kR.s rfl rfl ?_
      refine kR.gr (a := 20) (b := 22) (k := 1) (by omega) rfl rfl rfl (by decide) (by decide) rfl ?_
      refine kR.s rfl rfl ?_
      refine kR.ia (a := 22) (v := S 22 a) (by omega) rfl (by decide) (by omega) (by omega) (by rfl) ?_
      refine kR.s rfl rfl ?_
      refine kR.gr (a := 20) (b := 22) (k := 1) (by omega) rfl rfl rfl (by decide) (by decide) rfl ?_
      refine kR.s rfl rfl ?_
      refine kR.ia (a := 22) (v := S 22 b) (by omega) rfl (by decide) (by omega) (by omega) (by rfl) ?_
      refine kR.jeq (by omega) (by omega) (by omega) (by omega) (fun q3 => ?_) (fun q3 => ?_)
      · skip
        show kR 1 42 b42_48 _ _ _ _
        refine kR.s rfl rfl ?_
        refine kR.s rfl rfl ?_
        refine kR.n ?_
        exact l_42 ha hb hda hdb hch (by omega) (by omega) (by omega) 200 0 rfl (by omega) (fun i hi => by omega)
      · skip
        refine kR.n ?_
        show kR 1 42 b42_46 _ _ _ _
        refine kR.s rfl rfl ?_
        refine kR.ret rfl rfl ?_
        rcases kalk_o (S 21) (S 23) (S 22) (S 24) (S 26) a b with ⟨z, z1, z2, z3, z4⟩ | ⟨z, z1⟩
        · exfalso; omega
        · rw [z]
theorem l_41 {E : Nat → kC} {S : Nat → Nat → Int} {sz : Nat × Nat} {o b n : Nat} (ho : o < 60) (hb : b < 60) (hn : S 20 11 = (n : Int)) (hnl : n ≤ 200) (hdb : kNd (S 21) (S 23) (S 22) (S 24) b) (hch : ∀ j, j < 200 → -2147483648 ≤ S 26 j ∧ S 26 j < 2147483648) (hen : ∀ e, e < n → 0 ≤ S 27 e ∧ S 27 e < 60 ∧ (S 27 e = (o : Int) → 0 ≤ S 28 e ∧ S 28 e < 60 ∧ kNd (S 21) (S 23) (S 22) (S 24) (S 28 e).toNat)) : ∀ (j k : Nat), n - k = j → k ≤ n → (∀ e, e < k → ¬ (S 27 e = (o : Int) ∧ kalk (S 21) (S 23) (S 22) (S 24) (S 26) (S 28 e).toNat b = 1)) → kR 2 41 (blk 41 2) [.ref 20, .int (Int32.ofInt ((o : Int))), .int (Int32.ofInt ((b : Int))), .int (Int32.ofInt ((k : Int)))] [] (sz, hp 57 E S) (fun r => r = (.inl (some (.int (Int32.ofInt (khk (S 21) (S 23) (S 22) (S 24) (S 26) (S 27) (S 28) n (o : Int) b)))), (sz, hp 57 E S))) := by
  have hm : 53 ≤ 57 ∧ 57 ≤ 57 := by omega
  intro j
  induction j using Nat.strongRecOn with
  | _ j ih =>
    intro k hj hk hall
    have y0 := kalk_01 (S 21) (S 23) (S 22) (S 24) (S 26) (S 28 k).toNat b
    have y1 : k < n → 0 ≤ S 27 k ∧ S 27 k < 60 := fun z => ⟨(hen k z).1, (hen k z).2.1⟩
    show kR 2 41 b41_2 _ _ _ _
    refine kR.s rfl rfl ?_
    refine kR.s rfl rfl ?_
    refine kR.gi (a := 20) (k := 11) (v := (n : Int)) (by omega) rfl rfl rfl (by decide) (by decide) rfl (by exact hn) ?_
    refine kR.jge (by omega) (by omega) (by omega) (by omega) (fun q1 => ?_) (fun q1 => ?_)
    · skip
      show kR 2 41 b41_42 _ _ _ _
      refine kR.s rfl rfl ?_
      refine kR.ret rfl rfl ?_
      rw [khk_no (fun e he => hall e (by omega))]
    · skip
      refine kR.s rfl rfl ?_
      refine kR.gr (a := 20) (b := 27) (k := 8) (by omega) rfl rfl rfl (by decide) (by decide) rfl ?_
      refine kR.s rfl rfl ?_
      refine kR.ia (a := 27) (v := S 27 k) (by omega) rfl (by decide) (by omega) (by omega) (by rfl) ?_
      refine kR.s rfl rfl ?_
      refine kR.jne (by omega) (by omega) (by omega) (by omega) (fun q2 => ?_) (fun q2 => ?_)
      · skip
        show kR 2 41 b41_36 _ _ _ _
        refine kR.inc rfl ?_
        refine kR.g rfl ?_
        refine ih (n - (k + 1)) (by omega) (k + 1) rfl (by omega) (fun e he => ?_)
        rcases Nat.lt_or_ge e k with z | z
        · exact hall e z
        · rw [show e = k by omega]
          omega
      · skip
        refine kR.s rfl rfl ?_
        refine kR.s rfl rfl ?_
        refine kR.gr (a := 20) (b := 28) (k := 9) (by omega) rfl rfl rfl (by decide) (by decide) rfl ?_
        refine kR.s rfl rfl ?_
        refine kR.ia (a := 28) (v := S 28 k) (by omega) rfl (by decide) (by omega) (by omega) (by rfl) ?_
        refine kR.s rfl rfl ?_
        obtain ⟨w1, w2, w3⟩ := (hen k (by omega)).2.2 (by omega)
        obtain ⟨c, hc⟩ : ∃ c : Nat, S 28 k = (c : Int) := ⟨(S 28 k).toNat, by omega⟩
        rw [hc]
        have hc2 : (S 28 k).toNat = c := by omega
        rw [hc2] at w3 y0
        refine kR.cv (v := .int (Int32.ofInt (kalk (S 21) (S 23) (S 22) (S 24) (S 26) c b))) rfl rfl (kR.up (c_42 (by omega) hb w3 hdb hch) (by decide)) ?_
        refine kR.zeq (by omega) (by omega) (fun q3 => ?_) (fun q3 => ?_)
        · skip
          show kR 2 41 b41_36 _ _ _ _
          refine kR.inc rfl ?_
          refine kR.g rfl ?_
          refine ih (n - (k + 1)) (by omega) (k + 1) rfl (by omega) (fun e he => ?_)
          rcases Nat.lt_or_ge e k with z | z
          · exact hall e z
          · rw [show e = k by omega]
            rw [hc2]
            omega
        · skip
          refine kR.s rfl rfl ?_
          refine kR.ret rfl rfl ?_
          rw [khk_yes (e := k) (by omega) (by omega) (by rw [hc2]; omega)]
theorem c_41 {E : Nat → kC} {S : Nat → Nat → Int} {sz : Nat × Nat} {o b n : Nat} (ho : o < 60) (hb : b < 60) (hn : S 20 11 = (n : Int)) (hnl : n ≤ 200) (hdb : kNd (S 21) (S 23) (S 22) (S 24) b) (hch : ∀ j, j < 200 → -2147483648 ≤ S 26 j ∧ S 26 j < 2147483648) (hen : ∀ e, e < n → 0 ≤ S 27 e ∧ S 27 e < 60 ∧ (S 27 e = (o : Int) → 0 ≤ S 28 e ∧ S 28 e < 60 ∧ kNd (S 21) (S 23) (S 22) (S 24) (S 28 e).toNat)) : kR 2 41 (blk 41 0) (kent 41 [.ref 20, .int (Int32.ofInt ((o : Int))), .int (Int32.ofInt ((b : Int)))]) [] (sz, hp 57 E S) (fun r => r = (.inl (some (.int (Int32.ofInt (khk (S 21) (S 23) (S 22) (S 24) (S 26) (S 27) (S 28) n (o : Int) b)))), (sz, hp 57 E S))) := by
  have hm : 53 ≤ 57 ∧ 57 ≤ 57 := by omega
  show kR 2 41 b41_0 _ _ _ _
  refine kR.s rfl rfl ?_
  refine kR.s rfl rfl ?_
  refine kR.n ?_
  exact l_41 ho hb hn hnl hdb hch hen n 0 rfl (by omega) (fun e he => by omega)
theorem c_63 {E : Nat → kC} {S : Nat → Nat → Int} {sz : Nat × Nat} {o b n : Nat} (ho : o < 60) (hb : b < 60) (hn : S 20 11 = (n : Int)) (hnl : n < 200) (hdb : kNd (S 21) (S 23) (S 22) (S 24) b) (hch : ∀ j, j < 200 → -2147483648 ≤ S 26 j ∧ S 26 j < 2147483648) (hen : ∀ e, e < n → 0 ≤ S 27 e ∧ S 27 e < 60 ∧ (S 27 e = (o : Int) → 0 ≤ S 28 e ∧ S 28 e < 60 ∧ kNd (S 21) (S 23) (S 22) (S 24) (S 28 e).toNat)) {v : Nat} (hv : v < 60) : kR 3 63 (blk 63 0) (kent 63 [.ref 54, .int (Int32.ofInt ((o : Int))), .int (Int32.ofInt ((b : Int))), .int (Int32.ofInt ((v : Int)))]) [] (sz, hp 57 E S) (fun r => (khk (S 21) (S 23) (S 22) (S 24) (S 26) (S 27) (S 28) n (o : Int) b = 0 → r = (.inl none, (sz, hp 57 E (kade S o (b : Int) v n)))) ∧ (¬ khk (S 21) (S 23) (S 22) (S 24) (S 26) (S 27) (S 28) n (o : Int) b = 0 → r = (.inr sz.1, knew (sz, hp 57 E S) 30 6 (fun _ => .null)))) := by
  have hm : 53 ≤ 57 ∧ 57 ≤ 57 := by omega
  have h01 : khk (S 21) (S 23) (S 22) (S 24) (S 26) (S 27) (S 28) n (o : Int) b = 0 ∨ khk (S 21) (S 23) (S 22) (S 24) (S 26) (S 27) (S 28) n (o : Int) b = 1 := by unfold khk; split <;> simp
  show kR 3 63 b63_0 _ _ _ _
  refine kR.s rfl rfl ?_
  refine kR.gr (a := 54) (b := 20) (k := 1) (by omega) rfl rfl rfl (by decide) (by decide) rfl ?_
  refine kR.s rfl rfl ?_
  refine kR.s rfl rfl ?_
  refine kR.cv (v := .int (Int32.ofInt (khk (S 21) (S 23) (S 22) (S 24) (S 26) (S 27) (S 28) n (o : Int) b))) rfl rfl (kR.up (c_41 ho hb hn (by omega) hdb hch hen) (by decide)) ?_
  refine kR.zeq (by omega) (by omega) (fun q2 => ?_) (fun q2 => ?_)
  · skip
    show kR 3 63 b63_22 _ _ _ _
    refine kR.s rfl rfl ?_
    refine kR.gr (a := 54) (b := 20) (k := 1) (by omega) rfl rfl rfl (by decide) (by decide) rfl ?_
    refine kR.s rfl rfl ?_
    refine kR.s rfl rfl ?_
    refine kR.s rfl rfl ?_
    refine kR.c0 rfl rfl (kR.up (c_39 (k := (b : Int)) ho hv hn hnl) (by decide)) ?_
    refine kR.ret rfl rfl ?_
    exact ⟨fun _ => rfl, fun z => absurd (by omega) z⟩
  · skip
    refine kR.t rfl rfl (Nat.le_of_ble_eq_true rfl) ?_
    exact ⟨fun z => absurd z (by omega), fun _ => rfl⟩
