/-! Keys alike, the reference. By program (wip/gen/gen56.py). -/
theorem l_114 {m : Nat} {E : Nat → kC} {S : Nat → Nat → Int} {sz : Nat × Nat} (hm : 53 ≤ m ∧ m ≤ 57) {a b : Nat} (ha : a < 60) (hb : b < 60) (hda : kNd (S 34) (S 35) (S 37) (S 36) a) (hdb : kNd (S 34) (S 35) (S 37) (S 36) b) (hch : ∀ j, j < 200 → -2147483648 ≤ S 38 j ∧ S 38 j < 2147483648) (hk4 : S 34 a < 4) (e1 : S 34 a = S 34 b) (e2 : S 35 a = S 35 b) (e3 : S 37 a = S 37 b) : ∀ (j k : Nat), 200 - k = j → k ≤ 200 → (∀ i, i < k → S 38 (S 36 a + i).toNat = S 38 (S 36 b + i).toNat) → kR 0 114 (blk 114 65) [.ref 30, .int (Int32.ofInt ((a : Int))), .int (Int32.ofInt ((b : Int))), .int (Int32.ofInt (1)), .int (Int32.ofInt ((k : Int)))] [] (sz, hp m E S) (fun r => r = (.inl (some (.int (Int32.ofInt (kalk (S 34) (S 35) (S 37) (S 36) (S 38) a b)))), (sz, hp m E S))) := by
  intro j
  induction j using Nat.strongRecOn with
  | _ j ih =>
    intro k hj hk hall
    have hda0 := hda
    have hdb0 := hdb
    obtain ⟨d1, d2, d3, d4, d5, d6, d7⟩ := hda0
    obtain ⟨f1, f2, f3, f4, f5, f6, f7⟩ := hdb0
    have y1 := hch (S 36 a + (k : Int)).toNat
    have y2 := hch (S 36 b + (k : Int)).toNat
    show kR 0 114 b114_65 _ _ _ _
    refine kR.s rfl rfl ?_
    refine kR.s rfl rfl ?_
    refine kR.gr (a := 30) (b := 37) (k := 12) (by omega) rfl rfl rfl (by decide) (by decide) rfl ?_
    refine kR.s rfl rfl ?_
    refine kR.ia (a := 37) (v := S 37 a) (by omega) rfl (by decide) (by omega) (by omega) (by rfl) ?_
    refine kR.jge (by omega) (by omega) (by omega) (by omega) (fun q1 => ?_) (fun q1 => ?_)
    · skip
      show kR 0 114 b114_123 _ _ _ _
      refine kR.s rfl rfl ?_
      refine kR.ret rfl rfl ?_
      rcases kalk_o (S 34) (S 35) (S 37) (S 36) (S 38) a b with ⟨z, z1, z2, z3, z4⟩ | ⟨z, z1⟩
      · rw [z]
      · exact absurd ⟨e1, e2, e3, fun i hi => hall i (by omega)⟩ z1
    · skip
      refine kR.s rfl rfl ?_
      refine kR.zeq (by decide) (by decide) (fun q2 => absurd q2 (by decide)) (fun q2 => ?_)
      refine kR.s rfl rfl ?_
      refine kR.gr (a := 30) (b := 38) (k := 13) (by omega) rfl rfl rfl (by decide) (by decide) rfl ?_
      refine kR.s rfl rfl ?_
      refine kR.gr (a := 30) (b := 36) (k := 11) (by omega) rfl rfl rfl (by decide) (by decide) rfl ?_
      refine kR.s rfl rfl ?_
      refine kR.ia (a := 36) (v := S 36 a) (by omega) rfl (by decide) (by omega) (by omega) (by rfl) ?_
      refine kR.s rfl rfl ?_
      refine kR.add ?_
      refine kR.ia (a := 38) (v := S 38 (((S 36 a) + (k : Int)).toNat)) (by omega) rfl (by decide) (by omega) (by omega) (by rfl) ?_
      refine kR.s rfl rfl ?_
      refine kR.gr (a := 30) (b := 38) (k := 13) (by omega) rfl rfl rfl (by decide) (by decide) rfl ?_
      refine kR.s rfl rfl ?_
      refine kR.gr (a := 30) (b := 36) (k := 11) (by omega) rfl rfl rfl (by decide) (by decide) rfl ?_
      refine kR.s rfl rfl ?_
      refine kR.ia (a := 36) (v := S 36 b) (by omega) rfl (by decide) (by omega) (by omega) (by rfl) ?_
      refine kR.s rfl rfl ?_
      refine kR.add ?_
      refine kR.ia (a := 38) (v := S 38 (((S 36 b) + (k : Int)).toNat)) (by omega) rfl (by decide) (by omega) (by omega) (by rfl) ?_
      refine kR.jne (by omega) (by omega) (by omega) (by omega) (fun q3 => ?_) (fun q3 => ?_)
      · skip
        show kR 0 114 b114_115 _ _ _ _
        refine kR.s rfl rfl ?_
        refine kR.n ?_
        show kR 0 114 b114_116 _ _ _ _
        refine kR.s rfl rfl ?_
        refine kR.inc rfl ?_
        refine kR.g rfl ?_
        rcases kalk_o (S 34) (S 35) (S 37) (S 36) (S 38) a b with ⟨z, z1, z2, z3, z4⟩ | ⟨z, z1⟩
        · exact absurd (z4 k (by omega)) ‹_›
        rw [z]
        show kR 0 114 b114_65 _ _ _ _
        refine kR.s rfl rfl ?_
        refine kR.s rfl rfl ?_
        refine kR.gr (a := 30) (b := 37) (k := 12) (by omega) rfl rfl rfl (by decide) (by decide) rfl ?_
        refine kR.s rfl rfl ?_
        refine kR.ia (a := 37) (v := S 37 a) (by omega) rfl (by decide) (by omega) (by omega) (by rfl) ?_
        refine kR.jge (by omega) (by omega) (by omega) (by omega) (fun q4 => ?_) (fun q4 => ?_)
        · skip
          show kR 0 114 b114_123 _ _ _ _
          refine kR.s rfl rfl ?_
          refine kR.ret rfl rfl ?_
          rfl
        · skip
          refine kR.s rfl rfl ?_
          refine kR.zeq (by decide) (by decide) (fun q5 => ?_) (fun q5 => absurd q5 (by decide))
          show kR 0 114 b114_123 _ _ _ _
          refine kR.s rfl rfl ?_
          refine kR.ret rfl rfl ?_
          rfl
      · skip
        refine kR.s rfl rfl ?_
        refine kR.g rfl ?_
        show kR 0 114 b114_116 _ _ _ _
        refine kR.s rfl rfl ?_
        refine kR.inc rfl ?_
        refine kR.g rfl ?_
        exact ih (200 - (k + 1)) (by omega) (k + 1) rfl (by omega) (fun i hi => by rcases Nat.lt_or_ge i k with z | z; exact hall i z; rw [show i = k by omega]; assumption)
theorem c_114 {m : Nat} {E : Nat → kC} {S : Nat → Nat → Int} {sz : Nat × Nat} (hm : 53 ≤ m ∧ m ≤ 57) {a b : Nat} (ha : a < 60) (hb : b < 60) (hda : kNd (S 34) (S 35) (S 37) (S 36) a) (hdb : kNd (S 34) (S 35) (S 37) (S 36) b) (hch : ∀ j, j < 200 → -2147483648 ≤ S 38 j ∧ S 38 j < 2147483648) (hk4 : S 34 a < 4) : kR 0 114 (blk 114 0) (kent 114 [.ref 30, .int (Int32.ofInt ((a : Int))), .int (Int32.ofInt ((b : Int)))]) [] (sz, hp m E S) (fun r => r = (.inl (some (.int (Int32.ofInt (kalk (S 34) (S 35) (S 37) (S 36) (S 38) a b)))), (sz, hp m E S))) := by
  have hda0 := hda
  have hdb0 := hdb
  obtain ⟨d1, d2, d3, d4, d5, d6, d7⟩ := hda0
  obtain ⟨f1, f2, f3, f4, f5, f6, f7⟩ := hdb0
  show kR 0 114 b114_0 _ _ _ _
  refine kR.s rfl rfl ?_
  refine kR.gr (a := 30) (b := 34) (k := 9) (by omega) rfl rfl rfl (by decide) (by decide) rfl ?_
  refine kR.s rfl rfl ?_
  refine kR.ia (a := 34) (v := S 34 a) (by omega) rfl (by decide) (by omega) (by omega) (by rfl) ?_
  refine kR.s rfl rfl ?_
  refine kR.gr (a := 30) (b := 34) (k := 9) (by omega) rfl rfl rfl (by decide) (by decide) rfl ?_
  refine kR.s rfl rfl ?_
  refine kR.ia (a := 34) (v := S 34 b) (by omega) rfl (by decide) (by omega) (by omega) (by rfl) ?_
  refine kR.jne (by omega) (by omega) (by omega) (by omega) (fun q1 => ?_) (fun q1 => ?_)
  · skip
    show kR 0 114 b114_60 _ _ _ _
    refine kR.s rfl rfl ?_
    refine kR.n ?_
    show kR 0 114 b114_61 _ _ _ _
    refine kR.s rfl rfl ?_
    refine kR.s rfl rfl ?_
    refine kR.s rfl rfl ?_
    refine kR.n ?_
    rcases kalk_o (S 34) (S 35) (S 37) (S 36) (S 38) a b with ⟨z, z1, z2, z3, z4⟩ | ⟨z, z1⟩
    · exfalso; omega
    rw [z]
    show kR 0 114 b114_65 _ _ _ _
    refine kR.s rfl rfl ?_
    refine kR.s rfl rfl ?_
    refine kR.gr (a := 30) (b := 37) (k := 12) (by omega) rfl rfl rfl (by decide) (by decide) rfl ?_
    refine kR.s rfl rfl ?_
    refine kR.ia (a := 37) (v := S 37 a) (by omega) rfl (by decide) (by omega) (by omega) (by rfl) ?_
    refine kR.jge (by omega) (by omega) (by omega) (by omega) (fun q2 => ?_) (fun q2 => ?_)
    · skip
      show kR 0 114 b114_123 _ _ _ _
      refine kR.s rfl rfl ?_
      refine kR.ret rfl rfl ?_
      rfl
    · skip
      refine kR.s rfl rfl ?_
      refine kR.zeq (by decide) (by decide) (fun q3 => ?_) (fun q3 => absurd q3 (by decide))
      show kR 0 114 b114_123 _ _ _ _
      refine kR.s rfl rfl ?_
      refine kR.ret rfl rfl ?_
      rfl
  · skip
    refine kR.s rfl rfl ?_
    refine kR.gr (a := 30) (b := 34) (k := 9) (by omega) rfl rfl rfl (by decide) (by decide) rfl ?_
    refine kR.s rfl rfl ?_
    refine kR.ia (a := 34) (v := S 34 a) (by omega) rfl (by decide) (by omega) (by omega) (by rfl) ?_
    refine kR.s rfl rfl ?_
    refine kR.jge (by omega) (by omega) (by omega) (by omega) (fun q4 => ?_) (fun q4 => ?_)
    · skip
      show kR 0 114 b114_60 _ _ _ _
      refine kR.s rfl rfl ?_
      refine kR.n ?_
      show kR 0 114 b114_61 _ _ _ _
      refine kR.s rfl rfl ?_
      refine kR.s rfl rfl ?_
      refine kR.s rfl rfl ?_
      refine kR.n ?_
      rcases kalk_o (S 34) (S 35) (S 37) (S 36) (S 38) a b with ⟨z, z1, z2, z3, z4⟩ | ⟨z, z1⟩
      · exfalso; omega
      rw [z]
      show kR 0 114 b114_65 _ _ _ _
      refine kR.s rfl rfl ?_
      refine kR.s rfl rfl ?_
      refine kR.gr (a := 30) (b := 37) (k := 12) (by omega) rfl rfl rfl (by decide) (by decide) rfl ?_
      refine kR.s rfl rfl ?_
      refine kR.ia (a := 37) (v := S 37 a) (by omega) rfl (by decide) (by omega) (by omega) (by rfl) ?_
      refine kR.jge (by omega) (by omega) (by omega) (by omega) (fun q5 => ?_) (fun q5 => ?_)
      · skip
        show kR 0 114 b114_123 _ _ _ _
        refine kR.s rfl rfl ?_
        refine kR.ret rfl rfl ?_
        rfl
      · skip
        refine kR.s rfl rfl ?_
        refine kR.zeq (by decide) (by decide) (fun q6 => ?_) (fun q6 => absurd q6 (by decide))
        show kR 0 114 b114_123 _ _ _ _
        refine kR.s rfl rfl ?_
        refine kR.ret rfl rfl ?_
        rfl
    · skip
      refine kR.s rfl rfl ?_
      refine kR.gr (a := 30) (b := 35) (k := 10) (by omega) rfl rfl rfl (by decide) (by decide) rfl ?_
      refine kR.s rfl rfl ?_
      refine kR.la (a := 35) (v := S 35 a) (by omega) rfl (by decide) (by omega) (by omega) (by rfl) ?_
      refine kR.s rfl rfl ?_
      refine kR.gr (a := 30) (b := 35) (k := 10) (by omega) rfl rfl rfl (by decide) (by decide) rfl ?_
      refine kR.s rfl rfl ?_
      refine kR.la (a := 35) (v := S 35 b) (by omega) rfl (by decide) (by omega) (by omega) (by rfl) ?_
      refine kR.lne (by omega) (by omega) (by omega) (by omega) (fun q7 => ?_) (fun q7 => ?_)
      · skip
        show kR 0 114 b114_60 _ _ _ _
        refine kR.s rfl rfl ?_
        refine kR.n ?_
        show kR 0 114 b114_61 _ _ _ _
        refine kR.s rfl rfl ?_
        refine kR.s rfl rfl ?_
        refine kR.s rfl rfl ?_
        refine kR.n ?_
        rcases kalk_o (S 34) (S 35) (S 37) (S 36) (S 38) a b with ⟨z, z1, z2, z3, z4⟩ | ⟨z, z1⟩
        · exfalso; omega
        rw [z]
        show kR 0 114 b114_65 _ _ _ _
        refine kR.s rfl rfl ?_
        refine kR.s rfl rfl ?_
        refine kR.gr (a := 30) (b := 37) (k := 12) (by omega) rfl rfl rfl (by decide) (by decide) rfl ?_
        refine kR.s rfl rfl ?_
        refine kR.ia (a := 37) (v := S 37 a) (by omega) rfl (by decide) (by omega) (by omega) (by rfl) ?_
        refine kR.jge (by omega) (by omega) (by omega) (by omega) (fun q8 => ?_) (fun q8 => ?_)
        · skip
          show kR 0 114 b114_123 _ _ _ _
          refine kR.s rfl rfl ?_
          refine kR.ret rfl rfl ?_
          rfl
        · skip
          refine kR.s rfl rfl ?_
          refine kR.zeq (by decide) (by decide) (fun q9 => ?_) (fun q9 => absurd q9 (by decide))
          show kR 0 114 b114_123 _ _ _ _
          refine kR.s rfl rfl ?_
          refine kR.ret rfl rfl ?_
          rfl
      · skip
        refine kR.s rfl rfl ?_
        refine kR.gr (a := 30) (b := 37) (k := 12) (by omega) rfl rfl rfl (by decide) (by decide) rfl ?_
        refine kR.s rfl rfl ?_
        refine kR.ia (a := 37) (v := S 37 a) (by omega) rfl (by decide) (by omega) (by omega) (by rfl) ?_
        refine kR.s rfl rfl ?_
        refine kR.gr (a := 30) (b := 37) (k := 12) (by omega) rfl rfl rfl (by decide) (by decide) rfl ?_
        refine kR.s rfl rfl ?_
        refine kR.ia (a := 37) (v := S 37 b) (by omega) rfl (by decide) (by omega) (by omega) (by rfl) ?_
        refine kR.jne (by omega) (by omega) (by omega) (by omega) (fun q10 => ?_) (fun q10 => ?_)
        · skip
          show kR 0 114 b114_60 _ _ _ _
          refine kR.s rfl rfl ?_
          refine kR.n ?_
          show kR 0 114 b114_61 _ _ _ _
          refine kR.s rfl rfl ?_
          refine kR.s rfl rfl ?_
          refine kR.s rfl rfl ?_
          refine kR.n ?_
          rcases kalk_o (S 34) (S 35) (S 37) (S 36) (S 38) a b with ⟨z, z1, z2, z3, z4⟩ | ⟨z, z1⟩
          · exfalso; omega
          rw [z]
          show kR 0 114 b114_65 _ _ _ _
          refine kR.s rfl rfl ?_
          refine kR.s rfl rfl ?_
          refine kR.gr (a := 30) (b := 37) (k := 12) (by omega) rfl rfl rfl (by decide) (by decide) rfl ?_
          refine kR.s rfl rfl ?_
          refine kR.ia (a := 37) (v := S 37 a) (by omega) rfl (by decide) (by omega) (by omega) (by rfl) ?_
          refine kR.jge (by omega) (by omega) (by omega) (by omega) (fun q11 => ?_) (fun q11 => ?_)
          · skip
            show kR 0 114 b114_123 _ _ _ _
            refine kR.s rfl rfl ?_
            refine kR.ret rfl rfl ?_
            rfl
          · skip
            refine kR.s rfl rfl ?_
            refine kR.zeq (by decide) (by decide) (fun q12 => ?_) (fun q12 => absurd q12 (by decide))
            show kR 0 114 b114_123 _ _ _ _
            refine kR.s rfl rfl ?_
            refine kR.ret rfl rfl ?_
            rfl
        · skip
          refine kR.s rfl rfl ?_
          refine kR.g rfl ?_
          show kR 0 114 b114_61 _ _ _ _
          refine kR.s rfl rfl ?_
          refine kR.s rfl rfl ?_
          refine kR.s rfl rfl ?_
          refine kR.n ?_
          exact l_114 hm ha hb hda hdb hch hk4 (by omega) (by omega) (by omega) 200 0 rfl (by omega) (fun i hi => by omega)
theorem l_115 {m : Nat} {E : Nat → kC} {S : Nat → Nat → Int} {sz : Nat × Nat} (hm : 53 ≤ m ∧ m ≤ 57) {b n d : Nat} (hb : b < 60) (hn : S 30 15 = (n : Int)) (hnl : n ≤ 200) (hdb : kNd (S 34) (S 35) (S 37) (S 36) b) (hch : ∀ j, j < 200 → -2147483648 ≤ S 38 j ∧ S 38 j < 2147483648) {o : Nat} (ho : S 30 29 = (o : Int)) (hol : 1 ≤ o ∧ o ≤ 9) (hd : S 44 (o - 1) = (d : Int)) (hdl : d < 60) (hen : ∀ e, e < n → 0 ≤ S 39 e ∧ S 39 e < 60 ∧ (S 39 e = (d : Int) → 0 ≤ S 40 e ∧ S 40 e < 60 ∧ S 34 (S 40 e).toNat < 4 ∧ kNd (S 34) (S 35) (S 37) (S 36) (S 40 e).toNat)) : ∀ (j k : Nat) (S1 : Nat → Nat → Int), n - k = j → k ≤ n → (∀ e, e < k → ¬ (S 39 e = (d : Int) ∧ kalk (S 34) (S 35) (S 37) (S 36) (S 38) (S 40 e).toNat b = 1)) → S1 = ku (ku S 46 (o - 1) (b : Int)) 30 19 0 → kR 1 115 (blk 115 14) [.ref 30, .int (Int32.ofInt ((b : Int))), .int (Int32.ofInt ((k : Int)))] [] (sz, hp m E S1) (fun r => r = (.inl none, (sz, hp m E (ku (ku S 46 (o - 1) (b : Int)) 30 19 (khk (S 34) (S 35) (S 37) (S 36) (S 38) (S 39) (S 40) n (d : Int) b))))) := by
  intro j
  induction j using Nat.strongRecOn with
  | _ j ih =>
    intro k S1 hj hk hall hS1
    subst hS1
    have ho1 : (o : Int) - 1 = ((o - 1 : Nat) : Int) := by omega
    have y0 := kalk_01 (S 34) (S 35) (S 37) (S 36) (S 38) (S 40 k).toNat b
    have y1 : k < n → 0 ≤ S 39 k ∧ S 39 k < 60 := fun z => ⟨(hen k z).1, (hen k z).2.1⟩
    show kR 1 115 b115_14 _ _ _ _
    refine kR.s rfl rfl ?_
    refine kR.s rfl rfl ?_
    refine kR.gi (a := 30) (k := 15) (v := (n : Int)) (by omega) rfl rfl rfl (by decide) (by decide) rfl (by exact hn) ?_
    refine kR.jge (by omega) (by omega) (by omega) (by omega) (fun q1 => ?_) (fun q1 => ?_)
    · skip
      show kR 1 115 b115_78 _ _ _ _
      refine kR.ret rfl rfl ?_
      rw [khk_no (fun e he => hall e (by omega))]
    · skip
      refine kR.s rfl rfl ?_
      refine kR.gi (a := 30) (k := 19) (v := 0) (by omega) rfl rfl rfl (by decide) (by decide) rfl (by rfl) ?_
      refine kR.zne (by decide) (by decide) (fun q2 => absurd q2 (by decide)) (fun q2 => ?_)
      refine kR.s rfl rfl ?_
      refine kR.s rfl rfl ?_
      refine kR.gr (a := 30) (b := 39) (k := 16) (by omega) rfl rfl rfl (by decide) (by decide) rfl ?_
      refine kR.s rfl rfl ?_
      refine kR.ia (a := 39) (v := S 39 k) (by omega) rfl (by decide) (by omega) (by omega) (by rfl) ?_
      refine kR.s rfl rfl ?_
      refine kR.gr (a := 30) (b := 44) (k := 31) (by omega) rfl rfl rfl (by decide) (by decide) rfl ?_
      refine kR.s rfl rfl ?_
      refine kR.gi (a := 30) (k := 29) (v := (o : Int)) (by omega) rfl rfl rfl (by decide) (by decide) rfl (by exact ho) ?_
      refine kR.s rfl rfl ?_
      refine kR.sub ?_
      rw [ho1]
      refine kR.ia (a := 44) (v := (d : Int)) (by omega) rfl (by decide) (by omega) (by omega) (by exact hd) ?_
      refine kR.jne (by omega) (by omega) (by omega) (by omega) (fun q3 => ?_) (fun q3 => ?_)
      · skip
        show kR 1 115 b115_68 _ _ _ _
        refine kR.s rfl rfl ?_
        refine kR.n ?_
        show kR 1 115 b115_69 _ _ _ _
        refine kR.pi (a := 30) (k := 19) (by omega) rfl rfl rfl (by decide) (by decide) rfl (by first | rfl | assumption | simp [kfit, *]) ?_
        refine kR.inc rfl ?_
        refine kR.g rfl ?_
        rw [ku_ku]
        refine ih (n - (k + 1)) (by omega) (k + 1) _ rfl (by omega) (fun e he => ?_) rfl
        rcases Nat.lt_or_ge e k with z | z
        · exact hall e z
        · rw [show e = k by omega]
          omega
      · skip
        refine kR.s rfl rfl ?_
        refine kR.s rfl rfl ?_
        refine kR.gr (a := 30) (b := 40) (k := 17) (by omega) rfl rfl rfl (by decide) (by decide) rfl ?_
        refine kR.s rfl rfl ?_
        refine kR.ia (a := 40) (v := S 40 k) (by omega) rfl (by decide) (by omega) (by omega) (by rfl) ?_
        refine kR.s rfl rfl ?_
        obtain ⟨w1, w2, w4, w3⟩ := (hen k (by omega)).2.2 (by omega)
        obtain ⟨c, hc⟩ : ∃ c : Nat, S 40 k = (c : Int) := ⟨(S 40 k).toNat, by omega⟩
        rw [hc]
        have hc2 : (S 40 k).toNat = c := by omega
        rw [hc2] at w3 w4 y0
        refine kR.cv (v := .int (Int32.ofInt (kalk (S 34) (S 35) (S 37) (S 36) (S 38) c b))) (kargs_m hm (by decide) rfl) rfl (kR.up (c_114 hm (S := ku (ku S 46 (o - 1) (b : Int)) 30 19 0) (by omega) hb w3 hdb hch w4) (by decide)) ?_
        refine kR.zeq (by omega) (by omega) (fun q4 => ?_) (fun q4 => ?_)
        · skip
          show kR 1 115 b115_68 _ _ _ _
          refine kR.s rfl rfl ?_
          refine kR.n ?_
          show kR 1 115 b115_69 _ _ _ _
          refine kR.pi (a := 30) (k := 19) (by omega) rfl rfl rfl (by decide) (by decide) rfl (by first | rfl | assumption | simp [kfit, *]) ?_
          refine kR.inc rfl ?_
          refine kR.g rfl ?_
          rw [ku_ku]
          refine ih (n - (k + 1)) (by omega) (k + 1) _ rfl (by omega) (fun e he => ?_) rfl
          rcases Nat.lt_or_ge e k with z | z
          · exact hall e z
          · rw [show e = k by omega]
            rw [hc2]
            omega
        · skip
          refine kR.s rfl rfl ?_
          refine kR.g rfl ?_
          show kR 1 115 b115_69 _ _ _ _
          refine kR.pi (a := 30) (k := 19) (by omega) rfl rfl rfl (by decide) (by decide) rfl (by first | rfl | assumption | simp [kfit, *]) ?_
          refine kR.inc rfl ?_
          refine kR.g rfl ?_
          rw [ku_ku]
          rw [khk_yes (e := k) (by omega) (by omega) (by rw [hc2]; omega)]
          show kR 1 115 b115_14 _ _ _ _
          refine kR.s rfl rfl ?_
          refine kR.s rfl rfl ?_
          refine kR.gi (a := 30) (k := 15) (v := (n : Int)) (by omega) rfl rfl rfl (by decide) (by decide) rfl (by exact hn) ?_
          refine kR.jge (by omega) (by omega) (by omega) (by omega) (fun q5 => ?_) (fun q5 => ?_)
          · skip
            show kR 1 115 b115_78 _ _ _ _
            refine kR.ret rfl rfl ?_
            rfl
          · skip
            refine kR.s rfl rfl ?_
            refine kR.gi (a := 30) (k := 19) (v := 1) (by omega) rfl rfl rfl (by decide) (by decide) rfl (by rfl) ?_
            refine kR.zne (by decide) (by decide) (fun q6 => ?_) (fun q6 => absurd q6 (by decide))
            show kR 1 115 b115_78 _ _ _ _
            refine kR.ret rfl rfl ?_
            rfl
theorem c_115 {m : Nat} {E : Nat → kC} {S : Nat → Nat → Int} {sz : Nat × Nat} (hm : 53 ≤ m ∧ m ≤ 57) {b n d : Nat} (hb : b < 60) (hn : S 30 15 = (n : Int)) (hnl : n ≤ 200) (hdb : kNd (S 34) (S 35) (S 37) (S 36) b) (hch : ∀ j, j < 200 → -2147483648 ≤ S 38 j ∧ S 38 j < 2147483648) {o : Nat} (ho : S 30 29 = (o : Int)) (hol : 1 ≤ o ∧ o ≤ 9) (hd : S 44 (o - 1) = (d : Int)) (hdl : d < 60) (hen : ∀ e, e < n → 0 ≤ S 39 e ∧ S 39 e < 60 ∧ (S 39 e = (d : Int) → 0 ≤ S 40 e ∧ S 40 e < 60 ∧ S 34 (S 40 e).toNat < 4 ∧ kNd (S 34) (S 35) (S 37) (S 36) (S 40 e).toNat)) (hwr : S 30 19 = 0) : kR 1 115 (blk 115 0) (kent 115 [.ref 30, .int (Int32.ofInt ((b : Int)))]) [] (sz, hp m E S) (fun r => r = (.inl none, (sz, hp m E (ku (ku S 46 (o - 1) (b : Int)) 30 19 (khk (S 34) (S 35) (S 37) (S 36) (S 38) (S 39) (S 40) n (d : Int) b))))) := by
  have ho1 : (o : Int) - 1 = ((o - 1 : Nat) : Int) := by omega
  show kR 1 115 b115_0 _ _ _ _
  refine kR.s rfl rfl ?_
  refine kR.gr (a := 30) (b := 46) (k := 33) (by omega) rfl rfl rfl (by decide) (by decide) rfl ?_
  refine kR.s rfl rfl ?_
  refine kR.gi (a := 30) (k := 29) (v := (o : Int)) (by omega) rfl rfl rfl (by decide) (by decide) rfl (by exact ho) ?_
  refine kR.s rfl rfl ?_
  refine kR.sub ?_
  rw [ho1]
  refine kR.s rfl rfl ?_
  refine kR.ist (a := 46) (by omega) rfl (by decide) (by omega) (by omega) ?_
  refine kR.s rfl rfl ?_
  refine kR.s rfl rfl ?_
  refine kR.n ?_
  exact l_115 hm hb hn hnl hdb hch ho hol hd hdl hen n 0 _ rfl (by omega) (fun e he => by omega) (ku_eta (by exact hwr)).symm
