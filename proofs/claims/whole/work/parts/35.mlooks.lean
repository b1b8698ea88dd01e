/-! The looks of the reference. By program (wip/gen/gen34.py). -/
theorem l_149 {m : Nat} {E : Nat → kC} {S : Nat → Nat → Int} {sz : Nat × Nat} (hm : 53 ≤ m ∧ m ≤ 57) {n i : Int} (r_n : -2147483648 ≤ n ∧ n < 2147483648) (r_i : -2147483648 ≤ i ∧ i < 2147483648) (h8 : 0 ≤ S 30 8 ∧ S 30 8 ≤ 60) (hK : ∀ j : Nat, (j : Int) < S 30 8 → 0 ≤ S 34 j ∧ S 34 j ≤ 5) (h1 : 0 ≤ S 30 15 ∧ S 30 15 ≤ 200) (hS : ∀ j : Nat, j < 200 → -2147483648 ≤ S 39 j ∧ S 39 j < 2147483648) (hc : (0 ≤ n ∧ n < S 30 8) ∧ 4 ≤ S 34 n.toNat ∧ 0 ≤ i) : ∀ (j e : Nat) (l : Int), 200 - e = j → e ≤ 200 → -2147483648 - (e : Int) ≤ l → l < 2147483648 → kR 1 149 (blk 149 5) [.ref 30, .int (Int32.ofInt (n)), .int (Int32.ofInt (i)), .int (Int32.ofInt (l)), .int (Int32.ofInt ((e : Int)))] [] (sz, hp m E S) (fun r => r = (.inl (some (.int (Int32.ofInt (kfe (S 39) n (S 30 15).toNat e l)))), (sz, hp m E S))) := by
  intro j
  induction j using Nat.strongRecOn with
  | _ j ih =>
    intro e l hj he hl1 hl2
    have hS1 := hS e
    have hK1 := hK n.toNat
    show kR 1 149 b149_5 _ _ _ _
    refine kR.s rfl rfl ?_
    refine kR.s rfl rfl ?_
    refine kR.gi (k := 15) (v := S 30 15) (by omega) rfl rfl rfl (by decide) (by decide) rfl (by rfl) ?_
    refine kR.jge (by omega) (by omega) (by omega) (by omega) (fun q1 => ?_) (fun q1 => ?_)
    · skip
      show kR 1 149 b149_63 _ _ _ _
      refine kR.s rfl rfl ?_
      refine kR.ret rfl rfl ?_
      rw [kfe_end (by omega)]
    · skip
      refine kR.s rfl rfl ?_
      refine kR.s rfl rfl ?_
      refine kR.cb (P := 0 ≤ n ∧ n < S 30 8) (kargs_m hm (by decide) rfl) rfl (kR.up (c_146 hm (by omega) h8) (by decide)) (fun q2 => ?_) (fun q2 => ?_)
      · skip
        refine kR.zeq (by decide) (by decide) (fun q3 => absurd q3 (by decide)) (fun q3 => ?_)
        refine kR.s rfl rfl ?_
        refine kR.gr (k := 9) (by omega) rfl rfl rfl (by decide) (by decide) rfl ?_
        refine kR.s rfl rfl ?_
        refine kR.ia (v := S 34 n.toNat) (by omega) rfl (by decide) (by omega) (by omega) (by rfl) ?_
        refine kR.s rfl rfl ?_
        refine kR.jlt (by omega) (by omega) (by omega) (by omega) (fun q4 => ?_) (fun q4 => ?_)
        · skip
          show kR 1 149 b149_63 _ _ _ _
          refine kR.s rfl rfl ?_
          refine kR.ret rfl rfl ?_
          rw [kfe_end (by omega)]
        · skip
          refine kR.s rfl rfl ?_
          refine kR.zlt (by omega) (by omega) (fun q5 => ?_) (fun q5 => ?_)
          · skip
            show kR 1 149 b149_63 _ _ _ _
            refine kR.s rfl rfl ?_
            refine kR.ret rfl rfl ?_
            rw [kfe_end (by omega)]
          · skip
            refine kR.s rfl rfl ?_
            refine kR.gr (k := 16) (by omega) rfl rfl rfl (by decide) (by decide) rfl ?_
            refine kR.s rfl rfl ?_
            refine kR.ia (v := S 39 e) (by omega) rfl (by decide) (by omega) (by omega) (by rfl) ?_
            refine kR.s rfl rfl ?_
            refine kR.jne (by omega) (by omega) (by omega) (by omega) (fun q6 => ?_) (fun q6 => ?_)
            · skip
              show kR 1 149 b149_57 _ _ _ _
              refine kR.inc rfl ?_
              refine kR.g rfl ?_
              rw [kfe_skip (by omega) (by omega)]
              exact ih (200 - (e + 1)) (by omega) (e + 1) l rfl (by omega) (by omega) (by omega)
            · skip
              refine kR.s rfl rfl ?_
              refine kR.zneW (by omega) (by omega) (fun q7 => ?_) (fun q7 => ?_)
              · skip
                show kR 1 149 b149_54 _ _ _ _
                refine kR.inc rfl ?_
                refine kR.n ?_
                show kR 1 149 b149_57 _ _ _ _
                refine kR.inc rfl ?_
                refine kR.g rfl ?_
                rw [kfe_dec (by omega) (by omega) (by omega)]
                exact ih (200 - (e + 1)) (by omega) (e + 1) (l - 1) rfl (by omega) (by omega) (by omega)
              · skip
                refine kR.s rfl rfl ?_
                refine kR.ret rfl rfl ?_
                rw [kfe_hit (by omega) (by omega) (by omega)]
      · skip
        refine kR.zeq (by decide) (by decide) (fun q8 => ?_) (fun q8 => absurd q8 (by decide))
        show kR 1 149 b149_63 _ _ _ _
        refine kR.s rfl rfl ?_
        refine kR.ret rfl rfl ?_
        rw [kfe_end (by omega)]
theorem c_149 {m : Nat} {E : Nat → kC} {S : Nat → Nat → Int} {sz : Nat × Nat} (hm : 53 ≤ m ∧ m ≤ 57) {n i : Int} (r_n : -2147483648 ≤ n ∧ n < 2147483648) (r_i : -2147483648 ≤ i ∧ i < 2147483648) (h8 : 0 ≤ S 30 8 ∧ S 30 8 ≤ 60) (hK : ∀ j : Nat, (j : Int) < S 30 8 → 0 ≤ S 34 j ∧ S 34 j ≤ 5) (h1 : 0 ≤ S 30 15 ∧ S 30 15 ≤ 200) (hS : ∀ j : Nat, j < 200 → -2147483648 ≤ S 39 j ∧ S 39 j < 2147483648) : kR 1 149 (blk 149 0) (kent 149 [.ref 30, .int (Int32.ofInt (n)), .int (Int32.ofInt (i))]) [] (sz, hp m E S) (fun r => r = (.inl (some (.int (Int32.ofInt (if (0 ≤ n ∧ n < S 30 8) ∧ 4 ≤ S 34 n.toNat ∧ 0 ≤ i then kfe (S 39) n (S 30 15).toNat 0 i else -1)))), (sz, hp m E S))) := by
  have hK1 := hK n.toNat
  show kR 1 149 b149_0 _ _ _ _
  refine kR.s rfl rfl ?_
  refine kR.s rfl rfl ?_
  refine kR.s rfl rfl ?_
  refine kR.s rfl rfl ?_
  refine kR.n ?_
  by_cases hc : (0 ≤ n ∧ n < S 30 8) ∧ 4 ≤ S 34 n.toNat ∧ 0 ≤ i
  · rw [if_pos hc]
    exact l_149 hm r_n r_i h8 hK h1 hS hc 200 0 i rfl (by omega) (by omega) (by omega)
  rw [if_neg hc]
  show kR 1 149 b149_5 _ _ _ _
  refine kR.s rfl rfl ?_
  refine kR.s rfl rfl ?_
  refine kR.gi (k := 15) (v := S 30 15) (by omega) rfl rfl rfl (by decide) (by decide) rfl (by rfl) ?_
  refine kR.jge (by omega) (by omega) (by omega) (by omega) (fun q1 => ?_) (fun q1 => ?_)
  · skip
    show kR 1 149 b149_63 _ _ _ _
    refine kR.s rfl rfl ?_
    refine kR.ret rfl rfl ?_
    rfl
  · skip
    refine kR.s rfl rfl ?_
    refine kR.s rfl rfl ?_
    refine kR.cb (P := 0 ≤ n ∧ n < S 30 8) (kargs_m hm (by decide) rfl) rfl (kR.up (c_146 hm (by omega) h8) (by decide)) (fun q2 => ?_) (fun q2 => ?_)
    · skip
      refine kR.zeq (by decide) (by decide) (fun q3 => absurd q3 (by decide)) (fun q3 => ?_)
      refine kR.s rfl rfl ?_
      refine kR.gr (k := 9) (by omega) rfl rfl rfl (by decide) (by decide) rfl ?_
      refine kR.s rfl rfl ?_
      refine kR.ia (v := S 34 n.toNat) (by omega) rfl (by decide) (by omega) (by omega) (by rfl) ?_
      refine kR.s rfl rfl ?_
      refine kR.jlt (by omega) (by omega) (by omega) (by omega) (fun q4 => ?_) (fun q4 => ?_)
      · skip
        show kR 1 149 b149_63 _ _ _ _
        refine kR.s rfl rfl ?_
        refine kR.ret rfl rfl ?_
        rfl
      · skip
        refine kR.s rfl rfl ?_
        refine kR.zlt (by omega) (by omega) (fun q5 => ?_) (fun q5 => ?_)
        · skip
          show kR 1 149 b149_63 _ _ _ _
          refine kR.s rfl rfl ?_
          refine kR.ret rfl rfl ?_
          rfl
        · skip
          exfalso
          omega
    · skip
      refine kR.zeq (by decide) (by decide) (fun q6 => ?_) (fun q6 => absurd q6 (by decide))
      show kR 1 149 b149_63 _ _ _ _
      refine kR.s rfl rfl ?_
      refine kR.ret rfl rfl ?_
      rfl
theorem c_150 {m : Nat} {E : Nat → kC} {S : Nat → Nat → Int} {sz : Nat × Nat} (hm : 53 ≤ m ∧ m ≤ 57) {n i : Int} (r_n : -2147483648 ≤ n ∧ n < 2147483648) (r_i : -2147483648 ≤ i ∧ i < 2147483648) (h8 : 0 ≤ S 30 8 ∧ S 30 8 ≤ 60) (hK : ∀ j : Nat, (j : Int) < S 30 8 → 0 ≤ S 34 j ∧ S 34 j ≤ 5) (h1 : 0 ≤ S 30 15 ∧ S 30 15 ≤ 200) (hS : ∀ j : Nat, j < 200 → -2147483648 ≤ S 39 j ∧ S 39 j < 2147483648) : kR 2 150 (blk 150 0) (kent 150 [.ref 30, .int (Int32.ofInt (n)), .int (Int32.ofInt (i))]) [] (sz, hp m E S) (fun r => ((0 ≤ (if (0 ≤ n ∧ n < S 30 8) ∧ 4 ≤ S 34 n.toNat ∧ 0 ≤ i then kfe (S 39) n (S 30 15).toNat 0 i else -1)) → r = (.inl (some (.int (Int32.ofInt (S 41 (if (0 ≤ n ∧ n < S 30 8) ∧ 4 ≤ S 34 n.toNat ∧ 0 ≤ i then kfe (S 39) n (S 30 15).toNat 0 i else -1).toNat)))), (sz, hp m E (ku S 30 0 0)))) ∧ (¬ (0 ≤ (if (0 ≤ n ∧ n < S 30 8) ∧ 4 ≤ S 34 n.toNat ∧ 0 ≤ i then kfe (S 39) n (S 30 15).toNat 0 i else -1)) → r = (.inl (some (.int (Int32.ofInt 0))), (sz, hp m E (ku (ku S 30 0 0) 30 0 1))))) := by
  obtain ⟨v, hv⟩ : ∃ v, v = (if (0 ≤ n ∧ n < S 30 8) ∧ 4 ≤ S 34 n.toNat ∧ 0 ≤ i then kfe (S 39) n (S 30 15).toNat 0 i else -1) := ⟨_, rfl⟩
  have hz := kfe_rng (S 39) n (S 30 15).toNat i
  have hv1 : -1 ≤ v ∧ v < 200 := by rw [hv]; split <;> omega
  have c149 : kR 1 149 (blk 149 0) (kent 149 [.ref 30, .int (Int32.ofInt n), .int (Int32.ofInt i)]) [] (sz, hp m E (ku S 30 0 0)) (fun r => r = (.inl (some (.int (Int32.ofInt (if (0 ≤ n ∧ n < S 30 8) ∧ 4 ≤ S 34 n.toNat ∧ 0 ≤ i then kfe (S 39) n (S 30 15).toNat 0 i else -1)))), (sz, hp m E (ku S 30 0 0)))) := c_149 hm r_n r_i h8 hK h1 hS
  rw [← hv] at c149 ⊢
  show kR 2 150 b150_0 _ _ _ _
  refine kR.s rfl rfl ?_
  refine kR.s rfl rfl ?_
  refine kR.pi (k := 0) (by omega) rfl rfl rfl (by decide) (by decide) rfl rfl ?_
  refine kR.s rfl rfl ?_
  refine kR.s rfl rfl ?_
  refine kR.s rfl rfl ?_
  refine kR.cv (v := .int (Int32.ofInt (v))) (kargs_m hm (by decide) rfl) rfl (kR.up (c149) (by decide)) ?_
  refine kR.s rfl rfl ?_
  refine kR.s rfl rfl ?_
  refine kR.zge (by omega) (by omega) (fun q2 => ?_) (fun q2 => ?_)
  · skip
    show kR 2 150 b150_24 _ _ _ _
    refine kR.s rfl rfl ?_
    refine kR.gr (k := 18) (by omega) rfl rfl rfl (by decide) (by decide) rfl ?_
    refine kR.s rfl rfl ?_
    refine kR.ia (v := S 41 v.toNat) (by omega) rfl (by decide) (by omega) (by omega) (by rfl) ?_
    refine kR.n ?_
    show kR 2 150 b150_30 _ _ _ _
    refine kR.ret rfl rfl ?_
    first | exact ⟨fun _ => rfl, fun z => absurd (by omega) z⟩ | exact ⟨fun z => absurd z (by omega), fun _ => rfl⟩
  · skip
    refine kR.s rfl rfl ?_
    refine kR.s rfl rfl ?_
    refine kR.cv (v := .int (Int32.ofInt (0))) (kargs_m hm (by decide) rfl) rfl (kR.up (c_101 hm (by omega)) (by decide)) ?_
    refine kR.g rfl ?_
    show kR 2 150 b150_30 _ _ _ _
    refine kR.ret rfl rfl ?_
    first | exact ⟨fun _ => rfl, fun z => absurd (by omega) z⟩ | exact ⟨fun z => absurd z (by omega), fun _ => rfl⟩
theorem c_151 {m : Nat} {E : Nat → kC} {S : Nat → Nat → Int} {sz : Nat × Nat} (hm : 53 ≤ m ∧ m ≤ 57) {n i : Int} (r_n : -2147483648 ≤ n ∧ n < 2147483648) (r_i : -2147483648 ≤ i ∧ i < 2147483648) (h8 : 0 ≤ S 30 8 ∧ S 30 8 ≤ 60) (hK : ∀ j : Nat, (j : Int) < S 30 8 → 0 ≤ S 34 j ∧ S 34 j ≤ 5) (h1 : 0 ≤ S 30 15 ∧ S 30 15 ≤ 200) (hS : ∀ j : Nat, j < 200 → -2147483648 ≤ S 39 j ∧ S 39 j < 2147483648) : kR 2 151 (blk 151 0) (kent 151 [.ref 30, .int (Int32.ofInt (n)), .int (Int32.ofInt (i))]) [] (sz, hp m E S) (fun r => ((0 ≤ (if (0 ≤ n ∧ n < S 30 8) ∧ 4 ≤ S 34 n.toNat ∧ 0 ≤ i then kfe (S 39) n (S 30 15).toNat 0 i else -1) ∧ S 34 n.toNat = 5) → r = (.inl (some (.int (Int32.ofInt (S 40 (if (0 ≤ n ∧ n < S 30 8) ∧ 4 ≤ S 34 n.toNat ∧ 0 ≤ i then kfe (S 39) n (S 30 15).toNat 0 i else -1).toNat)))), (sz, hp m E (ku S 30 0 0)))) ∧ (¬ (0 ≤ (if (0 ≤ n ∧ n < S 30 8) ∧ 4 ≤ S 34 n.toNat ∧ 0 ≤ i then kfe (S 39) n (S 30 15).toNat 0 i else -1) ∧ S 34 n.toNat = 5) → r = (.inl (some (.int (Int32.ofInt 0))), (sz, hp m E (ku (ku S 30 0 0) 30 0 1))))) := by
  have hw : 0 ≤ (if (0 ≤ n ∧ n < S 30 8) ∧ 4 ≤ S 34 n.toNat ∧ 0 ≤ i then kfe (S 39) n (S 30 15).toNat 0 i else -1) → 0 ≤ n ∧ n < S 30 8 := by intro z; split at z <;> omega
  obtain ⟨v, hv⟩ : ∃ v, v = (if (0 ≤ n ∧ n < S 30 8) ∧ 4 ≤ S 34 n.toNat ∧ 0 ≤ i then kfe (S 39) n (S 30 15).toNat 0 i else -1) := ⟨_, rfl⟩
  have hz := kfe_rng (S 39) n (S 30 15).toNat i
  have hv1 : -1 ≤ v ∧ v < 200 := by rw [hv]; split <;> omega
  have c149 : kR 1 149 (blk 149 0) (kent 149 [.ref 30, .int (Int32.ofInt n), .int (Int32.ofInt i)]) [] (sz, hp m E (ku S 30 0 0)) (fun r => r = (.inl (some (.int (Int32.ofInt (if (0 ≤ n ∧ n < S 30 8) ∧ 4 ≤ S 34 n.toNat ∧ 0 ≤ i then kfe (S 39) n (S 30 15).toNat 0 i else -1)))), (sz, hp m E (ku S 30 0 0)))) := c_149 hm r_n r_i h8 hK h1 hS
  rw [← hv] at c149 ⊢
  rw [← hv] at hw
  have hK1 := hK n.toNat
  show kR 2 151 b151_0 _ _ _ _
  refine kR.s rfl rfl ?_
  refine kR.s rfl rfl ?_
  refine kR.pi (k := 0) (by omega) rfl rfl rfl (by decide) (by decide) rfl rfl ?_
  refine kR.s rfl rfl ?_
  refine kR.s rfl rfl ?_
  refine kR.s rfl rfl ?_
  refine kR.cv (v := .int (Int32.ofInt (v))) (kargs_m hm (by decide) rfl) rfl (kR.up (c149) (by decide)) ?_
  refine kR.s rfl rfl ?_
  refine kR.s rfl rfl ?_
  refine kR.zlt (by omega) (by omega) (fun q2 => ?_) (fun q2 => ?_)
  · skip
    show kR 2 151 b151_26 _ _ _ _
    refine kR.s rfl rfl ?_
    refine kR.s rfl rfl ?_
    refine kR.cv (v := .int (Int32.ofInt (0))) (kargs_m hm (by decide) rfl) rfl (kR.up (c_101 hm (by omega)) (by decide)) ?_
    refine kR.g rfl ?_
    show kR 2 151 b151_40 _ _ _ _
    refine kR.ret rfl rfl ?_
    first | exact ⟨fun _ => rfl, fun z => absurd (by omega) z⟩ | exact ⟨fun z => absurd z (by omega), fun _ => rfl⟩
  · skip
    refine kR.s rfl rfl ?_
    refine kR.gr (k := 9) (by omega) rfl rfl rfl (by decide) (by decide) rfl ?_
    refine kR.s rfl rfl ?_
    refine kR.ia (v := S 34 n.toNat) (by omega) rfl (by decide) (by omega) (by omega) (by rfl) ?_
    refine kR.s rfl rfl ?_
    refine kR.jeq (by omega) (by omega) (by omega) (by omega) (fun q4 => ?_) (fun q4 => ?_)
    · skip
      show kR 2 151 b151_34 _ _ _ _
      refine kR.s rfl rfl ?_
      refine kR.gr (k := 17) (by omega) rfl rfl rfl (by decide) (by decide) rfl ?_
      refine kR.s rfl rfl ?_
      refine kR.ia (v := S 40 v.toNat) (by omega) rfl (by decide) (by omega) (by omega) (by rfl) ?_
      refine kR.n ?_
      show kR 2 151 b151_40 _ _ _ _
      refine kR.ret rfl rfl ?_
      first | exact ⟨fun _ => rfl, fun z => absurd (by omega) z⟩ | exact ⟨fun z => absurd z (by omega), fun _ => rfl⟩
    · skip
      refine kR.n ?_
      show kR 2 151 b151_26 _ _ _ _
      refine kR.s rfl rfl ?_
      refine kR.s rfl rfl ?_
      refine kR.cv (v := .int (Int32.ofInt (0))) (kargs_m hm (by decide) rfl) rfl (kR.up (c_101 hm (by omega)) (by decide)) ?_
      refine kR.g rfl ?_
      show kR 2 151 b151_40 _ _ _ _
      refine kR.ret rfl rfl ?_
      first | exact ⟨fun _ => rfl, fun z => absurd (by omega) z⟩ | exact ⟨fun z => absurd z (by omega), fun _ => rfl⟩
theorem c_152 {m : Nat} {E : Nat → kC} {S : Nat → Nat → Int} {sz : Nat × Nat} (hm : 53 ≤ m ∧ m ≤ 57) {n : Int} (r_n : -2147483648 ≤ n ∧ n < 2147483648) (h8 : 0 ≤ S 30 8 ∧ S 30 8 ≤ 60) (hK : ∀ j : Nat, (j : Int) < S 30 8 → 0 ≤ S 34 j ∧ S 34 j ≤ 5) : kR 1 152 (blk 152 0) (kent 152 [.ref 30, .int (Int32.ofInt (n))]) [] (sz, hp m E S) (fun r => (((0 ≤ n ∧ n < S 30 8) ∧ (S 34 n.toNat = 2 ∨ S 34 n.toNat = 1)) → r = (.inl (some (.long (Int64.ofInt (S 35 n.toNat)))), (sz, hp m E (ku S 30 0 0)))) ∧ (¬ ((0 ≤ n ∧ n < S 30 8) ∧ (S 34 n.toNat = 2 ∨ S 34 n.toNat = 1)) → r = (.inl (some (.long (Int64.ofInt 0))), (sz, hp m E (ku (ku S 30 0 0) 30 0 1))))) := by
  have hK1 := hK n.toNat
  show kR 1 152 b152_0 _ _ _ _
  refine kR.s rfl rfl ?_
  refine kR.s rfl rfl ?_
  refine kR.pi (k := 0) (by omega) rfl rfl rfl (by decide) (by decide) rfl rfl ?_
  refine kR.s rfl rfl ?_
  refine kR.s rfl rfl ?_
  refine kR.cb (P := 0 ≤ n ∧ n < S 30 8) (kargs_m hm (by decide) rfl) rfl (kR.up (c_146 hm (by omega) h8) (by decide)) (fun q1 => ?_) (fun q1 => ?_)
  · skip
    refine kR.zeq (by decide) (by decide) (fun q2 => absurd q2 (by decide)) (fun q2 => ?_)
    refine kR.s rfl rfl ?_
    refine kR.gr (k := 9) (by omega) rfl rfl rfl (by decide) (by decide) rfl ?_
    refine kR.s rfl rfl ?_
    refine kR.ia (v := S 34 n.toNat) (by omega) rfl (by decide) (by omega) (by omega) (by rfl) ?_
    refine kR.s rfl rfl ?_
    refine kR.jeq (by omega) (by omega) (by omega) (by omega) (fun q3 => ?_) (fun q3 => ?_)
    · skip
      show kR 1 152 b152_40 _ _ _ _
      refine kR.s rfl rfl ?_
      refine kR.gr (k := 10) (by omega) rfl rfl rfl (by decide) (by decide) rfl ?_
      refine kR.s rfl rfl ?_
      refine kR.la (v := S 35 n.toNat) (by omega) rfl (by decide) (by omega) (by omega) (by rfl) ?_
      refine kR.ret rfl rfl ?_
      first | exact ⟨fun _ => rfl, fun z => absurd (by omega) z⟩ | exact ⟨fun z => absurd z (by omega), fun _ => rfl⟩
    · skip
      refine kR.s rfl rfl ?_
      refine kR.gr (k := 9) (by omega) rfl rfl rfl (by decide) (by decide) rfl ?_
      refine kR.s rfl rfl ?_
      refine kR.ia (v := S 34 n.toNat) (by omega) rfl (by decide) (by omega) (by omega) (by rfl) ?_
      refine kR.s rfl rfl ?_
      refine kR.jeq (by omega) (by omega) (by omega) (by omega) (fun q4 => ?_) (fun q4 => ?_)
      · skip
        show kR 1 152 b152_40 _ _ _ _
        refine kR.s rfl rfl ?_
        refine kR.gr (k := 10) (by omega) rfl rfl rfl (by decide) (by decide) rfl ?_
        refine kR.s rfl rfl ?_
        refine kR.la (v := S 35 n.toNat) (by omega) rfl (by decide) (by omega) (by omega) (by rfl) ?_
        refine kR.ret rfl rfl ?_
        first | exact ⟨fun _ => rfl, fun z => absurd (by omega) z⟩ | exact ⟨fun z => absurd z (by omega), fun _ => rfl⟩
      · skip
        refine kR.n ?_
        show kR 1 152 b152_33 _ _ _ _
        refine kR.s rfl rfl ?_
        refine kR.s rfl rfl ?_
        refine kR.cv (v := .int (Int32.ofInt (0))) (kargs_m hm (by decide) rfl) rfl (kR.up (c_101 hm (by omega)) (by decide)) ?_
        refine kR.i2l (by omega) (by omega) ?_
        refine kR.ret rfl rfl ?_
        first | exact ⟨fun _ => rfl, fun z => absurd (by omega) z⟩ | exact ⟨fun z => absurd z (by omega), fun _ => rfl⟩
  · skip
    refine kR.zeq (by decide) (by decide) (fun q6 => ?_) (fun q6 => absurd q6 (by decide))
    show kR 1 152 b152_33 _ _ _ _
    refine kR.s rfl rfl ?_
    refine kR.s rfl rfl ?_
    refine kR.cv (v := .int (Int32.ofInt (0))) (kargs_m hm (by decide) rfl) rfl (kR.up (c_101 hm (by omega)) (by decide)) ?_
    refine kR.i2l (by omega) (by omega) ?_
    refine kR.ret rfl rfl ?_
    first | exact ⟨fun _ => rfl, fun z => absurd (by omega) z⟩ | exact ⟨fun z => absurd z (by omega), fun _ => rfl⟩
theorem c_153 {m : Nat} {E : Nat → kC} {S : Nat → Nat → Int} {sz : Nat × Nat} (hm : 53 ≤ m ∧ m ≤ 57) {n i : Int} (r_n : -2147483648 ≤ n ∧ n < 2147483648) (r_i : -2147483648 ≤ i ∧ i < 2147483648) (h8 : 0 ≤ S 30 8 ∧ S 30 8 ≤ 60) (hK : ∀ j : Nat, (j : Int) < S 30 8 → 0 ≤ S 34 j ∧ S 34 j ≤ 5) (hZ : ∀ j : Nat, (j : Int) < S 30 8 → 0 ≤ S 37 j ∧ S 37 j ≤ 200 ∧ (S 34 j = 3 → 0 ≤ S 36 j ∧ S 36 j + S 37 j ≤ 200)) : kR 1 153 (blk 153 0) (kent 153 [.ref 30, .int (Int32.ofInt (n)), .int (Int32.ofInt (i))]) [] (sz, hp m E S) (fun r => r = (.inl (some (.int (Int32.ofInt (if ((0 ≤ n ∧ n < S 30 8) ∧ S 34 n.toNat = 3) ∧ 0 ≤ i ∧ i < S 37 n.toNat then S 38 (S 36 n.toNat + i).toNat else -1)))), (sz, hp m E (ku S 30 0 0)))) := by
  have hZ1 := hZ n.toNat
  have hK1 := hK n.toNat
  show kR 1 153 b153_0 _ _ _ _
  refine kR.s rfl rfl ?_
  refine kR.s rfl rfl ?_
  refine kR.pi (k := 0) (by omega) rfl rfl rfl (by decide) (by decide) rfl rfl ?_
  refine kR.s rfl rfl ?_
  refine kR.s rfl rfl ?_
  refine kR.cb (P := 0 ≤ n ∧ n < S 30 8) (kargs_m hm (by decide) rfl) rfl (kR.up (c_146 hm (by omega) h8) (by decide)) (fun q1 => ?_) (fun q1 => ?_)
  · skip
    refine kR.zeq (by decide) (by decide) (fun q2 => absurd q2 (by decide)) (fun q2 => ?_)
    refine kR.s rfl rfl ?_
    refine kR.gr (k := 9) (by omega) rfl rfl rfl (by decide) (by decide) rfl ?_
    refine kR.s rfl rfl ?_
    refine kR.ia (v := S 34 n.toNat) (by omega) rfl (by decide) (by omega) (by omega) (by rfl) ?_
    refine kR.s rfl rfl ?_
    refine kR.jne (by omega) (by omega) (by omega) (by omega) (fun q3 => ?_) (fun q3 => ?_)
    · skip
      show kR 1 153 b153_53 _ _ _ _
      refine kR.s rfl rfl ?_
      refine kR.n ?_
      show kR 1 153 b153_54 _ _ _ _
      refine kR.ret rfl rfl ?_
      first | rw [if_pos (by omega)] | rw [if_neg (by omega)]
    · skip
      refine kR.s rfl rfl ?_
      refine kR.zlt (by omega) (by omega) (fun q4 => ?_) (fun q4 => ?_)
      · skip
        show kR 1 153 b153_53 _ _ _ _
        refine kR.s rfl rfl ?_
        refine kR.n ?_
        show kR 1 153 b153_54 _ _ _ _
        refine kR.ret rfl rfl ?_
        first | rw [if_pos (by omega)] | rw [if_neg (by omega)]
      · skip
        refine kR.s rfl rfl ?_
        refine kR.s rfl rfl ?_
        refine kR.gr (k := 12) (by omega) rfl rfl rfl (by decide) (by decide) rfl ?_
        refine kR.s rfl rfl ?_
        refine kR.ia (v := S 37 n.toNat) (by omega) rfl (by decide) (by omega) (by omega) (by rfl) ?_
        refine kR.jge (by omega) (by omega) (by omega) (by omega) (fun q5 => ?_) (fun q5 => ?_)
        · skip
          show kR 1 153 b153_53 _ _ _ _
          refine kR.s rfl rfl ?_
          refine kR.n ?_
          show kR 1 153 b153_54 _ _ _ _
          refine kR.ret rfl rfl ?_
          first | rw [if_pos (by omega)] | rw [if_neg (by omega)]
        · skip
          refine kR.s rfl rfl ?_
          refine kR.gr (k := 13) (by omega) rfl rfl rfl (by decide) (by decide) rfl ?_
          refine kR.s rfl rfl ?_
          refine kR.gr (k := 11) (by omega) rfl rfl rfl (by decide) (by decide) rfl ?_
          refine kR.s rfl rfl ?_
          refine kR.ia (v := S 36 n.toNat) (by omega) rfl (by decide) (by omega) (by omega) (by rfl) ?_
          refine kR.s rfl rfl ?_
          refine kR.add ?_
          refine kR.ia (v := S 38 (((S 36 n.toNat) + i).toNat)) (by omega) rfl (by decide) (by omega) (by omega) (by rfl) ?_
          refine kR.g rfl ?_
          show kR 1 153 b153_54 _ _ _ _
          refine kR.ret rfl rfl ?_
          first | rw [if_pos (by omega)] | rw [if_neg (by omega)]
  · skip
    refine kR.zeq (by decide) (by decide) (fun q6 => ?_) (fun q6 => absurd q6 (by decide))
    show kR 1 153 b153_53 _ _ _ _
    refine kR.s rfl rfl ?_
    refine kR.n ?_
    show kR 1 153 b153_54 _ _ _ _
    refine kR.ret rfl rfl ?_
    first | rw [if_pos (by omega)] | rw [if_neg (by omega)]
theorem l_154 {m : Nat} {E : Nat → kC} {S : Nat → Nat → Int} {sz : Nat × Nat} (hm : 53 ≤ m ∧ m ≤ 57) {n c : Int} (r_n : -2147483648 ≤ n ∧ n < 2147483648) (r_c : -2147483648 ≤ c ∧ c < 2147483648) (h8 : 0 ≤ S 30 8 ∧ S 30 8 ≤ 60) (hK : ∀ j : Nat, (j : Int) < S 30 8 → 0 ≤ S 34 j ∧ S 34 j ≤ 5) (hZ : ∀ j : Nat, (j : Int) < S 30 8 → 0 ≤ S 37 j ∧ S 37 j ≤ 200 ∧ (S 34 j = 3 → 0 ≤ S 36 j ∧ S 36 j + S 37 j ≤ 200)) (hC : ∀ j : Nat, j < 500 → -2147483648 ≤ S 38 j ∧ S 38 j < 2147483648) (h1 : 0 ≤ S 30 15 ∧ S 30 15 ≤ 200) (hS : ∀ j : Nat, j < 200 → -2147483648 ≤ S 39 j ∧ S 39 j < 2147483648) (hKy : ∀ j : Nat, (j : Int) < S 30 15 → -1 ≤ S 40 j ∧ S 40 j < S 30 8 ∧ (S 34 (S 39 j).toNat = 5 → 0 ≤ S 40 j)) (hc : (0 ≤ n ∧ n < S 30 8) ∧ S 34 n.toNat = 5) : ∀ (j k : Nat) (v4 : Value), 200 - k = j → k ≤ 200 → kR 1 154 (blk 154 7) [.ref 30, .int (Int32.ofInt (n)), .int (Int32.ofInt (c)), .int (Int32.ofInt ((k : Int))), v4] [] (sz, hp m E S) (fun r => r = (.inl (some (.int (Int32.ofInt (if kw (fun e => !decide (S 39 e = n ∧ S 34 (S 40 e).toNat = 3 ∧ S 37 (S 40 e).toNat = 1 ∧ S 38 (S 36 (S 40 e).toNat).toNat = c)) (S 30 15).toNat k < (S 30 15).toNat then S 41 (kw (fun e => !decide (S 39 e = n ∧ S 34 (S 40 e).toNat = 3 ∧ S 37 (S 40 e).toNat = 1 ∧ S 38 (S 36 (S 40 e).toNat).toNat = c)) (S 30 15).toNat k) else -1)))), (sz, hp m E S))) := by
  intro j
  induction j using Nat.strongRecOn with
  | _ j ih =>
    intro k v4 hk hk2
    have hS1 := hS k
    have hK0 := hK n.toNat
    have hK1 := hKy k
    have hK2 := hK (S 40 k).toNat
    have hZ2 := hZ (S 40 k).toNat
    have hC2 := hC (S 36 (S 40 k).toNat).toNat
    have hK3 : (k : Int) < S 30 15 → S 39 k = n → 0 ≤ S 40 k := fun a b => by
      have z := (hKy k a).2.2
      rw [b] at z
      exact z hc.2
    show kR 1 154 b154_7 _ _ _ _
    refine kR.s rfl rfl ?_
    refine kR.s rfl rfl ?_
    refine kR.gi (k := 15) (v := S 30 15) (by omega) rfl rfl rfl (by decide) (by decide) rfl (by rfl) ?_
    refine kR.jge (by omega) (by omega) (by omega) (by omega) (fun q1 => ?_) (fun q1 => ?_)
    · skip
      show kR 1 154 b154_102 _ _ _ _
      refine kR.s rfl rfl ?_
      refine kR.ret rfl rfl ?_
      rw [kw_no (Or.inl (by omega)), if_neg (by omega)]
    · skip
      refine kR.s rfl rfl ?_
      refine kR.s rfl rfl ?_
      refine kR.cb (P := 0 ≤ n ∧ n < S 30 8) (kargs_m hm (by decide) rfl) rfl (kR.up (c_146 hm (by omega) h8) (by decide)) (fun q2 => ?_) (fun q2 => ?_)
      · skip
        refine kR.zeq (by decide) (by decide) (fun q3 => absurd q3 (by decide)) (fun q3 => ?_)
        refine kR.s rfl rfl ?_
        refine kR.gr (k := 9) (by omega) rfl rfl rfl (by decide) (by decide) rfl ?_
        refine kR.s rfl rfl ?_
        refine kR.ia (v := S 34 n.toNat) (by omega) rfl (by decide) (by omega) (by omega) (by rfl) ?_
        refine kR.s rfl rfl ?_
        refine kR.jne (by omega) (by omega) (by omega) (by omega) (fun q4 => ?_) (fun q4 => ?_)
        · skip
          show kR 1 154 b154_102 _ _ _ _
          refine kR.s rfl rfl ?_
          refine kR.ret rfl rfl ?_
          rw [kw_no (Or.inl (by omega)), if_neg (by omega)]
        · skip
          refine kR.s rfl rfl ?_
          refine kR.gr (k := 17) (by omega) rfl rfl rfl (by decide) (by decide) rfl ?_
          refine kR.s rfl rfl ?_
          refine kR.ia (v := S 40 k) (by omega) rfl (by decide) (by omega) (by omega) (by rfl) ?_
          refine kR.s rfl rfl ?_
          refine kR.s rfl rfl ?_
          refine kR.gr (k := 16) (by omega) rfl rfl rfl (by decide) (by decide) rfl ?_
          refine kR.s rfl rfl ?_
          refine kR.ia (v := S 39 k) (by omega) rfl (by decide) (by omega) (by omega) (by rfl) ?_
          refine kR.s rfl rfl ?_
          refine kR.jne (by omega) (by omega) (by omega) (by omega) (fun q5 => ?_) (fun q5 => ?_)
          · skip
            show kR 1 154 b154_96 _ _ _ _
            refine kR.inc rfl ?_
            refine kR.g rfl ?_
            rw [kw_go (by omega) (by rw [Bool.not_eq_true']; exact decide_eq_false (by omega))]
            exact ih (200 - (k + 1)) (by omega) (k + 1) _ rfl (by omega)
          · skip
            refine kR.s rfl rfl ?_
            refine kR.gr (k := 9) (by omega) rfl rfl rfl (by decide) (by decide) rfl ?_
            refine kR.s rfl rfl ?_
            refine kR.ia (v := S 34 ((S 40 k).toNat)) (by omega) rfl (by decide) (by omega) (by omega) (by rfl) ?_
            refine kR.s rfl rfl ?_
            refine kR.jne (by omega) (by omega) (by omega) (by omega) (fun q6 => ?_) (fun q6 => ?_)
            · skip
              show kR 1 154 b154_96 _ _ _ _
              refine kR.inc rfl ?_
              refine kR.g rfl ?_
              rw [kw_go (by omega) (by rw [Bool.not_eq_true']; exact decide_eq_false (by omega))]
              exact ih (200 - (k + 1)) (by omega) (k + 1) _ rfl (by omega)
            · skip
              refine kR.s rfl rfl ?_
              refine kR.gr (k := 12) (by omega) rfl rfl rfl (by decide) (by decide) rfl ?_
              refine kR.s rfl rfl ?_
              refine kR.ia (v := S 37 ((S 40 k).toNat)) (by omega) rfl (by decide) (by omega) (by omega) (by rfl) ?_
              refine kR.s rfl rfl ?_
              refine kR.jne (by omega) (by omega) (by omega) (by omega) (fun q7 => ?_) (fun q7 => ?_)
              · skip
                show kR 1 154 b154_96 _ _ _ _
                refine kR.inc rfl ?_
                refine kR.g rfl ?_
                rw [kw_go (by omega) (by rw [Bool.not_eq_true']; exact decide_eq_false (by omega))]
                exact ih (200 - (k + 1)) (by omega) (k + 1) _ rfl (by omega)
              · skip
                refine kR.s rfl rfl ?_
                refine kR.gr (k := 13) (by omega) rfl rfl rfl (by decide) (by decide) rfl ?_
                refine kR.s rfl rfl ?_
                refine kR.gr (k := 11) (by omega) rfl rfl rfl (by decide) (by decide) rfl ?_
                refine kR.s rfl rfl ?_
                refine kR.ia (v := S 36 ((S 40 k).toNat)) (by omega) rfl (by decide) (by omega) (by omega) (by rfl) ?_
                refine kR.ia (v := S 38 ((S 36 ((S 40 k).toNat)).toNat)) (by omega) rfl (by decide) (by omega) (by omega) (by rfl) ?_
                refine kR.s rfl rfl ?_
                refine kR.jne (by omega) (by omega) (by omega) (by omega) (fun q8 => ?_) (fun q8 => ?_)
                · skip
                  show kR 1 154 b154_96 _ _ _ _
                  refine kR.inc rfl ?_
                  refine kR.g rfl ?_
                  rw [kw_go (by omega) (by rw [Bool.not_eq_true']; exact decide_eq_false (by omega))]
                  exact ih (200 - (k + 1)) (by omega) (k + 1) _ rfl (by omega)
                · skip
                  refine kR.s rfl rfl ?_
                  refine kR.gr (k := 18) (by omega) rfl rfl rfl (by decide) (by decide) rfl ?_
                  refine kR.s rfl rfl ?_
                  refine kR.ia (v := S 41 k) (by omega) rfl (by decide) (by omega) (by omega) (by rfl) ?_
                  refine kR.ret rfl rfl ?_
                  rw [kw_no (Or.inr (by rw [Bool.not_eq_false']; exact decide_eq_true (by omega))), if_pos (by omega)]
      · skip
        refine kR.zeq (by decide) (by decide) (fun q9 => ?_) (fun q9 => absurd q9 (by decide))
        show kR 1 154 b154_102 _ _ _ _
        refine kR.s rfl rfl ?_
        refine kR.ret rfl rfl ?_
        rw [kw_no (Or.inl (by omega)), if_neg (by omega)]
theorem c_154 {m : Nat} {E : Nat → kC} {S : Nat → Nat → Int} {sz : Nat × Nat} (hm : 53 ≤ m ∧ m ≤ 57) {n c : Int} (r_n : -2147483648 ≤ n ∧ n < 2147483648) (r_c : -2147483648 ≤ c ∧ c < 2147483648) (h8 : 0 ≤ S 30 8 ∧ S 30 8 ≤ 60) (hK : ∀ j : Nat, (j : Int) < S 30 8 → 0 ≤ S 34 j ∧ S 34 j ≤ 5) (hZ : ∀ j : Nat, (j : Int) < S 30 8 → 0 ≤ S 37 j ∧ S 37 j ≤ 200 ∧ (S 34 j = 3 → 0 ≤ S 36 j ∧ S 36 j + S 37 j ≤ 200)) (hC : ∀ j : Nat, j < 500 → -2147483648 ≤ S 38 j ∧ S 38 j < 2147483648) (h1 : 0 ≤ S 30 15 ∧ S 30 15 ≤ 200) (hS : ∀ j : Nat, j < 200 → -2147483648 ≤ S 39 j ∧ S 39 j < 2147483648) (hKy : ∀ j : Nat, (j : Int) < S 30 15 → -1 ≤ S 40 j ∧ S 40 j < S 30 8 ∧ (S 34 (S 39 j).toNat = 5 → 0 ≤ S 40 j)) : kR 1 154 (blk 154 0) (kent 154 [.ref 30, .int (Int32.ofInt (n)), .int (Int32.ofInt (c))]) [] (sz, hp m E S) (fun r => r = (.inl (some (.int (Int32.ofInt (if ((0 ≤ n ∧ n < S 30 8) ∧ S 34 n.toNat = 5) ∧ kw (fun e => !decide (S 39 e = n ∧ S 34 (S 40 e).toNat = 3 ∧ S 37 (S 40 e).toNat = 1 ∧ S 38 (S 36 (S 40 e).toNat).toNat = c)) (S 30 15).toNat 0 < (S 30 15).toNat then S 41 (kw (fun e => !decide (S 39 e = n ∧ S 34 (S 40 e).toNat = 3 ∧ S 37 (S 40 e).toNat = 1 ∧ S 38 (S 36 (S 40 e).toNat).toNat = c)) (S 30 15).toNat 0) else -1)))), (sz, hp m E (ku S 30 0 0)))) := by
  have hK1 := hK n.toNat
  show kR 1 154 b154_0 _ _ _ _
  refine kR.s rfl rfl ?_
  refine kR.s rfl rfl ?_
  refine kR.pi (k := 0) (by omega) rfl rfl rfl (by decide) (by decide) rfl rfl ?_
  refine kR.s rfl rfl ?_
  refine kR.s rfl rfl ?_
  refine kR.n ?_
  by_cases hc : (0 ≤ n ∧ n < S 30 8) ∧ S 34 n.toNat = 5
  · have z := l_154 hm (E := E) (S := ku S 30 0 0) (sz := sz) r_n r_c h8 hK hZ hC h1 hS hKy hc 200 0 kun rfl (by omega)
    by_cases c1 : kw (fun e => !decide (S 39 e = n ∧ S 34 (S 40 e).toNat = 3 ∧ S 37 (S 40 e).toNat = 1 ∧ S 38 (S 36 (S 40 e).toNat).toNat = c)) (S 30 15).toNat 0 < (S 30 15).toNat
    · rw [if_pos ⟨hc, c1⟩]
      exact (if_pos c1 : (if kw (fun e => !decide (S 39 e = n ∧ S 34 (S 40 e).toNat = 3 ∧ S 37 (S 40 e).toNat = 1 ∧ S 38 (S 36 (S 40 e).toNat).toNat = c)) (S 30 15).toNat 0 < (S 30 15).toNat then S 41 (kw (fun e => !decide (S 39 e = n ∧ S 34 (S 40 e).toNat = 3 ∧ S 37 (S 40 e).toNat = 1 ∧ S 38 (S 36 (S 40 e).toNat).toNat = c)) (S 30 15).toNat 0) else -1) = _) ▸ z
    · rw [if_neg (fun w => c1 w.2)]
      exact (if_neg c1 : (if kw (fun e => !decide (S 39 e = n ∧ S 34 (S 40 e).toNat = 3 ∧ S 37 (S 40 e).toNat = 1 ∧ S 38 (S 36 (S 40 e).toNat).toNat = c)) (S 30 15).toNat 0 < (S 30 15).toNat then S 41 (kw (fun e => !decide (S 39 e = n ∧ S 34 (S 40 e).toNat = 3 ∧ S 37 (S 40 e).toNat = 1 ∧ S 38 (S 36 (S 40 e).toNat).toNat = c)) (S 30 15).toNat 0) else -1) = _) ▸ z
  rw [if_neg (fun w => hc w.1)]
  show kR 1 154 b154_7 _ _ _ _
  refine kR.s rfl rfl ?_
  refine kR.s rfl rfl ?_
  refine kR.gi (k := 15) (v := S 30 15) (by omega) rfl rfl rfl (by decide) (by decide) rfl (by rfl) ?_
  refine kR.jge (by omega) (by omega) (by omega) (by omega) (fun q1 => ?_) (fun q1 => ?_)
  · skip
    show kR 1 154 b154_102 _ _ _ _
    refine kR.s rfl rfl ?_
    refine kR.ret rfl rfl ?_
    rfl
  · skip
    refine kR.s rfl rfl ?_
    refine kR.s rfl rfl ?_
    refine kR.cb (P := 0 ≤ n ∧ n < S 30 8) (kargs_m hm (by decide) rfl) rfl (kR.up (c_146 hm (by omega) h8) (by decide)) (fun q2 => ?_) (fun q2 => ?_)
    · skip
      refine kR.zeq (by decide) (by decide) (fun q3 => absurd q3 (by decide)) (fun q3 => ?_)
      refine kR.s rfl rfl ?_
      refine kR.gr (k := 9) (by omega) rfl rfl rfl (by decide) (by decide) rfl ?_
      refine kR.s rfl rfl ?_
      refine kR.ia (v := S 34 n.toNat) (by omega) rfl (by decide) (by omega) (by omega) (by rfl) ?_
      refine kR.s rfl rfl ?_
      refine kR.jne (by omega) (by omega) (by omega) (by omega) (fun q4 => ?_) (fun q4 => ?_)
      · skip
        show kR 1 154 b154_102 _ _ _ _
        refine kR.s rfl rfl ?_
        refine kR.ret rfl rfl ?_
        rfl
      · skip
        exfalso
        omega
    · skip
      refine kR.zeq (by decide) (by decide) (fun q5 => ?_) (fun q5 => absurd q5 (by decide))
      show kR 1 154 b154_102 _ _ _ _
      refine kR.s rfl rfl ?_
      refine kR.ret rfl rfl ?_
      rfl
