/-! The law's loop: a look, typing, wiping. -/
def kGo (L : Nat) (xs : Nat → Int32) (i c s : Nat) (Q : kO × kH → Prop) : Prop := ∀ (w' : Bool) (c' s' : Nat) (S2 : Nat → Nat → Int), c' ≤ c + 5 → s' ≤ s + 44 → kIv (kext L xs) (nrm S2) → ∀ v5 v6 v7 h1, kW w' c' s' (kext L xs) S2 h1 → kR 100 163 (blk 163 610) [.ref 1000000, .ref 0, .ref 30, .ref 52, .int (Int32.ofInt (i : Int)), v5, v6, v7] [] h1 Q
section KSP
variable {w : Bool} {c s L i : Nat} {xs : Nat → Int32} {S : Nat → Nat → Int} {h : kH} {Q : kO × kH → Prop} {v5 v6 v7 : Value}
theorem kIv_30 {E : Nat → kC} {S2 : Nat → Nat → Int} {x : Int} (I : kIv E S) (h : S2 = ku S 30 0 x) : kIv E (nrm S2) := by
  subst h
  refine kIv_look I (fun a h1 _ => ?_) (fun k hk => ?_)
  · show (if a = 30 then _ else S a) = S a
    rw [if_neg h1]
  · show (if k = 0 then _ else S 30 k) = S 30 k
    rw [if_neg hk]
theorem s_1 (hW : kW w c s (kext L xs) S h) (hc : 100 + c ≤ 1000000) (hL : L ≤ 2048) (hi : i + 4 ≤ L) (I : kIv (kext L xs) S) (G : kGo L xs i c s Q) : kR 100 163 (blk 163 169) [.ref 1000000, .ref 0, .ref 30, .ref 52, .int (Int32.ofInt (i : Int)), v5, v6, v7] [] h Q := by
  have hm : 53 ≤ 53 ∧ 53 ≤ 57 := by omega
  obtain ⟨i0, ⟨n, g1, g2, g3, g4⟩, i2, i3⟩ := I
  refine k_c1 hW hc hL hi (kR.up (c_3 hm) (by decide)) (kR.up (c_103 (S := ku S 1 5 0) hm) (by decide)) (by show S 1 5 = S 30 2; rw [g2, g3]) (fun v5 v6 v7 h1 hw => G w c s (ku (ku (ku S 1 5 0) 30 0 0) 30 2 0) (by omega) (by omega) (kIv_nrm ⟨0, by omega, rfl, rfl, fun j hj => absurd hj (Nat.not_lt_zero _)⟩ (i2.fr rfl rfl rfl rfl) (i3.fr (fun a ha => ?_) (fun k hk => ?_))) v5 v6 v7 h1 hw)
  · show (if a = 30 then _ else (if a = 30 then _ else (if a = 1 then _ else S a))) = S a
    rw [if_neg (by omega), if_neg (by omega), if_neg (by omega)]
  · show (if k = 2 then _ else (if k = 0 then _ else S 30 k)) = S 30 k
    rw [if_neg (by omega), if_neg (by omega)]
theorem s_3 (hW : kW w c s (kext L xs) S h) (hc : 100 + c ≤ 1000000) (hL : L ≤ 2048) (hi : i + 4 ≤ L) (I : kIv (kext L xs) S) (G : kGo L xs i c s Q) : kR 100 163 (blk 163 226) [.ref 1000000, .ref 0, .ref 30, .ref 52, .int (Int32.ofInt (i : Int)), v5, v6, v7] [] h Q := by
  have hm : 53 ≤ 53 ∧ 53 ≤ 57 := by omega
  obtain ⟨c0, u, e, ⟨v1, v2, v3, v4⟩, ⟨s1, s2, s3, s4⟩, va, vb, vc⟩ := I.2.2.2.view
  refine k_c3 hW hc hL hi (kR.up (c_5 hm (kxr _) (by omega)) (by decide)) (kR.up (c_147 hm (kxr _) (by omega)) (by decide)) ?_ (fun v5 v6 v7 h1 hw => G w c s _ (by omega) (by omega) (kIv_30 I rfl) v5 v6 v7 h1 hw)
  rw [s1, s2]
  by_cases q : 0 ≤ (xs (i + 1)).toInt ∧ (xs (i + 1)).toInt < (c0 : Int)
  · rw [if_pos q, if_pos q]
    exact (va _ (by omega)).1.1
  · rw [if_neg q, if_neg q]
theorem s_4 (hW : kW w c s (kext L xs) S h) (hc : 100 + c ≤ 1000000) (hL : L ≤ 2048) (hi : i + 4 ≤ L) (I : kIv (kext L xs) S) (G : kGo L xs i c s Q) : kR 100 163 (blk 163 251) [.ref 1000000, .ref 0, .ref 30, .ref 52, .int (Int32.ofInt (i : Int)), v5, v6, v7] [] h Q := by
  have hm : 53 ≤ 53 ∧ 53 ≤ 57 := by omega
  obtain ⟨c0, u, e, ⟨v1, v2, v3, v4⟩, ⟨s1, s2, s3, s4⟩, va, vb, vc⟩ := I.2.2.2.view
  refine k_c4 hW hc hL hi (kR.up (c_6 hm (kxr _) (by omega)) (by decide)) (kR.up (c_148 hm (kxr _) (by omega)) (by decide)) ?_ (fun v5 v6 v7 h1 hw => G w c s _ (by omega) (by omega) (kIv_30 I rfl) v5 v6 v7 h1 hw)
  rw [s1, s2]
  by_cases q : 0 ≤ (xs (i + 1)).toInt ∧ (xs (i + 1)).toInt < (c0 : Int)
  · rw [if_pos q, if_pos q]
    exact (va _ (by omega)).1.2.1
  · rw [if_neg q, if_neg q]
theorem s_8 (hW : kW w c s (kext L xs) S h) (hc : 100 + c ≤ 1000000) (hL : L ≤ 2048) (hi : i + 4 ≤ L) (I : kIv (kext L xs) S) (G : kGo L xs i c s Q) : kR 100 163 (blk 163 467) [.ref 1000000, .ref 0, .ref 30, .ref 52, .int (Int32.ofInt (i : Int)), v5, v6, v7] [] h Q := by
  have hm : 53 ≤ 53 ∧ 53 ≤ 57 := by omega
  obtain ⟨c0, u, e, ⟨v1, v2, v3, v4⟩, ⟨s1, s2, s3, s4⟩, va, vb, vc⟩ := I.2.2.2.view
  have hK : ∀ j : Nat, (j : Int) < S 30 8 → (0 ≤ S 34 j ∧ S 34 j ≤ 5) ∧ 0 ≤ S 37 j ∧ S 37 j ≤ 200 ∧ (S 34 j = 3 → 0 ≤ S 36 j ∧ S 36 j + S 37 j ≤ 200) := fun j hj => by
    have z := va j (by omega)
    obtain ⟨⟨z1, z2, z3, z4⟩, z5, z6, z7⟩ := z
    refine ⟨by omega, by omega, by omega, fun q => ?_⟩
    have := z7 (by omega)
    omega
  refine k_c8 hW hc hL hi (kR.up (c_10 hm (kxr _) (kxr _) (by omega) (fun j hj => (va j (by omega)).2.1) (fun j hj => ?_)) (by decide)) (kR.up (c_153 hm (kxr _) (kxr _) (by omega) (fun j hj => (hK j hj).1) (fun j hj => (hK j hj).2)) (by decide)) ?_ (fun v5 v6 v7 h1 hw => G w c s _ (by omega) (by omega) (kIv_30 I rfl) v5 v6 v7 h1 hw)
  · have z := va j (by omega)
    refine ⟨z.2.2.1.1, z.2.2.1.2, fun q => ?_⟩
    have := z.2.2.2 (by omega)
    omega
  · rw [s1, s2]
    by_cases q : 0 ≤ (xs (i + 1)).toInt ∧ (xs (i + 1)).toInt < (c0 : Int)
    · have z := va (xs (i + 1)).toInt.toNat (by omega)
      obtain ⟨⟨z1, z2, z3, z4⟩, z5, z6, z7⟩ := z
      rw [z1, z2, z4]
      by_cases p : (((0 ≤ (xs (i + 1)).toInt ∧ (xs (i + 1)).toInt < (c0 : Int)) ∧ S 34 (xs (i + 1)).toInt.toNat = 3) ∧ 0 ≤ (xs (i + 2)).toInt ∧ (xs (i + 2)).toInt < S 37 (xs (i + 1)).toInt.toNat)
      · rw [if_pos p, if_pos p]
        have := z7 (by omega)
        exact vb _ (by omega)
      · rw [if_neg p, if_neg p]
    · rw [if_neg (fun z => q z.1.1), if_neg (fun z => q z.1.1)]
theorem s_11 (hW : kW w c s (kext L xs) S h) (hc : 100 + c ≤ 1000000) (hL : L ≤ 2048) (hi : i + 4 ≤ L) (I : kIv (kext L xs) S) (G : kGo L xs i c s Q) : kR 100 163 (blk 163 585) [.ref 1000000, .ref 0, .ref 30, .ref 52, .int (Int32.ofInt (i : Int)), v5, v6, v7] [] h Q := by
  have hm : 53 ≤ 53 ∧ 53 ≤ 57 := by omega
  obtain ⟨n, g1, g2, g3, g4⟩ := I.2.2.1
  have k1 := c_13 (m := 53) (E := kext L xs) (S := S) (sz := (53, 0)) hm (kxr (xs (i + 1))) (by omega)
  have e1 : Int32.ofInt (if 0 ≤ (xs (i + 1)).toInt ∧ (xs (i + 1)).toInt < S 7 1 then S 8 (xs (i + 1)).toInt.toNat else -1) = Int32.ofInt (if 0 ≤ (xs (i + 1)).toInt ∧ (xs (i + 1)).toInt < S 30 37 then S 48 (xs (i + 1)).toInt.toNat else -1) := by
    rw [g2, g3]
    by_cases q : 0 ≤ (xs (i + 1)).toInt ∧ (xs (i + 1)).toInt < (n : Int)
    · rw [if_pos q, if_pos q]
      exact g4 _ (by omega)
    · rw [if_neg q, if_neg q]
  rw [e1] at k1
  exact k_c11 hW hc hL hi (kR.up k1 (by decide)) (kR.up (c_162 hm (kxr _) (by omega)) (by decide)) rfl (fun v5 v6 v7 h1 hw => G w c s _ (by omega) (by omega) (kIv_30 I rfl) v5 v6 v7 h1 hw)
theorem s_9 (hW : kW w c s (kext L xs) S h) (hc : 100 + c ≤ 1000000) (hL : L ≤ 2048) (hi : i + 4 ≤ L) (I : kIv (kext L xs) S) (G : kGo L xs i c s Q) : kR 100 163 (blk 163 504) [.ref 1000000, .ref 0, .ref 30, .ref 52, .int (Int32.ofInt (i : Int)), v5, v6, v7] [] h Q := by
  have hm : 53 ≤ 53 ∧ 53 ≤ 57 := by omega
  have I0 := I.1
  have rg : ∀ a k, (¬ (kTq a).1 = 22) → -2147483648 ≤ S a k ∧ S a k < 2147483648 := fun a k hq => by
    rcases I0 a k with z | z
    · exact absurd z hq
    · exact z
  obtain ⟨c0, u, e, ⟨v1, v2, v3, v4⟩, ⟨s1, s2, s3, s4⟩, va, vb, vc⟩ := I.2.2.2.view
  have k1 := c_11 (m := 53) (E := kext L xs) (S := S) (sz := (53, 0)) hm (kxr (xs (i + 1))) (kxr (xs (i + 2))) (by omega) (fun j hj => (va j (by omega)).2.1) (fun j hj => by
    have z := va j (by omega)
    refine ⟨z.2.2.1.1, z.2.2.1.2, fun q => ?_⟩
    have := z.2.2.2 (by omega)
    omega) (fun j _ => rg 16 j (by decide)) (by omega) (fun j _ => rg 17 j (by decide)) (fun j _ => rg 18 j (by decide))
  rcases Nat.eq_zero_or_pos c0 with hz | hz
  · subst hz
    rw [if_neg (by rw [s1]; omega)] at k1
    exact k_c9 hW hc hL hi (kR.up k1 (by decide)) (kR.up (c_154z (kxr _) s2 (rg 30 15 (by decide))) (by decide)) rfl (fun v5 v6 v7 h1 hw => G w c s _ (by omega) (by omega) (kIv_30 I rfl) v5 v6 v7 h1 hw)
  · have s4 := s4 hz
    have hK : ∀ j : Nat, (j : Int) < S 30 8 → (0 ≤ S 34 j ∧ S 34 j ≤ 5) ∧ 0 ≤ S 37 j ∧ S 37 j ≤ 200 ∧ (S 34 j = 3 → 0 ≤ S 36 j ∧ S 36 j + S 37 j ≤ 200) := fun j hj => by
      have z := va j (by omega)
      obtain ⟨⟨z1, z2, z3, z4⟩, z5, z6, z7⟩ := z
      refine ⟨by omega, by omega, by omega, fun q => ?_⟩
      have := z7 (by omega)
      omega
    refine k_c9 hW hc hL hi (kR.up k1 (by decide)) (kR.up (c_154 hm (kxr _) (kxr _) (by omega) (fun j hj => (hK j hj).1) (fun j hj => (hK j hj).2) (fun j _ => rg 38 j (by decide)) (by omega) (fun j _ => rg 39 j (by decide)) (fun j hj => ?_)) (by decide)) ?_ (fun v5 v6 v7 h1 hw => G w c s _ (by omega) (by omega) (kIv_30 I rfl) v5 v6 v7 h1 hw)
    · have z := vc j (by omega)
      obtain ⟨⟨z1, z2, z3⟩, z4, z5, z6, z7⟩ := z
      rw [← z1, ← z2, ← (va (S 17 j).toNat (by omega)).1.1]
      exact ⟨z6.1, by omega, z7⟩
    · rw [s1, s2, s3, s4, show ((e : Int)).toNat = e by omega]
      by_cases q : ((0 ≤ (xs (i + 1)).toInt ∧ (xs (i + 1)).toInt < (c0 : Int)) ∧ S 34 (xs (i + 1)).toInt.toNat = 5)
      · have q2 : S 11 (xs (i + 1)).toInt.toNat = 5 := by rw [(va _ (by omega)).1.1]; exact q.2
        have ek := kw_congr (p := fun e => !decide (S 17 e = (xs (i + 1)).toInt ∧ (((0 ≤ S 18 e ∧ S 18 e < (c0 : Int)) ∧ S 11 ((S 18 e).toNat) = 3) ∧ S 12 ((S 18 e).toNat) = 1 ∧ S 16 (S 14 ((S 18 e).toNat) + 0).toNat = (xs (i + 2)).toInt))) (q := fun e => !decide (S 39 e = (xs (i + 1)).toInt ∧ S 34 (S 40 e).toNat = 3 ∧ S 37 (S 40 e).toNat = 1 ∧ S 38 (S 36 (S 40 e).toNat).toNat = (xs (i + 2)).toInt)) (n := e) (k := 0) (fun j _ hj => by
          have z := vc j hj
          obtain ⟨⟨z1, z2, z3⟩, z4, z5, z6, z7⟩ := z
          show (!decide _) = (!decide _)
          congr 1
          apply decide_eq_decide.mpr
          rw [← z1, ← z2]
          by_cases y : S 17 j = (xs (i + 1)).toInt
          · rw [y] at z7
            have z7 := z7 q2
            have zz := va (S 18 j).toNat (by omega)
            obtain ⟨⟨y1, y2, y3, y4⟩, y5, y6, y7⟩ := zz
            rw [← y1, ← y2, ← y4, Int.add_zero]
            constructor
            · rintro ⟨a1, ⟨a2, a3⟩, a4, a5⟩
              have b := y7 (by omega)
              exact ⟨a1, a3, a4, by rw [← vb _ (by omega)]; exact a5⟩
            · rintro ⟨a1, a3, a4, a5⟩
              have b := y7 (by omega)
              exact ⟨a1, ⟨⟨z7, z6.2⟩, a3⟩, a4, by rw [vb _ (by omega)]; exact a5⟩
          · exact ⟨fun a => absurd a.1 y, fun a => absurd a.1 y⟩)
        rw [ek]
        by_cases p : kw (fun e => !decide (S 39 e = (xs (i + 1)).toInt ∧ S 34 (S 40 e).toNat = 3 ∧ S 37 (S 40 e).toNat = 1 ∧ S 38 (S 36 (S 40 e).toNat).toNat = (xs (i + 2)).toInt)) e 0 < e
        · rw [if_pos ⟨⟨q.1, q2⟩, p⟩, if_pos ⟨q, p⟩]
          exact (vc _ p).1.2.2
        · rw [if_neg (fun z => p z.2), if_neg (fun z => p z.2)]
      · rw [if_neg (fun z => q ⟨z.1.1, by rw [← (va _ (by omega)).1.1]; exact z.1.2⟩), if_neg (fun z => q z.1)]
end KSP
