/-! The law's loop: item, key, write. -/
section KSR
variable {w : Bool} {c s L i : Nat} {xs : Nat → Int32} {S : Nat → Nat → Int} {h : kH} {Q : kO × kH → Prop} {v5 v6 v7 : Value}
theorem s_5 (hW : kW w c s (kext L xs) S h) (hc : 200 + c ≤ 1000000) (hL : L ≤ 2048) (hi : i + 4 ≤ L) (I : kIv (kext L xs) S) (G : kGo L xs i c s Q) : kR 100 163 (blk 163 276) [.ref 1000000, .ref 0, .ref 30, .ref 52, .int (Int32.ofInt (i : Int)), v5, v6, v7] [] h Q := by
  have hm : 53 ≤ 53 ∧ 53 ≤ 57 := by omega
  have rg : ∀ a k, (¬ (kTq a).1 = 22) → -2147483648 ≤ S a k ∧ S a k < 2147483648 := fun a k hq => by
    rcases I.1 a k with z | z
    · exact absurd z hq
    · exact z
  obtain ⟨c0, u, e, V⟩ := I.2.2.2.view
  have V0 := V
  obtain ⟨⟨v1, v2, v3, v4⟩, ⟨s1, s2, s3, s4⟩, va, vb, vc⟩ := V
  have hK : ∀ j : Nat, (j : Int) < S 30 8 → 0 ≤ S 34 j ∧ S 34 j ≤ 5 := fun j hj => by
    have z := va j (by omega)
    rw [← z.1.1]
    exact z.2.1
  have k1 := c_165 (E := kext L xs) (S := S) (kxr (xs (i + 1))) (kxr (xs (i + 2))) (by omega) (fun j _ => rg 17 j (by decide)) (fun j _ => rg 19 j (by decide))
  have thr : kR 99 150 (blk 150 0) (kent 150 [.ref 30, .int (Int32.ofInt (xs (i + 1)).toInt), .int (Int32.ofInt (xs (i + 2)).toInt)]) [] ((53, 0), hp 53 (kext L xs) S) (fun r => r = (.inl (some (.int (Int32.ofInt 0))), ((53, 0), hp 53 (kext L xs) (ku (ku S 30 0 0) 30 0 1)))) → kfe (S 17) (xs (i + 1)).toInt (S 10 11).toNat 0 (xs (i + 2)).toInt = -1 → kR 100 163 (blk 163 276) [.ref 1000000, .ref 0, .ref 30, .ref 52, .int (Int32.ofInt (i : Int)), v5, v6, v7] [] h Q := fun k2 q => by
    refine k_c5 (Q1 := fun r => r = (.inl (some (.int (Int32.ofInt 1))), knew ((53, 0), hp 53 (kext L xs) S) 31 6 (fun _ => .null))) hW (by omega) hL hi (kR.wk (kR.up k1 (by decide)) (fun r hr => hr.2 (fun z => z q))) (fun u hu => by subst hu; exact (by decide : (54 : Nat) ≤ 100)) (fun u h1 hu gg => ?_)
    subst hu
    exact ⟨1, w, c + 1, s + 6, S, ku (ku S 30 0 0) 30 0 1, 0, Or.inr rfl, rfl, by omega, kW_new (kext_o L xs) gg, k2, rfl, fun z => absurd z (by decide), fun v5 v6 v7 h2 hw => G w (c + 1) (s + 6) _ (by omega) (by omega) (kIv_300 I rfl) v5 v6 v7 h2 hw⟩
  rcases Nat.eq_zero_or_pos c0 with hz | hz
  · subst hz
    refine thr (kR.up (c_150z (kxr _) s2 (rg 30 15 (by decide))) (by decide)) ?_
    rw [s3, v4 rfl]
    rfl
  · have s4 := s4 hz
    have fe := V0.fe (xs (i + 1)).toInt (xs (i + 2)).toInt hz
    have fr := kfe_rng (S 17) (xs (i + 1)).toInt (S 10 11).toNat (xs (i + 2)).toInt
    have k2 : ∀ x : Int, kR 2 150 (blk 150 0) (kent 150 [.ref 30, .int (Int32.ofInt (xs (i + 1)).toInt), .int (Int32.ofInt (xs (i + 2)).toInt)]) [] ((53, 0), hp 53 (kext L xs) (ku S 52 0 x)) _ := fun x => c_150 (S := ku S 52 0 x) (E := kext L xs) (sz := (53, 0)) hm (kxr (xs (i + 1))) (kxr (xs (i + 2))) (by show 0 ≤ S 30 8 ∧ S 30 8 ≤ 60; omega) (fun j hj => hK j hj) (by show 0 ≤ S 30 15 ∧ S 30 15 ≤ 200; omega) (fun j _ => rg 39 j (by decide))
    have k3 := c_150 (S := S) (E := kext L xs) (sz := (53, 0)) hm (kxr (xs (i + 1))) (kxr (xs (i + 2))) (by omega) (fun j hj => hK j hj) (by omega) (fun j _ => rg 39 j (by decide))
    rcases fr with q | ⟨q1, q2, q3⟩
    · refine thr (kR.wk (kR.up k3 (by decide)) (fun r hr => hr.2 ?_)) q
      rw [← fe, q]
      decide
    · have q12 : 0 ≤ kfe (S 17) (xs (i + 1)).toInt e 0 (xs (i + 2)).toInt ∧ kfe (S 17) (xs (i + 1)).toInt e 0 (xs (i + 2)).toInt < (e : Int) := by
        rw [s3, show ((e : Int)).toNat = e by omega] at q1 q2
        exact ⟨q1, q2⟩
      obtain ⟨K, hKK⟩ : ∃ K, K = kfe (S 17) (xs (i + 1)).toInt (S 10 11).toNat 0 (xs (i + 2)).toInt := ⟨_, rfl⟩
      rw [s3, show ((e : Int)).toNat = e by omega] at hKK
      have z := vc K.toNat (by rw [hKK]; omega)
      refine k_c5 (Q1 := fun r => r = (.inl (some (.int (Int32.ofInt 0))), ((53, 0), hp 53 (kext L xs) (ku S 52 0 (S 19 K.toNat))))) hW (by omega) hL hi (kR.wk (kR.up k1 (by decide)) (fun r hr => by
        have y := hr.1 (by omega)
        rw [s3, show ((e : Int)).toNat = e by omega, ← hKK] at y
        exact y)) (fun u hu => by subst hu; exact (by decide : (53 : Nat) ≤ 100)) (fun u h1 hu gg => ?_)
      subst hu
      refine ⟨0, w, c, s, ku S 52 0 (S 19 K.toNat), ku (ku S 52 0 (S 19 K.toNat)) 30 0 0, S 41 K.toNat, Or.inl rfl, rfl, by omega, gg, kR.wk (kR.up (k2 (S 19 K.toNat)) (by decide)) (fun r hr => ?_), rfl, fun _ => ⟨?_, by rw [← z.1.2.2]; omega, by rw [← z.1.2.2]; omega⟩, fun v5 v6 v7 h2 hw => G w c s _ (by omega) (by omega) (kIv_52 I rfl) v5 v6 v7 h2 hw⟩
      · have fe2 : K = if (0 ≤ (xs (i + 1)).toInt ∧ (xs (i + 1)).toInt < S 30 8) ∧ 4 ≤ S 34 (xs (i + 1)).toInt.toNat ∧ 0 ≤ (xs (i + 2)).toInt then kfe (S 39) (xs (i + 1)).toInt (S 30 15).toNat 0 (xs (i + 2)).toInt else -1 := by
          rw [← fe, s3, show ((e : Int)).toNat = e by omega]
          exact hKK
        have y := hr.1 (by
          show 0 ≤ if (0 ≤ (xs (i + 1)).toInt ∧ (xs (i + 1)).toInt < S 30 8) ∧ 4 ≤ S 34 (xs (i + 1)).toInt.toNat ∧ 0 ≤ (xs (i + 2)).toInt then kfe (S 39) (xs (i + 1)).toInt (S 30 15).toNat 0 (xs (i + 2)).toInt else -1
          rw [← fe]
          exact q1)
        rw [y]
        show (_, _) = (_, _)
        rw [show S 41 K.toNat = S 41 (if (0 ≤ (xs (i + 1)).toInt ∧ (xs (i + 1)).toInt < S 30 8) ∧ 4 ≤ S 34 (xs (i + 1)).toInt.toNat ∧ 0 ≤ (xs (i + 2)).toInt then kfe (S 39) (xs (i + 1)).toInt (S 30 15).toNat 0 (xs (i + 2)).toInt else -1).toNat from by rw [← fe2]]
        rfl
      · show S 19 K.toNat = S 41 K.toNat
        exact z.1.2.2
theorem s_6 (hW : kW w c s (kext L xs) S h) (hc : 200 + c ≤ 1000000) (hL : L ≤ 2048) (hi : i + 4 ≤ L) (I : kIv (kext L xs) S) (G : kGo L xs i c s Q) : kR 100 163 (blk 163 344) [.ref 1000000, .ref 0, .ref 30, .ref 52, .int (Int32.ofInt (i : Int)), v5, v6, v7] [] h Q := by
  have hm : 53 ≤ 53 ∧ 53 ≤ 57 := by omega
  have rg : ∀ a k, (¬ (kTq a).1 = 22) → -2147483648 ≤ S a k ∧ S a k < 2147483648 := fun a k hq => by
    rcases I.1 a k with z | z
    · exact absurd z hq
    · exact z
  obtain ⟨c0, u, e, V⟩ := I.2.2.2.view
  have V0 := V
  obtain ⟨⟨v1, v2, v3, v4⟩, ⟨s1, s2, s3, s4⟩, va, vb, vc⟩ := V
  have hK : ∀ j : Nat, (j : Int) < S 30 8 → 0 ≤ S 34 j ∧ S 34 j ≤ 5 := fun j hj => by
    have z := va j (by omega)
    rw [← z.1.1]
    exact z.2.1
  have k1 := c_166 (E := kext L xs) (S := S) (kxr (xs (i + 1))) (kxr (xs (i + 2))) (by omega) (fun j _ => rg 17 j (by decide)) (by omega) (fun j hj => (va j (by omega)).2.1) (fun j _ => rg 18 j (by decide))
  have thr : kR 99 151 (blk 151 0) (kent 151 [.ref 30, .int (Int32.ofInt (xs (i + 1)).toInt), .int (Int32.ofInt (xs (i + 2)).toInt)]) [] ((53, 0), hp 53 (kext L xs) S) (fun r => r = (.inl (some (.int (Int32.ofInt 0))), ((53, 0), hp 53 (kext L xs) (ku (ku S 30 0 0) 30 0 1)))) → ¬ (((0 ≤ (xs (i + 1)).toInt ∧ (xs (i + 1)).toInt < S 10 5) ∧ S 11 (xs (i + 1)).toInt.toNat = 5) ∧ ¬ kfe (S 17) (xs (i + 1)).toInt (S 10 11).toNat 0 (xs (i + 2)).toInt = -1) → kR 100 163 (blk 163 344) [.ref 1000000, .ref 0, .ref 30, .ref 52, .int (Int32.ofInt (i : Int)), v5, v6, v7] [] h Q := fun k2 q => by
    refine k_c6 (Q1 := fun r => r = (.inl (some (.int (Int32.ofInt 1))), knew ((53, 0), hp 53 (kext L xs) S) 31 6 (fun _ => .null))) hW (by omega) hL hi (kR.wk (kR.up k1 (by decide)) (fun r hr => hr.2 q)) (fun u hu => by subst hu; exact (by decide : (54 : Nat) ≤ 100)) (fun u h1 hu gg => ?_)
    subst hu
    exact ⟨1, w, c + 1, s + 6, S, ku (ku S 30 0 0) 30 0 1, 0, Or.inr rfl, rfl, by omega, kW_new (kext_o L xs) gg, k2, rfl, fun z => absurd z (by decide), fun v5 v6 v7 h2 hw => G w (c + 1) (s + 6) _ (by omega) (by omega) (kIv_300 I rfl) v5 v6 v7 h2 hw⟩
  rcases Nat.eq_zero_or_pos c0 with hz | hz
  · subst hz
    refine thr (kR.up (c_151z (kxr _) s2 (rg 30 15 (by decide))) (by decide)) (fun z => ?_)
    have y := z.1.1
    rw [s1] at y
    omega
  · have s4 := s4 hz
    have fe := V0.fe (xs (i + 1)).toInt (xs (i + 2)).toInt hz
    have fr := kfe_rng (S 17) (xs (i + 1)).toInt (S 10 11).toNat (xs (i + 2)).toInt
    have k2 : ∀ x : Int, kR 2 151 (blk 151 0) (kent 151 [.ref 30, .int (Int32.ofInt (xs (i + 1)).toInt), .int (Int32.ofInt (xs (i + 2)).toInt)]) [] ((53, 0), hp 53 (kext L xs) (ku S 52 0 x)) _ := fun x => c_151 (S := ku S 52 0 x) (E := kext L xs) (sz := (53, 0)) hm (kxr (xs (i + 1))) (kxr (xs (i + 2))) (by show 0 ≤ S 30 8 ∧ S 30 8 ≤ 60; omega) (fun j hj => hK j hj) (by show 0 ≤ S 30 15 ∧ S 30 15 ≤ 200; omega) (fun j _ => rg 39 j (by decide))
    have k3 := c_151 (S := S) (E := kext L xs) (sz := (53, 0)) hm (kxr (xs (i + 1))) (kxr (xs (i + 2))) (by omega) (fun j hj => hK j hj) (by omega) (fun j _ => rg 39 j (by decide))
    by_cases q : (((0 ≤ (xs (i + 1)).toInt ∧ (xs (i + 1)).toInt < S 10 5) ∧ S 11 (xs (i + 1)).toInt.toNat = 5) ∧ ¬ kfe (S 17) (xs (i + 1)).toInt (S 10 11).toNat 0 (xs (i + 2)).toInt = -1)
    · have q5 := q.1
      rw [s1] at q5
      have t5 : S 34 (xs (i + 1)).toInt.toNat = 5 := by rw [← (va _ (by omega)).1.1]; exact q5.2
      rcases fr with q0 | ⟨q1, q2, q3⟩
      · exact absurd q0 q.2
      · have q12 : 0 ≤ kfe (S 17) (xs (i + 1)).toInt e 0 (xs (i + 2)).toInt ∧ kfe (S 17) (xs (i + 1)).toInt e 0 (xs (i + 2)).toInt < (e : Int) := by
          rw [s3, show ((e : Int)).toNat = e by omega] at q1 q2
          exact ⟨q1, q2⟩
        obtain ⟨K, hKK⟩ : ∃ K, K = kfe (S 17) (xs (i + 1)).toInt (S 10 11).toNat 0 (xs (i + 2)).toInt := ⟨_, rfl⟩
        rw [s3, show ((e : Int)).toNat = e by omega] at hKK
        have z := vc K.toNat (by rw [hKK]; omega)
        refine k_c6 (Q1 := fun r => r = (.inl (some (.int (Int32.ofInt 0))), ((53, 0), hp 53 (kext L xs) (ku S 52 0 (S 18 K.toNat))))) hW (by omega) hL hi (kR.wk (kR.up k1 (by decide)) (fun r hr => by
          have y := hr.1 q
          rw [s3, show ((e : Int)).toNat = e by omega, ← hKK] at y
          exact y)) (fun u hu => by subst hu; exact (by decide : (53 : Nat) ≤ 100)) (fun u h1 hu gg => ?_)
        subst hu
        refine ⟨0, w, c, s, ku S 52 0 (S 18 K.toNat), ku (ku S 52 0 (S 18 K.toNat)) 30 0 0, S 40 K.toNat, Or.inl rfl, rfl, by omega, gg, kR.wk (kR.up (k2 (S 18 K.toNat)) (by decide)) (fun r hr => ?_), rfl, fun _ => ⟨?_, by rw [← z.1.2.1]; omega, by rw [← z.1.2.1]; omega⟩, fun v5 v6 v7 h2 hw => G w c s _ (by omega) (by omega) (kIv_52 I rfl) v5 v6 v7 h2 hw⟩
        · have fe2 : K = if (0 ≤ (xs (i + 1)).toInt ∧ (xs (i + 1)).toInt < S 30 8) ∧ 4 ≤ S 34 (xs (i + 1)).toInt.toNat ∧ 0 ≤ (xs (i + 2)).toInt then kfe (S 39) (xs (i + 1)).toInt (S 30 15).toNat 0 (xs (i + 2)).toInt else -1 := by
            rw [← fe, s3, show ((e : Int)).toNat = e by omega]
            exact hKK
          have y := hr.1 ⟨by
            show 0 ≤ if (0 ≤ (xs (i + 1)).toInt ∧ (xs (i + 1)).toInt < S 30 8) ∧ 4 ≤ S 34 (xs (i + 1)).toInt.toNat ∧ 0 ≤ (xs (i + 2)).toInt then kfe (S 39) (xs (i + 1)).toInt (S 30 15).toNat 0 (xs (i + 2)).toInt else -1
            rw [← fe]
            exact q1, t5⟩
          rw [y]
          show (_, _) = (_, _)
          rw [show S 40 K.toNat = S 40 (if (0 ≤ (xs (i + 1)).toInt ∧ (xs (i + 1)).toInt < S 30 8) ∧ 4 ≤ S 34 (xs (i + 1)).toInt.toNat ∧ 0 ≤ (xs (i + 2)).toInt then kfe (S 39) (xs (i + 1)).toInt (S 30 15).toNat 0 (xs (i + 2)).toInt else -1).toNat from by rw [← fe2]]
          rfl
        · show S 18 K.toNat = S 40 K.toNat
          exact z.1.2.1
    · refine thr (kR.wk (kR.up k3 (by decide)) (fun r hr => hr.2 (fun z => q ?_))) q
      rw [← fe] at z
      have z1 := z.1
      have z2 := z.2
      rcases fr with q0 | ⟨q1, q2, q3⟩
      · rw [q0] at z1
        exact absurd z1 (by decide)
      · rw [s3, show ((e : Int)).toNat = e by omega] at q1 q2 q3
        have y := vc (kfe (S 17) (xs (i + 1)).toInt e 0 (xs (i + 2)).toInt).toNat (by omega)
        rw [q3] at y
        refine ⟨⟨⟨y.2.1.1, by rw [s1]; exact y.2.1.2.1⟩, ?_⟩, ?_⟩
        · rw [(va _ (by omega)).1.1]
          exact z2
        · rw [s3, show ((e : Int)).toNat = e by omega]
          omega
end KSR
