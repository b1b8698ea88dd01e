/-! The law's loop: write. -/
theorem kR.exf {α : Type} {D y : Nat} {cs : List kI} {ls st : List Value} {h : kH} {f : α → kO × kH} {P : α → Prop} (k : kR D y cs ls st h (fun r => ∃ x, r = f x ∧ P x)) : ∃ x, P x ∧ kR D y cs ls st h (fun r => r = f x) := by
  obtain ⟨n, r, hn, x, e, p⟩ := k
  exact ⟨x, p, n, r, hn, e⟩
section KSW
variable {w : Bool} {c s L i : Nat} {xs : Nat → Int32} {S : Nat → Nat → Int} {h : kH} {Q : kO × kH → Prop} {v5 v6 v7 : Value}
theorem kIv_w {E : Nat → kC} {S2 : Nat → Nat → Int} (I : kIv E S) (h1 : ∀ a, a ≠ 30 → a ≠ 49 → a ≠ 50 → S2 a = S a) (h2 : ∀ k, k ≠ 0 → S2 30 k = S 30 k) : kIv E (nrm S2) := by
  obtain ⟨_, i1, i2, i3⟩ := I
  exact kIv_nrm (i1.fr (by rw [h1 1 (by decide) (by decide) (by decide)]) (h1 2 (by decide) (by decide) (by decide)) (h1 31 (by decide) (by decide) (by decide)) (h2 2 (by decide))) (i2.fr (h1 7 (by decide) (by decide) (by decide)) (h1 8 (by decide) (by decide) (by decide)) (h1 48 (by decide) (by decide) (by decide)) (h2 37 (by decide))) (i3.fr (fun a ha => h1 a (by omega) (by omega) (by omega)) (fun k hk => h2 k (by omega)))
theorem s_10 (hW : kW w c s (kext L xs) S h) (hc : 200 + c ≤ 1000000) (hL : L ≤ 2048) (hi : i + 4 ≤ L) (I : kIv (kext L xs) S) (G : kGo L xs i c s Q) : kR 100 163 (blk 163 541) [.ref 1000000, .ref 0, .ref 30, .ref 52, .int (Int32.ofInt (i : Int)), v5, v6, v7] [] h Q := by
  have rg : ∀ a k, (¬ (kTq a).1 = 22) → -2147483648 ≤ S a k ∧ S a k < 2147483648 := fun a k hq => by
    rcases I.1 a k with z | z
    · exact absurd z hq
    · exact z
  have thr : ∀ c0 : Nat, c0 ≤ 60 → S 10 5 = (c0 : Int) → (∀ j, j < c0 → 0 ≤ S 15 j ∧ S 15 j ≤ 1000) → (c0 = 0 ∨ 26 < kcr (S 15) c0) → kR 4 161 (blk 161 0) (kent 161 [.ref 30]) [] ((53, 0), hp 53 (kext L xs) S) (fun r => ∃ T2, r = (.inl (some (.int (Int32.ofInt 0))), ((53, 0), hp 53 (kext L xs) T2)) ∧ (∀ a, a ≠ 30 → a ≠ 49 → a ≠ 50 → T2 a = S a) ∧ (∀ k, k ≠ 0 → T2 30 k = S 30 k) ∧ T2 30 0 = 1) → kR 100 163 (blk 163 541) [.ref 1000000, .ref 0, .ref 30, .ref 52, .int (Int32.ofInt (i : Int)), v5, v6, v7] [] h Q := fun c0 h1 h2 h3 h4 k2 => by
    obtain ⟨T2, ⟨t1, t2, t3⟩, k3⟩ := kR.exf (α := Nat → Nat → Int) k2
    refine k_c10 (Q1 := fun r => r = (.inl (some (.int (Int32.ofInt 1))), knew ((53, 0), hp 53 (kext L xs) S) 32 6 (fun _ => .null))) hW (by omega) hL hi (kR.up (c_168t h1 h2 h3 h4) (by decide)) (fun u hu => by subst hu; exact (by decide : (54 : Nat) ≤ 100)) (fun u h1 hu gg => ?_)
    subst hu
    exact ⟨1, w, c + 1, s + 6, S, T2, 0, Or.inr rfl, rfl, by omega, kW_new (kext_o L xs) gg, kR.up k3 (by decide), t3, fun z => absurd z (by decide), fun v5 v6 v7 h2 hw => G w (c + 1) (s + 6) T2 (by omega) (by omega) (kIv_w I t1 t2) v5 v6 v7 h2 hw⟩
  rcases I.2.2.2 with ⟨g1, g2, g3, g4⟩ | ⟨N, t, n, c0, u, e, g1, g2, g3, g4, g5, g6, g7, g8⟩
  · exact thr 0 (by omega) g2 (fun j hj => absurd hj (Nat.not_lt_zero _)) (Or.inl rfl) (l_161n g4 (rg 30 15 (by decide)) g1)
  · obtain ⟨W, hSub, hc1, hue, hs, _, _⟩ := g5
    have w1 := W.1.1
    have wa := W.2.1
    have e15 : S 15 = N 25 := g7 25 (by decide) (by decide)
    have e10 : S 10 = N 20 := g7 20 (by decide) (by decide)
    have h5 : S 10 5 = (c0 : Int) := by rw [e10]; exact hs.1
    have h15 : ∀ j, j < c0 → 0 ≤ S 15 j ∧ S 15 j ≤ 1000 := fun j hj => by
      rw [e15, (wa j hj).2.2.2.2.2.2.2.2]
      have z := kctn_rng (f := N 29) (x := (j : Int)) e
      split <;> omega
    rcases Nat.lt_or_ge 26 (kcr (N 25) c0) with q | q
    · exact thr c0 w1 h5 h15 (Or.inr (by rw [e15]; exact q)) (l_161x W g6 hc1 g1 q)
    · have h0 : kRdy N (fun a k => if a = 49 then N 25 k else if a = 50 then 0 else if a = 30 then (if k = 37 ∨ k = 40 ∨ k = 29 then 0 else S 30 k) else S a k) c0 u e := by
        refine ⟨g6.vw ⟨rfl, rfl, rfl, rfl, rfl, rfl, rfl, rfl, rfl, rfl, rfl, rfl, rfl⟩, fun j _ => rfl, fun j _ => rg 39 j (by decide), rfl, rfl, rfl, fun j _ => rfl⟩
      refine k_c10 hW (by omega) hL hi (kR.up (c_168g (E := kext L xs) kWrd_ext W hSub hc1 hue q g7 h5 h15 h0) (by decide)) (fun u hu => by obtain ⟨S', w', e1, _⟩ := hu; subst e1; exact (by decide : (53 : Nat) ≤ 100)) (fun u h1 hu gg => ?_)
      obtain ⟨S', w', e1, hw⟩ := hu
      subst e1
      have hw0 := hw
      obtain ⟨f1, f2, f3, _⟩ := hw
      have S1c : ∀ a, a ≠ 7 → a ≠ 8 → a ≠ 9 → a ≠ 52 → ku S' 52 0 (w' : Int) a = S a := fun a h1 h2 h3 h4 => by
        show (if a = 52 then _ else S' a) = S a
        rw [if_neg h4]
        exact f1 a h1 h2 h3
      have s30 : ku S' 52 0 (w' : Int) 30 = S 30 := S1c 30 (by decide) (by decide) (by decide) (by decide)
      have R1 : kRel N (ku S' 52 0 (w' : Int)) c0 u e := g6.vw ⟨S1c 34 (by decide) (by decide) (by decide) (by decide), S1c 35 (by decide) (by decide) (by decide) (by decide), S1c 36 (by decide) (by decide) (by decide) (by decide), S1c 37 (by decide) (by decide) (by decide) (by decide), S1c 38 (by decide) (by decide) (by decide) (by decide), S1c 39 (by decide) (by decide) (by decide) (by decide), S1c 40 (by decide) (by decide) (by decide) (by decide), S1c 41 (by decide) (by decide) (by decide) (by decide), S1c 42 (by decide) (by decide) (by decide) (by decide), by rw [s30], by rw [s30], by rw [s30], by rw [s30]⟩
      have k2 := l_161g (E := kext L xs) (T := ku S' 52 0 (w' : Int)) W R1 hc1 (by rw [s30]; exact g1) q (fun j _ => by rw [S1c 39 (by decide) (by decide) (by decide) (by decide)]; exact rg 39 j (by decide)) hw0
      obtain ⟨T2, ⟨t1, t2, t3, t4, t5⟩, k3⟩ := kR.exf (α := Nat → Nat → Int) k2
      have T2c : ∀ a, a ≠ 30 → a ≠ 44 → a ≠ 48 → a ≠ 49 → a ≠ 50 → a ≠ 51 → a ≠ 7 → a ≠ 8 → a ≠ 9 → a ≠ 52 → T2 a = S a := fun a h1 h2 h3 h4 h5 h6 h7 h8 h9 h10 => (t1 a h1 h2 h3 h4 h5 h6).trans (S1c a h7 h8 h9 h10)
      have T2k : ∀ k, k ≠ 0 → k ≠ 29 → k ≠ 37 → k ≠ 40 → T2 30 k = S 30 k := fun k h1 h2 h3 h4 => (t2 k h1 h2 h3 h4).trans (by rw [s30])
      refine ⟨0, w, c, s, ku S' 52 0 (w' : Int), T2, (w' : Int), Or.inl rfl, rfl, by omega, gg, kR.up k3 (by decide), t3, fun _ => ⟨by rw [t1 52 (by decide) (by decide) (by decide) (by decide) (by decide) (by decide)]; rfl, by omega, by omega⟩, fun v5 v6 v7 h2 hw => G w c s T2 (by omega) (by omega) (kIv_nrm ?_ ?_ ?_) v5 v6 v7 h2 hw⟩
      · exact I.2.1.fr (by rw [T2c 1 (by decide) (by decide) (by decide) (by decide) (by decide) (by decide) (by decide) (by decide) (by decide) (by decide)]) (T2c 2 (by decide) (by decide) (by decide) (by decide) (by decide) (by decide) (by decide) (by decide) (by decide) (by decide)) (T2c 31 (by decide) (by decide) (by decide) (by decide) (by decide) (by decide) (by decide) (by decide) (by decide) (by decide)) (T2k 2 (by decide) (by decide) (by decide) (by decide))
      · refine ⟨w', by omega, ?_, t4, fun j hj => ?_⟩
        · rw [t1 7 (by decide) (by decide) (by decide) (by decide) (by decide) (by decide)]
          exact f2
        · rw [t1 8 (by decide) (by decide) (by decide) (by decide) (by decide) (by decide)]
          exact t5 j hj
      · exact I.2.2.2.fr (fun a ha => T2c a (by omega) (by omega) (by omega) (by omega) (by omega) (by omega) (by omega) (by omega) (by omega) (by omega)) (fun k hk => T2k k (by omega) (by omega) (by omega) (by omega))
end KSW
