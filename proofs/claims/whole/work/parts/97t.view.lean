/-! The looks, for the law: what both see; looks with nothing loaded. -/
section KVI
variable {E : Nat → kC} {S : Nat → Nat → Int} {sz : Nat × Nat}
theorem c_149z {n i : Int} (r_n : -2147483648 ≤ n ∧ n < 2147483648) (h8 : S 30 8 = 0) (r15 : -2147483648 ≤ S 30 15 ∧ S 30 15 < 2147483648) : kR 1 149 (blk 149 0) (kent 149 [.ref 30, .int (Int32.ofInt n), .int (Int32.ofInt i)]) [] (sz, hp 53 E S) (fun r => r = (.inl (some (.int (Int32.ofInt (-1)))), (sz, hp 53 E S))) := by
  have hm : 53 ≤ 53 ∧ 53 ≤ 57 := by omega
  show kR 1 149 b149_0 _ _ _ _
  refine kR.s rfl rfl ?_
  refine kR.s rfl rfl ?_
  refine kR.s rfl rfl ?_
  refine kR.s rfl rfl ?_
  refine kR.n ?_
  show kR 1 149 b149_5 _ _ _ _
  refine kR.s rfl rfl ?_
  refine kR.s rfl rfl ?_
  refine kR.gi (k := 15) (v := S 30 15) (by omega) rfl rfl rfl (by decide) (by decide) rfl (by rfl) ?_
  refine kR.jge (by omega) (by omega) (by omega) (by omega) (fun q1 => ?_) (fun q1 => ?_)
  · show kR 1 149 b149_63 _ _ _ _
    refine kR.s rfl rfl ?_
    refine kR.ret rfl rfl ?_
    rfl
  · refine kR.s rfl rfl ?_
    refine kR.s rfl rfl ?_
    refine kR.cb (P := 0 ≤ n ∧ n < S 30 8) (kargs_m hm (by decide) rfl) rfl (kR.up (c_146 hm (by omega) (by omega)) (by decide)) (fun q2 => absurd q2 (by omega)) (fun q2 => ?_)
    refine kR.zeq (by decide) (by decide) (fun _ => ?_) (fun q3 => absurd rfl q3)
    show kR 1 149 b149_63 _ _ _ _
    refine kR.s rfl rfl ?_
    refine kR.ret rfl rfl ?_
    rfl
theorem c_150z {n i : Int} (r_n : -2147483648 ≤ n ∧ n < 2147483648) (h8 : S 30 8 = 0) (r15 : -2147483648 ≤ S 30 15 ∧ S 30 15 < 2147483648) : kR 2 150 (blk 150 0) (kent 150 [.ref 30, .int (Int32.ofInt n), .int (Int32.ofInt i)]) [] (sz, hp 53 E S) (fun r => r = (.inl (some (.int (Int32.ofInt 0))), (sz, hp 53 E (ku (ku S 30 0 0) 30 0 1)))) := by
  have hm : 53 ≤ 53 ∧ 53 ≤ 57 := by omega
  show kR 2 150 b150_0 _ _ _ _
  refine kR.s rfl rfl ?_
  refine kR.s rfl rfl ?_
  refine kR.pi (a := 30) (k := 0) (by omega) rfl rfl rfl (by decide) (by decide) rfl rfl ?_
  refine kR.s rfl rfl ?_
  refine kR.s rfl rfl ?_
  refine kR.s rfl rfl ?_
  refine kR.cv (v := .int (Int32.ofInt (-1))) rfl rfl (c_149z (S := ku S 30 0 0) r_n (by exact h8) (by exact r15)) ?_
  refine kR.s rfl rfl ?_
  refine kR.s rfl rfl ?_
  refine kR.zge (by decide) (by decide) (fun q => absurd q (by decide)) (fun _ => ?_)
  refine kR.s rfl rfl ?_
  refine kR.s rfl rfl ?_
  refine kR.cv (v := .int (Int32.ofInt 0)) rfl rfl (kR.up (c_101 (S := ku S 30 0 0) (i := 1) hm (by omega)) (by decide)) ?_
  refine kR.g rfl ?_
  show kR 2 150 b150_30 _ _ _ _
  refine kR.ret rfl rfl ?_
  rfl
theorem c_151z {n i : Int} (r_n : -2147483648 ≤ n ∧ n < 2147483648) (h8 : S 30 8 = 0) (r15 : -2147483648 ≤ S 30 15 ∧ S 30 15 < 2147483648) : kR 2 151 (blk 151 0) (kent 151 [.ref 30, .int (Int32.ofInt n), .int (Int32.ofInt i)]) [] (sz, hp 53 E S) (fun r => r = (.inl (some (.int (Int32.ofInt 0))), (sz, hp 53 E (ku (ku S 30 0 0) 30 0 1)))) := by
  have hm : 53 ≤ 53 ∧ 53 ≤ 57 := by omega
  show kR 2 151 b151_0 _ _ _ _
  refine kR.s rfl rfl ?_
  refine kR.s rfl rfl ?_
  refine kR.pi (a := 30) (k := 0) (by omega) rfl rfl rfl (by decide) (by decide) rfl rfl ?_
  refine kR.s rfl rfl ?_
  refine kR.s rfl rfl ?_
  refine kR.s rfl rfl ?_
  refine kR.cv (v := .int (Int32.ofInt (-1))) rfl rfl (c_149z (S := ku S 30 0 0) r_n (by exact h8) (by exact r15)) ?_
  refine kR.s rfl rfl ?_
  refine kR.s rfl rfl ?_
  refine kR.zlt (by decide) (by decide) (fun _ => ?_) (fun q => absurd q (by decide))
  show kR 2 151 b151_26 _ _ _ _
  refine kR.s rfl rfl ?_
  refine kR.s rfl rfl ?_
  refine kR.cv (v := .int (Int32.ofInt 0)) rfl rfl (kR.up (c_101 (S := ku S 30 0 0) (i := 1) hm (by omega)) (by decide)) ?_
  refine kR.g rfl ?_
  show kR 2 151 b151_40 _ _ _ _
  refine kR.ret rfl rfl ?_
  rfl
theorem c_154z {n c : Int} (r_n : -2147483648 ≤ n ∧ n < 2147483648) (h8 : S 30 8 = 0) (r15 : -2147483648 ≤ S 30 15 ∧ S 30 15 < 2147483648) : kR 1 154 (blk 154 0) (kent 154 [.ref 30, .int (Int32.ofInt n), .int (Int32.ofInt c)]) [] (sz, hp 53 E S) (fun r => r = (.inl (some (.int (Int32.ofInt (-1)))), (sz, hp 53 E (ku S 30 0 0)))) := by
  have hm : 53 ≤ 53 ∧ 53 ≤ 57 := by omega
  show kR 1 154 b154_0 _ _ _ _
  refine kR.s rfl rfl ?_
  refine kR.s rfl rfl ?_
  refine kR.pi (a := 30) (k := 0) (by omega) rfl rfl rfl (by decide) (by decide) rfl rfl ?_
  refine kR.s rfl rfl ?_
  refine kR.s rfl rfl ?_
  refine kR.n ?_
  show kR 1 154 b154_7 _ _ _ _
  refine kR.s rfl rfl ?_
  refine kR.s rfl rfl ?_
  refine kR.gi (a := 30) (k := 15) (v := S 30 15) (by omega) rfl rfl rfl (by decide) (by decide) rfl (by rfl) ?_
  refine kR.jge (by omega) (by omega) (by omega) (by omega) (fun q1 => ?_) (fun q1 => ?_)
  · show kR 1 154 b154_102 _ _ _ _
    refine kR.s rfl rfl ?_
    refine kR.ret rfl rfl ?_
    rfl
  · refine kR.s rfl rfl ?_
    refine kR.s rfl rfl ?_
    refine kR.cb (P := 0 ≤ n ∧ n < ku S 30 0 0 30 8) (kargs_m hm (by decide) rfl) rfl (kR.up (c_146 (S := ku S 30 0 0) hm (by omega) (by show 0 ≤ S 30 8 ∧ S 30 8 ≤ 60; omega)) (by decide)) (fun q2 => ?_) (fun q2 => ?_)
    · have z : n < S 30 8 := q2.2
      omega
    · refine kR.zeq (by decide) (by decide) (fun _ => ?_) (fun q3 => absurd rfl q3)
      show kR 1 154 b154_102 _ _ _ _
      refine kR.s rfl rfl ?_
      refine kR.ret rfl rfl ?_
      rfl
/-- what both see -/
def kVi (S : Nat → Nat → Int) (c u e : Nat) : Prop := (c ≤ 60 ∧ u ≤ 200 ∧ e ≤ 200 ∧ (c = 0 → e = 0)) ∧ (S 10 5 = (c : Int) ∧ S 30 8 = (c : Int) ∧ S 10 11 = (e : Int) ∧ (1 ≤ c → S 30 15 = (e : Int))) ∧ (∀ j, j < c → (S 11 j = S 34 j ∧ S 12 j = S 37 j ∧ S 13 j = S 35 j ∧ S 14 j = S 36 j) ∧ (0 ≤ S 11 j ∧ S 11 j ≤ 5) ∧ (0 ≤ S 12 j ∧ S 12 j ≤ 200) ∧ (S 11 j < 4 → 0 ≤ S 14 j ∧ S 14 j + S 12 j ≤ (u : Int))) ∧ (∀ j, j < u → S 16 j = S 38 j) ∧ ∀ j, j < e → (S 17 j = S 39 j ∧ S 18 j = S 40 j ∧ S 19 j = S 41 j) ∧ (0 ≤ S 17 j ∧ S 17 j < (c : Int) ∧ 4 ≤ S 11 (S 17 j).toNat) ∧ (0 ≤ S 19 j ∧ S 19 j < (c : Int)) ∧ (-1 ≤ S 18 j ∧ S 18 j < (c : Int)) ∧ (S 11 (S 17 j).toNat = 5 → 0 ≤ S 18 j)
theorem kNds.view (h : kNds E S) : ∃ c u e, kVi S c u e := by
  rcases h with ⟨g1, g2, g3, g4⟩ | ⟨N, t, n, c, u, e, g1, g2, g3, g4, g5, g6, g7, g8⟩
  · exact ⟨0, 0, 0, ⟨by omega, by omega, by omega, fun _ => rfl⟩, ⟨g2, g4, g3, fun z => by omega⟩, fun j hj => absurd hj (Nat.not_lt_zero _), fun j hj => absurd hj (Nat.not_lt_zero _), fun j hj => absurd hj (Nat.not_lt_zero _)⟩
  · have W := g5.1
    have hc1 := g5.2.2.1
    obtain ⟨⟨w1, w2, w3, w4, w5, w6, w7, w8⟩, wa, wb, wc, wd⟩ := g5.1
    obtain ⟨⟨r1, r2, r3, r4, r5, r6⟩, ra, rb, rc, rd, re⟩ := g6
    have e10 : S 10 = N 20 := g7 20 (by decide) (by decide)
    have e11 : S 11 = N 21 := g7 21 (by decide) (by decide)
    have e12 : S 12 = N 22 := g7 22 (by decide) (by decide)
    have e13 : S 13 = N 23 := g7 23 (by decide) (by decide)
    have e14 : S 14 = N 24 := g7 24 (by decide) (by decide)
    have e16 : S 16 = N 26 := g7 26 (by decide) (by decide)
    have e17 : S 17 = N 27 := g7 27 (by decide) (by decide)
    have e18 : S 18 = N 28 := g7 28 (by decide) (by decide)
    have e19 : S 19 = N 29 := g7 29 (by decide) (by decide)
    refine ⟨c, u, e, ⟨w1, w2, w3, fun z => by omega⟩, ⟨by rw [e10]; exact r1, r2, by rw [e10]; exact r5, fun _ => r6⟩, fun j hj => ?_, fun j hj => by rw [e16]; exact rb j hj, fun j hj => ?_⟩
    · obtain ⟨v1, v2, v3, v5, v6, v7, v8, v9, v10⟩ := wa j hj
      have z1 := kctn_rng (f := N 27) (x := (j : Int)) e
      rw [e11, e12, e13, e14]
      refine ⟨ra j hj, ⟨v1, v2⟩, ⟨v3, ?_⟩, fun q => ⟨v7, v8 q⟩⟩
      rcases Int.lt_or_le (N 21 j) 4 with q | q
      · have := v8 q
        omega
      · have := v9 q
        omega
    · have v := wb j hj
      have k := W.k28 hj
      rw [e11, e17, e18, e19]
      exact ⟨rc j hj, ⟨v.1, v.2.1, v.2.2.1⟩, ⟨v.2.2.2.1, v.2.2.2.2.1⟩, by omega, fun q => (v.2.2.2.2.2.2 q).1⟩
theorem kNds.fr {S2 : Nat → Nat → Int} (h : kNds E S) (h1 : ∀ a, (10 ≤ a ∧ a < 20 ∨ a = 32 ∨ 34 ≤ a ∧ a ≤ 42) → S2 a = S a) (h2 : ∀ k, (k = 4 ∨ k = 5 ∨ k = 8 ∨ k = 14 ∨ k = 15 ∨ k = 26) → S2 30 k = S 30 k) : kNds E S2 := by
  rcases h with ⟨g1, g2, g3, g4⟩ | ⟨N, t, n, c, u, e, g1, g2, g3, g4, g5, g6, g7, g8⟩
  · exact Or.inl ⟨by rw [h2 5 (by decide)]; exact g1, by rw [h1 10 (by decide)]; exact g2, by rw [h1 10 (by decide)]; exact g3, by rw [h2 8 (by decide)]; exact g4⟩
  · exact Or.inr ⟨N, t, n, c, u, e, by rw [h2 5 (by decide)]; exact g1, g2, by rw [h2 4 (by decide)]; exact g3, by rw [h1 32 (by decide)]; exact g4, g5, g6.vw ⟨h1 34 (by decide), h1 35 (by decide), h1 36 (by decide), h1 37 (by decide), h1 38 (by decide), h1 39 (by decide), h1 40 (by decide), h1 41 (by decide), h1 42 (by decide), h2 8 (by decide), h2 14 (by decide), h2 15 (by decide), h2 26 (by decide)⟩, fun a q1 q2 => by rw [h1 (a - 10) (by omega)]; exact g7 a q1 q2, g8⟩
theorem kWtr.fr {S2 : Nat → Nat → Int} (h : kWtr S) (h1 : S2 7 = S 7) (h2 : S2 8 = S 8) (h3 : S2 48 = S 48) (h4 : S2 30 37 = S 30 37) : kWtr S2 := by
  obtain ⟨w, g1, g2, g3, g4⟩ := h
  exact ⟨w, g1, by rw [h1]; exact g2, by rw [h4]; exact g3, by rw [h2, h3]; exact g4⟩
theorem kTxt.fr {S2 : Nat → Nat → Int} (h : kTxt S) (h1 : S2 1 5 = S 1 5) (h2 : S2 2 = S 2) (h3 : S2 31 = S 31) (h4 : S2 30 2 = S 30 2) : kTxt S2 := by
  obtain ⟨n, g1, g2, g3, g4⟩ := h
  exact ⟨n, g1, by rw [h1]; exact g2, by rw [h4]; exact g3, by rw [h2, h3]; exact g4⟩
theorem kfh_congr {f g : Nat → Int} {o : Int} : ∀ (j e : Nat) (l : Int), (∀ i, e ≤ i → i < e + j → f i = g i) → kfh f o j e l = kfh g o j e l
  | 0, _, _, _ => rfl
  | j + 1, e, l, h => by
    unfold kfh
    rw [h e (Nat.le_refl _) (by omega), kfh_congr j (e + 1) (l - 1) (fun i h1 h2 => h i (by omega) (by omega)), kfh_congr j (e + 1) l (fun i h1 h2 => h i (by omega) (by omega))]
theorem kfh_none {f : Nat → Int} {o : Int} : ∀ (j e : Nat) (l : Int), (∀ i, e ≤ i → i < e + j → ¬ f i = o) → kfh f o j e l = -1
  | 0, _, _, _ => rfl
  | j + 1, e, l, h => by
    unfold kfh
    rw [if_neg (h e (Nat.le_refl _) (by omega))]
    exact kfh_none j (e + 1) l (fun i h1 h2 => h i (by omega) (by omega))
/-- the place of an entry, as both find it -/
theorem kVi.fe {c u e : Nat} (V : kVi S c u e) (n i : Int) (hc : 1 ≤ c) : kfe (S 17) n (S 10 11).toNat 0 i = if (0 ≤ n ∧ n < S 30 8) ∧ 4 ≤ S 34 n.toNat ∧ 0 ≤ i then kfe (S 39) n (S 30 15).toNat 0 i else -1 := by
  obtain ⟨⟨v1, v2, v3, v4⟩, ⟨s1, s2, s3, s4⟩, va, vb, vc⟩ := V
  have s4 := s4 hc
  rw [s3, s4, show ((e : Int)).toNat = e by omega]
  have ec : kfe (S 17) n e 0 i = kfe (S 39) n e 0 i := kfh_congr _ 0 i (fun j _ h2 => (vc j (by omega)).1.1)
  rw [ec]
  by_cases q : (0 ≤ n ∧ n < S 30 8) ∧ 4 ≤ S 34 n.toNat ∧ 0 ≤ i
  · rw [if_pos q]
  · rw [if_neg q]
    rcases Int.lt_or_le i 0 with q1 | q1
    · exact kfh_neg _ _ _ _ _ q1
    · refine kfh_none _ 0 i (fun j _ h2 z => q ?_)
      have w := vc j (by omega)
      rw [w.1.1] at w
      rw [z] at w
      exact ⟨⟨w.2.1.1, by rw [s2]; exact w.2.1.2.1⟩, by rw [← (va n.toNat (by omega)).1.1]; exact w.2.1.2.2, q1⟩
end KVI
