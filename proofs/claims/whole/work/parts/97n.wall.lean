/-! Writing: whole subtrees by both. -/
def kPut (E : Nat → kC) (N : Nat → Nat → Int) (sz : Nat × Nat) (x1 : Int) (c u e d : Nat) : Prop := ∀ (k c' n n' : Nat), kSub N d k c' n n' → ∀ (S T : Nat → Nat → Int) (w o s : Nat) (dp : Int), kCx N S T c u e → kWr N S T c k w → T 30 29 = (o : Int) → o + d ≤ 8 → 0 ≤ dp ∧ dp + (d : Int) ≤ 9 → c' ≤ c → n' ≤ e → (∀ i, i < e → (k : Int) ≤ N 27 i → N 27 i < (c' : Int) → n ≤ i ∧ i < n') → (∀ j : Nat, 0 < j → j ≤ k → (∃ i, i < e ∧ N 28 i = (j : Int)) ∨ ∃ i, i < e ∧ N 29 i = (j : Int) ∧ (i < n ∨ n' ≤ i)) → (w : Int) + (s : Int) ≤ kFb N c u k n → ∃ (S' T1 T' : Nat → Nat → Int) (w' : Nat), kR (3 * d + 6) 25 (blk 25 0) (kent 25 [.ref 7, .ref 10, .int (Int32.ofInt (k : Int)), .int (Int32.ofInt dp)]) [] (sz, hp 53 E S) (fun r => r = (.inl none, (sz, hp 53 E S'))) ∧ kR 3 160 (blk 160 0) (kent 160 [.ref 30, .int (Int32.ofInt (k : Int))]) [] (sz, hp 53 E T) (fun r => r = (.inl none, (sz, hp 53 E T1))) ∧ kLs sz E x1 T1 T' ∧ kWr N S' T' c c' w' ∧ (w' : Int) + (s : Int) ≤ kFb N c u c' n' ∧ kFs S S' ∧ kFwr T T' o ∧ T' 30 29 = (o : Int)
section KWA
variable {E : Nat → kC} {N S T : Nat → Nat → Int} {sz : Nat × Nat} {x1 : Int} {c u e : Nat}
theorem kctn_one {f : Nat → Int} {x : Int} {n i : Nat} (hi : i < n) (h : f i = x) : 1 ≤ kctn f x n := by
  have h1 : kctn f x (i + 1) = kctn f x i + (if f i = x then 1 else 0) := rfl
  rw [if_pos h] at h1
  have m1 := kctn_mono (f := f) (x := x) (a := i + 1) (b := n) (by omega)
  have m3 := (kctn_rng (f := f) (x := x) i).1
  omega
/-- who is had once more has its letter -/
theorem rep_two (W : kWf N c u e) {v n1 : Nat} (hv : v < c) (hn1 : n1 < e) (h4 : N 29 n1 = (v : Int)) (hJ : 0 < v → (∃ i, i < e ∧ N 28 i = (v : Int)) ∨ ∃ i, i < e ∧ N 29 i = (v : Int) ∧ (i < n1 ∨ n1 < i)) : 1 < N 25 v := by
  obtain ⟨⟨w1, w2, w3, w4, w5, w6, w7, w8⟩, wa, _⟩ := W
  have a9 := (wa v hv).2.2.2.2.2.2.2.2
  rw [a9]
  by_cases q : v = 0
  · rw [if_pos q]
    have z := kctn_one hn1 h4
    omega
  · rw [if_neg q]
    rcases hJ (by omega) with ⟨i, g1, g2⟩ | ⟨i, g1, g2, g3⟩
    · have z := w6 i n1 g1 hn1 (by rw [g2, h4])
      omega
    · rcases g3 with g | g
      · have z := kctn_two g hn1 g2 h4
        omega
      · have z := kctn_two g g1 h4 g2
        omega
/-- an entry's value by both -/
theorem item_val {d k1 k2 n n1 v w o s : Nat} {dp : Int} (ih : kPut E N sz x1 c u e d) (C : kCx N S T c u e) (W : kWr N S T c k1 w) (h29 : T 30 29 = (o : Int)) (ho : o + d ≤ 8) (hdp : 0 ≤ dp ∧ dp + (d : Int) ≤ 9) (hk2 : k2 ≤ c) (hk12 : k1 ≤ k2) (hn1 : n1 < e) (h2 : v = k1 ∧ kSub N d k1 k2 n n1 ∨ v < k1 ∧ k2 = k1 ∧ n1 = n) (h4 : N 29 n1 = (v : Int)) (hG : ∀ i, i < e → (k1 : Int) ≤ N 27 i → N 27 i < (k2 : Int) → n ≤ i ∧ i < n1) (hJ : ∀ j : Nat, 0 < j → j < k1 → (∃ i, i < e ∧ N 28 i = (j : Int)) ∨ ∃ i, i < e ∧ N 29 i = (j : Int) ∧ (i < n ∨ n1 < i)) (hb : (w : Int) + (s : Int) ≤ kFb N c u k1 n) : ∃ (S' T1 T' : Nat → Nat → Int) (w' : Nat), kR (3 * d + 6) 25 (blk 25 0) (kent 25 [.ref 7, .ref 10, .int (Int32.ofInt (v : Int)), .int (Int32.ofInt dp)]) [] (sz, hp 53 E S) (fun r => r = (.inl none, (sz, hp 53 E S'))) ∧ kR 3 160 (blk 160 0) (kent 160 [.ref 30, .int (Int32.ofInt (v : Int))]) [] (sz, hp 53 E T) (fun r => r = (.inl none, (sz, hp 53 E T1))) ∧ kLs sz E x1 T1 T' ∧ kWr N S' T' c k2 w' ∧ (w' : Int) + (s : Int) + 2 ≤ kFb N c u k2 (n1 + 1) ∧ kFs S S' ∧ kFwr T T' o ∧ T' 30 29 = (o : Int) := by
  rcases h2 with ⟨q1, q2⟩ | ⟨q1, q2, q3⟩
  · subst q1
    obtain ⟨S', T1, T', w', j1, j2, j3, j4, j5, j6, j7, j8⟩ := ih v k2 n n1 q2 S T w o s dp C W h29 ho hdp hk2 (by omega) hG (fun j g1 g2 => by
      rcases Nat.lt_or_ge j v with g | g
      · rcases hJ j g1 g with z | ⟨i, z1, z2, z3⟩
        · exact Or.inl z
        · exact Or.inr ⟨i, z1, z2, by omega⟩
      · have : j = v := by omega
        subst this
        exact Or.inr ⟨n1, hn1, h4, Or.inr (Nat.le_refl _)⟩) hb
    refine ⟨S', T1, T', w', j1, j2, j3, j4, ?_, j6, j7, j8⟩
    rw [kFb_n]
    omega
  · subst q2
    subst q3
    have hM := kFb_max (k := k2) (n := n1) C hk2 (by omega)
    have hr := rep_two C.1 (v := v) (by omega) hn1 h4 (fun g => hJ v g q1)
    have hq := kcr_le (H := N 25) (a := v) (b := c) (by omega)
    have hc1 := C.2.2.2.2.1.1
    have hw1 := C.1.1.1
    have W0 := W
    obtain ⟨⟨a1, a2, a3⟩, ⟨b1, b2⟩, d1, d2⟩ := W
    have e9 : S 9 v = (kcr (N 25) v : Int) := by rw [d1 v (by omega), if_pos ⟨q1, hr⟩]
    have e50 : T 50 v = 97 + (kcr (N 25) v : Int) := by rw [d2 v (by omega), if_pos ⟨q1, hr⟩]
    obtain ⟨P1, P2, P3⟩ := W0.app (o := o) [42, 97 + (kcr (N 25) v : Int)]
    refine ⟨_, _, _, _, kR.up (c_25r (S := S) (w := w) (q := kcr (N 25) v) (by omega) e9 (by omega) a1 (by omega)) (by omega), c_160r (T := T) (w := w) (by omega) e50 (by omega) a2 (by omega), kLs.rf, P1, ?_, P2, P3, ?_⟩
    · rw [kFb_n]
      show ((w + 2 : Nat) : Int) + _ + 2 ≤ _
      omega
    · rw [(ksas_at [42, 97 + (kcr (N 25) v : Int)] w T a2).1 30 29 (by decide) (by decide)]
      exact h29
/-- an entry's key by both -/
theorem item_key (hWd : kWrd E) {d k k1 n n1 b w o s p : Nat} {dp : Int} (h1 : N 21 b = 4 ∧ k1 = k ∧ N 28 n1 = -1 ∨ N 21 b = 5 ∧ k1 = k + 1 ∧ N 28 n1 = (k : Int) ∧ N 21 k < 4 ∧ kSub N d k (k + 1) n n) (C : kCx N S T c u e) (W : kWr N S T c k w) (hk1 : k1 ≤ c) (hn1 : n1 < e) (hn : n ≤ e) (hb0 : b < k) (hbc : b < c) (hdp : 0 ≤ dp ∧ dp + 1 + (d : Int) ≤ 9) (hb : (w : Int) + (s : Int) ≤ kFb N c u k n) : ∃ (S' T' : Nat → Nat → Int) (w' : Nat), (∀ Q, kR (3 * d + 6 + 1) 27 (blk 27 72) [.ref 7, .ref 10, .int (Int32.ofInt (b : Int)), .int (Int32.ofInt dp), .int (Int32.ofInt 0), .int (Int32.ofInt (n1 : Int))] [] (sz, hp 53 E S') Q → ∀ f : Int, kR (3 * d + 6 + 1) 27 (blk 27 37) [.ref 7, .ref 10, .int (Int32.ofInt (b : Int)), .int (Int32.ofInt dp), .int (Int32.ofInt f), .int (Int32.ofInt (n1 : Int))] [] (sz, hp 53 E S) Q) ∧ (∀ Q, kR 4 161 (blk 161 303) [.ref 30, .int (Int32.ofInt x1), .int (Int32.ofInt (b : Int)), .int (Int32.ofInt (p : Int)), .int (Int32.ofInt (n1 : Int))] [] (sz, hp 53 E T') Q → kR 4 161 (blk 161 270) [.ref 30, .int (Int32.ofInt x1), .int (Int32.ofInt (b : Int)), .int (Int32.ofInt (p : Int)), .int (Int32.ofInt (n1 : Int))] [] (sz, hp 53 E T) Q) ∧ kWr N S' T' c k1 w' ∧ (w' : Int) + (s : Int) ≤ kFb N c u k1 n ∧ kFs S S' ∧ kFwr T T' o ∧ T' 30 29 = T 30 29 := by
  have hw1 := C.1.1.1
  have hw3 := C.1.1.2.2.1
  have ra := C.2.1.2.1 b hbc
  have rc := C.2.1.2.2.2.1 n1 hn1
  have e18 : S 18 = N 28 := C.2.2.1 28 (by decide) (by decide)
  rcases h1 with ⟨q1, q2, q3⟩ | ⟨q1, q2, q3, q4, q5⟩
  · subst q2
    exact ⟨S, T, w, fun Q h f => l_27r (by omega) (by rw [e18]; exact q3) h, fun Q h => l_161r (by omega) (by rw [← ra.1]; exact q1) h, W, hb, kFs.rf, kFwr.rf, rfl⟩
  · subst q2
    have hd : 1 ≤ d := by
      rcases Nat.eq_zero_or_pos d with z | z
      · subst z
        exact absurd q5 (fun z => z)
      · exact z
    obtain ⟨S2, T2, w2, j1, j2, j3, j4, j5, j6, j7, j8⟩ := put_leaf (sz := sz) (o := o) (n := n) (s := s) (dp := dp + 1) hWd C W (by omega) q4 hn hb (by omega)
    have hM := kFb_max (k := k + 1) (n := n) C hk1 hn
    have hnr : ¬ 1 < N 25 k := by
      obtain ⟨⟨w1, w2, w3, w4, w5, w6, w7, w8⟩, wa, _⟩ := C.1
      have a9 := (wa k (by omega)).2.2.2.2.2.2.2.2
      rw [a9, if_neg (by omega), kctn_zero e (fun j hj z => by
        have y := w6 n1 j hn1 hj (by rw [q3, z])
        omega)]
      decide
    obtain ⟨P1, P2, P3⟩ := j4.app (o := o) [58, 32]
    refine ⟨_, _, _, fun Q h f => l_27t hWd (by omega) (by omega) (by omega) (by rw [e18]; exact q3) (kR.up j1 (by omega)) j4.1.1 (by omega) h, fun Q h => l_161t (by omega) (by omega) (by rw [← ra.1]; exact q1) (by rw [← rc.2.1]; exact q3) (j3 hnr) j4.1.2.1 (by omega) h, P1, ?_, j6.tr P2, j7.tr P3 (Nat.le_refl _), ?_⟩
    · show ((w2 + 2 : Nat) : Int) + _ ≤ _
      omega
    · rw [(ksas_at [58, 32] w2 T2 j4.1.2.1).1 30 29 (by decide) (by decide)]
      exact j8
/-- the reference finds the entry -/
theorem k149_at {o b p n1 : Nat} {x : Int} (C : kCx N S T c u e) (hb : b < c) (h4 : 4 ≤ N 21 b) (hn1 : n1 < e) (h3 : N 27 n1 = (b : Int)) (hpp : kctn (N 27) (b : Int) n1 = (p : Int)) : kR 1 149 (blk 149 0) (kent 149 [.ref 30, .int (Int32.ofInt (b : Int)), .int (Int32.ofInt (p : Int))]) [] (sz, hp 53 E (ku T 51 o x)) (fun r => r = (.inl (some (.int (Int32.ofInt (n1 : Int)))), (sz, hp 53 E (ku T 51 o x)))) := by
  obtain ⟨CW, CR, C3, C4, ⟨c1, c2, c3⟩, C6⟩ := C
  obtain ⟨⟨w1, w2, w3, _⟩, wa, _⟩ := CW
  obtain ⟨⟨r1, r2, r3, r4, r5, r6⟩, ra, rb, rc, _⟩ := CR
  have hz := kctn_rng (f := N 27) (x := (b : Int)) n1
  have k := c_149 (m := 53) (E := E) (S := ku T 51 o x) (sz := sz) (by omega) (n := (b : Int)) (i := (p : Int)) (by omega) (by omega) (by show 0 ≤ T 30 8 ∧ T 30 8 ≤ 60; omega) (fun j hj => by
    show 0 ≤ T 34 j ∧ T 34 j ≤ 5
    have hj : (j : Int) < T 30 8 := hj
    have := wa j (by omega)
    have := ra j (by omega)
    omega) (by show 0 ≤ T 30 15 ∧ T 30 15 ≤ 200; omega) (fun j hj => C6 j hj)
  have ek : (if (0 ≤ (b : Int) ∧ (b : Int) < ku T 51 o x 30 8) ∧ 4 ≤ ku T 51 o x 34 (b : Int).toNat ∧ 0 ≤ (p : Int) then kfe (ku T 51 o x 39) (b : Int) (ku T 51 o x 30 15).toNat 0 (p : Int) else -1) = (n1 : Int) := by
    show (if (0 ≤ (b : Int) ∧ (b : Int) < T 30 8) ∧ 4 ≤ T 34 (b : Int).toNat ∧ 0 ≤ (p : Int) then kfe (T 39) (b : Int) (T 30 15).toNat 0 (p : Int) else -1) = (n1 : Int)
    have e34 := (ra b hb).1
    rw [if_pos ⟨⟨by omega, by omega⟩, by rw [show (b : Int).toNat = b by omega, ← e34]; exact h4, by omega⟩, show (T 30 15).toNat = e by omega]
    refine kfe_spec n1 0 n1 (p : Int) (by omega) (by omega) hn1 (by rw [← (rc n1 hn1).1]; exact h3) ?_
    rw [← kctn_congr (f := N 27) (g := T 39) n1 (fun j hj => (rc j (by omega)).1), hpp]
    show (p : Int) - 0 = _
    omega
  rw [ek] at k
  exact k
end KWA
