/-! Writing: a leaf by both, with its letter; how long it can get. -/
def kBg (N : Nat → Nat → Int) (c u k : Nat) : Int := if k < c then N 24 k else (u : Int)
/-- so much may be written before node k and entry n -/
def kFb (N : Nat → Nat → Int) (c u k n : Nat) : Int := 2 * kBg N c u k + 21 * (k : Int) + 4 * (n : Int) + 3 * (kcr (N 25) k : Int)
theorem kpre_len (h : Int) (q : Nat) : ((kpre h q).length : Int) = 3 * (if 1 < h then 1 else 0) := by
  unfold kpre
  split <;> rfl
theorem kctn_two {f : Nat → Int} {x : Int} {n i j : Nat} (hij : i < j) (hj : j < n) (hi : f i = x) (hjx : f j = x) : 2 ≤ kctn f x n := by
  have h1 : kctn f x (i + 1) = kctn f x i + (if f i = x then 1 else 0) := rfl
  have h2 : kctn f x (j + 1) = kctn f x j + (if f j = x then 1 else 0) := rfl
  rw [if_pos hi] at h1
  rw [if_pos hjx] at h2
  have m1 := kctn_mono (f := f) (x := x) (a := i + 1) (b := j) (by omega)
  have m2 := kctn_mono (f := f) (x := x) (a := j + 1) (b := n) (by omega)
  have m3 := (kctn_rng (f := f) (x := x) i).1
  omega
section KWF2
variable {N S T : Nat → Nat → Int} {c u e k w o n : Nat}
theorem kFb_leaf (W : kWf N c u e) (hk : k < c) (h4 : N 21 k < 4) : kFb N c u k n + 21 + 2 * N 22 k + 3 * (if 1 < N 25 k then 1 else 0) ≤ kFb N c u (k + 1) n := by
  obtain ⟨⟨w1, w2, w3, w4, w5, w6, w7, w8⟩, wa, _⟩ := W
  have hs : (kcr (N 25) (k + 1) : Int) = (kcr (N 25) k : Int) + (if 1 < N 25 k then 1 else 0) := by
    show ((kcr (N 25) k + (if 1 < N 25 k then 1 else 0) : Nat) : Int) = _
    split <;> omega
  have a7 := (wa k hk).2.2.2.2.2.2.1 h4
  have hb : N 24 k + N 22 k ≤ kBg N c u (k + 1) := by
    unfold kBg
    by_cases g : k + 1 < c
    · rw [if_pos g]
      have z := w8 k (k + 1) (by omega) g
      rw [if_pos h4] at z
      exact z
    · rw [if_neg g]
      exact a7
  have hb0 : kBg N c u k = N 24 k := if_pos hk
  unfold kFb
  rw [hs, hb0]
  omega
theorem kFb_cont (W : kWf N c u e) (hk : k < c) : kFb N c u k n + 21 + 3 * (if 1 < N 25 k then 1 else 0) ≤ kFb N c u (k + 1) n := by
  obtain ⟨⟨w1, w2, w3, w4, w5, w6, w7, w8⟩, wa, _⟩ := W
  have hs : (kcr (N 25) (k + 1) : Int) = (kcr (N 25) k : Int) + (if 1 < N 25 k then 1 else 0) := by
    show ((kcr (N 25) k + (if 1 < N 25 k then 1 else 0) : Nat) : Int) = _
    split <;> omega
  have h22 := (wa k hk).2.2.1
  have hb : N 24 k ≤ kBg N c u (k + 1) := by
    unfold kBg
    by_cases g : k + 1 < c
    · rw [if_pos g]
      have z := w8 k (k + 1) (by omega) g
      by_cases q : N 21 k < 4
      · rw [if_pos q] at z
        omega
      · rw [if_neg q] at z
        omega
    · rw [if_neg g]
      exact w4 k hk
  have hb0 : kBg N c u k = N 24 k := if_pos hk
  unfold kFb
  rw [hs, hb0]
  omega
theorem kFb_max (C : kCx N S T c u e) (hk : k ≤ c) (hn : n ≤ e) : kFb N c u k n ≤ 1940 := by
  obtain ⟨⟨⟨w1, w2, w3, w4, _⟩, _⟩, _, _, _, ⟨c1, c2, c3⟩, _⟩ := C
  have hq := kcr_le (H := N 25) hk
  have hb : kBg N c u k ≤ u := by
    unfold kBg
    by_cases g : k < c
    · rw [if_pos g]
      exact w4 k g
    · rw [if_neg g]
      exact Int.le_refl _
  unfold kFb
  omega
theorem kFb_n : kFb N c u k (n + 1) = kFb N c u k n + 4 := by
  unfold kFb
  omega
end KWF2
section KWV
variable {E : Nat → kC} {N S T : Nat → Nat → Int} {sz : Nat × Nat} {x1 : Int} {c u e : Nat}
theorem put_leaf (hWd : kWrd E) {k w o n s : Nat} {dp : Int} (C : kCx N S T c u e) (W : kWr N S T c k w) (hk : k < c) (h4 : N 21 k < 4) (hn : n ≤ e) (hb : (w : Int) + (s : Int) ≤ kFb N c u k n) (hdp : 0 ≤ dp ∧ dp ≤ 8) : ∃ (S' T' : Nat → Nat → Int) (w' : Nat), kR 6 25 (blk 25 0) (kent 25 [.ref 7, .ref 10, .int (Int32.ofInt (k : Int)), .int (Int32.ofInt dp)]) [] (sz, hp 53 E S) (fun r => r = (.inl none, (sz, hp 53 E S'))) ∧ kR 3 160 (blk 160 0) (kent 160 [.ref 30, .int (Int32.ofInt (k : Int))]) [] (sz, hp 53 E T) (fun r => r = (.inl none, (sz, hp 53 E T'))) ∧ (¬ 1 < N 25 k → kR 2 159 (blk 159 0) (kent 159 [.ref 30, .int (Int32.ofInt (k : Int))]) [] (sz, hp 53 E T) (fun r => r = (.inl none, (sz, hp 53 E T')))) ∧ kWr N S' T' c (k + 1) w' ∧ (w' : Int) + (s : Int) + 2 ≤ kFb N c u (k + 1) n ∧ kFs S S' ∧ kFwr T T' o ∧ T' 30 29 = T 30 29 := by
  have hF := kFb_leaf (n := n) C.1 hk h4
  have hM := kFb_max (k := k + 1) (n := n) C (by omega) hn
  obtain ⟨P1, P2, P3⟩ := W.pre (o := o) hk
  have hpl := kpre_len (N 25 k) (kcr (N 25) k)
  obtain ⟨CW, CR, C3, C4, ⟨c1, c2, c3⟩, C6⟩ := C
  obtain ⟨⟨w1, w2, w3, w4, w5, w6, w7, w8⟩, wa, _⟩ := CW
  obtain ⟨a1, a2, a3, a4, a5, a6, a7, a8, a9⟩ := wa k hk
  obtain ⟨_, ra, rb, _⟩ := CR
  obtain ⟨r1, r2, r3, r4⟩ := ra k hk
  have a7 := a7 h4
  have hq := kcr_le (H := N 25) (a := k) (b := c) (by omega)
  have h25 : 0 ≤ N 25 k ∧ N 25 k ≤ 300 := by
    have z := kctn_rng (f := N 29) (x := (k : Int)) e
    rw [a9]
    split <;> omega
  obtain ⟨z, hz⟩ : ∃ z : Nat, N 22 k = (z : Int) := ⟨(N 22 k).toNat, by omega⟩
  obtain ⟨b, hbb⟩ : ∃ b : Nat, N 24 k = (b : Int) := ⟨(N 24 k).toNat, by omega⟩
  have hW := W
  obtain ⟨⟨x1', x2', x3'⟩, ⟨y1, y2⟩, d1, d2⟩ := W
  have e9 : S 9 k = -1 := by rw [d1 k hk, if_neg (by omega)]
  have e50 : T 50 k = 0 := by rw [d2 k hk, if_neg (by omega)]
  have e15 : S 15 k = N 25 k := by rw [show S 15 = N 25 from C3 25 (by decide) (by decide)]
  obtain ⟨h, hh⟩ : ∃ h, h = N 25 k := ⟨_, rfl⟩
  obtain ⟨q, hq0⟩ : ∃ q, q = kcr (N 25) k := ⟨_, rfl⟩
  rw [← hh, ← hq0] at P1 P2 P3 hpl
  rw [← hh] at hF e15 h25
  rw [← hq0] at y1 y2 hq
  have hc49 := C4 k hk
  rw [← hh] at hc49
  obtain ⟨xs, l1, l2, l3⟩ := leaf_both (sz := sz) (E := E) (S := kSpre S h k q w) (S2 := kTpre T h k q w) (dp := dp) hWd (v := k) (z := z) (b := b) (w := w + (kpre h q).length) (w2 := w + (kpre h q).length) (k := N 21 k) (x := N 23 k) (by omega) ⟨a1, h4⟩ (by rw [P2 11 (by decide) (by decide) (by decide), show S 11 = N 21 from C3 21 (by decide) (by decide)]) (by rw [P3.1 34 (by decide) (by decide) (by decide) (by decide) (by decide)]; exact r1.symm) ⟨a4, a5⟩ (by rw [P2 13 (by decide) (by decide) (by decide), show S 13 = N 23 from C3 23 (by decide) (by decide)]) (by rw [P3.1 35 (by decide) (by decide) (by decide) (by decide) (by decide)]; exact r3.symm) (by omega) (by rw [P2 12 (by decide) (by decide) (by decide), show S 12 = N 22 from C3 22 (by decide) (by decide)]; exact hz) (by rw [P3.1 37 (by decide) (by decide) (by decide) (by decide) (by decide), ← r2]; exact hz) (by rw [P2 14 (by decide) (by decide) (by decide), show S 14 = N 24 from C3 24 (by decide) (by decide)]; exact hbb) (by rw [P3.1 36 (by decide) (by decide) (by decide) (by decide) (by decide), ← r4]; exact hbb) (fun i hi => by
    have j1 := w7 (b + i) (by omega)
    have j2 := rb (b + i) (by omega)
    rw [P2 16 (by decide) (by decide) (by decide), show S 16 = N 26 from C3 26 (by decide) (by decide), P3.1 38 (by decide) (by decide) (by decide) (by decide) (by decide), ← j2]
    exact ⟨j1.1, j1.2, rfl⟩) P1.1.1 (by omega) P1.1.2.1 (by omega)
  obtain ⟨Q1, Q2, Q3⟩ := P1.app (o := o) xs
  refine ⟨kpts xs (w + (kpre h q).length) (kSpre S h k q w), ksas xs (w + (kpre h q).length) (kTpre T h k q w), w + (kpre h q).length + xs.length, ?_, ?_, fun hr => ?_, Q1, by omega, P2.tr Q2, P3.tr Q3 (Nat.le_refl _), ?_⟩
  · exact c_25n (D := 5) (by omega) e9 hdp e15 (by omega) y1 (by omega) x1' (by omega) l2 (by decide)
  · exact l_160 (by omega) e50 hc49 (by omega) y2 (by omega) x2' (by omega) (l_160l (by omega) (by rw [P3.1 34 (by decide) (by decide) (by decide) (by decide) (by decide)]; exact r1.symm) ⟨a1, h4⟩ l3)
  · rw [← hh] at hr
    have et : kTpre T h k q w = T := by
      unfold kTpre kpre
      rw [if_neg hr, if_neg hr]
      rfl
    rw [et] at l3 ⊢
    exact l3
  · have z1 : ksas xs (w + (kpre h q).length) (kTpre T h k q w) 30 29 = kTpre T h k q w 30 29 := (ksas_at xs _ _ P1.1.2.1).1 30 29 (by decide) (by decide)
    rw [z1]
    unfold kTpre
    by_cases g : 1 < h
    · rw [if_pos g]
      exact (ksas_at (kpre h q) w (ku (ku T 50 k (97 + (q : Int))) 30 40 ((q : Int) + 1)) (by exact x2')).1 30 29 (by decide) (by decide)
    · rw [if_neg g]
      exact (ksas_at (kpre h q) w T x2').1 30 29 (by decide) (by decide)
end KWV
