/-! Writing: a whole subtree by both. -/
section KWC
variable {E : Nat → kC} {N : Nat → Nat → Int} {sz : Nat × Nat} {x1 : Int} {c u e : Nat}
theorem c_27 {S : Nat → Nat → Int} {D k : Nat} {dp : Int} {Q : kO × kH → Prop} (h : kR (D + 1) 27 (blk 27 6) [.ref 7, .ref 10, .int (Int32.ofInt (k : Int)), .int (Int32.ofInt dp), .int (Int32.ofInt 1), .int (Int32.ofInt ((0 : Nat) : Int))] [] (sz, hp 53 E S) Q) : kR (D + 1) 27 (blk 27 0) (kent 27 [.ref 7, .ref 10, .int (Int32.ofInt (k : Int)), .int (Int32.ofInt dp)]) [] (sz, hp 53 E S) Q := by
  show kR (D + 1) 27 b27_0 _ _ _ _
  refine kR.s rfl rfl ?_
  refine kR.s rfl rfl ?_
  refine kR.s rfl rfl ?_
  refine kR.s rfl rfl ?_
  refine kR.n ?_
  exact h
theorem kpsh_fr {T : Nat → Nat → Int} {o k : Nat} : kFwr T (kpsh T o k) o := by
  refine ⟨fun a h1 h2 h3 h4 h5 => ?_, fun i h1 h2 h3 => ?_, fun j hj => ⟨?_, ?_⟩⟩
  · show (if a = 30 then _ else (if a = 51 then _ else (if a = 44 then _ else T a))) = T a
    rw [if_neg h1, if_neg h5, if_neg h2]
  · show (if i = 29 then _ else T 30 i) = T 30 i
    rw [if_neg h1]
  · show (if j = o then _ else T 44 j) = T 44 j
    rw [if_neg (by omega)]
  · show (if j = o then _ else T 51 j) = T 51 j
    rw [if_neg (by omega)]
theorem kTpre_29 {T : Nat → Nat → Int} {h : Int} {k q w : Nat} (hw : T 30 37 = (w : Int)) : kTpre T h k q w 30 29 = T 30 29 := by
  unfold kTpre
  by_cases g : 1 < h
  · rw [if_pos g]
    exact (ksas_at (kpre h q) w (ku (ku T 50 k (97 + (q : Int))) 30 40 ((q : Int) + 1)) (by exact hw)).1 30 29 (by decide) (by decide)
  · rw [if_neg g]
    exact (ksas_at (kpre h q) w T hw).1 30 29 (by decide) (by decide)
theorem put_all (hWd : kWrd E) : ∀ d, kPut E N sz x1 c u e d
  | 0 => fun k c' n n' h => absurd h (fun z => z)
  | d + 1 => by
    intro k c' n n' h S T w o s dp C W h29 ho hdp hc' hn' hG hJ hb
    have ih := put_all hWd d
    have mm := kSub_mono (S' := N) (d + 1) k c' n n' h
    have hk : k < c := by omega
    rcases h with ⟨q1, q2, q3⟩ | ⟨q1, i, q2⟩
    · subst q2
      subst q3
      obtain ⟨S', T', w', j1, j2, j3, j4, j5, j6, j7, j8⟩ := put_leaf (sz := sz) (o := o) (dp := dp) hWd C W hk q1 hn' hb (by omega)
      exact ⟨S', T', T', w', kR.up j1 (by omega), j2, kLs.rf, j4, by omega, j6, j7, by rw [j8, h29]⟩
    · have hF := kFb_cont (n := n) C.1 hk
      have hM := kFb_max (k := k + 1) (n := n) C (by omega) (by omega)
      have hM2 := kFb_max (k := c') (n := n') C hc' hn'
      obtain ⟨P1, P2, P3⟩ := W.pre (o := o) hk
      have hpl := kpre_len (N 25 k) (kcr (N 25) k)
      have hq := kcr_le (H := N 25) (a := k) (b := c) (by omega)
      have hc1 := C.2.2.2.2.1.1
      have hw1 := C.1.1.1
      have hw3 := C.1.1.2.2.1
      obtain ⟨a1, a2, a3, a4, a5, a6, a7, a8, a9⟩ := C.1.2.1 k hk
      have h25 : 0 ≤ N 25 k ∧ N 25 k ≤ 300 := by
        have z := kctn_rng (f := N 29) (x := (k : Int)) e
        rw [a9]
        split <;> omega
      have e9 : S 9 k = -1 := by rw [W.2.2.1 k hk, if_neg (by omega)]
      have e50 : T 50 k = 0 := by rw [W.2.2.2 k hk, if_neg (by omega)]
      have e15 : S 15 k = N 25 k := by rw [show S 15 = N 25 from C.2.2.1 25 (by decide) (by decide)]
      obtain ⟨S1, hS1⟩ : ∃ S1, S1 = kSpre S (N 25 k) k (kcr (N 25) k) w := ⟨_, rfl⟩
      obtain ⟨T1, hT1⟩ : ∃ T1, T1 = kTpre T (N 25 k) k (kcr (N 25) k) w := ⟨_, rfl⟩
      have t29 : T1 30 29 = (o : Int) := by rw [hT1, kTpre_29 W.1.2.1, h29]
      obtain ⟨w1, hw1'⟩ : ∃ w1, w1 = w + (kpre (N 25 k) (kcr (N 25) k)).length := ⟨_, rfl⟩
      rw [← hS1, ← hT1, ← hw1'] at P1
      rw [← hS1] at P2
      rw [← hT1] at P3
      obtain ⟨R1, R2, R3⟩ := P1.app (o := o) [if N 21 k = 4 then 91 else 123]
      have kd : N 21 k = 4 ∨ N 21 k = 5 := by omega
      have e11 : S1 11 k = N 21 k := by rw [P2 11 (by decide) (by decide) (by decide), show S 11 = N 21 from C.2.2.1 21 (by decide) (by decide)]
      have e34 : T1 34 k = N 21 k := by rw [P3.1 34 (by decide) (by decide) (by decide) (by decide) (by decide)]; exact (C.2.1.2.1 k hk).1.symm
      obtain ⟨S2, hS2⟩ : ∃ S2, S2 = kpts [if N 21 k = 4 then 91 else 123] w1 S1 := ⟨_, rfl⟩
      obtain ⟨T2, hT2⟩ : ∃ T2, T2 = ksas [if N 21 k = 4 then 91 else 123] w1 T1 := ⟨_, rfl⟩
      rw [← hS2, ← hT2] at R1
      rw [← hS2] at R2
      rw [← hT2] at R3
      have F2 : kFwr T (kpsh T2 o k) o := (P3.tr R3 (Nat.le_refl _)).tr kpsh_fr (Nat.le_refl _)
      have G2 : kFs S S2 := P2.tr R2
      have C2 := C.fr G2 F2
      have hn0 : ∀ j, j < n → ¬ N 27 j = (k : Int) := fun j hj z => by
        have y := hG j (by omega) (by omega) (by omega)
        omega
      have W3 : kWr N S2 (kpsh T2 o k) c (k + 1) (w1 + 1) := R1
      obtain ⟨S3, T4, w3, i1, i2, i3, i4, i5, i6, i7, i8, i9⟩ := items_all (o := o) (s := s + 20) (dp := dp) hWd ih q1 (by omega) (by omega) (by omega) i (k + 1) n c' n' q2 (by omega) hc' hn' (fun x y1 y2 y3 => hG x y1 (by omega) y3) (fun x y1 y2 y3 => by
        have y := hG x y2 (by omega) (by omega)
        omega) (fun j y1 y2 => hJ j y1 (by omega)) S2 (kpsh T2 o k) (w1 + 1) 0 C2 W3 rfl (by show (if o = o then (k : Int) else _) = _; rw [if_pos rfl]) (by show (if o = o then (0 : Int) else _) = _; rw [if_pos rfl]; rfl) (kctn_zero n (fun j hj => hn0 j hj)) (by omega)
      rw [if_pos rfl] at i1
      have C4 := C2.fr i5 i6
      have cR := kctn_rng (f := N 27) (x := (k : Int)) n'
      obtain ⟨p, hpp⟩ : ∃ p : Nat, kctn (N 27) (k : Int) n' = (p : Int) := ⟨(kctn (N 27) (k : Int) n').toNat, by omega⟩
      have z37 : T4 37 k = (p : Int) := by
        rw [← (C4.2.1.2.1 k hk).2.1, a8 q1, ← hpp]
        exact kctn_same hn' (fun x y1 y2 z => by
          have y := hG x y2 (by omega) (by omega)
          omega)
      have W4 : kWr N S3 (ku T4 51 o ((p : Int) + 1)) c c' w3 := i3
      obtain ⟨X1, X2, X3⟩ := W4.app (o := o) [if N 21 k = 4 then 93 else 125]
      have cl := l_161c (sz := sz) (E := E) (x1 := x1) (T := T4) (o := o + 1) (v := k) (p := p) (w := w3) (kd := N 21 k) (by omega) i7 i8 (by omega) (by show T4 51 o = _; rw [i9, hpp]) (by omega) z37 (C4.2.1.2.1 k hk).1.symm kd i3.1.2.1 (by omega)
      refine ⟨kpts [if N 21 k = 4 then 93 else 125] w3 S3, kpsh T2 o k, ku (ksas [if N 21 k = 4 then 93 else 125] w3 (ku T4 51 o ((p : Int) + 1))) 30 29 (o : Int), w3 + 1, ?_, ?_, i2.tr cl, X1, ?_, G2.tr (i5.tr X2), ?_, rfl⟩
      · have e17 : S2 17 = N 27 := C2.2.2.1 27 (by decide) (by decide)
        have e111 : S2 10 11 = (e : Int) := by rw [show S2 10 = N 20 from C2.2.2.1 20 (by decide) (by decide)]; exact C.2.1.1.2.2.2.2.1
        have wb := C.1.2.2.1
        have r6 := l_27s (o := k) (j := n) e111 hw3 (by omega) (by omega) (fun i hi => by rw [e17]; have := wb i (by omega); omega) i1 n 0 rfl (Nat.zero_le _) (fun x h1 h2 => by rw [e17]; exact hn0 x h2)
        rw [hS2] at r6
        have r26 := l_26c (k := k) (w := w1) (w2 := w3) (kd := N 21 k) (by omega) e11 kd P1.1.1 (by omega) (c_27 r6) i3.1.1 (by omega)
        rw [hS1] at r26
        exact c_25n (D := 3 * d + 6 + 1 + 1) (q := kcr (N 25) k) (h := N 25 k) (by omega) e9 (by omega) e15 (by omega) W.2.1.1 (by omega) W.1.1 (by omega) r26 (by omega)
      · have r81 := l_160c (sz := sz) (E := E) (T := T1) (k := k) (w := w1) (o := o) (kd := N 21 k) (by omega) e34 kd P1.1.2.1 (by omega) t29 (by omega)
        rw [← hT2, hT1] at r81
        exact l_160 (q := kcr (N 25) k) (h := N 25 k) (by omega) e50 (C.2.2.2.1 k hk) (by omega) W.2.1.2 (by omega) W.1.2.1 (by omega) r81
      · show ((w3 + 1 : Nat) : Int) + _ ≤ _
        omega
      · refine F2.tr (i6.tr (kFwr.k51.tr (X3.tr ?_ (Nat.le_refl _)) (Nat.le_refl _)) (Nat.le_refl _)) (Nat.le_refl _)
        exact ⟨fun a h1 h2 h3 h4 h5 => by
          show (if a = 30 then _ else _) = _
          rw [if_neg h1], fun i h1 h2 h3 => by
          show (if i = 29 then _ else _) = _
          rw [if_neg h1], fun j hj => ⟨rfl, rfl⟩⟩
end KWC
