/-! Writing: the entries of a row or table by both; a whole subtree. -/
section KWB
variable {E : Nat → kC} {N : Nat → Nat → Int} {sz : Nat × Nat} {x1 : Int} {c u e : Nat}
theorem kFwr.wk {T T' : Nat → Nat → Int} {o o' : Nat} (h : kFwr T T' o') (ho : o ≤ o') : kFwr T T' o := ⟨h.1, h.2.1, fun j hj => h.2.2 j (by omega)⟩
theorem kFwr.k51 {T : Nat → Nat → Int} {o : Nat} {x : Int} : kFwr T (ku T 51 o x) o := ⟨fun a h1 h2 h3 h4 h5 => by show (if a = 51 then _ else T a) = T a; rw [if_neg h5], fun k h1 h2 h3 => rfl, fun j hj => ⟨rfl, by show (if j = o then _ else T 51 j) = T 51 j; rw [if_neg (by omega)]⟩⟩
/-- the entries of one row or table -/
theorem items_all (hWd : kWrd E) {d b o s : Nat} {dp : Int} (ih : kPut E N sz x1 c u e d) (hb4 : 4 ≤ N 21 b) (ho : o + 1 + d ≤ 8) (hdp : 0 ≤ dp ∧ dp + 1 + (d : Int) ≤ 9) (hs : 2 ≤ s) : ∀ (i k n c' n' : Nat), kIt (kSub N d) N b i k n c' n' → b < k → c' ≤ c → n' ≤ e → (∀ i, i < e → (k : Int) ≤ N 27 i → N 27 i < (c' : Int) → n ≤ i ∧ i < n') → (∀ i, n' ≤ i → i < e → ¬ N 27 i = (b : Int)) → (∀ j : Nat, 0 < j → j < k → (∃ i, i < e ∧ N 28 i = (j : Int)) ∨ ∃ i, i < e ∧ N 29 i = (j : Int) ∧ (i < n ∨ n' ≤ i)) → ∀ (S T : Nat → Nat → Int) (w p : Nat), kCx N S T c u e → kWr N S T c k w → T 30 29 = ((o + 1 : Nat) : Int) → T 44 o = (b : Int) → T 51 o = (p : Int) → kctn (N 27) (b : Int) n = (p : Int) → (w : Int) + (s : Int) ≤ kFb N c u k n → ∃ (S' T' : Nat → Nat → Int) (w' : Nat), kR (3 * d + 6 + 1) 27 (blk 27 6) [.ref 7, .ref 10, .int (Int32.ofInt (b : Int)), .int (Int32.ofInt dp), .int (Int32.ofInt (if p = 0 then 1 else 0)), .int (Int32.ofInt (n : Int))] [] (sz, hp 53 E S) (fun r => r = (.inl none, (sz, hp 53 E S'))) ∧ kLs sz E x1 T T' ∧ kWr N S' T' c c' w' ∧ (w' : Int) + (s : Int) ≤ kFb N c u c' n' ∧ kFs S S' ∧ kFwr T T' o ∧ T' 30 29 = ((o + 1 : Nat) : Int) ∧ T' 44 o = (b : Int) ∧ T' 51 o = kctn (N 27) (b : Int) n'
  | 0, k, n, c', n', h, hbk, hc', hn', hG, hB, hJ, S, T, w, p, C, W, h29, h44, h51, hpp, hb => by
    obtain ⟨q1, q2⟩ := h
    subst q1
    subst q2
    have e17 : S 17 = N 27 := C.2.2.1 27 (by decide) (by decide)
    have e11 : S 10 11 = (e : Int) := by rw [show S 10 = N 20 from C.2.2.1 20 (by decide) (by decide)]; exact C.2.1.1.2.2.2.2.1
    have wb := C.1.2.2.1
    have hw1 := C.1.1.1
    have hw3 := C.1.1.2.2.1
    exact ⟨S, T, w, l_27s e11 hw3 (by omega) (Nat.le_refl _) (fun i hi => by rw [e17]; have := wb i hi; omega) (l_27e e11 hw3) (e - n) n rfl hn' (fun x h1 h2 => by rw [e17]; exact hB x h1 h2), kLs.rf, W, hb, kFs.rf, kFwr.rf, h29, h44, by rw [h51, hpp]⟩
  | i + 1, k, n, c', n', h, hbk, hc', hn', hG, hB, hJ, S, T, w, p, C, W, h29, h44, h51, hpp, hb => by
    obtain ⟨k1, k2, n1, v, h1, h2, h3, h4, h5⟩ := h
    have hPs : ∀ a b x y, kSub N d a b x y → a ≤ b ∧ x ≤ y := fun a b x y q => ⟨Nat.le_of_lt (kSub_mono (S' := N) d a b x y q).1, (kSub_mono (S' := N) d a b x y q).2.1⟩
    have m5 := kIt_mono (Q := kSub N d) (S' := N) hPs i k2 (n1 + 1) c' n' h5
    have ow := (kIt_owners (fun a b x y q => ⟨(hPs a b x y q).1, (hPs a b x y q).2, kSub_owners d a b x y q⟩) i k2 (n1 + 1) c' n' h5).2.2
    have m51 := m5.1
    have m52 := m5.2.1
    have e1 : k ≤ k1 ∧ k1 ≤ k + 1 := by rcases h1 with ⟨_, q, _⟩ | ⟨_, q, _⟩ <;> omega
    have e2 : k1 ≤ k2 ∧ n ≤ n1 := by
      rcases h2 with ⟨_, q⟩ | ⟨_, q1, q2⟩
      · exact hPs _ _ _ _ q
      · omega
    have ow2 : ∀ j, n ≤ j → j < n1 → (k1 : Int) ≤ N 27 j ∧ N 27 j < (k2 : Int) := fun j g1 g2 => by
      rcases h2 with ⟨_, q⟩ | ⟨_, q1, q2⟩
      · exact kSub_owners d _ _ _ _ q j g1 g2
      · omega
    have hnb : ∀ j, n ≤ j → j < n1 → ¬ N 27 j = (b : Int) := fun j g1 g2 => by have := ow2 j g1 g2; omega
    have hn1 : n1 < e := by omega
    have e17 : S 17 = N 27 := C.2.2.1 27 (by decide) (by decide)
    have e19 : S 19 = N 29 := C.2.2.1 29 (by decide) (by decide)
    have e11 : S 10 11 = (e : Int) := by rw [show S 10 = N 20 from C.2.2.1 20 (by decide) (by decide)]; exact C.2.1.1.2.2.2.2.1
    have wb := C.1.2.2.1
    have hw1 := C.1.1.1
    have hw3 := C.1.1.2.2.1
    have hM := kFb_max (k := k) (n := n) C (by omega) (by omega)
    have hp1 : kctn (N 27) (b : Int) n1 = (p : Int) := by rw [kctn_same e2.2 hnb]; exact hpp
    have hp2 : kctn (N 27) (b : Int) (n1 + 1) = (p : Int) + 1 := by
      show kctn (N 27) (b : Int) n1 + _ = _
      rw [hp1, if_pos h3]
    have hp3 := kctn_mono (f := N 27) (x := (b : Int)) (a := n1 + 1) (b := e) (by omega)
    have hp4 := kctn_rng (f := N 27) (x := (b : Int)) e
    have z37 : T 37 b = kctn (N 27) (b : Int) e := by
      have y := (C.1.2.1 b (by omega)).2.2.2.2.2.2.2.1 hb4
      rw [← (C.2.1.2.1 b (by omega)).2.1]
      exact y
    have k149 := k149_at (E := E) (sz := sz) (o := o) (x := (p : Int) + 1) C (by omega) hb4 hn1 h3 hp1
    -- the comma
    obtain ⟨xs, hxs⟩ : ∃ xs : List Int, xs = if p = 0 then [] else [44, 32] := ⟨_, rfl⟩
    have hxl : xs.length ≤ 2 := by
      rw [hxs]
      by_cases q : p = 0
      · rw [if_pos q]; exact Nat.zero_le _
      · rw [if_neg q]; exact Nat.le_refl _
    have W0 : kWr N S (ku T 51 o ((p : Int) + 1)) c k w := W
    obtain ⟨P1, P2, P3⟩ := W0.app (o := o) xs
    have F1 : kFwr T (ksas xs w (ku T 51 o ((p : Int) + 1))) o := kFwr.k51.tr P3 (Nat.le_refl _)
    have C1 := C.fr P2 F1
    have a51 : ksas xs w (ku T 51 o ((p : Int) + 1)) 51 o = (p : Int) + 1 := by
      rw [(ksas_at xs w (ku T 51 o ((p : Int) + 1)) W0.1.2.1).1 51 o (by omega) (by decide)]
      show (if o = o then _ else _) = _
      rw [if_pos rfl]
    have a44 : ksas xs w (ku T 51 o ((p : Int) + 1)) 44 o = (b : Int) := by
      rw [(ksas_at xs w (ku T 51 o ((p : Int) + 1)) W0.1.2.1).1 44 o (by omega) (by decide)]
      exact h44
    have a29 : ksas xs w (ku T 51 o ((p : Int) + 1)) 30 29 = ((o + 1 : Nat) : Int) := by
      rw [(ksas_at xs w (ku T 51 o ((p : Int) + 1)) W0.1.2.1).1 30 29 (by decide) (by decide)]
      exact h29
    obtain ⟨S1, hS1⟩ : ∃ S1, S1 = kpts xs w S := ⟨_, rfl⟩
    obtain ⟨T1, hT1⟩ : ∃ T1, T1 = ksas xs w (ku T 51 o ((p : Int) + 1)) := ⟨_, rfl⟩
    rw [← hT1] at a51 a44 a29 F1
    rw [← hS1, ← hT1] at P1 C1
    rw [← hS1] at P2
    -- the key
    obtain ⟨S3, T3, w3, g1, g2, g3, g4, g5, g6, g7⟩ := item_key (sz := sz) (x1 := x1) (o := o + 1) (s := s - 2) (p := p) (dp := dp) hWd h1 C1 P1 (by omega) hn1 (by omega) hbk (by omega) hdp (by omega)
    have C3 := C1.fr g5 g6
    -- the value
    obtain ⟨S4, T4, T5, w5, j1, j2, j3, j4, j5, j6, j7, j8⟩ := item_val (n := n) (dp := dp + 1) (o := o + 1) (s := s - 2) ih C3 g3 (by rw [g7, a29]) ho (by omega) (by omega) e2.1 hn1 h2 h4 (fun x y1 y2 y3 => by
      have z := hG x y1 (by omega) (by omega)
      refine ⟨z.1, ?_⟩
      rcases Nat.lt_trichotomy x n1 with t | t | t
      · exact t
      · subst t
        omega
      · rcases ow x (by omega) z.2 with r | r <;> omega) (fun j y1 y2 => by
      rcases Nat.lt_or_ge j k with t | t
      · rcases hJ j y1 t with z | ⟨x, z1, z2, z3⟩
        · exact Or.inl z
        · exact Or.inr ⟨x, z1, z2, by omega⟩
      · rcases h1 with ⟨_, q, _⟩ | ⟨_, q, q', _⟩
        · omega
        · exact Or.inl ⟨n1, hn1, by rw [q']; omega⟩) g4
    have C5 := C3.fr j6 j7
    have f15 : kFwr T1 T5 (o + 1) := g6.tr j7 (Nat.le_refl _)
    have b44 : T5 44 o = (b : Int) := by rw [(f15.2.2 o (by omega)).1]; exact a44
    have b51 : T5 51 o = ((p + 1 : Nat) : Int) := by rw [(f15.2.2 o (by omega)).2]; exact a51
    -- the rest
    obtain ⟨S', T', w', i1, i2, i3, i4, i5, i6, i7, i8, i9⟩ := items_all hWd ih hb4 ho hdp hs i k2 (n1 + 1) c' n' h5 (by omega) hc' hn' (fun x y1 y2 y3 => by
      have z := hG x y1 (by omega) y3
      refine ⟨?_, z.2⟩
      rcases Nat.lt_trichotomy x n1 with t | t | t
      · have r := ow2 x z.1 t
        omega
      · subst t
        omega
      · omega) hB (fun j y1 y2 => by
      rcases Nat.lt_or_ge j k with t | t
      · rcases hJ j y1 t with z | ⟨x, z1, z2, z3⟩
        · exact Or.inl z
        · exact Or.inr ⟨x, z1, z2, by omega⟩
      · rcases Nat.lt_or_ge j k1 with t2 | t2
        · rcases h1 with ⟨_, q, _⟩ | ⟨_, q, q', _⟩
          · omega
          · exact Or.inl ⟨n1, hn1, by rw [q']; omega⟩
        · rcases h2 with ⟨q1, q⟩ | ⟨_, q1, q2⟩
          · rcases Nat.lt_or_ge k1 j with t3 | t3
            · rcases kSub_nodes d _ _ _ _ q j t3 y2 with ⟨x, z1, z2, z3⟩ | ⟨x, z1, z2, z3⟩
              · exact Or.inl ⟨x, by omega, z3⟩
              · exact Or.inr ⟨x, by omega, z3, by omega⟩
            · exact Or.inr ⟨n1, hn1, by rw [h4]; omega, by omega⟩
          · omega) S4 T5 w5 (p + 1) C5 j4 j8 b44 b51 (by rw [hp2]; rfl) (by omega)
    refine ⟨S', T', w', ?_, ?_, i3, i4, P2.tr (g5.tr (j6.tr i5)), F1.tr ((f15.wk (by omega)).tr i6 (Nat.le_refl _)) (Nat.le_refl _), i7, i8, i9⟩
    · rw [if_neg (by omega)] at i1
      have r72 := l_27v (o := b) (dp := dp) (f := 0) (i := n1) (by omega) (by rw [C3.2.2.1 29 (by decide) (by decide)]; exact h4) j1 i1
      have r37 := g1 _ r72 (if p = 0 then 1 else 0)
      refine l_27s e11 hw3 (by omega) (by omega) (fun i hi => by rw [e17]; have := wb i (by omega); omega) ?_ (n1 - n) n rfl e2.2 (fun x h1 h2 => by rw [e17]; exact hnb x h1 h2)
      refine l_27i (w := w) hWd (by omega) e11 hw3 (by omega) hn1 (by rw [e17]; exact h3) (by split <;> omega) W.1.1 (by omega) ?_
      have ex : (if (if p = 0 then (1 : Int) else 0) = 1 then [] else [44, 32]) = xs := by
        rw [hxs]
        by_cases q : p = 0
        · rw [if_pos q, if_pos q, if_pos rfl]
        · rw [if_neg q, if_neg q, if_neg (by decide)]
      rw [ex, ← hS1]
      exact r37
    · intro Q hQ
      have r303 := l_161v (x1 := x1) (v := b) (p := p) (i := n1) (y := v) (by omega) (by rw [← (C3.2.1.2.2.2.1 n1 hn1).2.2]; exact h4) j2 (j3 Q (i2 Q hQ))
      have r270 := g2 Q r303
      refine l_161i (o := o + 1) (v := b) (p := p) (w := w) (i := n1) (by omega) h29 h44 (by omega) h51 (by omega) z37 (by omega) (by omega) k149 W.1.2.1 (by omega) ?_
      show kR 4 161 (blk 161 270) _ _ (sz, hp 53 E (ksas (if p = 0 then [] else [44, 32]) w (ku T 51 o ((p : Int) + 1)))) Q
      rw [← hxs, ← hT1]
      exact r270
end KWB
