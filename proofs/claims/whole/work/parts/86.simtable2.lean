/-! A table in brackets, side by side: all in all; and what finds no room. -/
section KSO2
variable {sz szT : Nat × Nat} {E : Nat → kC} {x1 : Int} {S T : Nat → Nat → Int} {t : Nat → Int} {n L l a o c u e : Nat}
theorem sim_table (hX : kTx t n L) (A : kAt S T t n L l a o c u e) (h123 : kch t (kre t n l) a = 123) {d D : Nat} (hWd : kWrd E) (hg : c < 60 ∧ o ≤ 7) (hod : o + 1 + d = 8) (IH : ∀ (S T : Nat → Nat → Int) (a c u e : Nat), kAt S T t n L l a (o + 1) c u e → T 30 20 = 2 → kins T (o + 1) = 1 → S 54 3 = -1 → kR D 66 (blk 66 0) (kent 66 [.ref 54, .int (Int32.ofInt ((o : Int) + 1 + 1)), .int (Int32.ofInt 1)]) [] (sz, hp 57 E S) (kRes sz szT E x1 S T t n L l a (o + 1) c e d)) (hD : 8 ≤ D) : kR (D + 1 + 1) 69 (blk 69 0) (kent 69 [.ref 54, .int (Int32.ofInt ((o : Int) + 1))]) [] (sz, hp 57 E S) (kReU sz szT E x1 S T t n L l a o c e (d + 1)) := by
  have A0 := A
  obtain ⟨hl, ⟨hC, c1, c2, c3⟩, ⟨hR, m1, m2, m3, m4⟩, R, W, ⟨g1, g2, g3⟩, q3, q4, q5, q6, q7, q8⟩ := A
  have hln := hX.ln hl
  have hx1 := hX.1
  have hen : kre t n l ≤ n := by omega
  have hae : a < kre t n l := kch_lt (t := t) (by rw [h123]; decide)
  obtain ⟨⟨r1, r2, r3, r4, r5, r6⟩, ra, rb, rc, rd, re⟩ := R
  obtain ⟨⟨w1, w2, w3⟩, wa, wb, wc, wd⟩ := W
  have hBc : ∀ (b : Nat), (b ≠ 20 ∧ b ≠ 21 ∧ b ≠ 22 ∧ b ≠ 23 ∧ b ≠ 24 ∧ b ≠ 25 ∧ b ≠ 54 ∧ b ≠ 55) → kbeg S 5 0 c b = S b := fun b hb => kbeg_cell hb
  have hBt : kCt (kbeg S 5 0 c) t n L := by
    unfold kCt
    rw [hBc 1 (by decide), hBc 2 (by decide), hBc 3 (by decide), hBc 4 (by decide), hBc 5 (by decide), hBc 6 (by decide)]
    exact hC
  have kop := c_70 (S := kbeg S 5 0 c) (E := E) (sz := sz) hX hBt (by rw [hBc 53 (by decide)]; exact c3) hen (by rw [hBc 53 (by decide)]; exact c2) hae (x := 125) (by decide)
  have hmk : kR 0 110 (blk 110 0) (kent 110 [.ref 30, .int (Int32.ofInt 5)]) [] (szT, hp 53 E T) (fun r => r = (.inl (some (.int (Int32.ofInt (c : Int)))), (szT, hp 53 E (kmk T 5 c)))) := c_110 (S := T) ⟨by omega, by omega⟩ r2 (by omega) q4 (by omega) (by rw [← re]; exact wd) hg
  have kref := l_140b_0 (S := T) (E := E) (sz := szT) (m := 53) ⟨by omega, by omega⟩ hX hR m3 hen m4 q7 (S1 := kmk T 5 c) (v := c) (o := o) (w := 0) (Or.inl rfl) hmk (kRt.mk hR 5 c) (by rw [kmk_30 (by decide) (by decide)]; exact m4) (by rw [kmk_30 (by decide) (by decide)]; exact m3) (by rw [kmk_30 (by decide) (by decide)]; exact q4) (by omega) (by rw [kmk_30 (by decide) (by decide)]; exact q3) h123 (v1 := kun) (v2 := kun)
  have hP : a + 1 ≤ kw (fun i => decide (t i = 32)) (kre t n l) (a + 1) ∧ (a + 1 ≤ kre t n l → kw (fun i => decide (t i = 32)) (kre t n l) (a + 1) ≤ kre t n l) := kw_rng
  obtain ⟨P, hPd⟩ : ∃ P, P = kw (fun i => decide (t i = 32)) (kre t n l) (a + 1) := ⟨_, rfl⟩
  rw [← hPd] at hP kop kref
  simp only [kuku] at kop
  show kR (D + 1 + 1) 69 b69_0 _ _ _ _
  refine kR.s rfl rfl ?_
  refine kR.s rfl rfl ?_
  refine kR.s rfl rfl ?_
  refine kR.s rfl rfl ?_
  refine kR.cv rfl rfl (kR.up (c_62g (S := S) (k := 5) (z := 0) (d := (o : Int) + 1) r1 (by omega) (by omega) wd (by omega)) (by omega)) ?_
  refine kR.s rfl rfl ?_
  refine kR.s rfl rfl ?_
  refine kR.bi rfl ?_
  refine kR.c rfl rfl (kR.up kop (by omega)) (fun r hr => ?_)
  by_cases p1 : kch t (kre t n l) P = 125
  · have hr := hr.1 p1
    subst hr
    show kR (D + 1 + 1) 69 _ _ (Value.int (Int32.ofInt 0) :: _) (sz, hp 57 E _) _
    refine kR.s rfl rfl ?_
    refine kR.s rfl rfl ?_
    refine kR.s rfl rfl ?_
    refine kR.n ?_
    show kR (D + 1 + 1) 69 b69_18 _ _ _ _
    refine kR.s rfl rfl ?_
    refine kR.zeq (by decide) (by decide) (fun _ => ?_) (fun q => absurd rfl q)
    show kR (D + 1 + 1) 69 b69_67 _ _ _ _
    refine kR.s rfl rfl ?_
    refine kR.ret rfl rfl ?_
    have hPl : P < kre t n l := kch_lt (t := t) (by rw [p1]; decide)
    obtain ⟨B1, B2, B3, B4, B5, B6, B7⟩ := A0.made (k := 5) (P := P + 1) hg.1 (by decide) (by omega) (by omega)
    refine Or.inl ⟨c, _, _, _, P + 1, c + 1, u, e, rfl, kR.wk kref (fun u hu => hu.1 p1), kStep.rf, B1, rfl, rfl, by omega, B6, B2, by omega, by omega, by omega, B4, B3, (B5.w (by decide)).w (by decide), Or.inl ⟨rfl, Or.inr ⟨?_, 0, rfl, rfl⟩⟩⟩
    exact Int.le_trans (by decide) (Int.le_of_eq B7.symm)
  · have hr := hr.2 p1
    subst hr
    show kR (D + 1 + 1) 69 _ _ (Value.int (Int32.ofInt 1) :: _) (sz, hp 57 E _) _
    refine kR.s rfl rfl ?_
    refine kR.s rfl rfl ?_
    refine kR.s rfl rfl ?_
    refine kR.n ?_
    obtain ⟨B1, B2, B3, B4, B5, B6, B7⟩ := A0.made (k := 5) (P := P) hg.1 (by decide) (by omega) (by omega)
    obtain ⟨C1, C2, C3⟩ := B1.push (w := 4) (z := 0) (s := 3) (m := c) hg.2 (by omega) (by omega) (by decide) ⟨fun z => absurd z (by decide), fun _ => B7⟩
    have hz := l_69 (sz := sz) (szT := szT) (E := E) (x1 := x1) (l := l) hX hWd (o := o) (c0 := c) (e0 := e) (d := d) (D := D) (by omega) hg.1 IH hD _ P (c + 1) u e 0 kun (ku (kbeg S 5 0 c) 53 2 (P : Int)) (ku (kbgm (ku (kmk T 5 c) 30 21 (P : Int)) 4 c 0 o) 30 20 3) rfl C1 rfl (by show (if o = o then (4 : Int) else _) = 4; rw [if_pos rfl]) (by show (if o = o then (c : Int) else _) = _; rw [if_pos rfl]) B7 B6 (by omega) (by omega) ⟨0, rfl, rfl⟩
    refine kR.wk hz (fun r hr => ?_)
    have hU : kU1 szT E T (ku (kbgm (ku (kmk T 5 c) 30 21 (P : Int)) 4 c 0 o) 30 20 3) := kR.wk kref (fun u hu => hu.2.1 p1 rfl)
    rcases hr with ⟨S'', T'', a'', c'', u'', e'', h1, h2, h3, h4, h5, h6, h7, h8, h9, h10, h11, h12, h13, j, h14⟩ | ⟨h1, T'', h2, h3, h4⟩
    · refine Or.inl ⟨c, S'', _, T'', a'', c'', u'', e'', h1, hU, h2, h3, h4, h5, by omega, h6, B2.tr h7 (by omega) (Nat.le_refl _), by omega, h9, by omega, (B4.tr C2 (Nat.le_refl _)).tr h11 (Nat.le_refl _), B3.tr h12, (B5.tr C3).tr h13, Or.inl ⟨rfl, Or.inr ⟨?_, j, h14⟩⟩⟩
      rw [h7.1 c (by omega), B7]
      decide
    · exact Or.inr ⟨h1.to B3, _, T'', hU, h2, h3, (B5.tr C3).tr h4⟩

theorem kUb.re {r : kO × kH} {d : Nat} (h : kUb szT E T) (ht : kTh sz E S r) : kReU sz szT E x1 S T t n L l a o c e d r := by
  obtain ⟨T', h1, h2, h3⟩ := h
  exact Or.inr ⟨ht, T', T', h1, kStep.rf, h2, h3⟩
theorem brk_bad (hX : kTx t n L) (A : kAt S T t n L l a o c u e) (hg : ¬ (c < 60 ∧ o ≤ 7)) (hch : kch t (kre t n l) a = 91 ∨ kch t (kre t n l) a = 123) : kUb szT E T := by
  obtain ⟨hl, ⟨hC, c1, c2, c3⟩, ⟨hR, m1, m2, m3, m4⟩, R, W, ⟨g1, g2, g3⟩, q3, q4, q5, q6, q7, q8⟩ := A
  have hln := hX.ln hl
  obtain ⟨⟨r1, r2, r3, r4, r5, r6⟩, ra, rb, rc, rd, re⟩ := R
  obtain ⟨⟨w1, w2, w3⟩, wa, wb, wc, wd⟩ := W
  rcases hch with hch | hch
  · have kref := l_140b_1 (S := T) (E := E) (sz := szT) (m := 53) ⟨by omega, by omega⟩ hX hR m3 (by omega) m4 q7 (S1 := ku T 30 19 1) (v := 0) (o := o) (w := 1) (Or.inr rfl) (ref_mk_bad r2 w1 q4 (by omega) hg 4) (by exact hR) (by exact m4) (by exact m3) (by exact q4) (by omega) rfl hch (v1 := kun) (v2 := kun)
    by_cases p : kch t (kre t n l) (kw (fun i => decide (t i = 32)) (kre t n l) (a + 1)) = 93
    · exact ⟨_, kR.wk kref (fun u hu => hu.1 p), rfl, (((kFt.rf.w (by decide)).w (by decide)).w (by decide)).w (by decide)⟩
    · exact ⟨_, kR.wk kref (fun u hu => hu.2.2 p rfl), rfl, ((kFt.rf.w (by decide)).w (by decide)).w (by decide)⟩
  · have kref := l_140b_0 (S := T) (E := E) (sz := szT) (m := 53) ⟨by omega, by omega⟩ hX hR m3 (by omega) m4 q7 (S1 := ku T 30 19 1) (v := 0) (o := o) (w := 1) (Or.inr rfl) (ref_mk_bad r2 w1 q4 (by omega) hg 5) (by exact hR) (by exact m4) (by exact m3) (by exact q4) (by omega) rfl hch (v1 := kun) (v2 := kun)
    by_cases p : kch t (kre t n l) (kw (fun i => decide (t i = 32)) (kre t n l) (a + 1)) = 125
    · exact ⟨_, kR.wk kref (fun u hu => hu.1 p), rfl, (((kFt.rf.w (by decide)).w (by decide)).w (by decide)).w (by decide)⟩
    · exact ⟨_, kR.wk kref (fun u hu => hu.2.2 p rfl), rfl, ((kFt.rf.w (by decide)).w (by decide)).w (by decide)⟩
/-- wrong before, wrong behind -/
theorem ref_w1 (hX : kTx t n L) (hl : l < L) (hCm : kCm T t n l a) (hae : a ≤ kre t n l) (h29 : T 30 29 = (o : Int)) (ho : o ≤ 8) (h8 : T 30 8 = (c : Int)) (hc : c ≤ 60) (h26 : -1 ≤ T 30 26 ∧ T 30 26 < 26) (h42 : ∀ j, j < 26 → 0 ≤ T 42 j ∧ T 42 j ≤ 60) (h43 : ∀ j, j < 9 → -2147483648 ≤ T 43 j ∧ T 43 j < 2147483648) (hw : T 30 19 = 1) : kUb szT E T := by
  obtain ⟨hR, m1, m2, m3, m4⟩ := hCm
  have hln := hX.ln hl
  have hm : 53 ≤ 53 ∧ 53 ≤ 57 := by omega
  have hen : kre t n l ≤ n := by omega
  by_cases p42 : kch t (kre t n l) a = 42
  · have kr := l_140a (S := T) (E := E) (sz := szT) hm hX hR m3 hen m4 hae h26 h42 p42 (v1 := kun) (v2 := kun)
    by_cases p : (T 30 26 < 0 ∧ 0 ≤ klt t (kre t n l) (a + 1) ∧ ¬ T 42 (klt t (kre t n l) (a + 1)).toNat = 0)
    · exact ⟨_, kR.wk kr (fun u hu => hu.1 p), by exact hw, ((kFt.rf.w (by decide)).w (by decide)).w (by decide)⟩
    · exact ⟨_, kR.wk kr (fun u hu => hu.2 p), rfl, kFt.rf.w (by decide)⟩
  · by_cases p91 : kch t (kre t n l) a = 91 ∨ kch t (kre t n l) a = 123
    · have hmk : ∀ k : Int, ∃ (S1 : Nat → Nat → Int) (v : Nat), kR 0 110 (blk 110 0) (kent 110 [.ref 30, .int (Int32.ofInt k)]) [] (szT, hp 53 E T) (fun r => r = (.inl (some (.int (Int32.ofInt (v : Int)))), (szT, hp 53 E S1))) ∧ kRt S1 t n ∧ S1 30 21 = (a : Int) ∧ S1 30 23 = (kre t n l : Int) ∧ S1 30 29 = (o : Int) ∧ S1 30 19 = 1 ∧ kFt T S1 := fun k => by
        by_cases hg : c < 60 ∧ o ≤ 7
        · exact ⟨_, _, c_110 (S := T) hm h8 hc h29 (by omega) h26 hg, kRt.mk hR k c, by rw [kmk_30 (by decide) (by decide)]; exact m4, by rw [kmk_30 (by decide) (by decide)]; exact m3, by rw [kmk_30 (by decide) (by decide)]; exact h29, by rw [kmk_30 (by decide) (by decide)]; exact hw, kFt.rf.mk k c⟩
        · exact ⟨_, _, ref_mk_bad h8 hc h29 (by omega) hg k, by exact hR, by exact m4, by exact m3, by exact h29, rfl, kFt.rf.w (by decide)⟩
      rcases p91 with p91 | p91
      · obtain ⟨S1, v, k1, k2, k3, k4, k5, k6, k7⟩ := hmk 4
        have kref := l_140b_1 (S := T) (E := E) (sz := szT) hm hX hR m3 hen m4 hae (S1 := S1) (v := v) (o := o) (w := 1) (Or.inr rfl) k1 k2 k3 k4 k5 ho k6 p91 (v1 := kun) (v2 := kun)
        by_cases p : kch t (kre t n l) (kw (fun i => decide (t i = 32)) (kre t n l) (a + 1)) = 93
        · exact ⟨_, kR.wk kref (fun u hu => hu.1 p), by exact k6, ((k7.w (by decide)).w (by decide)).w (by decide)⟩
        · exact ⟨_, kR.wk kref (fun u hu => hu.2.2 p rfl), by exact k6, (k7.w (by decide)).w (by decide)⟩
      · obtain ⟨S1, v, k1, k2, k3, k4, k5, k6, k7⟩ := hmk 5
        have kref := l_140b_0 (S := T) (E := E) (sz := szT) hm hX hR m3 hen m4 hae (S1 := S1) (v := v) (o := o) (w := 1) (Or.inr rfl) k1 k2 k3 k4 k5 ho k6 p91 (v1 := kun) (v2 := kun)
        by_cases p : kch t (kre t n l) (kw (fun i => decide (t i = 32)) (kre t n l) (a + 1)) = 125
        · exact ⟨_, kR.wk kref (fun u hu => hu.1 p), by exact k6, ((k7.w (by decide)).w (by decide)).w (by decide)⟩
        · exact ⟨_, kR.wk kref (fun u hu => hu.2.2 p rfl), by exact k6, (k7.w (by decide)).w (by decide)⟩
    · rcases kqu_10 (kch t (kre t n l) a) with hqu | hqu
      · exact ⟨_, l_140q1 (S := T) (E := E) (sz := szT) hm hX hR m3 hen m4 hae hqu hw, rfl, ((((kFt.rf.qb).w (by decide)).w (by decide)).w (by decide)).w (by decide)⟩
      · obtain ⟨z, hz⟩ := kR.ex (l_140p1 (S := T) (E := E) (sz := szT) hm hX hR m3 hen m4 hae p42 (fun z => p91 (Or.inl z)) (fun z => p91 (Or.inr z)) hqu h29 ho h43 hw (v1 := kun) (v2 := kun))
        exact ⟨_, hz, rfl, (((kFt.rf.w (by decide)).w (by decide)).w (by decide)).w (by decide)⟩
end KSO2
