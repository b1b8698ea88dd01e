/-! A block, side by side. -/
section KBK
variable {sz szT : Nat × Nat} {E : Nat → kC} {x1 : Int} {S T : Nat → Nat → Int} {t : Nat → Int} {n L l a o c u e : Nat}
theorem kBw.br {S0 T0 S1 T1 : Nat → Nat → Int} {d y : Nat} {r : kO × kH} (h : kBw sz szT E x1 S1 T1 t n L l y o (c + 1) e d c e r) (hs : kStep szT E x1 T0 T1) (fx : kFx S0 S1 c e) (fm : kFm S0 S1) (kp : kKl T0 T1 o) (ft : kFt T0 T1) (h4 : 4 ≤ S1 21 c) : kBr sz szT E x1 S0 T0 t n L l y o c e (d + 1) r := by
  rcases h with ⟨S', T', f, k, c', u', e', h1, h2, b1, b2, b3, b4, b5, b6, b7, b8, b9, j, b10⟩ | ⟨h1, T', h2, h3, h4⟩
  · refine Or.inl ⟨c, S', T', f, k, c', u', e', h1, hs.tr h2, b1, b2, by omega, b3, fx.tr b4 (by omega) (Nat.le_refl _), by omega, b6, kp.tr b7 (Nat.le_refl _), fm.tr b8, ft.tr b9, Or.inl ⟨rfl, Or.inr ⟨?_, j, b10⟩⟩⟩
    rw [b4.1 c (by omega)]
    exact h4
  · exact Or.inr ⟨h1.to fm, T', hs.tr h2, h3, ft.tr h4⟩
theorem sim_rowl {d D : Nat} (hX : kTx t n L) (hWd : kWrd E) (hod : o + d = 8) (A : kAt S T t n L l a o c u e) (hlba : klb t n l ≤ a) (h20 : T 30 20 = 0) (h28 : T 30 28 = 0) (hLn : kLn T o) (hda : kdash t (kre t n l) a = 1) (hD : 11 + 3 * d ≤ D) (IH : o ≤ 7 → ∀ (S T : Nat → Nat → Int) (l a c u e : Nat), kAt S T t n L l a (o + 1) c u e → klb t n l ≤ a → T 30 20 = 0 → T 30 28 = 0 → kLn T (o + 1) → kR D 91 (blk 91 0) (kent 91 [.ref 56, .int (Int32.ofInt (((o + 1 : Nat) : Int) + 1)), .int (Int32.ofInt 1)]) [] (sz, hp 57 E S) (kBr sz szT E x1 S T t n L l a (o + 1) c e (d - 1))) : kR (D + 1 + 1) 92 (blk 92 0) (kent 92 [.ref 56, .int (Int32.ofInt ((o : Int) + 1))]) [] (sz, hp 57 E S) (kBr sz szT E x1 S T t n L l a o c e d) := by
  have A0 := A
  obtain ⟨hl, ⟨hC, c1, c2, c3⟩, ⟨hR, m1, m2, m3, m4⟩, ⟨⟨r1, r2, r3, r4, r5, r6⟩, ra, rb, rc, rd, re⟩, ⟨⟨w1, w2, w3⟩, wa, wb, wc, wd⟩, ⟨g1, g2, g3⟩, q3, q4, q5, q6, q7, q8⟩ := A
  have hln := hX.ln hl
  have hx1 := hX.1
  have hx2 := hX.2.2.2.1
  have hen : kre t n l ≤ n := by omega
  have hm : 53 ≤ 53 ∧ 53 ≤ 57 := by omega
  have hdo := kdash_o t (kre t n l) a
  have hae : a < kre t n l := kch_lt (t := t) (by omega)
  have hwd : -1 ≤ T 30 26 ∧ T 30 26 < 26 := by
    rw [← re]
    exact wd
  have k51 := c_51 (S := S) (E := E) (sz := sz) hX hC c1 (by omega) c2 (by omega)
  rw [if_neg (by omega)] at k51
  have hP : a + 1 ≤ kw (fun i => decide (t i = 32)) (kre t n l) (a + 1) ∧ (a + 1 ≤ kre t n l → kw (fun i => decide (t i = 32)) (kre t n l) (a + 1) ≤ kre t n l) := kw_rng
  have hst : ∀ T1, kR 6 134 (blk 134 0) (kent 134 [.ref 30]) [] (szT, hp 53 E T) (fun r => r = (.inl none, (szT, hp 53 E T1))) → kStep szT E x1 T T1 := fun T1 k => kStep.of (y := 134) (fun Q q => kM_0 q3 h20 q) (kR.up k (by decide))
  show kR (D + 1 + 1) 92 b92_0 _ _ _ _
  refine kR.s rfl rfl ?_
  refine kR.gr (a := 56) (b := 53) (k := 2) (by omega) rfl rfl rfl (by decide) (by decide) rfl ?_
  refine kR.cv (v := .int (Int32.ofInt ((a : Int) - (klb t n l : Int)))) rfl rfl (kR.up k51 (by omega)) ?_
  refine kR.s rfl rfl ?_
  refine kR.s rfl rfl ?_
  refine kR.gr (a := 56) (b := 54) (k := 3) (by omega) rfl rfl rfl (by decide) (by decide) rfl ?_
  refine kR.s rfl rfl ?_
  refine kR.s rfl rfl ?_
  refine kR.s rfl rfl ?_
  by_cases hg : c < 60 ∧ o ≤ 7
  · obtain ⟨d', hd'⟩ : ∃ d', d = d' + 1 := ⟨d - 1, by omega⟩
    subst hd'
    obtain ⟨B1, B2, B3, B4, B5, B6, B7⟩ := A0.made (k := 4) (P := a) hg.1 (by decide) (Nat.le_refl _) q7
    rw [ku_eta (by rw [kbeg_cell (by decide)]; exact c2)] at B1 B2 B3 B6 B7
    rw [ku_eta (by rw [kmk_30 (by decide) (by decide)]; exact m4)] at B1 B4 B5
    have hmk := c_110 (S := T) (E := E) (sz := szT) hm (k := 4) r2 w1 q4 (by omega) hwd hg
    have kref := c_134_row0 (S := T) (E := E) (sz := szT) hm hX hR m3 hen m4 q7 (q := klb t n l) m1 hlba hda hmk (hR.mk 4 c) ((kmk_30 (by decide) (by decide)).trans m4) ((kmk_30 (by decide) (by decide)).trans m3) ((kmk_30 (by decide) (by decide)).trans q4) q5 ((kmk_30 (by decide) (by decide)).trans q3)
    obtain ⟨P, hPd⟩ : ∃ P, P = kw (fun i => decide (t i = 32)) (kre t n l) (a + 1) := ⟨_, rfl⟩
    rw [← hPd] at hP kref
    obtain ⟨C1, C2, C3⟩ := B1.pushP (w := 1) (z := (a : Int) - (klb t n l : Int)) (m := c) (P := P) hg.2 (by omega) (by omega) (by omega) (by decide) ⟨fun _ => B7, fun z => absurd z (by decide)⟩
    refine kR.cv rfl rfl (kR.up (c_62g (S := S) (k := 4) (z := 0) (d := (o : Int) + 1) r1 w1 (by omega) wd (by omega)) (by omega)) ?_
    refine kR.s rfl rfl ?_
    refine kR.s rfl rfl ?_
    refine kR.s rfl rfl ?_
    refine kR.s rfl rfl ?_
    refine kR.s rfl rfl ?_
    refine kR.n ?_
    have hLnM : kLn (kmk T 4 c) o := hLn.kl B4.1
    have zz := l_92 (sz := sz) (szT := szT) (E := E) (x1 := x1) (o := o) (c0 := c) (e0 := e) (d := d') (D := D) (cc := (a : Int) - (klb t n l : Int)) hX hWd (by omega) hg.1 (by omega) (by omega) (IH hg.2) (L - l) l a P (c + 1) u e 0 (kbeg S 4 0 c) (ku (ku (kbgm (kmk T 4 c) 1 c ((a : Int) - (klb t n l : Int)) o) 30 21 (P : Int)) 30 20 1) rfl hPd (by rw [kbeg_cell (by decide)]; exact c2) hae hlba hda C1.st1 rfl ((kmk_30 (by decide) (by decide)).trans h28) (hLnM.push (Or.inl rfl) (by omega)) (by show (if o = o then (1 : Int) else _) = 1; rw [if_pos rfl]) (by show (if o = o then (c : Int) else _) = _; rw [if_pos rfl]) (by show (if o = o then ((a : Int) - (klb t n l : Int)) else _) = _; rw [if_pos rfl]) B7 B6 (by omega) (by omega) ⟨0, rfl, rfl⟩
    exact kR.wk zz (fun r hr => hr.br (hst _ kref) B2 B3 (kKl.tr (T' := kmk T 4 c) B4.1 C2 (Nat.le_refl _)) (((B5.tr C3).w (by decide)).w (by decide)) (by rw [B7]; decide))
  · have hmk := ref_mk_bad (szT := szT) (E := E) (T2 := T) (c := c) (o := o) r2 w1 q4 (by omega) hg 4
    refine kR.cT rfl rfl rfl (kR.up (c_62b (S := S) (k := 4) (z := 0) (d := (o : Int) + 1) r1 w1 (by omega) wd (by omega)) (by omega)) ?_
    exact Or.inr ⟨⟨_, rfl, kFm.rf⟩, _, hst _ (c_134_row1 (S := T) (E := E) (sz := szT) hm hX hR m3 hen m4 q7 (q := klb t n l) m1 hlba hda hmk (by exact hR) (by exact m4) (by exact m3) (by exact q4) q5 rfl), rfl, ((kFt.rf.w (by decide)).w (by decide)).w (by decide)⟩
theorem sim_tabl {d D z : Nat} (hX : kTx t n L) (hWd : kWrd E) (hod : o + d = 8) (A : kAt S T t n L l a o c u e) (hlba : klb t n l ≤ a) (h20 : T 30 20 = 0) (h28 : T 30 28 = 0) (hLn : kLn T o) (hda : kdash t (kre t n l) a = 0) (hz : kck t (kre t n l) 0 a = (z : Int)) (haz : a < z ∧ z < kre t n l) (hD : 11 + 3 * d ≤ D) (IH : o ≤ 7 → ∀ (S T : Nat → Nat → Int) (l a c u e : Nat), kAt S T t n L l a (o + 1) c u e → klb t n l ≤ a → T 30 20 = 0 → T 30 28 = 0 → kLn T (o + 1) → kR D 91 (blk 91 0) (kent 91 [.ref 56, .int (Int32.ofInt (((o + 1 : Nat) : Int) + 1)), .int (Int32.ofInt 1)]) [] (sz, hp 57 E S) (kBr sz szT E x1 S T t n L l a (o + 1) c e (d - 1))) : kR (D + 1 + 1) 93 (blk 93 0) (kent 93 [.ref 56, .int (Int32.ofInt ((o : Int) + 1))]) [] (sz, hp 57 E S) (kBr sz szT E x1 S T t n L l a o c e d) := by
  have A0 := A
  obtain ⟨hl, ⟨hC, c1, c2, c3⟩, ⟨hR, m1, m2, m3, m4⟩, ⟨⟨r1, r2, r3, r4, r5, r6⟩, ra, rb, rc, rd, re⟩, ⟨⟨w1, w2, w3⟩, wa, wb, wc, wd⟩, ⟨g1, g2, g3⟩, q3, q4, q5, q6, q7, q8⟩ := A
  have hln := hX.ln hl
  have hx1 := hX.1
  have hx2 := hX.2.2.2.1
  have hen : kre t n l ≤ n := by omega
  have hm : 53 ≤ 53 ∧ 53 ≤ 57 := by omega
  have hwd : -1 ≤ T 30 26 ∧ T 30 26 < 26 := by
    rw [← re]
    exact wd
  have k51 := c_51 (S := S) (E := E) (sz := sz) hX hC c1 (by omega) c2 (by omega)
  rw [if_neg (by omega)] at k51
  have hst : ∀ T1, kR 6 134 (blk 134 0) (kent 134 [.ref 30]) [] (szT, hp 53 E T) (fun r => r = (.inl none, (szT, hp 53 E T1))) → kStep szT E x1 T T1 := fun T1 k => kStep.of (y := 134) (fun Q q => kM_0 q3 h20 q) (kR.up k (by decide))
  obtain ⟨Tq, hTq⟩ : ∃ Tq, Tq = (if kqu (kch t (kre t n l) a) = 1 then kqb T (kuq t (kre t n l) (kch t (kre t n l) a) (a + 1)) else T) := ⟨_, rfl⟩
  have Aq : kAt S Tq t n L l a o c u e := by
    rw [hTq]
    split
    · exact A0.qb
    · exact A0
  have hT30 : ∀ j, j ≠ 34 → Tq 30 j = T 30 j := fun j hj => by
    rw [hTq]
    split
    · exact kqb_30 hj
    · rfl
  have hTc : ∀ b, b ≠ 30 → b ≠ 47 → Tq b = T b := fun b h1 h2 => by
    rw [hTq]
    split
    · unfold kqb ku kup
      rw [if_neg h2, if_neg h1]
    · rfl
  have hRq : kRt Tq t n := ⟨(hT30 7 (by decide)).trans hR.1, fun j hj => by rw [hTc 33 (by decide) (by decide)]; exact hR.2 j hj⟩
  have hft : kFt T Tq := by
    rw [hTq]
    split
    · exact kFt.rf.qb
    · exact kFt.rf
  have klq : kKl T Tq o := fun j hj => by
    rw [hTc 43 (by decide) (by decide), hTc 44 (by decide) (by decide), hTc 45 (by decide) (by decide), hTc 46 (by decide) (by decide)]
    exact ⟨rfl, rfl, rfl, rfl⟩
  have hqb : kqu (kch t (kre t n l) a) = 1 → kQb Tq 0 (kuq t (kre t n l) (kch t (kre t n l) a) (a + 1)) := fun hq => by
    rw [hTq, if_pos hq]
    refine ⟨?_, fun j hj => ?_⟩
    · rw [Nat.zero_add]
      rfl
    · show (if 0 + j < (kuq t (kre t n l) (kch t (kre t n l) a) (a + 1)).length then (kuq t (kre t n l) (kch t (kre t n l) a) (a + 1)).getD (0 + j) 0 else _) = _
      rw [if_pos (by omega), Nat.zero_add]
  show kR (D + 1 + 1) 93 b93_0 _ _ _ _
  refine kR.s rfl rfl ?_
  refine kR.gr (a := 56) (b := 53) (k := 2) (by omega) rfl rfl rfl (by decide) (by decide) rfl ?_
  refine kR.cv (v := .int (Int32.ofInt ((a : Int) - (klb t n l : Int)))) rfl rfl (kR.up k51 (by omega)) ?_
  refine kR.s rfl rfl ?_
  refine kR.s rfl rfl ?_
  refine kR.gr (a := 56) (b := 54) (k := 3) (by omega) rfl rfl rfl (by decide) (by decide) rfl ?_
  refine kR.s rfl rfl ?_
  refine kR.s rfl rfl ?_
  refine kR.s rfl rfl ?_
  by_cases hg : c < 60 ∧ o ≤ 7
  · obtain ⟨d', hd'⟩ : ∃ d', d = d' + 1 := ⟨d - 1, by omega⟩
    subst hd'
    obtain ⟨B1, B2, B3, B4, B5, B6, B7⟩ := Aq.made (k := 5) (P := a) hg.1 (by decide) (Nat.le_refl _) q7
    have hq21 : Tq 30 21 = (a : Int) := (hT30 21 (by decide)).trans m4
    rw [ku_eta (by rw [kbeg_cell (by decide)]; exact c2)] at B1 B2 B3 B6 B7
    rw [ku_eta (by rw [kmk_30 (by decide) (by decide)]; exact hq21)] at B1 B4 B5
    have hmk := c_110 (S := Tq) (E := E) (sz := szT) hm (k := 5) ((hT30 8 (by decide)).trans r2) w1 ((hT30 29 (by decide)).trans q4) (by omega) (by rw [hT30 26 (by decide)]; exact hwd) hg
    obtain ⟨C1, C2, C3⟩ := B1.pushP (w := 2) (z := (a : Int) - (klb t n l : Int)) (m := c) (P := a + 1) hg.2 (by omega) (by omega) (by omega) (by decide) ⟨fun z => absurd z (by decide), fun _ => B7⟩
    refine kR.cv rfl rfl (kR.up (c_62g (S := S) (k := 5) (z := 0) (d := (o : Int) + 1) r1 w1 (by omega) wd (by omega)) (by omega)) ?_
    refine kR.s rfl rfl ?_
    refine kR.s rfl rfl ?_
    refine kR.s rfl rfl ?_
    refine kR.s rfl rfl ?_
    refine kR.s rfl rfl ?_
    refine kR.n ?_
    have hLnM : kLn (kmk Tq 5 c) o := (hLn.kl klq).kl B4.1
    have kl0 : kKl T (kmk Tq 5 c) o := klq.tr B4.1 (Nat.le_refl _)
    have zz := l_93 (sz := sz) (szT := szT) (E := E) (x1 := x1) (o := o) (c0 := c) (e0 := e) (d := d') (D := D) (cc := (a : Int) - (klb t n l : Int)) hX hWd (by omega) hg.1 (by omega) (by omega) (IH hg.2) (L - l) l a (c + 1) u e 0 kun (kbeg S 5 0 c) T (kbgm (kmk Tq 5 c) 2 c ((a : Int) - (klb t n l : Int)) o) rfl B1.2.1 (by omega) hlba C1 ((kmk_30 (by decide) (by decide)).trans hq21) (fun hq => ⟨(kmk_30 (by decide) (by decide)).trans (hqb hq).1, fun j hj => by show kmk Tq 5 c 47 (0 + j) = _; rw [kmk_cell (by decide)]; exact (hqb hq).2 j hj⟩) ((hft.tr B5).tr C3) (kl0.tr C2 (Nat.le_refl _)) (fun z2 X5 hz2 k133 => hst _ (by
        have hz3 : z2 = z := by omega
        subst hz3
        rw [hTq] at hmk k133
        exact c_134_tab0 (S := T) (E := E) (sz := szT) hm hX hR m3 hen m4 q7 (q := klb t n l) m1 hlba hda hz hmk (by rw [← hTq]; exact hRq.mk 5 c) (by rw [← hTq]; exact (kmk_30 (by decide) (by decide)).trans hq21) (by rw [← hTq]; exact (kmk_30 (by decide) (by decide)).trans ((hT30 23 (by decide)).trans m3)) (by rw [← hTq]; exact (kmk_30 (by decide) (by decide)).trans ((hT30 29 (by decide)).trans q4)) q5 (by rw [← hTq]; exact (kmk_30 (by decide) (by decide)).trans ((hT30 19 (by decide)).trans q3)) k133 (by omega))) (fun hn => by omega) ((kmk_30 (by decide) (by decide)).trans ((hT30 28 (by decide)).trans h28)) (hLnM.push (Or.inr rfl) (by omega)) (by show (if o = o then (2 : Int) else _) = 2; rw [if_pos rfl]) (by show (if o = o then (c : Int) else _) = _; rw [if_pos rfl]) (by show (if o = o then ((a : Int) - (klb t n l : Int)) else _) = _; rw [if_pos rfl]) B7 B6 (by omega) (by omega) ⟨0, rfl, rfl⟩
    exact kR.wk zz (fun r hr => hr.br kStep.rf B2 B3 kKl.rf kFt.rf (by rw [B7]; decide))
  · have hmk := ref_mk_bad (szT := szT) (E := E) (T2 := Tq) (c := c) (o := o) ((hT30 8 (by decide)).trans r2) w1 ((hT30 29 (by decide)).trans q4) (by omega) hg 5
    have hft2 : kFt T (ku Tq 30 19 1) := hft.w (by decide)
    have kref : kR 6 134 (blk 134 0) (kent 134 [.ref 30]) [] (szT, hp 53 E T) (fun r => r = (.inl none, (szT, hp 53 E (ku Tq 30 19 1)))) := c_134_tab1 (S := T) (E := E) (sz := szT) (v := 0) (o := o) hm hX hR m3 hen m4 q7 (q := klb t n l) m1 hlba hda hz (by rw [← hTq]; exact hmk) (by exact hRq) (by exact (hT30 21 (by decide)).trans m4) (by exact (hT30 23 (by decide)).trans m3) (by exact (hT30 29 (by decide)).trans q4) q5 rfl (by omega)
    refine kR.cT rfl rfl rfl (kR.up (c_62b (S := S) (k := 5) (z := 0) (d := (o : Int) + 1) r1 w1 (by omega) wd (by omega)) (by omega)) ?_
    exact Or.inr ⟨⟨_, rfl, kFm.rf⟩, _, hst _ kref, rfl, hft2⟩
theorem sim_block1 {d D : Nat} (hX : kTx t n L) (hWd : kWrd E) (hod : o + d = 8) (A : kAt S T t n L l a o c u e) (hlba : klb t n l ≤ a) (h20 : T 30 20 = 0) (h28 : T 30 28 = 0) (hLn : kLn T o) (hD : 11 + 3 * d ≤ D) (IH : o ≤ 7 → ∀ (S T : Nat → Nat → Int) (l a c u e : Nat), kAt S T t n L l a (o + 1) c u e → klb t n l ≤ a → T 30 20 = 0 → T 30 28 = 0 → kLn T (o + 1) → kR D 91 (blk 91 0) (kent 91 [.ref 56, .int (Int32.ofInt (((o + 1 : Nat) : Int) + 1)), .int (Int32.ofInt 1)]) [] (sz, hp 57 E S) (kBr sz szT E x1 S T t n L l a (o + 1) c e (d - 1))) : kR (D + 1 + 1 + 1) 91 (blk 91 0) (kent 91 [.ref 56, .int (Int32.ofInt ((o : Int) + 1)), .int (Int32.ofInt 1)]) [] (sz, hp 57 E S) (kBr sz szT E x1 S T t n L l a o c e d) := by
  have A0 := A
  obtain ⟨hl, ⟨hC, c1, c2, c3⟩, ⟨hR, m1, m2, m3, m4⟩, R, W, G, q3, q4, q5, q6, q7, q8⟩ := A
  have hln := hX.ln hl
  have hx1 := hX.1
  have hen : kre t n l ≤ n := by omega
  have hm : 53 ≤ 53 ∧ 53 ≤ 57 := by omega
  have k57 := c_57 (S := S) (E := E) (sz := sz) hX hC c3 hen c2 (by omega)
  show kR (D + 1 + 1 + 1) 91 b91_0 _ _ _ _
  refine kR.s rfl rfl ?_
  refine kR.zeq (by decide) (by decide) (fun q => absurd q (by decide)) (fun _ => ?_)
  refine kR.s rfl rfl ?_
  refine kR.gr (a := 56) (b := 53) (k := 2) (by omega) rfl rfl rfl (by decide) (by decide) rfl ?_
  rcases kdash_o t (kre t n l) a with ⟨hda, _⟩ | ⟨hda, _⟩
  · rw [hda] at k57
    refine kR.cv (v := .int (Int32.ofInt 1)) rfl rfl (kR.up k57 (by omega)) ?_
    refine kR.zeq (by decide) (by decide) (fun q => absurd q (by decide)) (fun _ => ?_)
    refine kR.s rfl rfl ?_
    refine kR.s rfl rfl ?_
    exact kR.tail rfl rfl rfl rfl rfl (sim_rowl hX hWd hod A0 hlba h20 h28 hLn hda hD IH) (fun r hr => kBr.io hr)
  · rw [hda] at k57
    refine kR.cv (v := .int (Int32.ofInt 0)) rfl rfl (kR.up k57 (by omega)) ?_
    refine kR.zeq (by decide) (by decide) (fun _ => ?_) (fun q => absurd rfl q)
    show kR (D + 1 + 1 + 1) 91 b91_20 _ _ _ _
    refine kR.s rfl rfl ?_
    refine kR.zeq (by decide) (by decide) (fun q => absurd q (by decide)) (fun _ => ?_)
    refine kR.s rfl rfl ?_
    refine kR.gr (a := 56) (b := 54) (k := 3) (by omega) rfl rfl rfl (by decide) (by decide) rfl ?_
    refine kR.s rfl rfl ?_
    have k75 := c_75 (S := S) (E := E) (sz := sz) hX hC c3 hen c2 q7 (i := 0) (Or.inl rfl) hWd.2.2.2.1
    refine kR.cv (v := .int (Int32.ofInt (kck t (kre t n l) 0 a))) rfl rfl (kR.up k75 (by omega)) ?_
    refine kR.s rfl rfl ?_
    rcases kck_rng (a := a) (i := 0) hX hen with hz | ⟨z, hz, hze, haz⟩
    · rw [hz]
      refine kR.jeq (by decide) (by decide) (by decide) (by decide) (fun _ => ?_) (fun q => absurd rfl q)
      have kref := c_134_val (S := T) (E := E) (sz := szT) hm hX hR m3 hen m4 q7 (q := klb t n l) m1 hlba hda hz
      obtain ⟨Tq, hTq⟩ : ∃ Tq, Tq = (if kqu (kch t (kre t n l) a) = 1 then kqb T (kuq t (kre t n l) (kch t (kre t n l) a) (a + 1)) else T) := ⟨_, rfl⟩
      rw [← hTq] at kref
      have Aq : kAt S Tq t n L l a o c u e := by
        rw [hTq]
        split
        · exact A0.qb
        · exact A0
      have hTc : ∀ b, b ≠ 30 → b ≠ 47 → Tq b = T b := fun b h1 h2 => by
        rw [hTq]
        split
        · unfold kqb ku kup
          rw [if_neg h2, if_neg h1]
        · rfl
      have hft : kFt T Tq := by
        rw [hTq]
        split
        · exact kFt.rf.qb
        · exact kFt.rf
      have klq : kKl T Tq o := fun j hj => by
        rw [hTc 43 (by decide) (by decide), hTc 44 (by decide) (by decide), hTc 45 (by decide) (by decide), hTc 46 (by decide) (by decide)]
        exact ⟨rfl, rfl, rfl, rfl⟩
      have hst : kStep szT E x1 T (ku (ku Tq 30 28 1) 30 20 2) := kStep.of (y := 134) (fun Q q => kM_0 q3 h20 q) (kR.up kref (by decide))
      exact kR.up (kR.wk (sim_inl (S := S) (T := ku (ku Tq 30 28 1) 30 20 2) (szT := szT) (x1 := x1) hX hWd hod Aq.fl rfl rfl (by exact hLn.kl klq)) (fun r hr => hr.from hst kFx.rf kFm.rf (by exact klq) ((hft.w (by decide)).w (by decide)) (Nat.le_refl _) (Nat.le_refl _))) (by omega)
    · rw [hz]
      refine kR.jeq (by omega) (by omega) (by decide) (by decide) (fun q => absurd q (by omega)) (fun _ => ?_)
      refine kR.s rfl rfl ?_
      refine kR.s rfl rfl ?_
      exact kR.tail rfl rfl rfl rfl rfl (sim_tabl hX hWd hod A0 hlba h20 h28 hLn hda hz ⟨haz, hze⟩ hD IH) (fun r hr => kBr.io hr)
theorem sim_block (hX : kTx t n L) (hWd : kWrd E) : ∀ (d o : Nat), o + d = 8 → ∀ (S T : Nat → Nat → Int) (l a c u e : Nat), kAt S T t n L l a o c u e → klb t n l ≤ a → T 30 20 = 0 → T 30 28 = 0 → kLn T o → kR (14 + 3 * d) 91 (blk 91 0) (kent 91 [.ref 56, .int (Int32.ofInt ((o : Int) + 1)), .int (Int32.ofInt 1)]) [] (sz, hp 57 E S) (kBr sz szT E x1 S T t n L l a o c e d) := by
  intro d
  induction d with
  | zero =>
    intro o hod S T l a c u e A hlba h20 h28 hLn
    exact sim_block1 (D := 11) hX hWd hod A hlba h20 h28 hLn (by omega) (fun h => absurd h (by omega))
  | succ d ih =>
    intro o hod S T l a c u e A hlba h20 h28 hLn
    exact kR.up (sim_block1 (D := 14 + 3 * d) hX hWd hod A hlba h20 h28 hLn (by omega) (fun ho S T l a c u e A hlba h20 h28 hLn => ih (o + 1) (by omega) S T l a c u e A hlba h20 h28 hLn)) (by omega)
end KBK
