/-! A part of a row or table in lines, side by side. -/
section KPT
variable {sz szT : Nat × Nat} {E : Nat → kC} {x1 : Int} {S T : Nat → Nat → Int} {t : Nat → Int} {n L l a o c u e : Nat}
theorem kAt.line {k : Nat} {s : Int} (hX : kTx t n L) (A : kAt S T t n L l a o c u e) (hlk : l < k) (hk : k < L) : kAt (kgo S t n L k) (ku (kgom T t n k) 30 20 s) t n L k (krb t n k) o c u e := by
  obtain ⟨hl, ⟨hC, c1, c2, c3⟩, ⟨hR, m1, m2, m3, m4⟩, R, W, G, q3, q4, q5, q6, q7, q8⟩ := A
  have hln := hX.ln hl
  have hlk2 := hX.ln hk
  have hmo := kLb_mono (f := l + 1) (k := k) hX (by omega) (by omega)
  have hs := klb_s t n l
  refine ⟨hk, ⟨hC, rfl, ?_, ?_⟩, ⟨hR, rfl, rfl, rfl, rfl⟩, R, W, G, q3, q4, q5, by omega, by omega, q8⟩
  · show (if L ≤ k then (n : Int) else (krb t n k : Int)) = _
    rw [if_neg (by omega)]
  · show (if L ≤ k then (n : Int) else (kre t n k : Int)) = _
    rw [if_neg (by omega)]
theorem kAt.fl {x s : Int} (A : kAt S T t n L l a o c u e) : kAt S (ku (ku T 30 28 x) 30 20 s) t n L l a o c u e := by
  obtain ⟨hl, ⟨hC, c1, c2, c3⟩, ⟨hR, m1, m2, m3, m4⟩, R, W, G, q3, q4, q5, q6, q7, q8⟩ := A
  exact ⟨hl, ⟨hC, c1, c2, c3⟩, ⟨hR, m1, m2, m3, m4⟩, R, W, G, q3, q4, q5, q6, q7, q8⟩
/-- nothing there: a node of kind 0, the class at the next line already -/
theorem kBh.nil {k : Nat} (hX : kTx t n L) (A : kAt S T t n L l a o c u e) (hc : c < 60) (h28 : T 30 28 = 0) (hLn : kLn T o) (hk : k = kVd t n L (l + 1)) : kBh (kbeg (kgo S t n L k) 0 0 c) (ku (ku (kmk T 0 c) 30 27 (c : Int)) 30 20 4) t n L (l + 1) k o (c + 1) u e (c : Int) ∧ kFx S (kbeg (kgo S t n L k) 0 0 c) c e ∧ kFm S (kbeg (kgo S t n L k) 0 0 c) ∧ kKl T (ku (ku (kmk T 0 c) 30 27 (c : Int)) 30 20 4) o ∧ kFt T (ku (ku (kmk T 0 c) 30 27 (c : Int)) 30 20 4) ∧ kbeg (kgo S t n L k) 0 0 c 54 3 = -1 ∧ kbeg (kgo S t n L k) 0 0 c 21 c = 0 := by
  obtain ⟨hl, ⟨hC, c1, c2, c3⟩, ⟨hR, m1, m2, m3, m4⟩, R, W, ⟨g1, g2, g3⟩, q3, q4, q5, q6, q7, q8⟩ := A
  have hln := hX.ln hl
  have hx1 := hX.1
  have hs := klb_s t n l
  have R1 : kRel (kgo S t n L k) T c u e := R
  have W1 : kWf (kgo S t n L k) c u e := W
  have hns := kbeg_ns (S := kgo S t n L k) (k := 0) (z := 0) (c := c)
  have hnt := kmk_nt (T := T) (k := 0) (c := c)
  obtain ⟨R', W'⟩ := R1.node W1 hc (by decide) (by decide) hns hnt
  have hBc : ∀ b, (b ≠ 20 ∧ b ≠ 21 ∧ b ≠ 22 ∧ b ≠ 23 ∧ b ≠ 24 ∧ b ≠ 25 ∧ b ≠ 54 ∧ b ≠ 55) → kbeg (kgo S t n L k) 0 0 c b = kgo S t n L k b := fun b hb => kbeg_cell hb
  have hMc : ∀ b, (b ≠ 30 ∧ b ≠ 34 ∧ b ≠ 35 ∧ b ≠ 36 ∧ b ≠ 37 ∧ b ≠ 42) → kmk T 0 c b = T b := fun b hb => kmk_cell hb
  have hM30 : ∀ j, j ≠ 26 → j ≠ 8 → kmk T 0 c 30 j = T 30 j := fun j h1 h2 => kmk_30 h1 h2
  have hft : kFt T (kmk T 0 c) := kFt.rf.mk 0 c
  obtain ⟨B, hB⟩ : ∃ B, B = kbeg (kgo S t n L k) 0 0 c := ⟨_, rfl⟩
  obtain ⟨M, hM⟩ : ∃ M, M = kmk T 0 c := ⟨_, rfl⟩
  rw [← hB] at R' W' hns hBc ⊢
  rw [← hM] at R' hnt hMc hM30 hft ⊢
  have hns0 := hns
  obtain ⟨y1, y2, y3, y4, y5, y6, y7, y8, y9, y10, y11, y12, y13, y14⟩ := hns
  have hCB : kCt B t n L := by
    unfold kCt
    rw [hBc 1 (by decide), hBc 2 (by decide), hBc 3 (by decide), hBc 4 (by decide), hBc 5 (by decide), hBc 6 (by decide)]
    exact hC
  have hRM : kRt M t n := ⟨(hM30 7 (by decide) (by decide)).trans hR.1, fun j hj => by rw [hMc 33 (by decide)]; exact hR.2 j hj⟩
  have hfx : ∀ j, j < c → B 21 j = S 21 j := fun j hj => by
    rw [y4, if_neg (by omega)]
    rfl
  refine ⟨⟨⟨by omega, hk⟩, ⟨hCB, by rw [hBc 53 (by decide)]; rfl, by rw [hBc 53 (by decide)]; rfl, by rw [hBc 53 (by decide)]; rfl⟩, ⟨hRM, ?_, a, kre t n l, (hM30 21 (by decide) (by decide)).trans m4, (hM30 23 (by decide) (by decide)).trans m3, by omega, by omega, Or.inl ((hM30 28 (by decide) (by decide)).trans h28), Or.inl ((hM30 28 (by decide) (by decide)).trans h28)⟩, R', W', ⟨fun j hj => ?_, fun j hj => ?_, fun j hj => ?_⟩, (hM30 19 (by decide) (by decide)).trans q3, rfl, rfl, (hM30 29 (by decide) (by decide)).trans q4, q5, by omega, fun j hj => ?_, fun j hj => ?_⟩, ⟨hfx, fun j _ => ?_, fun j hj _ => ?_, ?_, fun j hj => ?_⟩, fun b hb => (hBc b (by omega)).trans (kgo_cell (by omega)), fun j hj => ?_, (hft.w (by decide)).w (by decide), y14, by rw [y4, if_pos rfl]⟩
  · show M 30 24 + 1 = _
    rw [hM30 24 (by decide) (by decide), m2, hs]
    rfl
  · rw [y9]
    exact g1 j hj
  · show -2147483648 ≤ M 38 j ∧ M 38 j < 2147483648
    rw [hMc 38 (by decide)]
    exact g2 j hj
  · show -2147483648 ≤ M 43 j ∧ M 43 j < 2147483648
    rw [hMc 43 (by decide)]
    exact g3 j hj
  · obtain ⟨p1, p2, p3, p4⟩ := q8 j hj
    show 0 ≤ M 44 j ∧ M 44 j < ((c + 1 : Nat) : Int) ∧ (M 43 j = 1 ∨ M 43 j = 3 → B 21 (M 44 j).toNat = 4) ∧ (M 43 j = 2 ∨ M 43 j = 4 → B 21 (M 44 j).toNat = 5)
    rw [hMc 43 (by decide), hMc 44 (by decide), hfx _ (by omega)]
    exact ⟨p1, by omega, p3, p4⟩
  · show (M 43 j = 1 ∨ M 43 j = 2) ∧ 0 ≤ M 45 j ∧ M 45 j ≤ 200
    rw [hMc 43 (by decide), hMc 45 (by decide)]
    exact hLn j hj
  · rw [y10, y11, y12]
    exact ⟨rfl, rfl, rfl⟩
  · rw [y5, y6, y7, if_neg (by omega), if_neg (by omega), if_neg (by omega)]
    exact ⟨rfl, rfl, rfl⟩
  · refine ⟨?_, by exact kNm.node hns0⟩
    rw [y2]
    exact Int.le_refl _
  · rw [y9]
    rfl
  · show M 43 j = T 43 j ∧ M 44 j = T 44 j ∧ M 45 j = T 45 j ∧ M 46 j = T 46 j
    rw [hMc 43 (by decide), hMc 44 (by decide), hMc 45 (by decide), hMc 46 (by decide)]
    exact ⟨rfl, rfl, rfl, rfl⟩
/-- from the loop's head over the naming of a part -/
theorem kStep_p {T0 T1 : Nat → Nat → Int} {cc : Int} (hw : T0 30 19 = 0) (hs : T0 30 20 = 1) (h29 : T0 30 29 = (o : Int)) (ho : 1 ≤ o ∧ o ≤ 8) (h45 : T0 45 (o - 1) = cc) (hn : kR 2 129 (blk 129 0) (kent 129 [.ref 30, .int (Int32.ofInt 1)]) [] (szT, hp 53 E T0) (fun r => r = (.inl none, (szT, hp 53 E T)))) (h1 : ∀ v2, kR 5 136 (b136_0.drop 11) [.ref 30, .int (Int32.ofInt cc), v2] [] (szT, hp 53 E T) (fun r => r = (.inl none, (szT, hp 53 E T1)))) : kStep szT E x1 T0 T1 := by
  refine kStep.of (y := 136) (fun Q q => kM_1 hw hs q) ?_
  show kR 8 136 b136_0 _ _ _ _
  refine kR.s rfl rfl ?_
  refine kR.gr (a := 30) (b := 45) (k := 32) (by omega) rfl rfl rfl (by decide) (by decide) rfl ?_
  refine kR.s rfl rfl ?_
  refine kR.gi (a := 30) (k := 29) (v := (o : Int)) (by omega) rfl rfl rfl (by decide) (by decide) rfl (by exact h29) ?_
  refine kR.s rfl rfl ?_
  refine kR.sub ?_
  rw [show (o : Int) - 1 = ((o - 1 : Nat) : Int) by omega]
  refine kR.ia (a := 45) (v := cc) (by omega) rfl (by decide) (by omega) (by omega) (by exact h45) ?_
  refine kR.s rfl rfl ?_
  refine kR.s rfl rfl ?_
  refine kR.s rfl rfl ?_
  refine kR.c0 rfl rfl (kR.up hn (by decide)) ?_
  exact kR.up (h1 _) (by decide)
/-- a value alone -/
theorem sim_blk0 {d : Nat} (hX : kTx t n L) (hWd : kWrd E) (hod : o + d = 8) (A : kAt S T t n L l a o c u e) (h20 : T 30 20 = 2) (h28 : T 30 28 = 1) (hLn : kLn T o) : kR (13 + 3 * d) 91 (blk 91 0) (kent 91 [.ref 56, .int (Int32.ofInt ((o : Int) + 1)), .int (Int32.ofInt 0)]) [] (sz, hp 57 E S) (kBr sz szT E x1 S T t n L l a o c e d) := by
  show kR (13 + 3 * d) 91 b91_0 _ _ _ _
  refine kR.s rfl rfl ?_
  refine kR.zeq (by decide) (by decide) (fun _ => ?_) (fun q => absurd rfl q)
  show kR (13 + 3 * d) 91 b91_20 _ _ _ _
  refine kR.s rfl rfl ?_
  refine kR.zeq (by decide) (by decide) (fun _ => ?_) (fun q => absurd rfl q)
  exact sim_inl hX hWd hod A h20 h28 hLn
theorem sim_part2 {S0 T0 : Nat → Nat → Int} {d D y : Nat} {cc it : Int} (hX : kTx t n L) (hWd : kWrd E) (hod : o + d = 8) (ho : 1 ≤ o) (A : kAt S T t n L l a o c u e) (hlba : klb t n l ≤ a) (hy : y ≤ a ∨ kre t n l ≤ a ∧ y ≤ a + 1) (h45 : T 45 (o - 1) = cc) (hcc : 0 ≤ cc ∧ cc ≤ 200) (h28 : T 30 28 = 0) (hLn : kLn T o) (hit : it = 1 ∧ T 43 (o - 1) = 1 ∨ it = 0 ∧ T 43 (o - 1) = 2) (hD : 13 + 3 * d ≤ D) (hs : ∀ T1, (∀ v2, kR 5 136 (b136_0.drop 11) [.ref 30, .int (Int32.ofInt cc), v2] [] (szT, hp 53 E T) (fun r => r = (.inl none, (szT, hp 53 E T1)))) → kStep szT E x1 T0 T1) (fx : kFx S0 S c e) (fm : kFm S0 S) (kl : kKl T0 T o) (ft : kFt T0 T) (IH : ∀ (S T : Nat → Nat → Int) (l a c u e : Nat), kAt S T t n L l a o c u e → klb t n l ≤ a → T 30 20 = 0 → T 30 28 = 0 → kLn T o → kR D 91 (blk 91 0) (kent 91 [.ref 56, .int (Int32.ofInt ((o : Int) + 1)), .int (Int32.ofInt 1)]) [] (sz, hp 57 E S) (kBr sz szT E x1 S T t n L l a o c e d)) : kR (D + 1) 95 (b95_0.drop 3) [.ref 56, .int (Int32.ofInt cc), .int (Int32.ofInt ((o : Int) + 1)), .int (Int32.ofInt it)] [] (sz, hp 57 E S) (kBr sz szT E x1 S0 T0 t n L l y o c e d) := by
  have A0 := A
  obtain ⟨hl, ⟨hC, c1, c2, c3⟩, ⟨hR, m1, m2, m3, m4⟩, ⟨⟨r1, r2, r3, r4, r5, r6⟩, ra, rb, rc, rd, re⟩, ⟨⟨w1, w2, w3⟩, wa, wb, wc, wd⟩, G, q3, q4, q5, q6, q7, q8⟩ := A
  have hln := hX.ln hl
  have hx1 := hX.1
  have hx2 := hX.2.2.2.1
  have hm : 53 ≤ 53 ∧ 53 ≤ 57 := by omega
  have hen : kre t n l ≤ n := by omega
  have hle : T 30 24 + 1 = (klb t n (l + 1) : Int) := by
    rw [m2, klb_s]
    rfl
  have hwd : -1 ≤ T 30 26 ∧ T 30 26 < 26 := by
    rw [← re]
    exact wd
  have k54 := c_54 (S := S) (E := E) (sz := sz) hX hC c3 hen c2 (by omega)
  refine kR.s rfl rfl ?_
  refine kR.gr (a := 56) (b := 53) (k := 2) (by omega) rfl rfl rfl (by decide) (by decide) rfl ?_
  by_cases hend : kre t n l ≤ a
  · rw [if_pos hend] at k54
    refine kR.cv (v := .int (Int32.ofInt 1)) rfl rfl (kR.up k54 (by omega)) ?_
    refine kR.zeq (by decide) (by decide) (fun q => absurd q (by decide)) (fun _ => ?_)
    refine kR.s rfl rfl ?_
    refine kR.gr (a := 56) (b := 53) (k := 2) (by omega) rfl rfl rfl (by decide) (by decide) rfl ?_
    refine kR.s rfl rfl ?_
    refine kR.gr (a := 56) (b := 53) (k := 2) (by omega) rfl rfl rfl (by decide) (by decide) rfl ?_
    refine kR.gi (a := 53) (k := 1) (v := (l : Int)) (by omega) rfl rfl rfl (by decide) (by decide) rfl (by exact c1) ?_
    refine kR.s rfl rfl ?_
    refine kR.add ?_
    obtain ⟨k, hk⟩ : ∃ k, k = kVd t n L (l + 1) := ⟨_, rfl⟩
    have hkr := kVd_rng (t := t) (n := n) (L := L) (f := l + 1) (by omega)
    rw [← hk] at hkr
    have k48 := c_48 (S := S) (E := E) (sz := sz) hX hC (f := l + 1) (by omega)
    have k48' : kR 2 48 (blk 48 0) (kent 48 [.ref 53, .int (Int32.ofInt ((l + 1 : Nat) : Int))]) [] (sz, hp 57 E S) (fun r => r = (.inl none, (sz, hp 57 E (kgo S t n L k)))) := by
      rw [hk]
      exact k48
    refine kR.c0 rfl rfl (kR.up k48' (by omega)) ?_
    have hnil : (∀ (S1 : Nat → Nat → Int) (v : Nat), kR 0 110 (blk 110 0) (kent 110 [.ref 30, .int (Int32.ofInt 0)]) [] (szT, hp 53 E T) (fun r => r = (.inl (some (.int (Int32.ofInt (v : Int)))), (szT, hp 53 E S1))) → kStep szT E x1 T0 (ku (ku S1 30 27 (v : Int)) 30 20 4)) → kR (D + 1) 95 (blk 95 53) [.ref 56, .int (Int32.ofInt cc), .int (Int32.ofInt ((o : Int) + 1)), .int (Int32.ofInt it)] [] (sz, hp 57 E (kgo S t n L k)) (kBr sz szT E x1 S0 T0 t n L l y o c e d) := fun hq => by
      show kR (D + 1) 95 b95_53 _ _ _ _
      refine kR.s rfl rfl ?_
      refine kR.gr (a := 56) (b := 54) (k := 3) (by omega) rfl rfl rfl (by decide) (by decide) rfl ?_
      refine kR.s rfl rfl ?_
      refine kR.s rfl rfl ?_
      refine kR.s rfl rfl ?_
      by_cases hg : c < 60 ∧ o ≤ 7
      · refine kR.cv rfl rfl (kR.up (c_62g (S := kgo S t n L k) (k := 0) (z := 0) (d := (o : Int) + 1) (c := c) (by exact r1) w1 (by omega) (by exact wd) (by omega)) (by omega)) ?_
        refine kR.n ?_
        show kR (D + 1) 95 b95_63 _ _ _ _
        refine kR.ret rfl rfl ?_
        obtain ⟨N1, N2, N3, N4, N5, N6, N7⟩ := kBh.nil hX A0 hg.1 h28 hLn hk
        obtain ⟨d', hd'⟩ : ∃ d', d = d' + 1 := ⟨d - 1, by omega⟩
        rw [hd']
        exact Or.inl ⟨c, _, _, l + 1, k, c + 1, u, e, rfl, hq _ _ (c_110 (S := T) (E := E) (sz := szT) hm r2 w1 q4 (by omega) hwd hg), N1, ⟨by omega, by rw [klb_s]; omega⟩, by omega, N6, fx.tr N2 (Nat.le_refl _) (Nat.le_refl _), by omega, Nat.le_refl _, kl.tr N4 (Nat.le_refl _), fm.tr N3, ft.tr N5, Or.inl ⟨rfl, Or.inl ⟨by rw [N7]; decide, rfl, rfl⟩⟩⟩
      · refine kR.cT rfl rfl rfl (kR.up (c_62b (S := kgo S t n L k) (k := 0) (z := 0) (d := (o : Int) + 1) (c := c) (by exact r1) w1 (by omega) (by exact wd) (by omega)) (by omega)) ?_
        exact Or.inr ⟨⟨_, rfl, fm.go⟩, _, hq _ _ (ref_mk_bad (szT := szT) (E := E) (T2 := T) (c := c) (o := o) r2 w1 q4 (by omega) hg 0), rfl, ((ft.w (by decide)).w (by decide)).w (by decide)⟩
    refine kR.s rfl rfl ?_
    refine kR.gr (a := 56) (b := 53) (k := 2) (by omega) rfl rfl rfl (by decide) (by decide) rfl ?_
    have k50 := c_50 (S := kgo S t n L k) (E := E) (sz := sz) hX (by exact hC) (l := k) rfl (by omega)
    rcases Nat.lt_or_ge k L with hkL | hkL
    · have hlk := hX.ln hkL
      rw [if_neg (by omega)] at k50
      refine kR.cv (v := .int (Int32.ofInt ((krb t n k : Int) - (klb t n k : Int)))) rfl rfl (kR.up k50 (by omega)) ?_
      refine kR.s rfl rfl ?_
      refine kR.jle (by omega) (by omega) (by omega) (by omega) (fun q => ?_) (fun q => ?_)
      · exact hnil (fun S1 v hmk => hs _ (fun v2 => l_136_not (S := T) (E := E) (sz := szT) hm hX hR m3 hen m4 q7 hcc hend (l := l + 1) (by omega) hle hk hkL q hmk))
      · have hrn := hs _ (fun v2 => l_136_next (S := T) (E := E) (sz := szT) hm hX hR m3 hen m4 q7 hcc hend (l := l + 1) (by omega) hle hk hkL q)
        refine kR.s rfl rfl ?_
        refine kR.s rfl rfl ?_
        refine kR.s rfl rfl ?_
        refine kR.c rfl rfl (IH (kgo S t n L k) (ku (kgom T t n k) 30 20 0) k (krb t n k) c u e (A0.line hX (by omega) hkL) hlk.1 rfl (by exact h28) (by exact hLn)) (fun r hr => ?_)
        have hmo := kLb_mono (f := l + 1) (k := k) hX (by omega) (by omega)
        rw [klb_s] at hmo
        have hr' := hr.from (l0 := l) (y0 := y) hrn fx.go fm.go (by exact kl) (ft.gom.w (by decide)) (by omega) (by omega)
        rcases kBr.io hr' with ⟨v, h', e1⟩ | ⟨sz', E', S', h1⟩
        · subst e1
          show kR (D + 1) 95 _ _ (Value.int v :: _) h' _
          refine kR.g rfl ?_
          show kR (D + 1) 95 b95_63 _ _ _ _
          refine kR.ret rfl rfl ?_
          exact hr'
        · exact h1.tag rfl hr'
    · rw [if_pos (by omega)] at k50
      refine kR.cv (v := .int (Int32.ofInt (-1))) rfl rfl (kR.up k50 (by omega)) ?_
      refine kR.s rfl rfl ?_
      refine kR.jle (by omega) (by omega) (by omega) (by omega) (fun q => ?_) (fun q => absurd q (by omega))
      exact hnil (fun S1 v hmk => hs _ (fun v2 => l_136_end (S := T) (E := E) (sz := szT) hm hX hR m3 hen m4 q7 hcc hend (l := l + 1) (by omega) hle hk hkL hmk))
  · rw [if_neg hend] at k54
    refine kR.cv (v := .int (Int32.ofInt 0)) rfl rfl (kR.up k54 (by omega)) ?_
    refine kR.zeq (by decide) (by decide) (fun _ => ?_) (fun q => absurd rfl q)
    have k58a := c_58 (S := S) (E := E) (sz := sz) hX hC c3 hen c2 (by omega) hWd.2.2.2.2.2.2.1
    have k58b := c_58 (S := S) (E := E) (sz := sz) hX hC c3 hen c2 (by omega) hWd.2.2.2.2.2.2.2.1
    have s1 := ksay_01 t (kre t n l) a (kre t n l) [124]
    have s2 := ksay_01 t (kre t n l) a (kre t n l) [124, 45]
    have e1 : ksay t (kre t n l) a (kre t n l) [124] = 1 ↔ kch t (kre t n l) a = 124 ∧ kre t n l = a + 1 := by
      rw [ksay_cons, ksay_nil]
    have e2 : ksay t (kre t n l) a (kre t n l) [124, 45] = 1 ↔ kch t (kre t n l) a = 124 ∧ kch t (kre t n l) (a + 1) = 45 ∧ kre t n l = a + 1 + 1 := by
      rw [ksay_cons, ksay_cons, ksay_nil]
    have hbar : ∀ kp : Int, kp = 0 ∨ kp = 1 → kR 5 58 (blk 58 0) (kent 58 [.ref 53, .ref 1000017]) [] (sz, hp 57 E S) (fun r => r = (.inl (some (.int (Int32.ofInt kp))), (sz, hp 57 E S))) → (∀ X, kR 4 135 (blk 135 0) (kent 135 [.ref 30, .int (Int32.ofInt kp)]) [] (szT, hp 53 E T) (fun r => r = (.inl none, (szT, hp 53 E X))) → kStep szT E x1 T0 X) → kR (D + 1) 95 (blk 95 88) [.ref 56, .int (Int32.ofInt cc), .int (Int32.ofInt ((o : Int) + 1)), .int (Int32.ofInt it)] [] (sz, hp 57 E S) (kBr sz szT E x1 S0 T0 t n L l y o c e d) := fun kp hkp k58 hst => by
      obtain ⟨X, p1, p2⟩ := sim_piece (sz := sz) (szT := szT) (E := E) hX hkp hcc hod ho A0 h45 h28 hLn
      show kR (D + 1) 95 b95_88 _ _ _ _
      refine kR.s rfl rfl ?_
      refine kR.s rfl rfl ?_
      refine kR.s rfl rfl ?_
      refine kR.s rfl rfl ?_
      refine kR.gr (a := 56) (b := 53) (k := 2) (by omega) rfl rfl rfl (by decide) (by decide) rfl ?_
      refine kR.s rfl rfl ?_
      refine kR.cv (v := .int (Int32.ofInt kp)) rfl rfl (kR.up k58 (by omega)) ?_
      exact kR.tail rfl rfl rfl rfl rfl (kR.up (kR.wk p2 (fun r hr => hr.br (hst X p1) fx fm kl ft (by omega))) (by omega)) (fun r hr => kBr.io hr)
    show kR (D + 1) 95 b95_64 _ _ _ _
    refine kR.s rfl rfl ?_
    refine kR.gr (a := 56) (b := 53) (k := 2) (by omega) rfl rfl rfl (by decide) (by decide) rfl ?_
    refine kR.s rfl rfl ?_
    by_cases hb1 : ksay t (kre t n l) a (kre t n l) [124] = 1
    · rw [hb1] at k58a
      obtain ⟨f1, f2⟩ := e1.mp hb1
      refine kR.cv (v := .int (Int32.ofInt 1)) rfl rfl (kR.up k58a (by omega)) ?_
      refine kR.zne (by decide) (by decide) (fun _ => ?_) (fun q => absurd q (by decide))
      exact hbar 1 (Or.inr rfl) k58a (fun X k => hs _ (fun v2 => l_136_bar1 (S := T) (E := E) (sz := szT) hm hX hR m3 hen m4 q7 hcc (by omega) f1 (by omega) k))
    · have hb10 : ksay t (kre t n l) a (kre t n l) [124] = 0 := by omega
      rw [hb10] at k58a
      refine kR.cv (v := .int (Int32.ofInt 0)) rfl rfl (kR.up k58a (by omega)) ?_
      refine kR.zne (by decide) (by decide) (fun q => absurd rfl q) (fun _ => ?_)
      refine kR.s rfl rfl ?_
      refine kR.gr (a := 56) (b := 53) (k := 2) (by omega) rfl rfl rfl (by decide) (by decide) rfl ?_
      refine kR.s rfl rfl ?_
      by_cases hb2 : ksay t (kre t n l) a (kre t n l) [124, 45] = 1
      · rw [hb2] at k58b
        obtain ⟨f1, f2, f3⟩ := e2.mp hb2
        refine kR.cv (v := .int (Int32.ofInt 1)) rfl rfl (kR.up k58b (by omega)) ?_
        refine kR.zeq (by decide) (by decide) (fun q => absurd q (by decide)) (fun _ => ?_)
        refine kR.n ?_
        exact hbar 0 (Or.inl rfl) k58a (fun X k => hs _ (fun v2 => l_136_bar0 (S := T) (E := E) (sz := szT) hm hX hR m3 hen m4 q7 hcc (by omega) f1 ⟨by omega, f2, by omega⟩ k))
      · have hb20 : ksay t (kre t n l) a (kre t n l) [124, 45] = 0 := by omega
        rw [hb20] at k58b
        refine kR.cv (v := .int (Int32.ofInt 0)) rfl rfl (kR.up k58b (by omega)) ?_
        refine kR.zeq (by decide) (by decide) (fun _ => ?_) (fun q => absurd rfl q)
        have hnb : ¬ (kch t (kre t n l) a = 124 ∧ (a + 1 = kre t n l ∨ kch t (kre t n l) (a + 1) = 45 ∧ a + 2 = kre t n l)) := fun ⟨z1, z2⟩ => by
          rcases z2 with z2 | ⟨z2, z3⟩
          · exact hb1 (e1.mpr ⟨z1, by omega⟩)
          · exact hb2 (e2.mpr ⟨z1, z2, by omega⟩)
        show kR (D + 1) 95 b95_104 _ _ _ _
        refine kR.s rfl rfl ?_
        refine kR.s rfl rfl ?_
        refine kR.s rfl rfl ?_
        rcases hit with ⟨hi, h43⟩ | ⟨hi, h43⟩
        · subst hi
          have hst := hs _ (fun v2 => l_136_valr (S := T) (E := E) (sz := szT) hm hX hR m3 hen m4 q7 hcc (by omega) hnb q4 ⟨ho, q5⟩ h43)
          exact kR.tail rfl rfl rfl rfl rfl (kR.wk (IH S (ku (ku T 30 28 0) 30 20 0) l a c u e A0.fl hlba rfl rfl (by exact hLn)) (fun r hr => hr.from hst fx fm (by exact kl) ((ft.w (by decide)).w (by decide)) (Nat.le_refl _) (by omega))) (fun r hr => kBr.io hr)
        · subst hi
          have hst := hs _ (fun v2 => l_136_valt (S := T) (E := E) (sz := szT) hm hX hR m3 hen m4 q7 hcc (by omega) hnb q4 ⟨ho, q5⟩ h43)
          exact kR.tail rfl rfl rfl rfl rfl (kR.up (kR.wk (sim_blk0 (S := S) (T := ku (ku T 30 28 1) 30 20 2) (x1 := x1) (szT := szT) hX hWd hod A0.fl rfl rfl (by exact hLn)) (fun r hr => hr.from hst fx fm (by exact kl) ((ft.w (by decide)).w (by decide)) (Nat.le_refl _) (by omega))) hD) (fun r hr => kBr.io hr)
/-- a naming read by both, perhaps at the line's end -/
theorem kAt.named2 (hX : kTx t n L) (A : kAt S T t n L l a o c u e) (hae : a + 2 ≤ kre t n l) (hlt : 0 ≤ klt t (kre t n l) (a + 1)) (hnm : S 54 3 = -1) : kAt (ku (ku S 54 3 (klt t (kre t n l) (a + 1))) 53 2 ((kw (fun i => decide (t i = 32)) (kre t n l) (a + 2) : Nat) : Int)) (ku (ku (ku T 30 19 (if 0 ≤ T 30 26 then 1 else 0)) 30 26 (klt t (kre t n l) (a + 1))) 30 21 ((kw (fun i => decide (t i = 32)) (kre t n l) (a + 2) : Nat) : Int)) t n L l (kw (fun i => decide (t i = 32)) (kre t n l) (a + 2)) o c u e := by
  obtain ⟨hl, ⟨hC, c1, c2, c3⟩, ⟨hR, m1, m2, m3, m4⟩, R, W, G, q3, q4, q5, q6, q7, q8⟩ := A
  have hle := klt_rng t (kre t n l) (a + 1)
  have hkr : a + 2 ≤ kw (fun i => decide (t i = 32)) (kre t n l) (a + 2) ∧ (a + 2 ≤ kre t n l → kw (fun i => decide (t i = 32)) (kre t n l) (a + 2) ≤ kre t n l) := kw_rng
  obtain ⟨⟨r1, r2, r3, r4, r5, r6⟩, ra, rb, rc, rd, re⟩ := R
  obtain ⟨⟨w1, w2, w3⟩, wa, wb, wc, wd⟩ := W
  refine ⟨hl, ⟨hC, c1, rfl, c3⟩, ⟨hR, m1, m2, m3, rfl⟩, ⟨⟨r1, r2, r3, r4, r5, r6⟩, ra, rb, rc, rd, rfl⟩, ⟨⟨w1, w2, w3⟩, wa, wb, wc, by show -1 ≤ klt t (kre t n l) (a + 1) ∧ klt t (kre t n l) (a + 1) < 26; omega⟩, G, ?_, q4, q5, by omega, by omega, q8⟩
  show (if 0 ≤ T 30 26 then (1 : Int) else 0) = 0
  rw [← re, hnm]
  rfl
/-- a value cannot begin with an and-sign that names nothing -/
theorem ref_amp (hX : kTx t n L) (A : kAt S T t n L l a o c u e) (h20 : T 30 20 = 2) (p38 : kch t (kre t n l) a = 38) (hnm : knm t (kre t n l) 0 a = 0) : ∃ T', kStep szT E x1 T T' ∧ T' 30 19 = 1 ∧ kFt T T' := by
  have hpo := kpl_o t (kre t n l) a
  have hso := ksg_o (kch t (kre t n l) a)
  have hqo := kqu_o (kch t (kre t n l) a)
  have hbad : kUb szT E T := ref_noplain hX A (by omega) (by omega) (by omega) (by omega) (Or.inl (by omega))
  exact hbad.st (fun T1 k => kStep_n A.2.2.2.2.2.2.1 h20 (name_no hX A hnm) k) kFt.rf
theorem sim_part {d D y : Nat} {cc it : Int} (hX : kTx t n L) (hWd : kWrd E) (hod : o + d = 8) (ho : 1 ≤ o) (A : kAt S T t n L l a o c u e) (hlba : klb t n l ≤ a) (hy : y ≤ a ∨ kre t n l ≤ a ∧ y ≤ a + 1) (h20 : T 30 20 = 1) (h45 : T 45 (o - 1) = cc) (hcc : 0 ≤ cc ∧ cc ≤ 200) (h28 : T 30 28 = 0) (hLn : kLn T o) (hnm : S 54 3 = -1) (hit : it = 1 ∧ T 43 (o - 1) = 1 ∨ it = 0 ∧ T 43 (o - 1) = 2) (hD : 13 + 3 * d ≤ D) (IH : ∀ (S T : Nat → Nat → Int) (l a c u e : Nat), kAt S T t n L l a o c u e → klb t n l ≤ a → T 30 20 = 0 → T 30 28 = 0 → kLn T o → kR D 91 (blk 91 0) (kent 91 [.ref 56, .int (Int32.ofInt ((o : Int) + 1)), .int (Int32.ofInt 1)]) [] (sz, hp 57 E S) (kBr sz szT E x1 S T t n L l a o c e d)) : kR (D + 1) 95 (blk 95 0) (kent 95 [.ref 56, .int (Int32.ofInt cc), .int (Int32.ofInt ((o : Int) + 1)), .int (Int32.ofInt it)]) [] (sz, hp 57 E S) (kBr sz szT E x1 S T t n L l y o c e d) := by
  have A0 := A
  obtain ⟨hl, ⟨hC, c1, c2, c3⟩, ⟨hR, m1, m2, m3, m4⟩, ⟨⟨r1, r2, r3, r4, r5, r6⟩, ra, rb, rc, rd, re⟩, ⟨⟨w1, w2, w3⟩, wa, wb, wc, wd⟩, G, q3, q4, q5, q6, q7, q8⟩ := A
  have hln := hX.ln hl
  have hx1 := hX.1
  have hm : 53 ≤ 53 ∧ 53 ≤ 57 := by omega
  have hen : kre t n l ≤ n := by omega
  have hwd : -1 ≤ T 30 26 ∧ T 30 26 < 26 := by
    rw [← re]
    exact wd
  have k64 := c_64 (S := S) (E := E) (sz := sz) hX hC c3 hen c2 q7 hnm (by omega)
  have hno := knm_o t (kre t n l) 1 a
  have hlo := klt_o t (kre t n l) (a + 1)
  have hgo := kgap_o t (kre t n l) (a + 2)
  have hstn : knm t (kre t n l) 1 a = 0 → ∀ T1, (∀ v2, kR 5 136 (b136_0.drop 11) [.ref 30, .int (Int32.ofInt cc), v2] [] (szT, hp 53 E T) (fun r => r = (.inl none, (szT, hp 53 E T1)))) → kStep szT E x1 T T1 := fun h0 T1 k => kStep_p q3 h20 q4 ⟨ho, q5⟩ h45 (c_129n (S := T) (E := E) (sz := szT) hm hX hR m3 hen m4 (by omega) (Or.inr rfl) h0) k
  show kR (D + 1) 95 b95_0 _ _ _ _
  refine kR.s rfl rfl ?_
  refine kR.gr (a := 56) (b := 54) (k := 3) (by omega) rfl rfl rfl (by decide) (by decide) rfl ?_
  by_cases p38 : kch t (kre t n l) a = 38
  · by_cases hok : 0 ≤ klt t (kre t n l) (a + 1) ∧ kgap t (kre t n l) (a + 2) = 1
    · have hae1 : a + 1 < kre t n l := kch_lt (t := t) (by omega)
      have hnm1 : knm t (kre t n l) 1 a = 1 := by
        have hci : a + 2 < kre t n l → kch t (kre t n l) (a + 2) = t (a + 2) := fun h => kch_in h
        rcases Nat.lt_or_ge (a + 2) (kre t n l) with h | h
        · have := hci h
          omega
        · omega
      have k64' := kR.wk k64 (fun u hu => hu.1 (fun _ => ⟨hok.1, hok.2, rfl⟩))
      rw [if_pos p38] at k64'
      refine kR.c0 rfl rfl (kR.up k64' (by omega)) ?_
      have hkw : a + 2 ≤ kw (fun i => decide (t i = 32)) (kre t n l) (a + 2) := kw_rng.1
      exact sim_part2 hX hWd hod ho (A0.named2 hX (by omega) hok.1 hnm) (by omega) (Or.inl (by omega)) (by exact h45) hcc (by exact h28) (by exact hLn) (by exact hit) hD (fun T1 k => kStep_p q3 h20 q4 ⟨ho, q5⟩ h45 (c_129 (S := T) (E := E) (sz := szT) hm hX hR m3 hen m4 (by omega) (Or.inr rfl) hnm1 q3 hwd) k) ((kFx.rf.w (by decide)).w (by decide)) ((kFm.rf.w (by decide)).w (by decide)) (fun j hj => ⟨rfl, rfl, rfl, rfl⟩) (((kFt.rf.w (by decide)).w (by decide)).w (by decide)) IH
    · have k64' := kR.wk k64 (fun u hu => hu.2 (fun z => hok ⟨(z p38).1, (z p38).2.1⟩))
      have hae : a < kre t n l := kch_lt (t := t) (by omega)
      have hnm0 : knm t (kre t n l) 1 a = 0 := by
        have hci : a + 2 < kre t n l → kch t (kre t n l) (a + 2) = t (a + 2) := fun h => kch_in h
        have hci2 : kre t n l ≤ a + 2 → kch t (kre t n l) (a + 2) = 10 := fun h => kch_out h
        rcases Nat.lt_or_ge (a + 2) (kre t n l) with h | h
        · have := hci h
          omega
        · have := hci2 h
          omega
      have hno2 := knm_o t (kre t n l) 0 a
      have hnm00 : knm t (kre t n l) 0 a = 0 := by omega
      have hnb : ¬ (kch t (kre t n l) a = 124 ∧ (a + 1 = kre t n l ∨ kch t (kre t n l) (a + 1) = 45 ∧ a + 2 = kre t n l)) := fun z => by omega
      refine kR.cT rfl rfl rfl (kR.up k64' (by omega)) ?_
      refine Or.inr ⟨⟨_, rfl, kFm.rf⟩, ?_⟩
      rcases hit with ⟨hi, h43⟩ | ⟨hi, h43⟩
      · have hst := hstn hnm0 _ (fun v2 => l_136_valr (S := T) (E := E) (sz := szT) hm hX hR m3 hen m4 q7 hcc hae hnb q4 ⟨ho, q5⟩ h43)
        have hdo := kdash_o t (kre t n l) a
        have hqo := kqu_o (kch t (kre t n l) a)
        have hpo := kpl_o t (kre t n l) a
        have hso := ksg_o (kch t (kre t n l) a)
        have hck : kck t (kre t n l) 0 a = -1 := by
          rcases kck_rng (a := a) (e := kre t n l) (i := 0) hX hen with h | ⟨z, h, _, _⟩
          · exact h
          · have := (kck_p (by omega) h).1
            omega
        have k134 := c_134_val (S := ku (ku T 30 28 0) 30 20 0) (E := E) (sz := szT) hm hX (by exact hR) (by exact m3) hen (by exact m4) q7 (q := klb t n l) (by exact m1) (by omega) (by omega) hck
        rw [if_neg (by omega)] at k134
        have hst2 : kStep szT E x1 (ku (ku T 30 28 0) 30 20 0) _ := kStep.of (y := 134) (fun Q q => kM_0 (by exact q3) rfl q) (kR.up k134 (by decide))
        obtain ⟨T', z1, z2, z3⟩ := ref_amp (szT := szT) (E := E) (x1 := x1) hX (A0.fl (x := 0) (s := 0)).fl rfl p38 hnm00
        exact ⟨T', hst.tr (hst2.tr z1), z2, ((((kFt.rf.w (by decide)).w (by decide)).w (by decide)).w (by decide)).tr z3⟩
      · have hst := hstn hnm0 _ (fun v2 => l_136_valt (S := T) (E := E) (sz := szT) hm hX hR m3 hen m4 q7 hcc hae hnb q4 ⟨ho, q5⟩ h43)
        obtain ⟨T', z1, z2, z3⟩ := ref_amp (szT := szT) (E := E) (x1 := x1) hX (A0.fl (x := 1) (s := 2)) rfl p38 hnm00
        exact ⟨T', hst.tr z1, z2, ((kFt.rf.w (by decide)).w (by decide)).tr z3⟩
  · have k64' := kR.wk k64 (fun u hu => hu.1 (fun z => absurd z p38))
    rw [if_neg p38] at k64'
    refine kR.c0 rfl rfl (kR.up k64' (by omega)) ?_
    exact sim_part2 hX hWd hod ho A0 hlba hy h45 hcc h28 hLn hit hD (hstn (by omega)) kFx.rf kFm.rf kKl.rf kFt.rf IH
end KPT
