/-! A table in lines, side by side: its loop. -/
section KTL
variable {sz szT : Nat × Nat} {E : Nat → kC} {x1 : Int} {t : Nat → Int} {n L : Nat}
theorem l_93 (hX : kTx t n L) (hWd : kWrd E) {o c0 e0 d D : Nat} {cc : Int} (hod : o + 1 + d = 8) (hc0 : c0 < 60) (hcc : 0 ≤ cc ∧ cc ≤ 200) (hD : 13 + 3 * d ≤ D) (IH : ∀ (S T : Nat → Nat → Int) (l a c u e : Nat), kAt S T t n L l a (o + 1) c u e → klb t n l ≤ a → T 30 20 = 0 → T 30 28 = 0 → kLn T (o + 1) → kR D 91 (blk 91 0) (kent 91 [.ref 56, .int (Int32.ofInt (((o + 1 : Nat) : Int) + 1)), .int (Int32.ofInt 1)]) [] (sz, hp 57 E S) (kBr sz szT E x1 S T t n L l a (o + 1) c e d)) : ∀ (j l a c u e k : Nat) (w6 : Value) (S Tp B : Nat → Nat → Int), L - l = j → kCu S t n L l a → a < kre t n l → klb t n l ≤ a → kAt (ku S 53 2 ((a + 1 : Nat) : Int)) (ku B 30 21 ((a + 1 : Nat) : Int)) t n L l (a + 1) (o + 1) c u e → B 30 21 = (a : Int) → (kqu (kch t (kre t n l) a) = 1 → kQb B 0 (kuq t (kre t n l) (kch t (kre t n l) a) (a + 1))) → kFt Tp B → kKl Tp B o → (∀ (z : Nat) X5, kck t (kre t n l) 0 a = (z : Int) → kR 4 133 (blk 133 0) (kent 133 [.ref 30, .int (Int32.ofInt (z : Int))]) [] (szT, hp 53 E B) (fun r => r = (.inl none, (szT, hp 53 E X5))) → kStep szT E x1 Tp X5) → (kck t (kre t n l) 0 a = -1 → ∃ T', kStep szT E x1 Tp T' ∧ T' 30 19 = 1 ∧ kFt Tp T') → B 30 28 = 0 → kLn B (o + 1) → B 43 o = 2 → B 44 o = (c0 : Int) → B 45 o = cc → S 21 c0 = 5 → S 54 3 = -1 → k ≤ e → c0 < c → (∃ i, kIt (kSub S d) S c0 i (c0 + 1) e0 c e) → kR (D + 1 + 1) 93 (blk 93 25) [.ref 56, .int (Int32.ofInt ((o : Int) + 1)), .int (Int32.ofInt cc), .int (Int32.ofInt (c0 : Int)), .int (Int32.ofInt 1), .int (Int32.ofInt (k : Int)), w6] [] (sz, hp 57 E S) (kBw sz szT E x1 S Tp t n L l a o c e d c0 e0) := by
  intro j
  induction j using Nat.strongRecOn with
  | _ j ih =>
    intro l a c u e k w6 S Tp B hj hCu hae hlba A h21p hqb ftB klB hE hN h28 hLn h43 h44 h45 h21 hnm hke hc0c hit
    have A0 := A
    have WS := A.2.2.2.2.1
    obtain ⟨hl, ⟨hC, b1, b2, b3⟩, ⟨hR, m1, m2, m3, m4⟩, ⟨⟨r1, r2, r3, r4, r5, r6⟩, ra, rb, rc, rd, re⟩, ⟨⟨w1, w2, w3⟩, wa, wb, wc, wd⟩, ⟨g1, g2, g3⟩, q3, q4, q5, q6, q7, q8⟩ := A
    have hln := hX.ln hl
    have hx1 := hX.1
    have hx2 := hX.2.2.2.1
    have hen : kre t n l ≤ n := by omega
    have hm : 53 ≤ 53 ∧ 53 ≤ 57 := by omega
    have hCu0 := hCu
    obtain ⟨hC0, cu1, cu2, cu3⟩ := hCu
    have h44o : B 44 (o + 1 - 1) = (c0 : Int) := by rw [show o + 1 - 1 = o by omega]; exact h44
    show kR (D + 1 + 1) 93 b93_25 _ _ _ _
    refine kR.s rfl rfl ?_
    refine kR.zeq (by decide) (by decide) (fun q => absurd q (by decide)) (fun _ => ?_)
    refine kR.s rfl rfl ?_
    refine kR.si rfl ?_
    refine kR.jge (by omega) (by omega) (by omega) (by omega) (fun q => absurd q (by omega)) (fun _ => ?_)
    refine kR.s rfl rfl ?_
    refine kR.gr (a := 56) (b := 54) (k := 3) (by omega) rfl rfl rfl (by decide) (by decide) rfl ?_
    refine kR.s rfl rfl ?_
    refine kR.s rfl rfl ?_
    refine kR.add ?_
    refine kR.s rfl rfl ?_
    rcases kck_rng (a := a) (i := 0) hX hen with hz | ⟨z, hz, hze, haz⟩
    · refine kR.cT rfl rfl rfl (kR.up (c_74n hX hC0 cu3 hen cu2 (by omega) (Or.inl rfl) hWd.2.2.2.1 hz) (by omega)) ?_
      exact Or.inr ⟨⟨_, rfl, kFm.rf⟩, hN hz⟩
    · by_cases hg : c < 60 ∧ o + 1 ≤ 7
      · obtain ⟨P, hP⟩ : ∃ P, P = kw (fun i => decide (t i = 32)) (kre t n l) (z + 1) := ⟨_, rfl⟩
        have hPr : z + 1 ≤ kw (fun i => decide (t i = 32)) (kre t n l) (z + 1) ∧ (z + 1 ≤ kre t n l → kw (fun i => decide (t i = 32)) (kre t n l) (z + 1) ≤ kre t n l) := kw_rng
        rw [← hP] at hPr
        obtain ⟨Y, X, h, hh, kcls, K, M⟩ := sim_lkey (sz := sz) (szT := szT) (o := o + 1) hX hWd hCu0 A0 h21p hqb hg (by omega) h44o h21 hc0c hz hP
        have h01 : h = 0 ∨ h = 1 := by rw [hh]; exact khk_01 _ _ _ _ _ _ _ _ _ _
        have hst0 := hE z _ hz M
        obtain ⟨⟨u1, K1⟩, K2, K3, K4, K5, K6, K7, K8, K9, K10, K11⟩ := K
        have hX43 : X 43 o = 2 := ((K7.1 o (by omega)).1).trans h43
        have hX44 : X 44 o = (c0 : Int) := ((K7.1 o (by omega)).2.1).trans h44
        have hX45 : X 45 o = cc := ((K7.1 o (by omega)).2.2.1).trans h45
        have hX28 : X 30 28 = 0 := K7.2.trans h28
        have hXLn : kLn X (o + 1) := kLn.kl (T := ku B 30 21 ((a + 1 : Nat) : Int)) (by exact hLn) K7.1
        have ftX : kFt Tp X := ftB.tr ((kFt.rf.w (by decide)).tr K6)
        have klX : kKl Tp X o := fun i hi => by
          obtain ⟨p1, p2, p3, p4⟩ := klB i hi
          obtain ⟨s1, s2, s3, s4⟩ := K7.1 i (by omega)
          exact ⟨s1.trans p1, s2.trans p2, s3.trans p3, s4.trans p4⟩
        have ftM : kFt Tp (ku (kMid X (o + 1) c h z P) 30 20 1) := (kFt.mid ftX).w (by decide)
        have hwrong : h = 1 → ∃ T', kStep szT E x1 Tp T' ∧ T' 30 19 = 1 ∧ kFt Tp T' := fun h1 => ⟨_, hst0, h1, ftM⟩
        have hM0 : h = 0 → ku (ku (kMid X (o + 1) c h z P) 30 19 0) 30 20 1 = ku (kMid X (o + 1) c h z P) 30 20 1 := fun h0 => by
          rw [ku_eta (S := kMid X (o + 1) c h z P) (a := 30) (k := 19) (v := 0) (by exact h0)]
        have AM := (K1.mid (h := h) (P := P) hPr.1 (hPr.2 hze)).st1 (s := 1)
        obtain ⟨M0, hM0d⟩ : ∃ M0, M0 = ku (ku (kMid X (o + 1) c h z P) 30 19 0) 30 20 1 := ⟨_, rfl⟩
        have ftM0 : kFt Tp M0 := by rw [hM0d]; exact ((kFt.mid ftX).w (by decide)).w (by decide)
        have hM046 : M0 46 o = (c : Int) := by
          rw [hM0d]
          show (if o = o + 1 - 1 then (c : Int) else _) = _
          rw [if_pos (by omega)]
        have klM0 : kKl Tp M0 o := fun i hi => by
          obtain ⟨p1, p2, p3, p4⟩ := klX i hi
          rw [hM0d]
          refine ⟨p1, p2, p3, ?_⟩
          show (if i = o + 1 - 1 then _ else X 46 i) = _
          rw [if_neg (by omega)]
          exact p4
        have hM043 : M0 43 o = 2 := by rw [hM0d]; exact hX43
        have hM044 : M0 44 o = (c0 : Int) := by rw [hM0d]; exact hX44
        have hM045 : M0 45 o = cc := by rw [hM0d]; exact hX45
        have hM028 : M0 30 28 = 0 := by rw [hM0d]; exact hX28
        have hM020 : M0 30 20 = 1 := by rw [hM0d]; rfl
        have hM0Ln : kLn M0 (o + 1) := by rw [hM0d]; exact hXLn
        rw [← hM0d] at AM hM0
        have hYW := K1
        obtain ⟨_, ⟨hCy, cy1, cy2, cy3⟩, _, ⟨⟨y1, y2, y3, y4, y5, y6⟩, _⟩, WY, _⟩ := hYW
        have k55 := c_55 (S := Y) (E := E) (sz := sz) hX hCy (e := kre t n l) cy3 hen (a := z + 1) cy2 (by omega)
        rw [← hP] at k55
        have k95 := sim_part (sz := sz) (szT := szT) (x1 := x1) (d := d) (D := D) (cc := cc) (it := 0) hX hWd hod (by omega) AM (by omega) (y := a + 2) (Or.inl (by omega)) hM020 (by rw [show o + 1 - 1 = o by omega]; exact hM045) hcc hM028 hM0Ln (by exact K3) (Or.inr ⟨rfl, by rw [show o + 1 - 1 = o by omega]; exact hM043⟩) hD IH
        have fxY0 : kFx S Y c e := (kFx.rf.w (a := 53) (by decide)).tr K2 (Nat.le_refl _) (Nat.le_refl _)
        have fmY0 : kFm S Y := (kFm.rf.w (a := 53) (by decide)).tr K5
        have fmY1 : kFm S (ku Y 53 2 (P : Int)) := fmY0.w (by decide)
        refine kR.cv rfl rfl (kR.up kcls (by omega)) ?_
        refine kR.s rfl rfl ?_
        refine kR.s rfl rfl ?_
        refine kR.gr (a := 56) (b := 53) (k := 2) (by omega) rfl rfl rfl (by decide) (by decide) rfl ?_
        refine kR.c0 rfl rfl (kR.up k55 (by omega)) ?_
        refine kR.s rfl rfl ?_
        refine kR.gr (a := 56) (b := 54) (k := 3) (by omega) rfl rfl rfl (by decide) (by decide) rfl ?_
        refine kR.s rfl rfl ?_
        refine kR.s rfl rfl ?_
        refine kR.s rfl rfl ?_
        refine kR.s rfl rfl ?_
        refine kR.s rfl rfl ?_
        refine kR.s rfl rfl ?_
        refine kR.add ?_
        refine kR.s rfl rfl ?_
        refine kR.c rfl rfl k95 (fun r hr => ?_)
        rcases hr with ⟨v, S', T', f, k1, c', u', e', hr, hst, B1, hlf, hvc, hnm', fx1, hcc', hee, kl, fm1, ft, hsub⟩ | ⟨hth, T', hst, hw, ft⟩
        · subst hr
          show kR (D + 1 + 1) 93 _ _ (Value.int (Int32.ofInt (v : Int)) :: _) (sz, hp 57 E S') _
          have fxY : kFx Y S' (c + 1) e := (kFx.rf.w (a := 53) (by decide)).tr fx1 (Nat.le_refl _) (Nat.le_refl _)
          have fxS : kFx S S' c e := fxY0.tr fxY (by omega) (Nat.le_refl _)
          have fm : kFm S S' := fmY1.tr fm1
          have B0 := B1
          obtain ⟨⟨hf, hk1⟩, ⟨hC', c1', c2', c3'⟩, ⟨hR', h24', p, r, hp1, hr1, hpl, hrl, h01', hin⟩, R', W', ⟨g1', g2', g3'⟩, q3', q20', q27', q4', q5', q6', q8', qL'⟩ := B1
          have hkl := klb_le hX hf
          have h43' : T' 43 o = 2 := by rw [(kl o (by omega)).1]; exact hM043
          have h44' : T' 44 o = (c0 : Int) := by rw [(kl o (by omega)).2.1]; exact hM044
          have h45' : T' 45 o = cc := by rw [(kl o (by omega)).2.2.1]; exact hM045
          have h46' : T' 46 o = (c : Int) := by rw [(kl o (by omega)).2.2.2]; exact hM046
          have j21 : S' 21 c0 = 5 := by rw [fxS.1 c0 hc0c]; exact h21
          have j21c : S' 21 c < 4 := by rw [fxY.1 c (by omega)]; exact K4
          have hown : ∀ i, e ≤ i → i < e' → ¬ S' 27 i = (c0 : Int) := fun i h1 h2 => by
            rcases hsub with ⟨_, hs2⟩ | ⟨_, _, hs2⟩
            · have := kSub_own d (c + 1) c' e e' hs2 i h1 h2
              omega
            · omega
          have hkhk := khk_fx (c0 := c0) WY y3 fxY (by rw [fxY0.1 c0 hc0c]; exact h21) K4 hee hown
          rw [← hh] at hkhk
          have W0 := W'
          obtain ⟨⟨w1', w2', w3'⟩, wa', wb', wc', wd'⟩ := W0
          have R0 := R'
          obtain ⟨⟨r1', r2', r3', r4', r5', r6'⟩, _⟩ := R0
          have hnd : ∀ i, i < c' → S' 21 i < 4 → kNd (S' 21) (S' 23) (S' 22) (S' 24) i := fun i hi hk => by
            obtain ⟨a1, a2, a3, a4, a5, a6, a7, a8, a9⟩ := wa' i hi
            exact ⟨a1, a2, a4, a5, a3, a6, by have := a7 hk; omega⟩
          have k63 := c_63 (S := S') (E := E) (sz := sz) (o := c0) (b := c) (n := e') hc0 (by omega) r5' (by omega) (hnd c (by omega) j21c) g1' (fun i hi => by
            obtain ⟨a1, a2, a3, a4, a5, a6, a7⟩ := wb' i hi
            refine ⟨a1, by omega, fun hz2 => ?_⟩
            have hz3 : (S' 27 i).toNat = c0 := by omega
            obtain ⟨d1, d2, d3⟩ := a7 (by rw [hz3]; exact j21)
            exact ⟨d1, by omega, hnd _ (by omega) d3⟩) (v := v) (by omega)
          rw [hkhk] at k63
          refine kR.c rfl rfl (kR.up k63 (by omega)) (fun r hr => ?_)
          rcases h01 with h0 | h0
          · have hr := hr.1 h0
            subst hr
            show kR (D + 1 + 1) 93 _ _ [] (sz, hp 57 E _) _
            have hst1 : kStep szT E x1 Tp T' := by
              rw [hM0 h0] at hst
              exact hst0.tr hst
            have klT : kKl Tp T' o := klM0.tr (fun i hi => kl i (by omega)) (Nat.le_refl _)
            have ftT : kFt Tp T' := ftM0.tr ft
            have hKo := key_ok WS K2 (K11.2 (by exact hnm)) y5 fxY r5' hsub
            obtain ⟨RX, WX, GX, BX⟩ := kBh.ent (key := (c : Int)) hX B0 hvc (by omega) h44' (Or.inr ⟨j21, h43', h46', by omega, by omega, by exact j21c⟩) ⟨hKo.1, hKo.2.1, val_nokey WY W' fxY hsub, hKo.2.2⟩
            have hfx2 : kFx S (kade S' c0 (c : Int) v e') c e := fxS.tr (kade_fx (by omega) r5' (by rcases val_new hsub with z | z; exact Or.inl (by omega); exact Or.inr z)) (Nat.le_refl _) hee
            have hfm2 : kFm S (kade S' c0 (c : Int) v e') := fm.tr kade_fm
            have hit2 : ∃ i, kIt (kSub (kade S' c0 (c : Int) v e') d) (kade S' c0 (c : Int) v e') c0 i (c0 + 1) e0 c' (e' + 1) := by
              obtain ⟨i, hi⟩ := hit
              have z := hi.fx hfx2 hc0c (Nat.le_refl _) (Nat.le_refl _)
              refine ⟨i + 1, kIt_snoc i (c0 + 1) e0 c e z (c + 1) c' e' v (Or.inr ⟨j21, rfl, by show (if e' = e' then (c : Int) else _) = _; rw [if_pos rfl], j21c, kSub_leaf (by omega) j21c⟩) ?_ (by show (if e' = e' then (c0 : Int) else _) = _; rw [if_pos rfl]) (by show (if e' = e' then (v : Int) else _) = _; rw [if_pos rfl])⟩
              rcases hsub with ⟨h1, h2⟩ | h1
              · exact Or.inl ⟨h1, h2.ade (Nat.le_refl _)⟩
              · exact Or.inr ⟨h1.1, h1.2.1, h1.2.2.1⟩
            have hstp : ∀ T1, kR 6 143 (blk 143 0) (kent 143 [.ref 30]) [] (szT, hp 53 E T') (fun r => r = (.inl none, (szT, hp 53 E T1))) → kStep szT E x1 T' T1 := fun T1 k => kStep.of (y := 143) (fun Q q => kM_4b q4' q5' g3' qL'.ins q3' q20' q) (kR.up k (by decide))
            have hkr := kVd_rng (t := t) (n := n) hf
            rw [← hk1] at hkr
            have k94 := c_94 (S := kade S' c0 (c : Int) v e') (E := E) (sz := sz) (k := k1) (cc := cc) hX (by exact hC') (by exact c1') (by omega) hcc
            have hftA : kFt T' (kapm2 (ku (ku T' 30 19 0) 30 28 0) (o + 1) e' v c0) := ((kFt.rf.w (by decide)).w (by decide)).apm
            have h44e : T' 44 (o + 1 - 1) = (c0 : Int) := by rw [show o + 1 - 1 = o by omega]; exact h44'
            have h43e : T' 43 (o + 1 - 1) = 2 := by rw [show o + 1 - 1 = o by omega]; exact h43'
            have h45e : T' 45 (o + 1 - 1) = cc := by rw [show o + 1 - 1 = o by omega]; exact h45'
            refine kR.s rfl rfl ?_
            refine kR.s rfl rfl ?_
            refine kR.c rfl rfl (kR.up k94 (by omega)) (fun r hr => ?_)
            have hclose : (∃ T1, kR 6 143 (blk 143 0) (kent 143 [.ref 30]) [] (szT, hp 53 E T') (fun r => r = (.inl none, (szT, hp 53 E T1))) ∧ T1 = ku (ku (ku (kapm2 (ku (ku T' 30 19 0) 30 28 0) (o + 1) e' v c0) 30 29 ((o + 1 - 1 : Nat) : Int)) 30 27 (c0 : Int)) 30 20 4) → r = (.inl (some (.int (Int32.ofInt 0))), (sz, hp 57 E (kade S' c0 (c : Int) v e'))) → kCl (D + 1 + 1) 93 79 (b93_25.drop 31) [.ref 56, .int (Int32.ofInt ((o : Int) + 1)), .int (Int32.ofInt cc), .int (Int32.ofInt (c0 : Int)), .int (Int32.ofInt 1), .int (Int32.ofInt (k : Int)), .int (Int32.ofInt (c : Int))] [] (kBw sz szT E x1 S Tp t n L l a o c e d c0 e0) r := fun ⟨T1, hk, hT1⟩ hr => by
              subst hr
              show kR (D + 1 + 1) 93 _ _ (Value.int (Int32.ofInt 0) :: _) (sz, hp 57 E _) _
              refine kR.s rfl rfl ?_
              refine kR.inc rfl ?_
              refine kR.g rfl ?_
              show kR (D + 1 + 1) 93 b93_25 _ _ _ _
              refine kR.s rfl rfl ?_
              refine kR.zeq (by decide) (by decide) (fun _ => ?_) (fun q => absurd rfl q)
              show kR (D + 1 + 1) 93 b93_90 _ _ _ _
              refine kR.s rfl rfl ?_
              refine kR.ret rfl rfl ?_
              rw [hT1] at hk
              exact Or.inl ⟨_, _, f, k1, c', u', e' + 1, rfl, hst1.tr (hstp _ hk), BX, ⟨hlf.1, row_y hlf.2⟩, hnm', hfx2, by omega, by omega, fun i hi => klT i hi, hfm2, ftT.tr (((hftA.w (by decide)).w (by decide)).w (by decide)), hit2⟩
            rcases Nat.lt_or_ge k1 L with hkL | hkL
            · rw [if_neg (by omega)] at hr
              have hlk := hX.ln hkL
              have hkv : krb t n k1 < kre t n k1 := by rw [hk1]; exact kVd_at (by rw [← hk1]; exact hkL)
              rcases Int.lt_or_le ((krb t n k1 : Int) - (klb t n k1 : Int)) cc with hdp | hdp
              · exact hclose ⟨_, c_143_cl0_2 (S := T') (E := E) (sz := szT) hm hX hR' hp1 hr1 ⟨hpl, hrl⟩ rfl h01' q3' (l := f) hf h24' hk1 q27' r6' (by omega) q4' ⟨by omega, q5'⟩ h44e hc0 h43e h45e hcc hin hkL hdp, rfl⟩ (hr.2.2 hdp)
              · have hckr : -1 ≤ kck t (kre t n k1) 0 (krb t n k1) ∧ kck t (kre t n k1) 0 (krb t n k1) ≤ 200 := by
                  rcases kck_rng (a := krb t n k1) (e := kre t n k1) (i := 0) hX (by omega) with h | ⟨z, h, h2, h3⟩ <;> omega
                obtain ⟨G, hG⟩ : ∃ G, G = kgom (kapm2 (ku (ku T' 30 19 0) 30 28 0) (o + 1) e' v c0) t n k1 := ⟨_, rfl⟩
                have hfG : kFt T' G := by rw [hG]; exact hftA.gom
                obtain ⟨B2, hB2⟩ : ∃ B2, B2 = (if kqu (kch t (kre t n k1) (krb t n k1)) = 1 then kqb G (kuq t (kre t n k1) (kch t (kre t n k1) (krb t n k1)) (krb t n k1 + 1)) else G) := ⟨_, rfl⟩
                have hfB : kFt T' B2 := by
                  rw [hB2]
                  split
                  · exact hfG.qb
                  · exact hfG
                have hbad : (cc < (krb t n k1 : Int) - (klb t n k1 : Int) ∨ kdash t (kre t n k1) (krb t n k1) = 1 ∨ kck t (kre t n k1) 0 (krb t n k1) = -1) → ∃ T'', kStep szT E x1 T' T'' ∧ T'' 30 19 = 1 ∧ kFt T' T'' := fun hb => by
                  have kk := c_143_tabbad0 (S := T') (E := E) (sz := szT) hm hX hR' hp1 hr1 ⟨hpl, hrl⟩ rfl h01' q3' (l := f) hf h24' hk1 q27' r6' (by omega) q4' ⟨by omega, q5'⟩ h44e hc0 h43e h45e hcc hin hkL hdp hckr hb
                  rw [← hG, ← hB2] at kk
                  exact ⟨_, hstp _ kk, rfl, hfB.w (by decide)⟩
                rcases Int.lt_or_le cc ((krb t n k1 : Int) - (klb t n k1 : Int)) with hdp2 | hdp2
                · have hr := hr.1 hdp2
                  have hth : kTh sz E S r := ⟨_, hr, hfm2⟩
                  obtain ⟨T'', z1, z2, z3⟩ := hbad (Or.inl hdp2)
                  exact hth.tag rfl (Or.inr ⟨hth, T'', hst1.tr z1, z2, ftT.tr z3⟩)
                · have hr := hr.2.1 (by omega)
                  subst hr
                  show kR (D + 1 + 1) 93 _ _ (Value.int (Int32.ofInt 1) :: _) (sz, hp 57 E _) _
                  refine kR.s rfl rfl ?_
                  refine kR.inc rfl ?_
                  refine kR.g rfl ?_
                  have AC := kBh.cont hX B0 hkL RX WX
                  rw [← hG] at AC
                  have AB : kAt (kade S' c0 (c : Int) v e') B2 t n L k1 (krb t n k1) (o + 1) c' u' (e' + 1) := by
                    rw [hB2]
                    split
                    · exact AC.qb
                    · exact AC
                  have hBc : ∀ b, b ≠ 30 → b ≠ 47 → B2 b = G b := fun b h1 h2 => by
                    rw [hB2]
                    split
                    · unfold kqb ku kup
                      rw [if_neg h2, if_neg h1]
                    · rfl
                  have hB30 : ∀ j, j ≠ 34 → B2 30 j = G 30 j := fun j hj => by
                    rw [hB2]
                    split
                    · exact kqb_30 hj
                    · rfl
                  have kQ : kqu (kch t (kre t n k1) (krb t n k1)) = 1 → kQb B2 0 (kuq t (kre t n k1) (kch t (kre t n k1) (krb t n k1)) (krb t n k1 + 1)) := fun hq => by
                    rw [hB2, if_pos hq]
                    refine ⟨?_, fun j hj => ?_⟩
                    · rw [Nat.zero_add]
                      rfl
                    · show (if 0 + j < (kuq t (kre t n k1) (kch t (kre t n k1) (krb t n k1)) (krb t n k1 + 1)).length then (kuq t (kre t n k1) (kch t (kre t n k1) (krb t n k1)) (krb t n k1 + 1)).getD (0 + j) 0 else _) = _
                      rw [if_pos (by omega), Nat.zero_add]
                  have hG43 : G 43 = T' 43 := by rw [hG]; rfl
                  have hG44 : G 44 = T' 44 := by rw [hG]; rfl
                  have hG45 : G 45 = T' 45 := by rw [hG]; rfl
                  have hG46 : G 46 = T' 46 := by rw [hG]; rfl
                  have hG21 : G 30 21 = (krb t n k1 : Int) := by rw [hG]; rfl
                  have hG28 : G 30 28 = 0 := by rw [hG]; rfl
                  have AB2 := AB.move (P := krb t n k1 + 1) (by omega) (by omega)
                  have zz := ih (L - k1) (line_lt hj hlf.1 hkr.1 hkL) k1 (krb t n k1) c' u' (e' + 1) (k + 1) (.int (Int32.ofInt (c : Int))) (kade S' c0 (c : Int) v e') T' B2 rfl AB.2.1 hkv hlk.1 AB2 ((hB30 21 (by decide)).trans hG21) kQ hfB (fun i hi => by rw [hBc 43 (by decide) (by decide), hBc 44 (by decide) (by decide), hBc 45 (by decide) (by decide), hBc 46 (by decide) (by decide), hG43, hG44, hG45, hG46]; exact ⟨rfl, rfl, rfl, rfl⟩) (fun z X5 hz k133 => hstp _ (by
                      rw [hB2, hG] at k133
                      have hda : kdash t (kre t n k1) (krb t n k1) = 0 := by
                        rcases kdash_o t (kre t n k1) (krb t n k1) with ⟨hd, _⟩ | ⟨hd, _⟩
                        · have := dash_nokey hX (by omega) hd
                          omega
                        · exact hd
                      exact c_143_tab0 (S := T') (E := E) (sz := szT) hm hX hR' hp1 hr1 ⟨hpl, hrl⟩ rfl h01' q3' (l := f) hf h24' hk1 q27' r6' (by omega) q4' ⟨by omega, q5'⟩ h44e hc0 h43e h45e hcc hin hkL (by omega) hda hz (by omega) k133)) (fun hn => hbad (Or.inr (Or.inr hn))) ((hB30 28 (by decide)).trans hG28) (fun j hj => by rw [hBc 43 (by decide) (by decide), hBc 45 (by decide) (by decide), hG43, hG45]; exact qL' j hj) (by rw [hBc 43 (by decide) (by decide), hG43]; exact h43') (by rw [hBc 44 (by decide) (by decide), hG44]; exact h44') (by rw [hBc 45 (by decide) (by decide), hG45]; exact h45') (by exact j21) (by exact hnm') (by omega) (by omega) hit2
                  exact kR.wk zz (fun r hr => hr.from hst1 hfx2 hfm2 klT ftT (by omega) (by omega) (by omega) (row_y2 hlf.2 (kLb_mono (f := f) (k := k1) hX (by omega) hkr.1) hlk.1))
            · rw [if_pos (by omega)] at hr
              exact hclose ⟨_, c_143_end0_2 (S := T') (E := E) (sz := szT) hm hX hR' hp1 hr1 ⟨hpl, hrl⟩ rfl h01' q3' (l := f) hf h24' hk1 q27' r6' (by omega) q4' ⟨by omega, q5'⟩ h44e hc0 h43e h45e hcc hin hkL, rfl⟩ (hr.2.2 (by omega))
          · have hr := hr.2 (by omega)
            have hth : kTh sz E S r := ⟨_, hr, fm⟩
            exact hth.tag rfl (Or.inr ⟨hth, hwrong h0⟩)
        · have hth2 : kTh sz E S r := hth.to fmY1
          refine hth2.tag rfl (Or.inr ⟨hth2, ?_⟩)
          rcases h01 with h0 | h0
          · rw [hM0 h0] at hst
            exact ⟨T', hst0.tr hst, hw, ftM0.tr ft⟩
          · exact hwrong h0
      · obtain ⟨X5, z1, z2, z3⟩ := ref_ent_full (szT := szT) (E := E) hX A0 h21p hqb hg hz
        refine kR.cT rfl rfl rfl (kR.up (clk_full (o := o + 1) (i := 0) (Or.inl rfl) hX hl hCu0 (by omega) (by exact r1) w1 (by exact r3) (by omega) (by exact wd) q5 hWd hg hz) (by omega)) ?_
        exact Or.inr ⟨⟨_, rfl, kFm.rf.w (by decide)⟩, X5, hE z X5 hz z1, z2, ftB.tr z3⟩
end KTL
