/-! A row in lines, side by side: its loop. -/
theorem row_y {e e' a m : Nat} (h : 2 * e' + (a + 2) ≤ 2 * e + m) : 2 * (e' + 1) + a ≤ 2 * e + m := by omega
theorem row_y2 {e e' a m p q : Nat} (h : 2 * e' + (a + 2) ≤ 2 * e + m) (h1 : m ≤ p) (h2 : p ≤ q) : 2 * (e' + 1) + a ≤ 2 * e + q := by omega
section KRL
variable {sz szT : Nat × Nat} {E : Nat → kC} {x1 : Int} {t : Nat → Int} {n L : Nat}
theorem l_92 (hX : kTx t n L) (hWd : kWrd E) {o c0 e0 d D : Nat} {cc : Int} (hod : o + 1 + d = 8) (hc0 : c0 < 60) (hcc : 0 ≤ cc ∧ cc ≤ 200) (hD : 13 + 3 * d ≤ D) (IH : ∀ (S T : Nat → Nat → Int) (l a c u e : Nat), kAt S T t n L l a (o + 1) c u e → klb t n l ≤ a → T 30 20 = 0 → T 30 28 = 0 → kLn T (o + 1) → kR D 91 (blk 91 0) (kent 91 [.ref 56, .int (Int32.ofInt (((o + 1 : Nat) : Int) + 1)), .int (Int32.ofInt 1)]) [] (sz, hp 57 E S) (kBr sz szT E x1 S T t n L l a (o + 1) c e d)) : ∀ (j l a P c u e k : Nat) (S T : Nat → Nat → Int), L - l = j → P = kw (fun i => decide (t i = 32)) (kre t n l) (a + 1) → S 53 2 = (a : Int) → a < kre t n l → klb t n l ≤ a → kdash t (kre t n l) a = 1 → kAt (ku S 53 2 (P : Int)) T t n L l P (o + 1) c u e → T 30 20 = 1 → T 30 28 = 0 → kLn T (o + 1) → T 43 o = 1 → T 44 o = (c0 : Int) → T 45 o = cc → S 21 c0 = 4 → S 54 3 = -1 → k ≤ e → c0 < c → (∃ i, kIt (kSub S d) S c0 i (c0 + 1) e0 c e) → kR (D + 1 + 1) 92 (blk 92 25) [.ref 56, .int (Int32.ofInt ((o : Int) + 1)), .int (Int32.ofInt cc), .int (Int32.ofInt (c0 : Int)), .int (Int32.ofInt 1), .int (Int32.ofInt (k : Int))] [] (sz, hp 57 E S) (kBw sz szT E x1 S T t n L l a o c e d c0 e0) := by
  intro j
  induction j using Nat.strongRecOn with
  | _ j ih =>
    intro l a P c u e k S T hj hP h2 hae hlba hda0 A h20 h28 hLn h43 h44 h45 h21 hnm hke hc0c hit
    have A0 := A
    obtain ⟨hl, ⟨hC, b1, b2, b3⟩, ⟨hR, m1, m2, m3, m4⟩, R, W, ⟨g1, g2, g3⟩, q3, q4, q5, q6, q7, q8⟩ := A
    have hln := hX.ln hl
    have hx1 := hX.1
    have hx2 := hX.2.2.2.1
    have hen : kre t n l ≤ n := by omega
    have k55 := c_55 (S := ku S 53 2 ((a : Int) + 1)) (E := E) (sz := sz) hX (by exact hC) (e := kre t n l) (by exact b3) hen (a := a + 1) rfl (by omega)
    rw [← hP] at k55
    simp only [kuku] at k55
    have hPr : a + 1 ≤ kw (fun i => decide (t i = 32)) (kre t n l) (a + 1) := kw_rng.1
    rw [← hP] at hPr
    have k95 := sim_part (sz := sz) (szT := szT) (x1 := x1) (d := d) (D := D) (cc := cc) (it := 1) hX hWd hod (by omega) A0 (by omega) (y := a + 2) (dash_P hda0 hP) h20 (by rw [show o + 1 - 1 = o by omega]; exact h45) hcc h28 hLn (by exact hnm) (Or.inl ⟨rfl, by rw [show o + 1 - 1 = o by omega]; exact h43⟩) hD IH
    show kR (D + 1 + 1) 92 b92_25 _ _ _ _
    refine kR.s rfl rfl ?_
    refine kR.zeq (by decide) (by decide) (fun q => absurd q (by decide)) (fun _ => ?_)
    refine kR.s rfl rfl ?_
    refine kR.si rfl ?_
    refine kR.jge (by omega) (by omega) (by omega) (by omega) (fun q => absurd q (by omega)) (fun _ => ?_)
    refine kR.s rfl rfl ?_
    refine kR.gr (a := 56) (b := 53) (k := 2) (by omega) rfl rfl rfl (by decide) (by decide) rfl ?_
    refine kR.s rfl rfl ?_
    refine kR.gi (a := 53) (k := 2) (v := (a : Int)) (by omega) rfl rfl rfl (by decide) (by decide) rfl (by exact h2) ?_
    refine kR.s rfl rfl ?_
    refine kR.add ?_
    refine kR.pi (a := 53) (k := 2) (by omega) rfl rfl rfl (by decide) (by decide) rfl rfl ?_
    refine kR.s rfl rfl ?_
    refine kR.gr (a := 56) (b := 53) (k := 2) (by omega) rfl rfl rfl (by decide) (by decide) rfl ?_
    refine kR.c0 rfl rfl (kR.up k55 (by omega)) ?_
    refine kR.s rfl rfl ?_
    refine kR.gr (a := 56) (b := 20) (k := 1) (by omega) rfl rfl rfl (by decide) (by decide) rfl ?_
    refine kR.s rfl rfl ?_
    refine kR.s rfl rfl ?_
    refine kR.s rfl rfl ?_
    refine kR.s rfl rfl ?_
    refine kR.s rfl rfl ?_
    refine kR.s rfl rfl ?_
    refine kR.add ?_
    refine kR.s rfl rfl ?_
    refine kR.c rfl rfl k95 (fun r hr => ?_)
    have fx0 : kFx S (ku S 53 2 (P : Int)) c e := kFx.rf.w (by decide)
    have fm0 : kFm S (ku S 53 2 (P : Int)) := kFm.rf.w (by decide)
    rcases hr with ⟨v, S', T', f, k1, c', u', e', hr, hst, B, hlf, hvc, hnm', fx1, hcc', hee, kl, fm1, ft, hsub⟩ | ⟨hth, T', hst, hw, ft⟩
    · subst hr
      show kR (D + 1 + 1) 92 _ _ (Value.int (Int32.ofInt (v : Int)) :: _) (sz, hp 57 E S') _
      have fx : kFx S S' c e := fx0.tr fx1 (Nat.le_refl _) (Nat.le_refl _)
      have fm : kFm S S' := fm0.tr fm1
      have B0 := B
      obtain ⟨⟨hf, hk1⟩, ⟨hC', c1', c2', c3'⟩, ⟨hR', h24', p, r, hp1, hr1, hpl, hrl, h01, hin⟩, R', W', ⟨g1', g2', g3'⟩, q3', q20', q27', q4', q5', q6', q8', qL'⟩ := B
      have hkl := klb_le hX hf
      have h43' : T' 43 o = 1 := by rw [(kl o (by omega)).1]; exact h43
      have h44' : T' 44 o = (c0 : Int) := by rw [(kl o (by omega)).2.1]; exact h44
      have h45' : T' 45 o = cc := by rw [(kl o (by omega)).2.2.1]; exact h45
      have h21' : S' 21 c0 = 4 := by rw [fx.1 c0 hc0c]; exact h21
      have W0 := W'
      obtain ⟨⟨w1, w2, w3⟩, _⟩ := W0
      have R0 := R'
      obtain ⟨⟨r1, r2, r3, r4, r5, r6⟩, _⟩ := R0
      obtain ⟨RX, WX, GX, BX⟩ := kBh.ent (key := -1) hX B0 hvc (by omega) h44' (Or.inl ⟨h21', rfl, h43'⟩) ⟨fun _ _ _ => rfl, fun _ _ _ => rfl, val_nokey W W' fx1 hsub, fun _ => rfl⟩
      have hfx2 : kFx S (kade S' c0 (-1) v e') c e := fx.tr (kade_fx (by omega) r5 (val_new hsub)) (Nat.le_refl _) hee
      have hfm2 : kFm S (kade S' c0 (-1) v e') := fm.tr kade_fm
      have hit2 : ∃ i, kIt (kSub (kade S' c0 (-1) v e') d) (kade S' c0 (-1) v e') c0 i (c0 + 1) e0 c' (e' + 1) := by
        obtain ⟨i, hi⟩ := hit
        have z := hi.fx hfx2 hc0c (Nat.le_refl _) (Nat.le_refl _)
        refine ⟨i + 1, kIt_snoc i (c0 + 1) e0 c e z c c' e' v (Or.inl ⟨h21', rfl, by show (if e' = e' then (-1 : Int) else _) = _; rw [if_pos rfl]⟩) ?_ (by show (if e' = e' then (c0 : Int) else _) = _; rw [if_pos rfl]) (by show (if e' = e' then (v : Int) else _) = _; rw [if_pos rfl])⟩
        rcases hsub with ⟨h1, h2⟩ | h1
        · exact Or.inl ⟨h1, h2.ade (Nat.le_refl _)⟩
        · exact Or.inr ⟨h1.1, h1.2.1, h1.2.2.1⟩
      have hm : 53 ≤ 53 ∧ 53 ≤ 57 := by omega
      have hstp : ∀ T1, kR 6 143 (blk 143 0) (kent 143 [.ref 30]) [] (szT, hp 53 E T') (fun r => r = (.inl none, (szT, hp 53 E T1))) → kStep szT E x1 T T1 := fun T1 k => hst.tr (kStep.of (y := 143) (fun Q q => kM_4b q4' q5' g3' qL'.ins q3' q20' q) (kR.up k (by decide)))
      have hkr := kVd_rng (t := t) (n := n) hf
      rw [← hk1] at hkr
      have k94 := c_94 (S := kade S' c0 (-1) v e') (E := E) (sz := sz) (k := k1) (cc := cc) hX (by exact hC') (by exact c1') (by omega) hcc
      have hftA : kFt T (kapm2 (ku (ku T' 30 19 0) 30 28 0) (o + 1) e' v c0) := ((ft.w (by decide)).w (by decide)).apm
      have h44e : T' 44 (o + 1 - 1) = (c0 : Int) := by rw [show o + 1 - 1 = o by omega]; exact h44'
      have h43e : T' 43 (o + 1 - 1) = 1 := by rw [show o + 1 - 1 = o by omega]; exact h43'
      have h45e : T' 45 (o + 1 - 1) = cc := by rw [show o + 1 - 1 = o by omega]; exact h45'
      refine kR.c0 rfl rfl (kR.up (c_39 (S := S') (o := c0) (k := -1) (v := v) (n := e') hc0 (by omega) r5 (by omega)) (by omega)) ?_
      refine kR.s rfl rfl ?_
      refine kR.s rfl rfl ?_
      refine kR.c rfl rfl (kR.up k94 (by omega)) (fun r hr => ?_)
      have hclose : (∃ T1, kR 6 143 (blk 143 0) (kent 143 [.ref 30]) [] (szT, hp 53 E T') (fun r => r = (.inl none, (szT, hp 53 E T1))) ∧ T1 = ku (ku (ku (kapm2 (ku (ku T' 30 19 0) 30 28 0) (o + 1) e' v c0) 30 29 ((o + 1 - 1 : Nat) : Int)) 30 27 (c0 : Int)) 30 20 4) → r = (.inl (some (.int (Int32.ofInt 0))), (sz, hp 57 E (kade S' c0 (-1) v e'))) → kCl (D + 1 + 1) 92 78 (b92_25.drop 30) [.ref 56, .int (Int32.ofInt ((o : Int) + 1)), .int (Int32.ofInt cc), .int (Int32.ofInt (c0 : Int)), .int (Int32.ofInt 1), .int (Int32.ofInt (k : Int))] [] (kBw sz szT E x1 S T t n L l a o c e d c0 e0) r := fun ⟨T1, hk, hT1⟩ hr => by
        subst hr
        show kR (D + 1 + 1) 92 _ _ (Value.int (Int32.ofInt 0) :: _) (sz, hp 57 E _) _
        refine kR.s rfl rfl ?_
        refine kR.s rfl rfl ?_
        refine kR.zeq (by decide) (by decide) (fun _ => ?_) (fun q => absurd rfl q)
        show kR (D + 1 + 1) 92 b92_108 _ _ _ _
        refine kR.inc rfl ?_
        refine kR.g rfl ?_
        show kR (D + 1 + 1) 92 b92_25 _ _ _ _
        refine kR.s rfl rfl ?_
        refine kR.zeq (by decide) (by decide) (fun _ => ?_) (fun q => absurd rfl q)
        show kR (D + 1 + 1) 92 b92_114 _ _ _ _
        refine kR.s rfl rfl ?_
        refine kR.ret rfl rfl ?_
        rw [hT1] at hk
        exact Or.inl ⟨_, _, f, k1, c', u', e' + 1, rfl, hstp _ hk, BX, ⟨hlf.1, row_y hlf.2⟩, hnm', hfx2, hcc', by omega, fun i hi => kl i (by omega), hfm2, ((hftA.w (by decide)).w (by decide)).w (by decide), hit2⟩
      rcases Nat.lt_or_ge k1 L with hkL | hkL
      · rw [if_neg (by omega)] at hr
        have hlk := hX.ln hkL
        have hkv : krb t n k1 < kre t n k1 := by rw [hk1]; exact kVd_at (by rw [← hk1]; exact hkL)
        rcases Int.lt_or_le ((krb t n k1 : Int) - (klb t n k1 : Int)) cc with hdp | hdp
        · exact hclose ⟨_, c_143_cl0_1 (S := T') (E := E) (sz := szT) hm hX hR' hp1 hr1 ⟨hpl, hrl⟩ rfl h01 q3' (l := f) hf h24' hk1 q27' r6 (by omega) q4' ⟨by omega, q5'⟩ h44e hc0 h43e h45e hcc hin hkL hdp, rfl⟩ (hr.2.2 hdp)
        · rcases Int.lt_or_le cc ((krb t n k1 : Int) - (klb t n k1 : Int)) with hdp2 | hdp2
          · have hr := hr.1 hdp2
            have hth : kTh sz E S r := ⟨_, hr, hfm2⟩
            exact hth.tag rfl (Or.inr ⟨hth, _, hstp _ (c_143_rowbad0 (S := T') (E := E) (sz := szT) hm hX hR' hp1 hr1 ⟨hpl, hrl⟩ rfl h01 q3' (l := f) hf h24' hk1 q27' r6 (by omega) q4' ⟨by omega, q5'⟩ h44e hc0 h43e h45e hcc hin hkL hdp (Or.inl hdp2)), rfl, hftA.gom.w (by decide)⟩)
          · have hr := hr.2.1 (by omega)
            subst hr
            show kR (D + 1 + 1) 92 _ _ (Value.int (Int32.ofInt 1) :: _) (sz, hp 57 E _) _
            refine kR.s rfl rfl ?_
            refine kR.s rfl rfl ?_
            refine kR.zeq (by decide) (by decide) (fun q => absurd q (by decide)) (fun _ => ?_)
            refine kR.s rfl rfl ?_
            refine kR.gr (a := 56) (b := 53) (k := 2) (by omega) rfl rfl rfl (by decide) (by decide) rfl ?_
            have AC := kBh.cont hX B0 hkL RX WX
            rw [if_neg (by omega)] at c2' c3'
            have k57 := c_57 (S := kade S' c0 (-1) v e') (E := E) (sz := sz) hX (by exact hC') (e := kre t n k1) (by exact c3') (by omega) (a := krb t n k1) (by exact c2') (by omega)
            rcases kdash_o t (kre t n k1) (krb t n k1) with ⟨hda, _⟩ | ⟨hda, _⟩
            · rw [hda] at k57
              refine kR.cv (v := .int (Int32.ofInt 1)) rfl rfl (kR.up k57 (by omega)) ?_
              refine kR.zne (by decide) (by decide) (fun _ => ?_) (fun q => absurd q (by decide))
              show kR (D + 1 + 1) 92 b92_108 _ _ _ _
              refine kR.inc rfl ?_
              refine kR.g rfl ?_
              have hP2 : krb t n k1 + 1 ≤ kw (fun i => decide (t i = 32)) (kre t n k1) (krb t n k1 + 1) ∧ (krb t n k1 + 1 ≤ kre t n k1 → kw (fun i => decide (t i = 32)) (kre t n k1) (krb t n k1 + 1) ≤ kre t n k1) := kw_rng
              have kref := c_143_row0 (S := T') (E := E) (sz := szT) hm hX hR' hp1 hr1 ⟨hpl, hrl⟩ rfl h01 q3' (l := f) hf h24' hk1 q27' r6 (by omega) q4' ⟨by omega, q5'⟩ h44e hc0 h43e h45e hcc hin hkL (by omega) hda
              obtain ⟨P2, hP2d⟩ : ∃ P2, P2 = kw (fun i => decide (t i = 32)) (kre t n k1) (krb t n k1 + 1) := ⟨_, rfl⟩
              rw [← hP2d] at hP2 kref
              have AP := (AC.move (P := P2) (by omega) (by omega)).st1 (s := 1)
              have zz := ih (L - k1) (line_lt hj hlf.1 hkr.1 hkL) k1 (krb t n k1) P2 c' u' (e' + 1) (k + 1) (kade S' c0 (-1) v e') (ku (ku (kgom (kapm2 (ku (ku T' 30 19 0) 30 28 0) (o + 1) e' v c0) t n k1) 30 21 (P2 : Int)) 30 20 1) rfl hP2d (by exact c2') hkv hlk.1 hda AP rfl rfl (by exact qL') (by exact h43') (by exact h44') (by exact h45') (by exact h21') (by exact hnm') (by omega) (by omega) hit2
              exact kR.wk zz (fun r hr => hr.from (hstp _ kref) hfx2 hfm2 (fun i hi => kl i (by omega)) ((hftA.gom.w (by decide)).w (by decide)) (by omega) hcc' (by omega) (row_y2 hlf.2 (kLb_mono (f := f) (k := k1) hX (by omega) hkr.1) hlk.1))
            · rw [hda] at k57
              refine kR.cv (v := .int (Int32.ofInt 0)) rfl rfl (kR.up k57 (by omega)) ?_
              refine kR.zne (by decide) (by decide) (fun q => absurd rfl q) (fun _ => ?_)
              refine kR.t rfl rfl (Nat.le_of_ble_eq_true rfl) ?_
              exact Or.inr ⟨⟨_, rfl, hfm2⟩, _, hstp _ (c_143_rowbad0 (S := T') (E := E) (sz := szT) hm hX hR' hp1 hr1 ⟨hpl, hrl⟩ rfl h01 q3' (l := f) hf h24' hk1 q27' r6 (by omega) q4' ⟨by omega, q5'⟩ h44e hc0 h43e h45e hcc hin hkL hdp (Or.inr hda)), rfl, hftA.gom.w (by decide)⟩
      · rw [if_pos (by omega)] at hr
        exact hclose ⟨_, c_143_end0_1 (S := T') (E := E) (sz := szT) hm hX hR' hp1 hr1 ⟨hpl, hrl⟩ rfl h01 q3' (l := f) hf h24' hk1 q27' r6 (by omega) q4' ⟨by omega, q5'⟩ h44e hc0 h43e h45e hcc hin hkL, rfl⟩ (hr.2.2 (by omega))
    · have hth2 : kTh sz E S r := hth.to fm0
      exact hth2.tag rfl (Or.inr ⟨hth2, T', hst, hw, ft⟩)
end KRL
