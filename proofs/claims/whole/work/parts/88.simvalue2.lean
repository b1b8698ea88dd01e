/-! A value with its naming, side by side. -/
section KSW
variable {sz szT : Nat × Nat} {E : Nat → kC} {x1 : Int} {t : Nat → Int} {n L l : Nat}
theorem kUb.st {T0 T : Nat → Nat → Int} (h : kUb szT E T) (hs : ∀ T1, kU1 szT E T T1 → kStep szT E x1 T0 T1) (ft : kFt T0 T) : ∃ T', kStep szT E x1 T0 T' ∧ T' 30 19 = 1 ∧ kFt T0 T' := by
  obtain ⟨T', h1, h2, h3⟩ := h
  exact ⟨T', hs T' h1, h2, ft.tr h3⟩
theorem sim_value1 (hX : kTx t n L) (hWd : kWrd E) (d D o : Nat) (hod : o + d = 8) (hD : 8 ≤ D) (IH : o ≤ 7 → ∀ (S T : Nat → Nat → Int) (a c u e : Nat), kAt S T t n L l a (o + 1) c u e → T 30 20 = 2 → kins T (o + 1) = 1 → S 54 3 = -1 → kR D 66 (blk 66 0) (kent 66 [.ref 54, .int (Int32.ofInt ((o : Int) + 1 + 1)), .int (Int32.ofInt 1)]) [] (sz, hp 57 E S) (kRes sz szT E x1 S T t n L l a (o + 1) c e (d - 1))) (S T : Nat → Nat → Int) (a c u e : Nat) (A : kAt S T t n L l a o c u e) (hs : T 30 20 = 2) : kR (D + 1 + 1 + 1) 66 (blk 66 0) (kent 66 [.ref 54, .int (Int32.ofInt ((o : Int) + 1)), .int (Int32.ofInt (kins T o))]) [] (sz, hp 57 E S) (kRes sz szT E x1 S T t n L l a o c e d) := by
  have A0 := A
  obtain ⟨hl, ⟨hC, c1, c2, c3⟩, ⟨hR, m1, m2, m3, m4⟩, R, W, ⟨g1, g2, g3⟩, q3, q4, q5, q6, q7, q8⟩ := A
  have hln := hX.ln hl
  have hx1 := hX.1
  have hen : kre t n l ≤ n := by omega
  obtain ⟨⟨r1, r2, r3, r4, r5, r6⟩, ra, rb, rc, rd, re⟩ := R
  obtain ⟨⟨w1, w2, w3⟩, wa, wb, wc, wd⟩ := W
  have k64 := c_64 (S := S) (E := E) (sz := sz) hX hC c3 hen c2 q7 (nm := S 54 3) rfl wd
  have hki : kins T o = 0 ∨ kins T o = 1 := by have w := kins_o T o; omega
  show kR (D + 1 + 1 + 1) 66 b66_0 _ _ _ _
  refine kR.s rfl rfl ?_
  by_cases p38 : kch t (kre t n l) a = 38
  · have hlo := klt_o t (kre t n l) (a + 1)
    have hgo := kgap_o t (kre t n l) (a + 2)
    have hno := knm_o t (kre t n l) 0 a
    have hpo := kpl_o t (kre t n l) a
    have hso := ksg_o (kch t (kre t n l) a)
    have hqo := kqu_o (kch t (kre t n l) a)
    have hbad : kUb szT E T := ref_noplain hX A0 (by omega) (by omega) (by omega) (by omega) (Or.inl (by omega))
    by_cases hok : 0 ≤ klt t (kre t n l) (a + 1) ∧ kgap t (kre t n l) (a + 2) = 1 ∧ S 54 3 = -1
    · have hae1 : a + 1 < kre t n l := kch_lt (t := t) (by omega)
      have k64' := kR.wk k64 (fun u hu => hu.1 (fun _ => hok))
      rw [if_pos p38] at k64'
      refine kR.c0 rfl rfl (kR.up k64' (by omega)) ?_
      by_cases h32 : kch t (kre t n l) (a + 2) = 32
      · have hnm1 : knm t (kre t n l) 0 a = 1 := by omega
        have hkw : a + 2 ≤ kw (fun i => decide (t i = 32)) (kre t n l) (a + 2) := kw_rng.1
        have zc := sim_core hX hWd (A0.named hX h32 hok.1 hok.2.2) hod hD IH
        exact kR.wk zc (fun r hr => hr.res (fun T1 k => kStep_n q3 hs (name_yes hX A0 hnm1) k) ((kFx.rf.w (by decide)).w (by decide)) ((kFm.rf.w (by decide)).w (by decide)) ⟨fun j hj => ⟨rfl, rfl, rfl, rfl⟩, rfl⟩ (((kFt.rf.w (by decide)).w (by decide)).w (by decide)) (by omega))
      · have hnm0 : knm t (kre t n l) 0 a = 0 := by omega
        have hend : kre t n l = a + 2 := by
          rcases Nat.lt_or_ge (a + 2) (kre t n l) with h | h
          · have := kch_in (t := t) h
            omega
          · omega
        have hkw : kw (fun i => decide (t i = 32)) (kre t n l) (a + 2) = a + 2 := kw_no (Or.inl (by omega))
        rw [hkw]
        have hc10 : kch t (kre t n l) (a + 2) = 10 := by
          unfold kch
          rw [if_neg (by omega)]
        have hpo2 := kpl_o t (kre t n l) (a + 2)
        have hso2 := ksg_o (kch t (kre t n l) (a + 2))
        have hpl2 : kpl t (kre t n l) (a + 2) = 0 := by omega
        have hsw := ksw66 (c := kch t (kre t n l) (a + 2)) (by omega)
        rw [if_neg (by omega), if_neg (by omega), if_neg (by omega), if_neg (by omega), if_neg (by omega)] at hsw
        refine kR.s rfl rfl ?_
        refine kR.gr (a := 54) (b := 53) (k := 0) (by omega) rfl rfl rfl (by decide) (by decide) rfl ?_
        refine kR.cv (v := .int (Int32.ofInt (kch t (kre t n l) (a + 2)))) rfl rfl (kR.up (c_53 (S := ku (ku S 54 3 (klt t (kre t n l) (a + 1))) 53 2 ((a + 2 : Nat) : Int)) hX (by exact hC) (by exact c3) hen (a := a + 2) rfl (by omega)) (by omega)) ?_
        refine kR.w hsw rfl ?_
        show kR (D + 1 + 1 + 1) 66 b66_83 _ _ _ _
        refine kR.s rfl rfl ?_
        refine kR.s rfl rfl ?_
        refine kR.s rfl rfl ?_
        refine kR.cT rfl rfl rfl (kR.up (c_81n (S := ku (ku S 54 3 (klt t (kre t n l) (a + 1))) 53 2 ((a + 2 : Nat) : Int)) hX (by exact hC) (by exact c3) hen (a := a + 2) rfl (by omega) hki hWd.2.2.2.1 hpl2) (by omega)) ?_
        exact Or.inr ⟨⟨_, rfl, (kFm.rf.w (by decide)).w (by decide)⟩, hbad.st (fun T1 k => kStep_n q3 hs (name_no hX A0 hnm0) k) kFt.rf⟩
    · have k64' := kR.wk k64 (fun u hu => hu.2 (fun z => hok (z p38)))
      refine kR.cT rfl rfl rfl (kR.up k64' (by omega)) ?_
      refine Or.inr ⟨⟨_, rfl, kFm.rf⟩, ?_⟩
      rcases hno with ⟨hnm1, hn⟩ | ⟨hnm0, hn⟩
      · have h32 : kch t (kre t n l) (a + 2) = 32 := by omega
        have hae2 : a + 2 < kre t n l := kch_lt (t := t) (by omega)
        have hg1 : kgap t (kre t n l) (a + 2) = 1 := by
          have := kch_in (t := t) hae2
          omega
        have h26 : 0 ≤ T 30 26 := by omega
        have hkw : a + 2 ≤ kw (fun i => decide (t i = 32)) (kre t n l) (a + 2) ∧ (a + 2 ≤ kre t n l → kw (fun i => decide (t i = 32)) (kre t n l) (a + 2) ≤ kre t n l) := kw_rng
        have hlr := klt_rng t (kre t n l) (a + 1)
        have hw := ref_w1 (T := ku (ku (ku T 30 19 (if 0 ≤ T 30 26 then 1 else 0)) 30 26 (klt t (kre t n l) (a + 1))) 30 21 ((kw (fun i => decide (t i = 32)) (kre t n l) (a + 2) : Nat) : Int)) (szT := szT) (E := E) (o := o) (c := c) hX hl ⟨hR, m1, m2, m3, rfl⟩ (by omega) (by exact q4) q5 (by exact r2) w1 (by show -1 ≤ klt t (kre t n l) (a + 1) ∧ klt t (kre t n l) (a + 1) < 26; omega) (fun j hj => by have := wc j hj; have := rd j hj; show 0 ≤ T 42 j ∧ T 42 j ≤ 60; omega) (by exact g3) (by show (if 0 ≤ T 30 26 then (1 : Int) else 0) = 1; rw [if_pos h26])
        exact hw.st (fun T1 k => kStep_n q3 hs (name_yes hX A0 hnm1) k) (((kFt.rf.w (by decide)).w (by decide)).w (by decide))
      · exact hbad.st (fun T1 k => kStep_n q3 hs (name_no hX A0 hnm0) k) kFt.rf
  · have hno := knm_o t (kre t n l) 0 a
    have hnm0 : knm t (kre t n l) 0 a = 0 := by omega
    have k64' := kR.wk k64 (fun u hu => hu.1 (fun z => absurd z p38))
    rw [if_neg p38] at k64'
    refine kR.c0 rfl rfl (kR.up k64' (by omega)) ?_
    exact kR.wk (sim_core hX hWd A0 hod hD IH) (fun r hr => hr.res (fun T1 k => kStep_n q3 hs (name_no hX A0 hnm0) k) kFx.rf kFm.rf kKp.rf kFt.rf (Nat.le_refl _))
theorem sim_value (hX : kTx t n L) (hWd : kWrd E) : ∀ (d o : Nat), o + d = 8 → ∀ (S T : Nat → Nat → Int) (a c u e : Nat), kAt S T t n L l a o c u e → T 30 20 = 2 → kR (12 + 3 * d) 66 (blk 66 0) (kent 66 [.ref 54, .int (Int32.ofInt ((o : Int) + 1)), .int (Int32.ofInt (kins T o))]) [] (sz, hp 57 E S) (kRes sz szT E x1 S T t n L l a o c e d) := by
  intro d
  induction d with
  | zero =>
    intro o hod S T a c u e A hs
    exact sim_value1 hX hWd 0 9 o hod (by omega) (fun h => absurd h (by omega)) S T a c u e A hs
  | succ d ih =>
    intro o hod S T a c u e A hs
    refine kR.up (sim_value1 hX hWd (d + 1) (12 + 3 * d) o hod (by omega) (fun ho S T a c u e A hs hi _ => ?_) S T a c u e A hs) (by omega)
    have z := ih (o + 1) (by omega) S T a c u e A hs
    rw [hi] at z
    exact z
end KSW
