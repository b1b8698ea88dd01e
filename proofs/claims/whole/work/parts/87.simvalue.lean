/-! A value, side by side. -/
theorem ksw66 {c : Int} (h : 0 ≤ c ∧ c ≤ 1000) : kswitch (.lookupswitch (72) #[((34), (66)), ((39), (66)), ((42), (49)), ((91), (54)), ((123), (60))]) 11 [.int (Int32.ofInt c)] = some (if c = 34 then 77 else if c = 39 then 77 else if c = 42 then 60 else if c = 91 then 65 else if c = 123 then 71 else 83, []) := by
  unfold kswitch
  dsimp only
  rw [if_pos (by decide), ku_rng (by omega) (by omega)]
  show ktn (((11 : Nat) : Int) + (if 34 = c then 66 else if 39 = c then 66 else if 42 = c then 49 else if 91 = c then 54 else if 123 = c then 60 else 72)) [] = _
  by_cases h1 : c = 34
  · subst h1; rfl
  · by_cases h2 : c = 39
    · subst h2; rfl
    · by_cases h3 : c = 42
      · subst h3; rfl
      · by_cases h4 : c = 91
        · subst h4; rfl
        · by_cases h5 : c = 123
          · subst h5; rfl
          · rw [if_neg (fun z => h1 z.symm), if_neg (fun z => h2 z.symm), if_neg (fun z => h3 z.symm), if_neg (fun z => h4 z.symm), if_neg (fun z => h5 z.symm), if_neg h1, if_neg h2, if_neg h3, if_neg h4, if_neg h5]
            rfl
section KSV
variable {sz szT : Nat × Nat} {E : Nat → kC} {x1 : Int} {S T : Nat → Nat → Int} {t : Nat → Int} {n L l a o c u e : Nat}
theorem kReU.io {r : kO × kH} {d : Nat} (h : kReU sz szT E x1 S T t n L l a o c e d r) : (∃ v h', r = (.inl (some (.int v)), h')) ∨ ∃ sz E S, kTh sz E S r := by
  rcases h with ⟨v, S', T1, T', a', c', u', e', h1, _⟩ | ⟨h1, _⟩
  · exact Or.inl ⟨_, _, h1⟩
  · exact Or.inr ⟨_, _, _, h1⟩
theorem kReU.res {S0 T0 : Nat → Nat → Int} {a0 d : Nat} {r : kO × kH} (h : kReU sz szT E x1 S T t n L l a o c e d r) (hs : ∀ T1, kU1 szT E T T1 → kStep szT E x1 T0 T1) (fx : kFx S0 S c e) (fm : kFm S0 S) (kp : kKp T0 T o) (ft : kFt T0 T) (haa : a0 ≤ a) : kRes sz szT E x1 S0 T0 t n L l a0 o c e d r := by
  rcases h with ⟨v, S', T1, T', a', c', u', e', h1, hu, h2, b1, b2, b3, b4, b5, b6, b7, b8, b9, b10, b11, b12, b13⟩ | ⟨h1, T1, T', hu, h2, h3, h4⟩
  · exact Or.inl ⟨v, S', T', a', c', u', e', h1, (hs T1 hu).tr h2, b1, b2, b3, b4, b5, fx.tr b6 (Nat.le_refl _) (Nat.le_refl _), b7, b8, by omega, kp.tr b10 (Nat.le_refl _), fm.tr b11, ft.tr b12, b13⟩
  · exact Or.inr ⟨h1.to fm, T', (hs T1 hu).tr h2, h3, ft.tr h4⟩
theorem kLf.re {S' T' : Nat → Nat → Int} {z d : Nat} (h : kLf sz szT E S T t n L l o c u e z S' T') (haz : a < z) : kReU sz szT E x1 S T t n L l a o c e (d + 1) (.inl (some (.int (Int32.ofInt (c : Int)))), (sz, hp 57 E S')) := by
  obtain ⟨k1, ⟨u', k2⟩, k3, k4, k5, k6, k7, k8, k9, k10⟩ := h
  exact Or.inl ⟨c, S', T', T', z, c + 1, u', e, rfl, k1 kun kun, kStep.rf, k2, k4, k5, by omega, k6, k3, by omega, by omega, ⟨haz, by omega⟩, k7, k8, k9, Or.inl ⟨rfl, Or.inl ⟨k10, rfl, rfl⟩⟩⟩
theorem sim_core {d D : Nat} (hX : kTx t n L) (hWd : kWrd E) (A : kAt S T t n L l a o c u e) (hod : o + d = 8) (hD : 8 ≤ D) (IH : o ≤ 7 → ∀ (S T : Nat → Nat → Int) (a c u e : Nat), kAt S T t n L l a (o + 1) c u e → T 30 20 = 2 → kins T (o + 1) = 1 → S 54 3 = -1 → kR D 66 (blk 66 0) (kent 66 [.ref 54, .int (Int32.ofInt ((o : Int) + 1 + 1)), .int (Int32.ofInt 1)]) [] (sz, hp 57 E S) (kRes sz szT E x1 S T t n L l a (o + 1) c e (d - 1))) : kR (D + 1 + 1 + 1) 66 (b66_0.drop 2) [.ref 54, .int (Int32.ofInt ((o : Int) + 1)), .int (Int32.ofInt (kins T o))] [] (sz, hp 57 E S) (kReU sz szT E x1 S T t n L l a o c e d) := by
  have A0 := A
  obtain ⟨hl, ⟨hC, c1, c2, c3⟩, ⟨hR, m1, m2, m3, m4⟩, R, W, ⟨g1, g2, g3⟩, q3, q4, q5, q6, q7, q8⟩ := A
  have hln := hX.ln hl
  have hx1 := hX.1
  have hen : kre t n l ≤ n := by omega
  have hcr := kch_rng hX hen a
  have hqo := kqu_o (kch t (kre t n l) a)
  obtain ⟨⟨r1, r2, r3, r4, r5, r6⟩, ra, rb, rc, rd, re⟩ := R
  obtain ⟨⟨w1, w2, w3⟩, wa, wb, wc, wd⟩ := W
  have hki : kins T o = 0 ∨ kins T o = 1 := by have w := kins_o T o; omega
  refine kR.s rfl rfl ?_
  refine kR.gr (a := 54) (b := 53) (k := 0) (by omega) rfl rfl rfl (by decide) (by decide) rfl ?_
  refine kR.cv (v := .int (Int32.ofInt (kch t (kre t n l) a))) rfl rfl (kR.up (c_53 (S := S) hX hC c3 hen (a := a) c2 (by omega)) (by omega)) ?_
  have hsw := ksw66 (c := kch t (kre t n l) a) (by omega)
  have hthr : kTh sz E S (.inr sz.1, knew (sz, hp 57 E S) 30 6 (fun _ => .null)) := ⟨_, rfl, kFm.rf⟩
  by_cases p42 : kch t (kre t n l) a = 42
  · rw [if_neg (by omega), if_neg (by omega), if_pos p42] at hsw
    refine kR.w hsw rfl ?_
    show kR (D + 1 + 1 + 1) 66 b66_60 _ _ _ _
    refine kR.s rfl rfl ?_
    by_cases hok : S 54 3 = -1 ∧ 0 ≤ klt t (kre t n l) (a + 1) ∧ ¬ S 55 (klt t (kre t n l) (a + 1)).toNat = -1
    · obtain ⟨v, T', k1, k2, k3, k4, k5, k6, k7, k8, k9⟩ := sim_again (sz := sz) (szT := szT) (E := E) hX A0 p42 hok
      refine kR.cv rfl rfl (kR.up k1 (by omega)) ?_
      refine kR.ret rfl rfl ?_
      exact Or.inl ⟨v, _, T', T', a + 2, c, u, e, rfl, k2, kStep.rf, k3, k4, k5, k6, by exact hok.1, kFx.rf.w (by decide), by omega, by omega, by omega, k7, kFm.rf.w (by decide), k8, Or.inr ⟨k6, rfl, rfl, k9⟩⟩
    · obtain ⟨k1, k2⟩ := sim_noagain (sz := sz) (szT := szT) (E := E) hX A0 p42 hok
      exact kR.cT rfl rfl rfl (kR.up k1 (by omega)) (k2.re hthr)
  · by_cases p91 : kch t (kre t n l) a = 91
    · rw [if_neg (by omega), if_neg (by omega), if_neg (by omega), if_pos p91] at hsw
      refine kR.w hsw rfl ?_
      show kR (D + 1 + 1 + 1) 66 b66_65 _ _ _ _
      refine kR.s rfl rfl ?_
      refine kR.s rfl rfl ?_
      by_cases hg : c < 60 ∧ o ≤ 7
      · have z := sim_row (d := d - 1) hX A0 p91 hg (IH hg.2) (by omega)
        rw [show d - 1 + 1 = d by omega] at z
        exact kR.tail rfl rfl rfl rfl rfl (kR.up z (by omega)) (fun r hr => hr.io)
      · have hb : kR (D + 1 + 1) 68 (blk 68 0) (kent 68 [.ref 54, .int (Int32.ofInt ((o : Int) + 1))]) [] (sz, hp 57 E S) (fun r => r = (.inr sz.1, knew (sz, hp 57 E S) 30 6 (fun _ => .null))) := by
          show kR (D + 1 + 1) 68 b68_0 _ _ _ _
          refine kR.s rfl rfl ?_
          refine kR.s rfl rfl ?_
          refine kR.s rfl rfl ?_
          refine kR.s rfl rfl ?_
          exact kR.cT rfl rfl rfl (kR.up (c_62b (S := S) (k := 4) (z := 0) (d := (o : Int) + 1) (c := c) r1 (by omega) (by omega) wd (by omega)) (by omega)) rfl
        exact kR.cT rfl rfl rfl hb ((brk_bad hX A0 hg (Or.inl p91)).re hthr)
    · by_cases p123 : kch t (kre t n l) a = 123
      · rw [if_neg (by omega), if_neg (by omega), if_neg (by omega), if_neg (by omega), if_pos p123] at hsw
        refine kR.w hsw rfl ?_
        show kR (D + 1 + 1 + 1) 66 b66_71 _ _ _ _
        refine kR.s rfl rfl ?_
        refine kR.s rfl rfl ?_
        by_cases hg : c < 60 ∧ o ≤ 7
        · have z := sim_table (d := d - 1) hX A0 p123 hWd hg (by omega) (IH hg.2) (by omega)
          rw [show d - 1 + 1 = d by omega] at z
          exact kR.tail rfl rfl rfl rfl rfl z (fun r hr => hr.io)
        · have hb : kR (D + 1 + 1) 69 (blk 69 0) (kent 69 [.ref 54, .int (Int32.ofInt ((o : Int) + 1))]) [] (sz, hp 57 E S) (fun r => r = (.inr sz.1, knew (sz, hp 57 E S) 30 6 (fun _ => .null))) := by
            show kR (D + 1 + 1) 69 b69_0 _ _ _ _
            refine kR.s rfl rfl ?_
            refine kR.s rfl rfl ?_
            refine kR.s rfl rfl ?_
            refine kR.s rfl rfl ?_
            exact kR.cT rfl rfl rfl (kR.up (c_62b (S := S) (k := 5) (z := 0) (d := (o : Int) + 1) (c := c) r1 (by omega) (by omega) wd (by omega)) (by omega)) rfl
          exact kR.cT rfl rfl rfl hb ((brk_bad hX A0 hg (Or.inr p123)).re hthr)
      · rcases hqo with ⟨hqu, hq⟩ | ⟨hqu, hq⟩
        · have hsw2 : kswitch (.lookupswitch (72) #[((34), (66)), ((39), (66)), ((42), (49)), ((91), (54)), ((123), (60))]) 11 [.int (Int32.ofInt (kch t (kre t n l) a))] = some (77, []) := by
            rw [hsw]
            by_cases h34 : kch t (kre t n l) a = 34
            · rw [if_pos h34]
            · rw [if_neg h34, if_pos (by omega)]
          refine kR.w hsw2 rfl ?_
          show kR (D + 1 + 1 + 1) 66 b66_77 _ _ _ _
          refine kR.s rfl rfl ?_
          refine kR.s rfl rfl ?_
          rcases kbq_rng (t := t) (e := kre t n l) (q := kch t (kre t n l) a) (kre t n l - (a + 1)) (a + 1) rfl with hb | hb
          · exact kR.cT rfl rfl rfl (kR.up (c_77n hX hC c3 hen c2 q7 hb) (by omega)) ((ref_noquote hX A0 hqu hb).re hthr)
          · obtain ⟨b, hbb⟩ : ∃ b : Nat, kbq t (kre t n l) (kch t (kre t n l) a) (a + 1) = (b : Int) := ⟨(kbq t (kre t n l) (kch t (kre t n l) a) (a + 1)).toNat, by omega⟩
            rw [hbb] at hb
            by_cases hg : c < 60 ∧ o ≤ 7
            · obtain ⟨S', T', k1, k2⟩ := sim_quoted (sz := sz) (szT := szT) (E := E) hX A0 hqu hbb hg
              refine kR.cv rfl rfl (kR.up k1 (by omega)) ?_
              refine kR.ret rfl rfl ?_
              have z := k2.re (x1 := x1) (a := a) (d := d - 1) (by omega)
              rw [show d - 1 + 1 = d by omega] at z
              exact z
            · have hae : a < kre t n l := kch_lt (t := t) (by omega)
              have hbg : ∀ k x : Int, kR 1 62 (blk 62 0) (kent 62 [.ref 54, .int (Int32.ofInt k), .long (Int64.ofInt x), .int (Int32.ofInt ((o : Int) + 1))]) [] (sz, hp 57 E (ku S 53 2 (b : Int))) (fun r => r = (.inr sz.1, knew (sz, hp 57 E (ku S 53 2 (b : Int))) 30 6 (fun _ => .null))) := fun k x => c_62b (S := ku S 53 2 (b : Int)) (by exact r1) (by omega) (by omega) (by exact wd) (by omega)
              exact kR.cT rfl rfl rfl (kR.up (c_77t hX hC c3 hen c2 q7 hbb (by omega) (c_80b (S := ku S 53 2 (b : Int)) hX (by exact hC) (by exact c3) hen hae hbg)) (by omega)) ((ref_badquote hX A0 hqu hbb hg).re ⟨_, rfl, kFm.rf.w (by decide)⟩)
        · rw [if_neg (by omega), if_neg (by omega), if_neg p42, if_neg p91, if_neg p123] at hsw
          refine kR.w hsw rfl ?_
          show kR (D + 1 + 1 + 1) 66 b66_83 _ _ _ _
          refine kR.s rfl rfl ?_
          refine kR.s rfl rfl ?_
          refine kR.s rfl rfl ?_
          rcases kpl_o t (kre t n l) a with ⟨hpl, _⟩ | ⟨hpl, _⟩
          · rcases kcol_o t (kre t n l) (kins T o) (kst t (kre t n l) (kins T o) a) with ⟨hcl, _⟩ | ⟨hcl, _⟩
            · exact kR.cT rfl rfl rfl (kR.up (c_81c hX hC c3 hen c2 q7 hki hWd.2.2.2.1 hpl hcl) (by omega)) ((ref_noplain hX A0 p42 p91 p123 hqu (Or.inr hcl)).re hthr)
            · by_cases hg : c < 60 ∧ o ≤ 7
              · obtain ⟨S', T', k1, k2⟩ := sim_plain (sz := sz) (szT := szT) hX A0 hWd p42 p91 p123 hqu hpl rfl hcl hg
                refine kR.cv rfl rfl (kR.up k1 (by omega)) ?_
                refine kR.ret rfl rfl ?_
                have z := k2.re (x1 := x1) (a := a) (d := d - 1) (kst_gt hX hen hpl).1
                rw [show d - 1 + 1 = d by omega] at z
                exact z
              · obtain ⟨k1, k2, k3⟩ := kst_gt (i := kins T o) hX hen hpl
                have hse := kst_e t (kre t n l) (kins T o) a q7
                obtain ⟨z, hz⟩ : ∃ z, kst t (kre t n l) (kins T o) a = z := ⟨_, rfl⟩
                have hbg : ∀ k x : Int, kR 1 62 (blk 62 0) (kent 62 [.ref 54, .int (Int32.ofInt k), .long (Int64.ofInt x), .int (Int32.ofInt ((o : Int) + 1))]) [] (sz, hp 57 E (ku S 53 2 (z : Int))) (fun r => r = (.inr sz.1, knew (sz, hp 57 E (ku S 53 2 (z : Int))) 30 6 (fun _ => .null))) := fun k x => c_62b (S := ku S 53 2 (z : Int)) (by exact r1) (by omega) (by omega) (by exact wd) (by omega)
                exact kR.cT rfl rfl rfl (kR.up (c_81t hX hC c3 hen c2 q7 hki hWd.2.2.2.1 hpl hcl hz (c_83b (S := ku S 53 2 (z : Int)) hX (by exact hC) (by exact c3) hen k3 (by omega) (by omega) hbg hWd)) (by omega)) ((ref_badplain hX A0 p42 p91 p123 hqu hpl hcl hg).re ⟨_, rfl, kFm.rf.w (by decide)⟩)
          · exact kR.cT rfl rfl rfl (kR.up (c_81n hX hC c3 hen c2 q7 hki hWd.2.2.2.1 hpl) (by omega)) ((ref_noplain hX A0 p42 p91 p123 hqu (Or.inl hpl)).re hthr)
end KSV
