/-! A table in brackets, side by side. -/
theorem tab_c1 {a z a' P e e' : Nat} (h0 : a < z) (h1 : z < a' ∧ 2 * e' + z + 1 ≤ 2 * e + a') (h2 : a' ≤ P) : a < P + 1 ∧ 2 * (e' + 1) + a ≤ 2 * e + (P + 1) := by omega
theorem tab_c2 {a z a' P P2 a2 e e' e2 : Nat} (h0 : a < z) (h1 : z < a' ∧ 2 * e' + z + 1 ≤ 2 * e + a') (h2 : a' ≤ P) (h3 : P + 1 ≤ P2) (h4 : P2 < a2 ∧ 2 * e2 + P2 ≤ 2 * (e' + 1) + a2) : a < a2 ∧ 2 * e2 + a ≤ 2 * e + a2 := by omega
theorem tab_lt {r a z a' P1 P2 j : Nat} (h1 : r - a = j) (h2 : a < z) (h3 : z < a') (h4 : a' ≤ P1) (h5 : P1 + 1 ≤ P2) (h6 : P1 < r) : r - P2 < j := by omega
section KST
variable {sz szT : Nat × Nat} {E : Nat → kC} {x1 : Int} {t : Nat → Int} {n L l : Nat}
theorem l_69 (hX : kTx t n L) (hWd : kWrd E) {o c0 e0 d D : Nat} (hod : o + 1 + d = 8) (hc0 : c0 < 60) (IH : ∀ (S T : Nat → Nat → Int) (a c u e : Nat), kAt S T t n L l a (o + 1) c u e → T 30 20 = 2 → kins T (o + 1) = 1 → S 54 3 = -1 → kR D 66 (blk 66 0) (kent 66 [.ref 54, .int (Int32.ofInt ((o : Int) + 1 + 1)), .int (Int32.ofInt 1)]) [] (sz, hp 57 E S) (kRes sz szT E x1 S T t n L l a (o + 1) c e d)) (hD : 8 ≤ D) : ∀ (j a c u e k : Nat) (w : Value) (S T : Nat → Nat → Int), kre t n l - a = j → kAt S T t n L l a (o + 1) c u e → T 30 20 = 3 → T 43 o = 4 → T 44 o = (c0 : Int) → S 21 c0 = 5 → S 54 3 = -1 → k ≤ e → c0 < c → (∃ i, kIt (kSub S d) S c0 i (c0 + 1) e0 c e) → kR (D + 1 + 1) 69 (blk 69 18) [.ref 54, .int (Int32.ofInt ((o : Int) + 1)), .int (Int32.ofInt (c0 : Int)), .int (Int32.ofInt 1), .int (Int32.ofInt (k : Int)), w] [] (sz, hp 57 E S) (kRw sz szT E x1 S T t n L l a o c e d c0 e0) := by
  intro j
  induction j using Nat.strongRecOn with
  | _ j ih =>
    intro a c u e k w S T hj A hs h43 h44 h21 hnm hke hc0c hit
    have A0 := A
    obtain ⟨hl, ⟨hC, b1, b2, b3⟩, ⟨hR, m1, m2, m3, m4⟩, R, W, ⟨g1, g2, g3⟩, q3, q4, q5, q6, q7, q8⟩ := A
    have hln := hX.ln hl
    have hx1 := hX.1
    have hen : kre t n l ≤ n := by omega
    have h44' : T 44 (o + 1 - 1) = (c0 : Int) := by rw [show o + 1 - 1 = o by omega]; exact h44
    have h43' : T 43 (o + 1 - 1) = 4 := by rw [show o + 1 - 1 = o by omega]; exact h43
    have hkb : kKb szT E T → ∃ T', kStep szT E x1 T T' ∧ T' 30 19 = 1 ∧ kFt T T' := fun ⟨T', k1, k2, k3⟩ => ⟨T', kStep.of (y := 141) (fun Q q => kM_3 q3 hs q) (kR.up k1 (by decide)), k2, k3⟩
    show kR (D + 1 + 1) 69 b69_18 _ _ _ _
    refine kR.s rfl rfl ?_
    refine kR.zeq (by decide) (by decide) (fun q => absurd q (by decide)) (fun _ => ?_)
    refine kR.s rfl rfl ?_
    refine kR.si rfl ?_
    refine kR.jge (by omega) (by omega) (by omega) (by omega) (fun q => absurd q (by omega)) (fun _ => ?_)
    refine kR.s rfl rfl ?_
    refine kR.s rfl rfl ?_
    refine kR.s rfl rfl ?_
    refine kR.add ?_
    refine kR.s rfl rfl ?_
    rcases kck_rng (a := a) (i := 1) hX hen with hz | ⟨z, hz, hze, haz⟩
    · refine kR.cT rfl rfl rfl (kR.up (c_74n hX hC b3 hen b2 q7 (Or.inr rfl) hWd.2.2.2.1 hz) (by omega)) ?_
      exact Or.inr ⟨⟨_, rfl, kFm.rf⟩, hkb (key_none hX A0 (by omega) h44' h21 hc0c hz)⟩
    · by_cases hg : c < 60 ∧ o + 1 ≤ 7
      · obtain ⟨Y, X, h, hh, kcls, K, M⟩ := sim_key (sz := sz) (szT := szT) hX A0 hWd hg (by omega) h44' h21 hc0c hz
        have h01 : h = 0 ∨ h = 1 := by rw [hh]; exact khk_01 _ _ _ _ _ _ _ _ _ _
        obtain ⟨P, hP⟩ : ∃ P, P = kw (fun i => decide (t i = 32)) (kre t n l) (z + 1) := ⟨_, rfl⟩
        have hPr : z + 1 ≤ kw (fun i => decide (t i = 32)) (kre t n l) (z + 1) ∧ (z + 1 ≤ kre t n l → kw (fun i => decide (t i = 32)) (kre t n l) (z + 1) ≤ kre t n l) := kw_rng
        rw [← hP] at M hPr
        obtain ⟨kev, hwr⟩ := sim_ev (x1 := x1) hX hze hP h01 q3 hs (by omega) h43' hod K M IH (by omega)
        obtain ⟨⟨u1, K1⟩, K2, K3, K4, K5, K6, K7, K8, K9, K10, K11⟩ := K
        have hMid : kFt T (ku (kMid X (o + 1) c h z P) 30 19 0) := (kFt.mid K6).w (by decide)
        have hK46 : kMid X (o + 1) c h z P 46 o = (c : Int) := by
          show (if o = o + 1 - 1 then (c : Int) else _) = _
          rw [if_pos (by omega)]
        have hK43 : kMid X (o + 1) c h z P 43 o = 4 := by
          show X 43 o = 4
          rw [(K7.1 o (by omega)).1]; exact h43
        have hK44 : kMid X (o + 1) c h z P 44 o = (c0 : Int) := by
          show X 44 o = _
          rw [(K7.1 o (by omega)).2.1]; exact h44
        have hKp : kKp T (ku (kMid X (o + 1) c h z P) 30 19 0) o := by
          refine ⟨fun i hi => ?_, K7.2⟩
          obtain ⟨p1, p2, p3, p4⟩ := K7.1 i (by omega)
          refine ⟨p1, p2, p3, ?_⟩
          show (if i = o + 1 - 1 then _ else X 46 i) = _
          rw [if_neg (by omega)]
          exact p4
        have hYW := K1
        obtain ⟨_, _, _, ⟨⟨y1, y2, y3, y4, y5, y6⟩, _⟩, WY, _⟩ := hYW
        refine kR.cv rfl rfl (kR.up kcls (by omega)) ?_
        refine kR.s rfl rfl ?_
        refine kR.s rfl rfl ?_
        refine kR.s rfl rfl ?_
        refine kR.s rfl rfl ?_
        refine kR.s rfl rfl ?_
        refine kR.s rfl rfl ?_
        refine kR.s rfl rfl ?_
        refine kR.add ?_
        refine kR.c rfl rfl kev (fun r hr => ?_)
        rcases hr with ⟨v, S', T', a', c', u', e', hr, hst, A1, s4, s27, hvc, hnm', fx, hcc, hee, haa, kp, fm, ft, hsub⟩ | ⟨hth, hst⟩
        · subst hr
          show kR (D + 1 + 1) 69 _ _ (Value.int (Int32.ofInt (v : Int)) :: _) (sz, hp 57 E S') _
          have A1' := A1
          obtain ⟨_, ⟨hC', b1', b2', b3'⟩, ⟨hR', m1', m2', m3', m4'⟩, R', W', ⟨g1', g2', g3'⟩, q3', q4', q5', q6', q7', q8'⟩ := A1
          have j43 : T' 43 o = 4 := by rw [(kp.1 o (by omega)).1]; exact hK43
          have j44 : T' 44 o = (c0 : Int) := by rw [(kp.1 o (by omega)).2.1]; exact hK44
          have j46 : T' 46 o = (c : Int) := by rw [(kp.1 o (by omega)).2.2.2]; exact hK46
          have fxY : kFx Y S' (c + 1) e := (kFx.rf.w (a := 53) (by decide)).tr fx (by omega) (Nat.le_refl _)
          have fxS : kFx S S' c e := K2.tr fxY (by omega) (Nat.le_refl _)
          have j21 : S' 21 c0 = 5 := by rw [fxS.1 c0 hc0c]; exact h21
          have j21c : S' 21 c < 4 := by rw [fxY.1 c (by omega)]; exact K4
          have hown : ∀ i, e ≤ i → i < e' → ¬ S' 27 i = (c0 : Int) := fun i h1 h2 => by
            rcases hsub with ⟨_, hs2⟩ | ⟨_, _, hs2⟩
            · have := kSub_own d (c + 1) c' e e' hs2 i h1 h2
              omega
            · omega
          have hkhk := khk_fx (c0 := c0) WY y3 fxY (by rw [K2.1 c0 hc0c]; exact h21) K4 hee hown
          rw [← hh] at hkhk
          have W0 := W'
          obtain ⟨⟨w1, w2, w3⟩, wa, wb, wc, wd⟩ := W0
          have R0 := R'
          obtain ⟨⟨r1, r2, r3, r4, r5, r6⟩, _⟩ := R0
          have hnd : ∀ i, i < c' → S' 21 i < 4 → kNd (S' 21) (S' 23) (S' 22) (S' 24) i := fun i hi hk => by
            obtain ⟨a1, a2, a3, a4, a5, a6, a7, a8, a9⟩ := wa i hi
            exact ⟨a1, a2, a4, a5, a3, a6, by have := a7 hk; omega⟩
          have k63 := c_63 (S := S') (E := E) (sz := sz) (o := c0) (b := c) (n := e') hc0 (by omega) r5 (by omega) (hnd c (by omega) j21c) g1' (fun i hi => by
            obtain ⟨a1, a2, a3, a4, a5, a6, a7⟩ := wb i hi
            refine ⟨a1, by omega, fun hz2 => ?_⟩
            have hz3 : (S' 27 i).toNat = c0 := by omega
            obtain ⟨d1, d2, d3⟩ := a7 (by rw [hz3]; exact j21)
            exact ⟨d1, by omega, hnd _ (by omega) d3⟩) (v := v) (by omega)
          rw [hkhk] at k63
          refine kR.c rfl rfl (kR.up k63 (by omega)) (fun r hr => ?_)
          rcases h01 with h0 | h0
          · have hr := hr.1 h0
            have hst := hst h0
            subst hr
            show kR (D + 1 + 1) 69 _ _ [] (sz, hp 57 E _) _
            have hin' : kins T' (o + 1) = 1 := by
              unfold kins
              rw [if_pos ⟨by omega, Or.inr (by rw [show o + 1 - 1 = o by omega]; exact j43)⟩]
            have kref := c_142_0 (S := T') (E := E) (sz := szT) (m := 53) ⟨by omega, by omega⟩ hX hR' m3' (by omega) m4' q7' (v := v) (n2 := e') (d := c0) (o := o + 1) s27 r6 (by omega) q4' (by omega) (by rw [show o + 1 - 1 = o by omega]; exact j44) hc0 (by rw [show o + 1 - 1 = o by omega]; exact j43) q3'
            have hM : ∀ Q, kR 8 142 (blk 142 0) (kent 142 [.ref 30]) [] (szT, hp 53 E T') (fun r => ∃ T', r = (.inl none, (szT, hp 53 E T')) ∧ kM szT E x1 T' Q) → kM szT E x1 T' Q := fun Q q => kM_4i q4' (by omega) g3' hin' q3' s4 q
            have hKo := key_ok W K2 (K11.2 hnm) y5 fxY r5 hsub
            obtain ⟨RX, WX⟩ := R'.entry (X := kapm2 T' (o + 1) e' v c0) (o := c0) (v := v) (k := (c : Int)) W' (by omega) (by omega) hvc (by omega) (fun z => absurd z (by omega)) (fun _ => ⟨by omega, by omega, j21c⟩) (by have z := kapm2_et (T := T') (o := o + 1) (n := e') (v := v) (d := c0); rw [show o + 1 - 1 = o by omega, if_pos (Or.inr j43), j46] at z; exact z) ⟨hKo.1, hKo.2.1, val_nokey WY W' fxY hsub, hKo.2.2⟩
            have hfx2 : kFx S (kade S' c0 (c : Int) v e') c e := fxS.tr (kade_fx (by omega) r5 (by rcases val_new hsub with z | z; exact Or.inl (by omega); exact Or.inr z)) (Nat.le_refl _) hee
            have hit2 : ∃ i, kIt (kSub (kade S' c0 (c : Int) v e') d) (kade S' c0 (c : Int) v e') c0 i (c0 + 1) e0 c' (e' + 1) := by
              obtain ⟨i, hi⟩ := hit
              have z := hi.fx hfx2 hc0c (Nat.le_refl _) (Nat.le_refl _)
              refine ⟨i + 1, kIt_snoc i (c0 + 1) e0 c e z (c + 1) c' e' v (Or.inr ⟨j21, rfl, by show (if e' = e' then (c : Int) else _) = _; rw [if_pos rfl], j21c, kSub_leaf (by omega) j21c⟩) ?_ (by show (if e' = e' then (c0 : Int) else _) = _; rw [if_pos rfl]) (by show (if e' = e' then (v : Int) else _) = _; rw [if_pos rfl])⟩
              rcases hsub with ⟨h1, h2⟩ | h1
              · exact Or.inl ⟨h1, h2.ade (Nat.le_refl _)⟩
              · exact Or.inr ⟨h1.1, h1.2.1, h1.2.2.1⟩
            have hPq : a' ≤ kw (fun i => decide (t i = 32)) (kre t n l) a' ∧ (a' ≤ kre t n l → kw (fun i => decide (t i = 32)) (kre t n l) a' ≤ kre t n l) := kw_rng
            have kcls2 := c_71 (S := kade S' c0 (c : Int) v e') (E := E) (sz := sz) hX (by exact hC') (by exact b3') (by omega) (by exact b2') q7' (x := 125) (by omega) (by decide)
            obtain ⟨P1, hPd⟩ : ∃ P1, P1 = kw (fun i => decide (t i = 32)) (kre t n l) a' := ⟨_, rfl⟩
            rw [← hPd] at hPq kcls2 kref
            have hGs : kGs (kade S' c0 (c : Int) v e') (kapm2 T' (o + 1) e' v c0) := ⟨g1', g2', g3'⟩
            have hfm0 : kFm S (kade S' c0 (c : Int) v e') := ((K5.tr (kFm.rf.w (a := 53) (by decide))).tr fm).tr (kade_fm (o := c0) (k := (c : Int)) (v := v) (n := e'))
            have hft0 : kFt T (kapm2 T' (o + 1) e' v c0) := (hMid.tr ft).tr ((((((kFt.rf (T := T')).a (a := 39) (by decide)).a (a := 40) (by decide)).a (a := 41) (by decide)).w (k := 15) (by decide)).a (a := 37) (by decide))
            have hkp0 : kKp T (kapm2 T' (o + 1) e' v c0) o := (hKp.tr (show kKp _ T' o from ⟨fun i hi => kp.1 i (by omega), kp.2⟩) (Nat.le_refl _)).tr ⟨fun i hi => ⟨rfl, rfl, rfl, rfl⟩, rfl⟩ (Nat.le_refl _)
            refine kR.s rfl rfl ?_
            refine kR.bi rfl ?_
            refine kR.c rfl rfl (kR.up kcls2 (by omega)) (fun r hr => ?_)
            by_cases p1 : kch t (kre t n l) P1 = 125
            · have hr := hr.1 p1
              subst hr
              show kR (D + 1 + 1) 69 _ _ (Value.int (Int32.ofInt 0) :: _) (sz, hp 57 E _) _
              refine kR.s rfl rfl ?_
              refine kR.inc rfl ?_
              refine kR.g rfl ?_
              show kR (D + 1 + 1) 69 b69_18 _ _ _ _
              refine kR.s rfl rfl ?_
              refine kR.zeq (by decide) (by decide) (fun _ => ?_) (fun q => absurd rfl q)
              show kR (D + 1 + 1) 69 b69_67 _ _ _ _
              refine kR.s rfl rfl ?_
              refine kR.ret rfl rfl ?_
              have hPl : P1 < kre t n l := kch_lt (t := t) (by rw [p1]; decide)
              have hstp := hst.tr (kStep.of (x1 := x1) hM (kR.up (kR.wk kref (fun u hu => hu.1 p1)) (by decide)))
              refine Or.inl ⟨_, _, P1 + 1, c', u', e' + 1, rfl, hstp, ⟨hl, ⟨hC', b1', rfl, b3'⟩, ⟨hR', m1', m2', m3', rfl⟩, RX, WX, hGs, q3', by show (((o + 1 - 1 : Nat) : Nat) : Int) = _; rw [show o + 1 - 1 = o by omega], by omega, by omega, by omega, fun i hi => q8' i (by omega)⟩, rfl, rfl, hnm', (hfx2.w (by decide)).w (by decide), by omega, by omega, tab_c1 haz haa hPq.1, hkp0.tr ⟨fun i hi => ⟨rfl, rfl, rfl, rfl⟩, rfl⟩ (Nat.le_refl _), hfm0.tr ((kFm.rf.w (by decide)).w (by decide)), ?_, by obtain ⟨i, hi⟩ := hit2; exact ⟨i, hi.fx (K := c') (M := e' + 1) ((kFx.rf.w (by decide)).w (by decide)) (by omega) (Nat.le_refl _) (Nat.le_refl _)⟩⟩
              exact hft0.tr (((((kFt.rf.w (by decide)).w (by decide)).w (by decide)).w (by decide)).w (by decide))
            · by_cases p2 : kch t (kre t n l) P1 = 44
              · have hr := hr.2.1 p2
                subst hr
                show kR (D + 1 + 1) 69 _ _ (Value.int (Int32.ofInt 1) :: _) (sz, hp 57 E _) _
                refine kR.s rfl rfl ?_
                refine kR.inc rfl ?_
                refine kR.g rfl ?_
                have hPl : P1 < kre t n l := kch_lt (t := t) (by rw [p2]; decide)
                have hP2 : P1 + 1 ≤ kw (fun i => decide (t i = 32)) (kre t n l) (P1 + 1) ∧ (P1 + 1 ≤ kre t n l → kw (fun i => decide (t i = 32)) (kre t n l) (P1 + 1) ≤ kre t n l) := kw_rng
                obtain ⟨P2, hP2d⟩ : ∃ P2, P2 = kw (fun i => decide (t i = 32)) (kre t n l) (P1 + 1) := ⟨_, rfl⟩
                rw [← hP2d] at hP2 kref ⊢
                have hstp := hst.tr (kStep.of (x1 := x1) hM (kR.up (kR.wk kref (fun u hu => hu.2.1 p2)) (by decide)))
                have hft := hft0.tr (((((((kFt.rf (T := kapm2 T' (o + 1) e' v c0))).w (k := 21) (v := (P1 : Int)) (by decide)).w (k := 21) (v := (P1 : Int) + 1) (by decide)).w (k := 19) (v := 0) (by decide)).w (k := 21) (v := (P2 : Int)) (by decide)).w (k := 20) (v := 3) (by decide))
                have hfm := hfm0.tr (((kFm.rf.w (a := 53) (k := 2) (v := (P1 : Int)) (by decide)).w (a := 53) (k := 2) (v := (P1 : Int) + 1) (by decide)).w (a := 53) (k := 2) (v := (P2 : Int)) (by decide))
                have zz := ih (kre t n l - P2) (tab_lt hj haz haa.1 hPq.1 hP2.1 hPl) P2 c' u' (e' + 1) (k + 1) (.int (Int32.ofInt (c : Int))) (ku (ku (ku (kade S' c0 (c : Int) v e') 53 2 (P1 : Int)) 53 2 ((P1 : Int) + 1)) 53 2 (P2 : Int)) (ku (ku (ku (ku (ku (kapm2 T' (o + 1) e' v c0) 30 21 (P1 : Int)) 30 21 ((P1 : Int) + 1)) 30 19 0) 30 21 (P2 : Int)) 30 20 3) rfl ⟨hl, ⟨hC', b1', rfl, b3'⟩, ⟨hR', m1', m2', m3', rfl⟩, RX, WX, hGs, rfl, q4', q5', by omega, by omega, q8'⟩ rfl j43 j44 j21 hnm' (by omega) (by omega) (by obtain ⟨i, hi⟩ := hit2; exact ⟨i, hi.fx (K := c') (M := e' + 1) (((kFx.rf.w (by decide)).w (by decide)).w (by decide)) (by omega) (Nat.le_refl _) (Nat.le_refl _)⟩)
                refine kR.wk zz (fun r hr => ?_)
                rcases hr with ⟨S'', T'', a'', c'', u'', e'', h1, h2, h3, h4, h5, h6, h7, h8, h9, h10, h11, h12, h13, h14⟩ | ⟨h1, T'', h2, h3, h4⟩
                · exact Or.inl ⟨S'', T'', a'', c'', u'', e'', h1, hstp.tr h2, h3, h4, h5, h6, (((hfx2.w (by decide)).w (by decide)).w (by decide)).tr h7 (by omega) (by omega), by omega, by omega, tab_c2 haz haa hPq.1 hP2.1 h10, (hkp0.tr (show kKp _ _ o from ⟨fun i hi => ⟨rfl, rfl, rfl, rfl⟩, rfl⟩) (Nat.le_refl _)).tr h11 (Nat.le_refl _), hfm.tr h12, hft.tr h13, h14⟩
                · exact Or.inr ⟨h1.to hfm, T'', hstp.tr h2, h3, hft.tr h4⟩
              · have hr := hr.2.2 p1 p2
                have hfm := hfm0.tr (kFm.rf.w (a := 53) (k := 2) (v := (P1 : Int)) (by decide))
                have hth : kTh sz E S r := ⟨_, hr, hfm⟩
                refine hth.tag rfl (Or.inr ⟨hth, _, hst.tr (kStep.of (x1 := x1) hM (kR.up (kR.wk kref (fun u hu => hu.2.2 p1 p2)) (by decide))), rfl, ?_⟩)
                exact hft0.tr (((((kFt.rf.w (by decide)).w (by decide)).w (by decide)).w (by decide)).w (by decide))
          · have hr := hr.2 (by omega)
            have hth : kTh sz E S r := ⟨_, hr, (K5.tr (kFm.rf.w (a := 53) (by decide))).tr fm⟩
            exact hth.tag rfl (Or.inr ⟨hth, hwr h0⟩)
        · have hth2 : kTh sz E S r := hth.to K5
          refine hth2.tag rfl (Or.inr ⟨hth2, ?_⟩)
          rcases h01 with h0 | h0
          · exact hst h0
          · exact hwr h0
      · refine kR.cT rfl rfl rfl (kR.up (cls_keyfull (Or.inr rfl) hX A0 hWd hg hz) (by omega)) ?_
        exact Or.inr ⟨⟨_, rfl, kFm.rf.w (by decide)⟩, hkb (key_full hX A0 hg hz)⟩
end KST
