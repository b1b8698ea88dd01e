/-! A piece, side by side. -/
def kBo (sz : Nat × Nat) (E : Nat → kC) (S T X : Nat → Nat → Int) (t : Nat → Int) (n L l y o c e d : Nat) (r : kO × kH) : Prop := (∃ (v : Nat) (S' : Nat → Nat → Int) (f k c' u' e' : Nat), r = (.inl (some (.int (Int32.ofInt (v : Int)))), (sz, hp 57 E S')) ∧ kBh S' X t n L f k o c' u' e' (v : Int) ∧ (l < f ∧ 2 * e' + y ≤ 2 * e + klb t n f) ∧ v < c' ∧ S' 54 3 = -1 ∧ kFx S S' c e ∧ c ≤ c' ∧ e ≤ e' ∧ kKl T X o ∧ kFm S S' ∧ kFt T X ∧ (v = c ∧ kSub S' d c c' e e' ∨ v < c ∧ c' = c ∧ e' = e ∧ ∃ j, j < 26 ∧ S' 55 j = (v : Int))) ∨ (kTh sz E S r ∧ X 30 19 = 1 ∧ kFt T X)
section KPI
variable {sz szT : Nat × Nat} {E : Nat → kC} {x1 : Int} {S T : Nat → Nat → Int} {t : Nat → Int} {n L l a o c u e : Nat}
theorem kBo.br {S0 T0 X : Nat → Nat → Int} {d y y0 : Nat} {r : kO × kH} (h : kBo sz E S T X t n L l y o c e d r) (hs : kStep szT E x1 T0 X) (fx : kFx S0 S c e) (fm : kFm S0 S) (kp : kKl T0 T o) (ft : kFt T0 T) (hyy : y0 ≤ y) : kBr sz szT E x1 S0 T0 t n L l y0 o c e d r := by
  rcases h with ⟨v, S', f, k, c', u', e', h1, b1, b2, b3, b4, b5, b6, b7, b8, b9, b10, b11⟩ | ⟨h1, h2, h3⟩
  · exact Or.inl ⟨v, S', X, f, k, c', u', e', h1, hs, b1, ⟨b2.1, by omega⟩, b3, b4, fx.tr b5 (Nat.le_refl _) (Nat.le_refl _), b6, b7, kp.tr b8 (Nat.le_refl _), fm.tr b9, ft.tr b10, b11⟩
  · exact Or.inr ⟨h1.to fm, X, hs, h2, ft.tr h3⟩
/-- characters to the string made last, from other lines -/
theorem kBh.chars {B M : Nat → Nat → Int} {v w st : Nat} {cs : List Int} (hX : kTx t n L) (A : kAt B M t n L l a o c u e) (hcs : ∀ x ∈ cs, x = 10 ∨ 32 ≤ x ∧ x ≤ 126) (hv : v + 1 = c) (hk : B 21 v < 4) (hz : B 22 v = 0) (hb : B 24 v = (u : Int)) (hst : st ≤ L) (hpot : u + cs.length + e + o + 1 ≤ klb t n st) (h28 : M 30 28 = 0) (hLn : kLn M o) : kBh (kgo (kapl v cs u B) t n L (kVd t n L st)) (ku (ku (ku (kspl v cs u M) 30 24 ((klb t n st : Int) - 1)) 30 27 (w : Int)) 30 20 4) t n L st (kVd t n L st) o c (u + cs.length) e (w : Int) ∧ kFx B (kgo (kapl v cs u B) t n L (kVd t n L st)) v e ∧ kKl M (ku (ku (ku (kspl v cs u M) 30 24 ((klb t n st : Int) - 1)) 30 27 (w : Int)) 30 20 4) o := by
  obtain ⟨hl, ⟨hC, c1, c2, c3⟩, ⟨hR, m1, m2, m3, m4⟩, R, W, ⟨g1, g2, g3⟩, q3, q4, q5, q6, q7, q8⟩ := A
  have hln := hX.ln hl
  have hx1 := hX.1
  have hkl := klb_le hX hst
  obtain ⟨R', W'⟩ := R.chars (cs := cs) W hv hk hz hb (by omega) hcs
  obtain ⟨⟨r1, r2, r3, r4, r5, r6⟩, _⟩ := R
  obtain ⟨a1, a2, a3, a4⟩ := kapl_at v cs u B r3
  obtain ⟨b1, b2, b3, b4⟩ := kspl_at v cs u M r4
  have hCY := kapl_ct (v := v) cs u B hC
  have hRZ := kspl_rt (v := v) (xs := cs) hR r4
  have key : ∀ j, j < cs.length → -2147483648 ≤ cs.getD j 0 ∧ cs.getD j 0 < 2147483648 := fun j hj => by
    have z := hcs (cs.getD j 0) (by rw [List.getD_eq_getElem?_getD, List.getElem?_eq_getElem hj]; exact List.getElem_mem hj)
    omega
  have y1 : ∀ b, b ≠ 20 ∧ b ≠ 22 ∧ b ≠ 26 → kapl v cs u B b = B b := fun b hb => kapl_cell r3 hb
  have z1 : ∀ b, b ≠ 30 ∧ b ≠ 37 ∧ b ≠ 38 → kspl v cs u M b = M b := fun b hb => kspl_cell r4 hb
  have z30 : ∀ j, j ≠ 14 → kspl v cs u M 30 j = M 30 j := fun j hj => kspl_30 r4 hj
  obtain ⟨Y, hY⟩ : ∃ Y, Y = kapl v cs u B := ⟨_, rfl⟩
  obtain ⟨Z, hZ⟩ : ∃ Z, Z = kspl v cs u M := ⟨_, rfl⟩
  rw [← hY] at R' W' a1 a2 a3 a4 hCY y1 ⊢
  rw [← hZ] at R' b1 b2 b3 b4 hRZ z1 z30 ⊢
  refine ⟨⟨⟨hst, rfl⟩, ⟨hCY, rfl, rfl, rfl⟩, ⟨hRZ, by show (klb t n st : Int) - 1 + 1 = _; omega, a, kre t n l, (z30 21 (by decide)).trans m4, (z30 23 (by decide)).trans m3, by omega, by omega, Or.inl ((z30 28 (by decide)).trans h28), Or.inl ((z30 28 (by decide)).trans h28)⟩, R', W', ⟨fun j hj => ?_, fun j hj => ?_, fun j hj => ?_⟩, (z30 19 (by decide)).trans q3, rfl, rfl, (z30 29 (by decide)).trans q4, q5, by omega, fun j hj => ?_, fun j hj => ?_⟩, ⟨fun j _ => ?_, fun j _ => ?_, fun j hj _ => ?_, ?_, fun j hj => ?_⟩, fun j hj => ?_⟩
  · show -2147483648 ≤ Y 26 j ∧ Y 26 j < 2147483648
    rw [a4]
    split
    · rename_i w
      exact key _ (by omega)
    · exact g1 j hj
  · show -2147483648 ≤ Z 38 j ∧ Z 38 j < 2147483648
    rw [b4]
    split
    · rename_i w
      exact key _ (by omega)
    · exact g2 j hj
  · show -2147483648 ≤ Z 43 j ∧ Z 43 j < 2147483648
    rw [z1 43 (by decide)]
    exact g3 j hj
  · show 0 ≤ Z 44 j ∧ Z 44 j < c ∧ (Z 43 j = 1 ∨ Z 43 j = 3 → Y 21 (Z 44 j).toNat = 4) ∧ (Z 43 j = 2 ∨ Z 43 j = 4 → Y 21 (Z 44 j).toNat = 5)
    rw [z1 43 (by decide), z1 44 (by decide), y1 21 (by decide)]
    exact q8 j hj
  · show (Z 43 j = 1 ∨ Z 43 j = 2) ∧ 0 ≤ Z 45 j ∧ Z 45 j ≤ 200
    rw [z1 43 (by decide), z1 45 (by decide)]
    exact hLn j hj
  · show Y 21 j = B 21 j
    rw [y1 21 (by decide)]
  · show Y 27 j = B 27 j ∧ Y 28 j = B 28 j ∧ Y 29 j = B 29 j
    rw [y1 27 (by decide), y1 28 (by decide), y1 29 (by decide)]
    exact ⟨rfl, rfl, rfl⟩
  · show Y 22 j = B 22 j ∧ Y 23 j = B 23 j ∧ Y 24 j = B 24 j
    rw [y1 23 (by decide), y1 24 (by decide), a1 22 j (by omega) (by omega) (by decide)]
    exact ⟨rfl, rfl, rfl⟩
  · refine ⟨?_, kNm.same (a1 20 11 (by omega) (by omega) (by decide)) (y1 29 (by decide)) (y1 55 (by decide))⟩
    show B 20 7 ≤ Y 20 7
    rw [a2, r3]
    omega
  · show Y 26 j = B 26 j
    rw [a4, if_neg (by omega)]
  · show Z 43 j = M 43 j ∧ Z 44 j = M 44 j ∧ Z 45 j = M 45 j ∧ Z 46 j = M 46 j
    rw [z1 43 (by decide), z1 44 (by decide), z1 45 (by decide), z1 46 (by decide)]
    exact ⟨rfl, rfl, rfl, rfl⟩
theorem l_96t {cc dd kp : Int} {f st bh : Nat} {v7 : Value} {Q : kO × kH → Prop} (k62 : kR 1 62 (blk 62 0) (kent 62 [.ref 54, .int (Int32.ofInt 3), .long (Int64.ofInt 0), .int (Int32.ofInt dd)]) [] (sz, hp 57 E S) (fun r => r = (.inr sz.1, knew (sz, hp 57 E S) 30 6 (fun _ => .null)))) (hQ : Q (.inr sz.1, knew (sz, hp 57 E S) 30 6 (fun _ => .null))) : kR 3 96 (blk 96 89) [.ref 56, .int (Int32.ofInt cc), .int (Int32.ofInt dd), .int (Int32.ofInt kp), .int (Int32.ofInt (f : Int)), .int (Int32.ofInt (st : Int)), .int (Int32.ofInt (bh : Int)), v7] [] (sz, hp 57 E S) Q := by
  show kR 3 96 b96_89 _ _ _ _
  refine kR.s rfl rfl ?_
  refine kR.gr (a := 56) (b := 54) (k := 3) (by omega) rfl rfl rfl (by decide) (by decide) rfl ?_
  refine kR.s rfl rfl ?_
  refine kR.s rfl rfl ?_
  refine kR.s rfl rfl ?_
  exact kR.cT rfl rfl rfl (kR.up k62 (by decide)) hQ
theorem sim_piece {d : Nat} {kp cc : Int} (hX : kTx t n L) (hkp : kp = 0 ∨ kp = 1) (hcc : 0 ≤ cc ∧ cc ≤ 200) (hod : o + d = 8) (ho : 1 ≤ o) (A : kAt S T t n L l a o c u e) (h45 : T 45 (o - 1) = cc) (h28 : T 30 28 = 0) (hLn : kLn T o) : ∃ X, kR 4 135 (blk 135 0) (kent 135 [.ref 30, .int (Int32.ofInt kp)]) [] (szT, hp 53 E T) (fun r => r = (.inl none, (szT, hp 53 E X))) ∧ kR 3 96 (blk 96 0) (kent 96 [.ref 56, .int (Int32.ofInt cc), .int (Int32.ofInt ((o : Int) + 1)), .int (Int32.ofInt kp)]) [] (sz, hp 57 E S) (kBo sz E S T X t n L l a o c e d) := by
  have A0 := A
  obtain ⟨hl, ⟨hC, c1, c2, c3⟩, ⟨hR, m1, m2, m3, m4⟩, ⟨⟨r1, r2, r3, r4, r5, r6⟩, ra, rb, rc, rd, re⟩, ⟨⟨w1, w2, w3⟩, wa, wb, wc, wd⟩, G, q3, q4, q5, q6, q7, q8⟩ := A
  have hln := hX.ln hl
  have hx1 := hX.1
  have hm : 53 ≤ 53 ∧ 53 ≤ 57 := by omega
  obtain ⟨st, bh, dp, w, hka⟩ : ∃ st bh dp w, kpA t n cc (L - (l + 1)) (l + 1) (l + 1) (-1) 0 = (st, bh, dp, w) := ⟨_, _, _, _, rfl⟩
  obtain ⟨hI, s1, s2, s3, s4⟩ := kpA_all hX (by omega) hka
  have hle : T 30 24 + 1 = (klb t n (l + 1) : Int) := by
    rw [m2, klb_s]
    rfl
  have hwd : -1 ≤ T 30 26 ∧ T 30 26 < 26 := by
    rw [← re]
    exact wd
  have hI0 := hI
  obtain ⟨i1, i2, i3, i4, i5, i6, i7, i8, i9⟩ := hI0
  have hlen := kpB_len (d := dp.toNat) (b := bh) (kept := kp) hX (bh - (l + 1)) (l + 1) (by omega) (by omega)
  have hmo := kLb_mono (f := bh) (k := st) hX s2 i2
  have hs := klb_s t n l
  have hkl := klb_le hX s2
  by_cases hg : c < 60 ∧ o ≤ 7
  · have k62 := c_62g (S := S) (E := E) (sz := sz) (k := 3) (z := 0) (d := (o : Int) + 1) r1 w1 (by omega) wd (by omega)
    obtain ⟨B1, B2, B3, B4, B5, B6, B7⟩ := A0.made (k := 3) (P := a) hg.1 (by decide) (Nat.le_refl _) q7
    rw [ku_eta (by rw [kbeg_cell (by decide)]; exact c2)] at B1 B2 B3 B6 B7
    rw [ku_eta (by rw [kmk_30 (by decide) (by decide)]; exact m4)] at B1 B4 B5
    obtain ⟨y1, y2, y3, y4, y5, y6, y7, _⟩ := kbeg_ns (S := S) (k := 3) (z := 0) (c := c)
    have hB22 : kbeg S 3 0 c 22 c = 0 := by rw [y5, if_pos rfl]
    have hB24 : kbeg S 3 0 c 24 c = (u : Int) := by
      rw [y7, if_pos rfl]
      exact r3
    have hBu : kbeg S 3 0 c 20 7 = (u : Int) := y2.trans r3
    have hMu : kmk T 3 c 30 14 = (u : Int) := (kmk_30 (by decide) (by decide)).trans r4
    have hBC : kCt (kbeg S 3 0 c) t n L := B1.2.1.1
    rcases i7 with hw | hw
    · obtain ⟨cs, hcs⟩ : ∃ cs, cs = kpB t n dp.toNat kp bh (bh - (l + 1)) (l + 1) := ⟨_, rfl⟩
      have hrng := kpB_rng (d := dp.toNat) (b := bh) (kept := kp) hX (bh - (l + 1)) (l + 1) (by omega) (by omega)
      rw [← hcs] at hlen hrng
      obtain ⟨K1, K2, K3⟩ := kBh.chars (w := c) (v := c) (cs := cs) hX B1 hrng (by omega) (by rw [B7]; decide) hB22 hB24 s2 (by omega) ((kmk_30 (by decide) (by decide)).trans h28) (hLn.kl B4.1)
      have hT0 : ku T 30 19 w = T := ku_eta (by rw [q3, hw])
      have hmk := c_110 (S := T) (E := E) (sz := szT) hm (k := 3) r2 w1 q4 (by omega) hwd hg
      have hmk' : kR 0 110 (blk 110 0) (kent 110 [.ref 30, .int (Int32.ofInt 3)]) [] (szT, hp 53 E (ku T 30 19 w)) (fun r => r = (.inl (some (.int (Int32.ofInt (c : Int)))), (szT, hp 53 E (kmk T 3 c)))) := by
        rw [hT0]
        exact hmk
      refine ⟨ku (ku (ku (kspl c cs u (kmk T 3 c)) 30 24 ((klb t n st : Int) - 1)) 30 27 (c : Int)) 30 20 4, ?_, ?_⟩
      · rcases Nat.lt_or_ge (l + 1) bh with hfb | hfb
        · rw [hcs]
          exact c_135s (S := T) (E := E) (sz := szT) hm hX hR hkp q4 ⟨ho, q5⟩ h45 hcc (f := l + 1) (by omega) hle q3 hka hg.1 hmk' (hR.mk 3 c) ((kmk_30 (by decide) (by decide)).trans q3) hMu hfb (by rw [← hcs]; omega)
        · have e0 : cs = [] := by
            rw [hcs, show bh - (l + 1) = 0 by omega]
            rfl
          rw [e0]
          exact c_135e (S := T) (E := E) (sz := szT) (u := 0) hm hX hR hkp q4 ⟨ho, q5⟩ h45 hcc (f := l + 1) (by omega) hle q3 hka hg.1 hmk' (hR.mk 3 c) ((kmk_30 (by decide) (by decide)).trans q3) (by omega)
      · refine c_96 hX hC hl c1 hcc hka (fun v7 => l_96c (u := u) (v := c) hX hkp hI s2 k62 hg.1 hBC hBu (by rw [← hcs]; omega) (fun _ => ?_) (fun h => ?_))
        · rw [← hcs]
          obtain ⟨d', hd'⟩ : ∃ d', d = d' + 1 := ⟨d - 1, by omega⟩
          rw [hd']
          refine Or.inl ⟨c, _, st, kVd t n L st, c + 1, u + cs.length, e, rfl, K1, ⟨by omega, by omega⟩, by omega, ?_, B2.tr K2 (Nat.le_refl _) (Nat.le_refl _), by omega, Nat.le_refl _, kKl.tr (T' := kmk T 3 c) B4.1 K3 (Nat.le_refl _), kFm.go (kFm.apl _ _ _ B3), (((B5.spl hMu).w (by decide)).w (by decide)).w (by decide), Or.inl ⟨rfl, Or.inl ⟨?_, rfl, rfl⟩⟩⟩
          · rw [kgo_cell (by decide), kapl_cell hBu (by decide)]
            exact B6
          · rw [kgo_cell (by decide), kapl_cell hBu (by decide), B7]
            decide
        · rw [hw] at h
          exact absurd h (by decide)
    · have hmk := c_110 (S := ku T 30 19 w) (E := E) (sz := szT) hm (k := 3) (by exact r2) w1 (by exact q4) (by omega) (by exact hwd) hg
      refine ⟨_, c_135w (S := T) (E := E) (sz := szT) (u := 0) hm hX hR hkp q4 ⟨ho, q5⟩ h45 hcc (f := l + 1) (by omega) hle q3 hka hg.1 hmk (kRt.mk (by exact hR) 3 c) ((kmk_30 (by decide) (by decide)).trans hw), ?_⟩
      refine c_96 hX hC hl c1 hcc hka (fun v7 => l_96c (u := u) (v := c) hX hkp hI s2 k62 hg.1 hBC hBu (by omega) (fun h => ?_) (fun _ S' hS' => Or.inr ⟨⟨S', rfl, B3.tr hS'⟩, ?_, ?_⟩))
      · rw [hw] at h
        exact absurd h (by decide)
      · show kmk (ku T 30 19 w) 3 c 30 19 = 1
        exact (kmk_30 (by decide) (by decide)).trans hw
      · exact ((((kFt.rf.w (by decide)).mk 3 c).w (by decide)).w (by decide)).w (by decide)
  · have k62 := c_62b (S := S) (E := E) (sz := sz) (k := 3) (z := 0) (d := (o : Int) + 1) r1 w1 (by omega) wd (by omega)
    have hmk := ref_mk_bad (szT := szT) (E := E) (T2 := ku T 30 19 w) (c := c) (o := o) (by exact r2) w1 (by exact q4) (by omega) hg 3
    refine ⟨_, c_135w (S := T) (E := E) (sz := szT) (u := 0) (v := 0) hm hX hR hkp q4 ⟨ho, q5⟩ h45 hcc (f := l + 1) (by omega) hle q3 hka (by decide) hmk (by exact hR) rfl, ?_⟩
    exact c_96 hX hC hl c1 hcc hka (fun v7 => l_96t k62 (Or.inr ⟨⟨S, rfl, kFm.rf⟩, rfl, ((((kFt.rf.w (by decide)).w (by decide)).w (by decide)).w (by decide)).w (by decide)⟩))
end KPI
