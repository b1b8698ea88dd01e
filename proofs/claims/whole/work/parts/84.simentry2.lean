/-! An entry's value in brackets, side by side: both. -/
section KSE
variable {sz szT : Nat × Nat} {E : Nat → kC} {x1 : Int} {S T : Nat → Nat → Int} {t : Nat → Int} {n L l a o c u e : Nat}
theorem kAt.st {v s : Int} (A : kAt S T t n L l a o c u e) : kAt S (ku (ku T 30 27 v) 30 20 s) t n L l a o c u e := by
  obtain ⟨hl, ⟨hC, c1, c2, c3⟩, ⟨hR, m1, m2, m3, m4⟩, R, W, G, q3, q4, q5, q6, q7, q8⟩ := A
  exact ⟨hl, ⟨hC, c1, c2, c3⟩, ⟨hR, m1, m2, m3, m4⟩, R, W, G, q3, q4, q5, q6, q7, q8⟩
theorem kAt.st1 {s : Int} (A : kAt S T t n L l a o c u e) : kAt S (ku T 30 20 s) t n L l a o c u e := by
  obtain ⟨hl, ⟨hC, c1, c2, c3⟩, ⟨hR, m1, m2, m3, m4⟩, R, W, G, q3, q4, q5, q6, q7, q8⟩ := A
  exact ⟨hl, ⟨hC, c1, c2, c3⟩, ⟨hR, m1, m2, m3, m4⟩, R, W, G, q3, q4, q5, q6, q7, q8⟩
/-- a node of kind 0 in the place where a value is missing -/
theorem kAt.nil (A : kAt S T t n L l a o c u e) (hc : c < 60) {d : Nat} {b : Nat} (hb : b < a) : kOk S T (kbeg S 0 0 c) (ku (ku (kmk T 0 c) 30 27 (c : Int)) 30 20 4) t n L l b o c e (d + 1) c a (c + 1) u e := by
  have A0 := A
  obtain ⟨hl, ⟨hC, c1, c2, c3⟩, ⟨hR, m1, m2, m3, m4⟩, R, W, G, q3, q4, q5, q6, q7, q8⟩ := A
  obtain ⟨B1, B2, B3, B4, B5, B6, B7⟩ := A0.made (k := 0) (P := a) hc (by decide) (Nat.le_refl _) q7
  rw [ku_eta (by rw [kbeg_cell (by decide)]; exact c2)] at B1 B2 B3 B6 B7
  rw [ku_eta (by rw [kmk_30 (by decide) (by decide)]; exact m4)] at B1 B4 B5
  exact ⟨B1.st, rfl, rfl, by omega, B6, B2, by omega, by omega, ⟨hb, by omega⟩, B4, B3, (B5.w (by decide)).w (by decide), Or.inl ⟨rfl, Or.inl ⟨by rw [B7]; decide, rfl, rfl⟩⟩⟩
theorem kRes.io {r : kO × kH} {d : Nat} (h : kRes sz szT E x1 S T t n L l a o c e d r) : (∃ v h', r = (.inl (some (.int v)), h')) ∨ ∃ sz E S, kTh sz E S r := by
  rcases h with ⟨v, S', T', a', c', u', e', h1, _⟩ | ⟨h1, _⟩
  · exact Or.inl ⟨_, _, h1⟩
  · exact Or.inr ⟨_, _, _, h1⟩
/-- what an entry's value gives -/
def kEv (sz szT : Nat × Nat) (E : Nat → kC) (x1 : Int) (T Y Y1 M0 : Nat → Nat → Int) (t : Nat → Int) (n L l z o c e d : Nat) (h : Int) (r : kO × kH) : Prop := (∃ (v : Nat) (S' T' : Nat → Nat → Int) (a' c' u' e' : Nat), r = (.inl (some (.int (Int32.ofInt (v : Int)))), (sz, hp 57 E S')) ∧ (h = 0 → kStep szT E x1 T T') ∧ kOk Y1 M0 S' T' t n L l z o (c + 1) e d v a' c' u' e') ∨ (kTh sz E Y r ∧ (h = 0 → ∃ T', kStep szT E x1 T T' ∧ T' 30 19 = 1 ∧ kFt T T'))
theorem kEv.io {Y Y1 M0 : Nat → Nat → Int} {z d : Nat} {h : Int} {r : kO × kH} (h : kEv sz szT E x1 T Y Y1 M0 t n L l z o c e d h r) : (∃ v h', r = (.inl (some (.int v)), h')) ∨ ∃ sz E S, kTh sz E S r := by
  rcases h with ⟨v, S', T', a', c', u', e', h1, _⟩ | ⟨h1, _⟩
  · exact Or.inl ⟨_, _, h1⟩
  · exact Or.inr ⟨_, _, _, h1⟩
theorem sim_ev {Y X : Nat → Nat → Int} {z P d D : Nat} {h : Int} (hX : kTx t n L) (hz : z < kre t n l) (hP : P = kw (fun i => decide (t i = 32)) (kre t n l) (z + 1)) (h01 : h = 0 ∨ h = 1) (hT19 : T 30 19 = 0) (hT20 : T 30 20 = 3) (ho : 1 ≤ o) (h43 : T 43 (o - 1) = 4) (hod : o + d = 8) (K : kLk S T Y X t n L l o c e (z + 1)) (M : kMk szT E T (kMid X o c h z P) t (kre t n l) z P h) (IH : ∀ (S T : Nat → Nat → Int) (a c u e : Nat), kAt S T t n L l a o c u e → T 30 20 = 2 → kins T o = 1 → S 54 3 = -1 → kR D 66 (blk 66 0) (kent 66 [.ref 54, .int (Int32.ofInt ((o : Int) + 1)), .int (Int32.ofInt 1)]) [] (sz, hp 57 E S) (kRes sz szT E x1 S T t n L l a o c e d)) (hD : 5 ≤ D) : kR (D + 1) 73 (blk 73 0) (kent 73 [.ref 54, .int (Int32.ofInt ((o : Int) + 1))]) [] (sz, hp 57 E Y) (kEv sz szT E x1 T Y (ku Y 53 2 (P : Int)) (ku (kMid X o c h z P) 30 19 0) t n L l z o c e d h) ∧ (h = 1 → ∃ T', kStep szT E x1 T T' ∧ T' 30 19 = 1 ∧ kFt T T') := by
  obtain ⟨⟨u', K1⟩, K2, K3, K4, K5, K6, K7, K8, K9, K10, K11⟩ := K
  have hl := K1.1
  have hln := hX.ln hl
  have hx1 := hX.1
  have hen : kre t n l ≤ n := by omega
  have hPr : z + 1 ≤ kw (fun i => decide (t i = 32)) (kre t n l) (z + 1) ∧ (z + 1 ≤ kre t n l → kw (fun i => decide (t i = 32)) (kre t n l) (z + 1) ≤ kre t n l) := kw_rng
  rw [← hP] at hPr
  obtain ⟨M1, M2⟩ := M
  have AM := K1.mid (h := h) (P := P) (by omega) (by omega)
  have hstp : ∀ T1, kR 5 141 (blk 141 0) (kent 141 [.ref 30]) [] (szT, hp 53 E T) (fun r => r = (.inl none, (szT, hp 53 E T1))) → kStep szT E x1 T T1 := fun T1 k => kStep.of (y := 141) (fun Q q => kM_3 hT19 hT20 q) (kR.up k (by decide))
  obtain ⟨M, hM⟩ : ∃ M, M = kMid X o c h z P := ⟨_, rfl⟩
  have hFM : kFt T M := by rw [hM]; exact kFt.mid K6
  have hM19 : M 30 19 = h := by rw [hM]; rfl
  have hM43 : M 43 = X 43 := by rw [hM]; rfl
  rw [← hM] at M1 M2 AM ⊢
  have AM0 := AM
  obtain ⟨_, ⟨hC, c1, c2, c3⟩, ⟨hR, m1, m2, m3, m4⟩, ⟨⟨r1, r2, r3, r4, r5, r6⟩, ra, rb, rc, rd, re⟩, ⟨⟨w1, w2, w3⟩, wa, wb, wc, wd⟩, ⟨g1, g2, g3⟩, q3, q4, q5, q6, q7, q8⟩ := AM0
  have hK1 := K1
  obtain ⟨_, ⟨hCy, cy1, cy2, cy3⟩, _⟩ := hK1
  have hgM : c + 1 < 60 ∧ o ≤ 7 → kR 0 110 (blk 110 0) (kent 110 [.ref 30, .int (Int32.ofInt 0)]) [] (szT, hp 53 E M) (fun r => r = (.inl (some (.int (Int32.ofInt ((c + 1 : Nat) : Int)))), (szT, hp 53 E (kmk M 0 (c + 1))))) := fun hg => c_110 (S := M) ⟨by omega, by omega⟩ (by exact r2) (by omega) (by exact q4) (by omega) (by rw [← show ku Y 53 2 (P : Int) 54 3 = M 30 26 from re]; exact wd) hg
  have hbM : ¬ (c + 1 < 60 ∧ o ≤ 7) → kR 0 110 (blk 110 0) (kent 110 [.ref 30, .int (Int32.ofInt 0)]) [] (szT, hp 53 E M) (fun r => r = (.inl (some (.int (Int32.ofInt ((0 : Nat) : Int)))), (szT, hp 53 E (ku M 30 19 1)))) := fun hg => ref_mk_bad (T2 := M) (c := c + 1) (by exact r2) (by omega) (by exact q4) (by omega) hg 0
  have hM0 : h = 0 → ku M 30 19 0 = M := fun h0 => ku_eta (by rw [hM19, h0])
  refine ⟨?_, fun h1 => ?_⟩
  · refine l_73 (t := t) (n := n) (L := L) (e := kre t n l) (a := z + 1) (P := P) hX hCy cy3 hen (by exact cy2) (by omega) hP (by omega) (fun hce w => ?_) (fun hce => ?_)
    · refine kR.s rfl rfl ?_
      refine kR.s rfl rfl ?_
      refine kR.s rfl rfl ?_
      refine kR.s rfl rfl ?_
      by_cases hg : c + 1 < 60 ∧ o ≤ 7
      · refine kR.cv rfl rfl (kR.up (c_62g (S := ku Y 53 2 (P : Int)) (k := 0) (z := 0) (d := (o : Int) + 1) (c := c + 1) (by exact r1) (by omega) (by omega) (by exact wd) (by omega)) (by omega)) ?_
        refine kR.ret rfl rfl ?_
        obtain ⟨d', hd'⟩ : ∃ d', d = d' + 1 := ⟨d - 1, by omega⟩
        rw [hd']
        refine Or.inl ⟨c + 1, _, _, P, c + 1 + 1, u', e, rfl, fun h0 => ?_, AM.nil hg.1 (by omega)⟩
        rw [hM0 h0]
        exact hstp _ (M1 hce _ _ (hgM hg))
      · refine kR.cT rfl rfl rfl (kR.up (c_62b (S := ku Y 53 2 (P : Int)) (k := 0) (z := 0) (d := (o : Int) + 1) (c := c + 1) (by exact r1) (by omega) (by omega) (by exact wd) (by omega)) (by omega)) ?_
        refine Or.inr ⟨⟨_, rfl, kFm.rf.w (by decide)⟩, fun h0 => ⟨_, hstp _ (M1 hce _ _ (hbM hg)), rfl, ((hFM.w (by decide)).w (by decide)).w (by decide)⟩⟩
    · refine kR.s rfl rfl ?_
      by_cases h32 : kch t (kre t n l) (z + 1) = 32
      · rw [if_pos h32]
        refine kR.zne (by decide) (by decide) (fun _ => ?_) (fun q => absurd q (by decide))
        show kR (D + 1) 73 b73_71 _ _ _ _
        refine kR.s rfl rfl ?_
        refine kR.s rfl rfl ?_
        refine kR.s rfl rfl ?_
        have hin : kins (ku (ku M 30 19 0) 30 20 2) o = 1 := by
          unfold kins
          rw [if_pos ⟨ho, Or.inr (by show M 43 (o - 1) = 4; rw [hM43, (K7.1 (o - 1) (by omega)).1]; exact h43)⟩]
        refine kR.tail rfl rfl rfl rfl rfl (kR.wk (IH (ku Y 53 2 (P : Int)) (ku (ku M 30 19 0) 30 20 2) P (c + 1) u' e AM.st1 rfl hin (by exact K3)) (fun r hr => ?_)) (fun r hr => kEv.io hr)
        rcases hr with ⟨v, S', T', a', c', u'', e', h1, h2, b1, b2, b3, b4, b5, b6, b7, b8, b9, b10, b11, b12, b13⟩ | ⟨h1, T', h2, h3, h4⟩
        · refine Or.inl ⟨v, S', T', a', c', u'', e', h1, fun h0 => ?_, b1, b2, b3, b4, b5, b6, b7, b8, by omega, b10, b11, (kFt.rf.w (by decide)).tr b12, b13⟩
          have w := M2 hce
          rw [if_neg (by omega)] at w
          exact (hstp _ w).tr h2
        · refine Or.inr ⟨h1.to (kFm.rf.w (by decide)), fun h0 => ⟨T', ?_, h3, (((hFM.w (by decide)).w (by decide))).tr h4⟩⟩
          have w := M2 hce
          rw [if_neg (by omega)] at w
          exact (hstp _ w).tr h2
      · rw [if_neg h32]
        refine kR.zne (by decide) (by decide) (fun q => absurd q (by decide)) (fun _ => ?_)
        refine kR.t rfl rfl (Nat.le_of_ble_eq_true rfl) ?_
        refine Or.inr ⟨⟨_, rfl, kFm.rf.w (by decide)⟩, fun h0 => ?_⟩
        have w := M2 hce
        rw [if_pos (Or.inr h32)] at w
        exact ⟨_, hstp _ w, rfl, (hFM.w (by decide)).w (by decide)⟩
  · by_cases hce : kch t (kre t n l) P = 44 ∨ kch t (kre t n l) P = 125
    · by_cases hg : c + 1 < 60 ∧ o ≤ 7
      · refine ⟨_, hstp _ (M1 hce _ _ (hgM hg)), ?_, ((hFM.mk 0 (c + 1)).w (by decide)).w (by decide)⟩
        show kmk M 0 (c + 1) 30 19 = 1
        rw [kmk_30 (by decide) (by decide), hM19]
        exact h1
      · exact ⟨_, hstp _ (M1 hce _ _ (hbM hg)), rfl, ((hFM.w (by decide)).w (by decide)).w (by decide)⟩
    · have w := M2 hce
      rw [if_pos (Or.inl h1)] at w
      exact ⟨_, hstp _ w, rfl, (hFM.w (by decide)).w (by decide)⟩
end KSE
