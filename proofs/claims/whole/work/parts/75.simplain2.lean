/-! A plain value, side by side: all in all. -/
/-- the value is a leaf: what is shown of it -/
def kLf (sz szT : Nat × Nat) (E : Nat → kC) (S T : Nat → Nat → Int) (t : Nat → Int) (n L l o c u e a' : Nat) (S' T' : Nat → Nat → Int) : Prop := kUv szT E T T' ∧ (∃ u', kAt S' T' t n L l a' o (c + 1) u' e) ∧ kFx S S' c e ∧ T' 30 20 = 4 ∧ T' 30 27 = (c : Int) ∧ S' 54 3 = -1 ∧ kKp T T' o ∧ kFm S S' ∧ kFt T T' ∧ S' 21 c < 4
section KSP
variable {sz szT : Nat × Nat} {E : Nat → kC} {S T : Nat → Nat → Int} {t : Nat → Int} {n L l a o c u e : Nat}
/-- a string's node and characters, side by side -/
theorem sim_str {y D : Nat} {as : List Value} {cs : List Int} {z : Nat} (hX : kTx t n L) (A : kAt S T t n L l a o c u e) (hg : c < 60 ∧ o ≤ 7) (hze : z ≤ kre t n l) (haz : a ≤ z) (hcs : ∀ x ∈ cs, x = 10 ∨ 32 ≤ x ∧ x ≤ 126) (hlen : u + cs.length + e + o ≤ z) {T2 : Nat → Nat → Int} (hT2 : (∀ j, j ≠ 21 → j ≠ 19 → j ≠ 34 → T2 30 j = T 30 j) ∧ T2 30 21 = (z : Int) ∧ T2 30 19 = 0 ∧ (∀ b, b ≠ 30 → b ≠ 47 → T2 b = T b)) (kcls : kR D y (blk y 0) (kent y as) [] (sz, hp 57 E S) (fun r => r = (.inl (some (.int (Int32.ofInt (c : Int)))), (sz, hp 57 E (kapl c cs u (kbeg (ku S 53 2 (z : Int)) 3 0 c)))))) (kref : ∀ v1 v2, kR 5 140 (b140_0.drop 3) [.ref 30, v1, v2] [] (szT, hp 53 E T) (fun r => r = (.inl none, (szT, hp 53 E (ku (ku (kspl c cs u (kmk T2 3 c)) 30 27 (c : Int)) 30 20 4))))) : ∃ S' T', kR D y (blk y 0) (kent y as) [] (sz, hp 57 E S) (fun r => r = (.inl (some (.int (Int32.ofInt (c : Int)))), (sz, hp 57 E S'))) ∧ kLf sz szT E S T t n L l o c u e z S' T' := by
  have A0 := A
  obtain ⟨hl, ⟨hC, c1, c2, c3⟩, ⟨hR, m1, m2, m3, m4⟩, R, W, ⟨g1, g2, g3⟩, q3, q4, q5, q6, q7, q8⟩ := A
  obtain ⟨⟨r1, r2, r3, r4, r5, r6⟩, ra, rb, rc, rd, re⟩ := R
  obtain ⟨t1, t2, t3, t4⟩ := hT2
  have hBc : ∀ (b : Nat), (b ≠ 20 ∧ b ≠ 21 ∧ b ≠ 22 ∧ b ≠ 23 ∧ b ≠ 24 ∧ b ≠ 25 ∧ b ≠ 54 ∧ b ≠ 55) → kbeg (ku S 53 2 (z : Int)) 3 0 c b = ku S 53 2 (z : Int) b := fun b hb => kbeg_cell hb
  have hBt : kCt (kbeg (ku S 53 2 (z : Int)) 3 0 c) t n L := by
    unfold kCt
    rw [hBc 1 (by decide), hBc 2 (by decide), hBc 3 (by decide), hBc 4 (by decide), hBc 5 (by decide), hBc 6 (by decide)]
    exact hC
  have hns := kbeg_ns (S := ku S 53 2 (z : Int)) (k := 3) (z := 0) (c := c)
  have hBu : kbeg (ku S 53 2 (z : Int)) 3 0 c 20 7 = (u : Int) := by rw [hns.2.1]; exact r3
  have hM4 : kmk T2 3 c = if (3 : Int) = 0 then kmk T2 0 c else ku (kmk T2 3 c) 35 c 0 := by
    rw [if_neg (by decide), ku_eta (by rw [kmk_at]; simp)]
  obtain ⟨f1, f2, f3⟩ := kNt_fin (v := (c : Int)) hM4 (fun h => absurd h (by decide))
  have hnt : kNt T (ku (ku (kmk T2 3 c) 30 27 (c : Int)) 30 20 4) 3 0 c := by
    obtain ⟨x1, x2, x3, x4, x5, x6, x7, x8, x9, x10, x11, x12, x13⟩ := f1
    rw [t1 14 (by decide) (by decide) (by decide)] at x2 x7
    rw [t1 15 (by decide) (by decide) (by decide)] at x3
    rw [t1 26 (by decide) (by decide) (by decide), t4 42 (by decide) (by decide)] at x12
    rw [t4 34 (by decide) (by decide)] at x4
    rw [t4 37 (by decide) (by decide)] at x5
    rw [t4 35 (by decide) (by decide)] at x6
    rw [t4 36 (by decide) (by decide)] at x7
    rw [t4 38 (by decide) (by decide)] at x8
    rw [t4 39 (by decide) (by decide)] at x9
    rw [t4 40 (by decide) (by decide)] at x10
    rw [t4 41 (by decide) (by decide)] at x11
    exact ⟨x1, x2, x3, x4, x5, x6, x7, x8, x9, x10, x11, x12, x13⟩
  have hf2 : ∀ j, j ≠ 26 → j ≠ 8 → j ≠ 27 → j ≠ 20 → j ≠ 21 → j ≠ 19 → j ≠ 34 → ku (ku (kmk T2 3 c) 30 27 (c : Int)) 30 20 4 30 j = T 30 j := fun j a1 a2 a3 a4 a5 a6 a7 => (f2 j a1 a2 a3 a4).trans (t1 j a5 a6 a7)
  have hf3 : ∀ b, (b ≠ 30 ∧ b ≠ 34 ∧ b ≠ 35 ∧ b ≠ 36 ∧ b ≠ 37 ∧ b ≠ 42 ∧ b ≠ 47) → ku (ku (kmk T2 3 c) 30 27 (c : Int)) 30 20 4 b = T b := fun b hb => (f3 b (by omega)).trans (t4 b (by omega) (by omega))
  have hCu1 : kCu (kbeg (ku S 53 2 (z : Int)) 3 0 c) t n L l z := ⟨hBt, by rw [hBc 53 (by decide)]; exact c1, by rw [hBc 53 (by decide)]; rfl, by rw [hBc 53 (by decide)]; exact c3⟩
  have hCm1 : kCm (ku (ku (kmk T2 3 c) 30 27 (c : Int)) 30 20 4) t n l z := ⟨⟨by rw [hf2 7 (by decide) (by decide) (by decide) (by decide) (by decide) (by decide) (by decide)]; exact hR.1, fun j hj => by rw [hf3 33 (by decide)]; exact hR.2 j hj⟩, by rw [hf2 22 (by decide) (by decide) (by decide) (by decide) (by decide) (by decide) (by decide)]; exact m1, by rw [hf2 24 (by decide) (by decide) (by decide) (by decide) (by decide) (by decide) (by decide)]; exact m2, by rw [hf2 23 (by decide) (by decide) (by decide) (by decide) (by decide) (by decide) (by decide)]; exact m3, by rw [f2 21 (by decide) (by decide) (by decide) (by decide)]; exact t2⟩
  obtain ⟨A1, A2⟩ := A0.node (Y := kbeg (ku S 53 2 (z : Int)) 3 0 c) (X := ku (ku (kmk T2 3 c) 30 27 (c : Int)) 30 20 4) (a' := z) hg.1 (by omega) (by omega) haz hze hns hnt hCu1 hCm1 (by rw [f2 19 (by decide) (by decide) (by decide) (by decide)]; exact t3) (by rw [hf2 29 (by decide) (by decide) (by decide) (by decide) (by decide) (by decide) (by decide)]) (hf3 43 (by decide)) (hf3 44 (by decide))
  have hu2 : ku (ku (kmk T2 3 c) 30 27 (c : Int)) 30 20 4 30 14 = (u : Int) := by rw [hf2 14 (by decide) (by decide) (by decide) (by decide) (by decide) (by decide) (by decide)]; exact r4
  obtain ⟨B1, B2⟩ := A1.chars (v := c) (cs := cs) (a' := z) hcs (by omega) (by rw [hns.2.2.2.1, if_pos rfl]; decide) (by rw [hns.2.2.2.2.1, if_pos rfl]) (by rw [hns.2.2.2.2.2.2.1, if_pos rfl]; exact r3) hlen hze hX hCu1 hCm1
  have eT : ku (ku (kspl c cs u (kmk T2 3 c)) 30 27 (c : Int)) 30 20 4 = kspl c cs u (ku (ku (kmk T2 3 c) 30 27 (c : Int)) 30 20 4) := by
    rw [kspl_ku (by decide), kspl_ku (by decide)]
  rw [eT] at kref
  have hF0 : kFt T (ku (ku (kmk T2 3 c) 30 27 (c : Int)) 30 20 4) := ⟨fun b e1 e2 => hf3 b (by omega), fun j hj => hf2 j (by omega) (by omega) (by omega) (by omega) (by omega) (by omega) (by omega)⟩
  refine ⟨_, _, kcls, kref, ⟨_, B1⟩, A2.tr B2 (by omega) (Nat.le_refl _), by rw [kspl_30 hu2 (by decide)]; rfl, by rw [kspl_30 hu2 (by decide)]; rfl, by rw [kapl_cell hBu (by decide)]; exact hns.2.2.2.2.2.2.2.2.2.2.2.2.2, ⟨fun j hj => ⟨by rw [kspl_cell hu2 (by decide), hf3 43 (by decide)], by rw [kspl_cell hu2 (by decide), hf3 44 (by decide)], by rw [kspl_cell hu2 (by decide), hf3 45 (by decide)], by rw [kspl_cell hu2 (by decide), hf3 46 (by decide)]⟩, by rw [kspl_30 hu2 (by decide), hf2 28 (by decide) (by decide) (by decide) (by decide) (by decide) (by decide) (by decide)]⟩, fun b hb => ?_, hF0.spl hu2, ?_⟩
  · rw [kapl_cell hBu (by omega), hBc b (by omega)]
    exact if_neg (by omega)
  · rw [kapl_cell hBu (by decide), hns.2.2.2.1, if_pos rfl]
    decide
theorem sim_plain (hX : kTx t n L) (A : kAt S T t n L l a o c u e) (hWd : kWrd E) (n42 : ¬ kch t (kre t n l) a = 42) (n91 : ¬ kch t (kre t n l) a = 91) (n123 : ¬ kch t (kre t n l) a = 123) (nqu : kqu (kch t (kre t n l) a) = 0) (hpl : kpl t (kre t n l) a = 1) {z : Nat} (hz : kst t (kre t n l) (kins T o) a = z) (hcl : kcol t (kre t n l) (kins T o) z = 0) (hg : c < 60 ∧ o ≤ 7) : ∃ S' T', kR 8 81 (blk 81 0) (kent 81 [.ref 54, .int (Int32.ofInt ((o : Int) + 1)), .int (Int32.ofInt (kins T o))]) [] (sz, hp 57 E S) (fun r => r = (.inl (some (.int (Int32.ofInt (c : Int)))), (sz, hp 57 E S'))) ∧ kLf sz szT E S T t n L l o c u e z S' T' := by
  have A0 := A
  obtain ⟨hl, ⟨hC, c1, c2, c3⟩, ⟨hR, m1, m2, m3, m4⟩, R, W, ⟨g1, g2, g3⟩, q3, q4, q5, q6, q7, q8⟩ := A
  have hln := hX.ln hl
  have hx1 := hX.1
  have hen : kre t n l ≤ n := by omega
  obtain ⟨k1, k2, k3⟩ := kst_gt (i := kins T o) hX hen hpl
  have hse := kst_e t (kre t n l) (kins T o) a q7
  rw [hz] at k1 hse
  have hze : z ≤ kre t n l := by omega
  have hki : kins T o = 0 ∨ kins T o = 1 := by have w := kins_o T o; omega
  have hm : 53 ≤ 53 ∧ 53 ≤ 57 := by omega
  obtain ⟨⟨r1, r2, r3, r4, r5, r6⟩, ra, rb, rc, rd, re⟩ := R
  obtain ⟨⟨w1, w2, w3⟩, wa, wb, wc, wd⟩ := W
  -- the class
  have hbg : ∀ k x : Int, kR 1 62 (blk 62 0) (kent 62 [.ref 54, .int (Int32.ofInt k), .long (Int64.ofInt x), .int (Int32.ofInt ((o : Int) + 1))]) [] (sz, hp 57 E (ku S 53 2 (z : Int))) (fun r => r = (.inl (some (.int (Int32.ofInt (c : Int)))), (sz, hp 57 E (kbeg (ku S 53 2 (z : Int)) k x c)))) := fun k x => c_62g (S := ku S 53 2 (z : Int)) (by exact r1) (by omega) (by omega) (by exact wd) (by omega)
  have hBc : ∀ (k x : Int) (b : Nat), (b ≠ 20 ∧ b ≠ 21 ∧ b ≠ 22 ∧ b ≠ 23 ∧ b ≠ 24 ∧ b ≠ 25 ∧ b ≠ 54 ∧ b ≠ 55) → kbeg (ku S 53 2 (z : Int)) k x c b = ku S 53 2 (z : Int) b := fun k x b hb => kbeg_cell hb
  have hBt : ∀ k x, kCt (kbeg (ku S 53 2 (z : Int)) k x c) t n L := fun k x => by
    unfold kCt
    rw [hBc k x 1 (by decide), hBc k x 2 (by decide), hBc k x 3 (by decide), hBc k x 4 (by decide), hBc k x 5 (by decide), hBc k x 6 (by decide)]
    exact hC
  have hBe : ∀ k x, kbeg (ku S 53 2 (z : Int)) k x c 53 3 = (kre t n l : Int) := fun k x => by rw [hBc k x 53 (by decide)]; exact c3
  have hBu : ∀ k x, kbeg (ku S 53 2 (z : Int)) k x c 20 7 = (u : Int) := fun k x => by rw [(kbeg_ns (S := ku S 53 2 (z : Int)) (k := k) (z := x) (c := c)).2.1]; exact r3
  have k83 := c_83 (S := ku S 53 2 (z : Int)) (sz := sz) (E := E) hX (by exact hC) (by exact c3) hen k3 k1 hze (v := c) (u := u) hg.1 hbg hBt hBe hBu (by omega) hWd
  have kcls := c_81g hX hC c3 hen c2 q7 hki hWd.2.2.2.1 hpl (by rw [hz]; exact hcl) hz k83
  -- the reference
  have hmk : ∀ k : Int, kR 0 110 (blk 110 0) (kent 110 [.ref 30, .int (Int32.ofInt k)]) [] (szT, hp 53 E (ku (ku T 30 21 (z : Int)) 30 19 0)) (fun r => r = (.inl (some (.int (Int32.ofInt (c : Int)))), (szT, hp 53 E (kmk (ku (ku T 30 21 (z : Int)) 30 19 0) k c)))) := fun k => c_110 (S := ku (ku T 30 21 (z : Int)) 30 19 0) hm (by exact r2) (by omega) (by exact q4) (by omega) (by show -1 ≤ T 30 26 ∧ T 30 26 < 26; rw [← re]; exact wd) hg
  have k125 := c_125 (S := ku (ku T 30 21 (z : Int)) 30 19 0) (E := E) (sz := szT) hm hX (by exact hR) k3 k1 (by omega) (Mk := fun k => kmk (ku (ku T 30 21 (z : Int)) 30 19 0) k c) (v := c) (u := u) (w := 0) hg.1 (Or.inl rfl) hmk (fun k => kRt.mk (by exact hR) k c) (fun k => by rw [kmk_30 (by decide) (by decide)]; rfl) (by rw [kmk_30 (by decide) (by decide)]; exact r4) (by omega)
  have kref : ∀ v1 v2, _ := fun v1 v2 => l_140p (S := T) (E := E) (sz := szT) hm hX hR m3 hen m4 q7 n42 n91 n123 nqu q4 (by omega) g3 q3 hpl (by rw [hz]; omega) (by rw [hz]; exact hcl) (v1 := v1) (v2 := v2) (by rw [hz]; exact k125)
  obtain ⟨g, hgd⟩ : ∃ g, g = kb (fun i => decide (t i = 32)) a z := ⟨_, rfl⟩
  have hkb := kb_rng (p := fun i => decide (t i = 32)) (lo := a) (hi := z) (by omega)
  have hkf : a < kb (fun i => decide (t i = 32)) a z := by
    rcases Nat.lt_or_ge a (kb (fun i => decide (t i = 32)) a z) with h | h
    · exact h
    · exact absurd (of_decide_eq_true (kb_in (p := fun i => decide (t i = 32)) (lo := a) (hi := z) (i := a) (by omega) h (by omega))) k3
  rw [← hgd] at kcls kref hkb hkf
  have hFm0 : ∀ k x, kFm S (kbeg (ku S 53 2 (z : Int)) k x c) := fun k x b hb => by
    rw [hBc k x b (by omega)]
    exact if_neg (by omega)
  have hF0 : kFt T (ku (ku T 30 21 (z : Int)) 30 19 0) := (kFt.rf.w (by decide)).w (by decide)
  rcases kpl_eq hX hen hkf (by omega : g ≤ kre t n l) (fun k x => kbeg (ku S 53 2 (z : Int)) k x c) (fun k => kmk (ku (ku T 30 21 (z : Int)) 30 19 0) k c) c u c u 0 with ⟨k, x, hk, hx2, hx3, e1, e2⟩ | ⟨e1, e2⟩
  · rw [e1] at kcls
    obtain ⟨f1, f2, f3⟩ := kNt_fin (v := (c : Int)) e2 (fun h => by rcases hk with ⟨_, h2⟩ | ⟨h1, _⟩ | h1 <;> omega)
    have hFt : kFt T (ku (ku (kplm t (fun k => kmk (ku (ku T 30 21 (z : Int)) 30 19 0) k c) c u 0 a g) 30 27 (c : Int)) 30 20 4) := hF0.tr ⟨fun b e1 e2 => f3 b (by omega), fun j hj => f2 j (by omega) (by omega) (by omega) (by omega)⟩
    refine ⟨_, _, kcls, kref, ?_⟩
    obtain ⟨A1, A2⟩ := A0.node (Y := kbeg (ku S 53 2 (z : Int)) k x c) (X := ku (ku (kplm t (fun k => kmk (ku (ku T 30 21 (z : Int)) 30 19 0) k c) c u 0 a g) 30 27 (c : Int)) 30 20 4) (a' := z) hg.1 (by rcases hk with ⟨h1, _⟩ | ⟨h1, _⟩ | h1 <;> omega) ⟨hx2, hx3⟩ (by omega) hze kbeg_ns f1 ⟨hBt k x, by rw [hBc k x 53 (by decide)]; exact c1, by rw [hBc k x 53 (by decide)]; rfl, hBe k x⟩ ⟨⟨by rw [f2 7 (by decide) (by decide) (by decide) (by decide)]; exact hR.1, fun j hj => by rw [f3 33 (by decide)]; exact hR.2 j hj⟩, by rw [f2 22 (by decide) (by decide) (by decide) (by decide)]; exact m1, by rw [f2 24 (by decide) (by decide) (by decide) (by decide)]; exact m2, by rw [f2 23 (by decide) (by decide) (by decide) (by decide)]; exact m3, by rw [f2 21 (by decide) (by decide) (by decide) (by decide)]; rfl⟩ (by rw [f2 19 (by decide) (by decide) (by decide) (by decide)]; rfl) (by rw [f2 29 (by decide) (by decide) (by decide) (by decide)]; rfl) (by rw [f3 43 (by decide)]; rfl) (by rw [f3 44 (by decide)]; rfl)
    refine ⟨⟨u, A1⟩, A2, rfl, rfl, (kbeg_ns (S := ku S 53 2 (z : Int)) (k := k) (z := x) (c := c)).2.2.2.2.2.2.2.2.2.2.2.2.2, ⟨fun j hj => ⟨by rw [f3 43 (by decide)]; rfl, by rw [f3 44 (by decide)]; rfl, by rw [f3 45 (by decide)]; rfl, by rw [f3 46 (by decide)]; rfl⟩, by rw [f2 28 (by decide) (by decide) (by decide) (by decide)]; rfl⟩, hFm0 k x, hFt, ?_⟩
    rw [(kbeg_ns (S := ku S 53 2 (z : Int)) (k := k) (z := x) (c := c)).2.2.2.1, if_pos rfl]
    rcases hk with ⟨h1, _⟩ | ⟨h1, _⟩ | h1 <;> omega
  · rw [e1] at kcls
    rw [if_neg (by decide : ¬ (0 : Int) = 1)] at e2
    rw [e2] at kref
    have hlen : (ksl t a g).length = g - a := kslh_len _ _ _
    exact sim_str (T2 := ku (ku T 30 21 (z : Int)) 30 19 0) hX A0 hg hze (by omega) (fun x hx => by
      obtain ⟨i, h1, h2⟩ := kslh_mem _ _ _ hx
      rw [h2]
      exact hX.2.1 _ (by omega)) (by omega) ⟨fun j h1 h2 _ => by show (if j = 19 then _ else (if j = 21 then _ else T 30 j)) = _; rw [if_neg h2, if_neg h1], rfl, rfl, fun b h1 _ => by unfold ku; show (if b = 30 then _ else (if b = 30 then _ else T b)) = T b; rw [if_neg h1, if_neg h1]⟩ kcls kref
end KSP
