/-! A row in brackets, side by side: all in all. -/
theorem kuku {S : Nat → Nat → Int} {a k : Nat} {x y : Int} : ku (ku S a k x) a k y = ku S a k y := by
  funext p q
  unfold ku kup
  by_cases h1 : p = a
  · by_cases h2 : q = k
    · simp [h1, h2]
    · simp [h1, h2]
  · simp [h1]
/-- what a value's reading gives, behind its naming -/
def kReU (sz szT : Nat × Nat) (E : Nat → kC) (x1 : Int) (S T : Nat → Nat → Int) (t : Nat → Int) (n L l a o c e d : Nat) (r : kO × kH) : Prop := (∃ (v : Nat) (S' T1 T' : Nat → Nat → Int) (a' c' u' e' : Nat), r = (.inl (some (.int (Int32.ofInt (v : Int)))), (sz, hp 57 E S')) ∧ kU1 szT E T T1 ∧ kStep szT E x1 T1 T' ∧ kOk S T S' T' t n L l a o c e d v a' c' u' e') ∨ (kTh sz E S r ∧ ∃ T1 T', kU1 szT E T T1 ∧ kStep szT E x1 T1 T' ∧ T' 30 19 = 1 ∧ kFt T T')
section KSO
variable {sz szT : Nat × Nat} {E : Nat → kC} {x1 : Int} {S T : Nat → Nat → Int} {t : Nat → Int} {n L l a o c u e : Nat}
/-- one more is open -/
theorem kAt.push {w z s : Int} {m : Nat} (A : kAt S T t n L l a o c u e) (ho : o ≤ 7) (hpot : u + e + o + 1 ≤ a) (hmc : m < c) (hw : -2147483648 ≤ w ∧ w < 2147483648) (hk : (w = 1 ∨ w = 3 → S 21 m = 4) ∧ (w = 2 ∨ w = 4 → S 21 m = 5)) : kAt S (ku (kbgm T w m z o) 30 20 s) t n L l a (o + 1) c u e ∧ kKp T (ku (kbgm T w m z o) 30 20 s) o ∧ kFt T (ku (kbgm T w m z o) 30 20 s) := by
  obtain ⟨hl, ⟨hC, c1, c2, c3⟩, ⟨hR, m1, m2, m3, m4⟩, R, W, ⟨g1, g2, g3⟩, q3, q4, q5, q6, q7, q8⟩ := A
  have e43 : ∀ j, ku (kbgm T w m z o) 30 20 s 43 j = if j = o then w else T 43 j := fun j => rfl
  have e44 : ∀ j, ku (kbgm T w m z o) 30 20 s 44 j = if j = o then (m : Int) else T 44 j := fun j => rfl
  have e45 : ∀ j, ku (kbgm T w m z o) 30 20 s 45 j = if j = o then z else T 45 j := fun j => rfl
  refine ⟨⟨hl, ⟨hC, c1, c2, c3⟩, ⟨hR, m1, m2, m3, m4⟩, R, W, ⟨g1, g2, fun j hj => ?_⟩, q3, rfl, by omega, by omega, q7, fun j hj => ?_⟩, ⟨fun j hj => ?_, rfl⟩, ?_⟩
  · rw [e43]
    split
    · exact hw
    · exact g3 j hj
  · rw [e43, e44]
    by_cases e : j = o
    · rw [if_pos e, if_pos e]
      exact ⟨by omega, by omega, hk.1, hk.2⟩
    · rw [if_neg e, if_neg e]
      exact q8 j (by omega)
  · rw [e43, e44, e45, if_neg (by omega), if_neg (by omega), if_neg (by omega)]
    exact ⟨rfl, rfl, rfl, rfl⟩
  · exact ((((kFt.rf.a (by decide)).a (by decide)).a (by decide)).w (by decide)).w (by decide)
/-- a row or table is made -/
theorem kAt.made {k : Int} {P : Nat} (A : kAt S T t n L l a o c u e) (hc : c < 60) (hk : 0 ≤ k ∧ k ≤ 5) (haa : a ≤ P) (hae : P ≤ kre t n l) : kAt (ku (kbeg S k 0 c) 53 2 (P : Int)) (ku (kmk T k c) 30 21 (P : Int)) t n L l P o (c + 1) u e ∧ kFx S (ku (kbeg S k 0 c) 53 2 (P : Int)) c e ∧ kFm S (ku (kbeg S k 0 c) 53 2 (P : Int)) ∧ kKp T (ku (kmk T k c) 30 21 (P : Int)) o ∧ kFt T (ku (kmk T k c) 30 21 (P : Int)) ∧ ku (kbeg S k 0 c) 53 2 (P : Int) 54 3 = -1 ∧ ku (kbeg S k 0 c) 53 2 (P : Int) 21 c = k := by
  have A0 := A
  obtain ⟨hl, ⟨hC, c1, c2, c3⟩, ⟨hR, m1, m2, m3, m4⟩, R, W, ⟨g1, g2, g3⟩, q3, q4, q5, q6, q7, q8⟩ := A
  have hBc : ∀ (b : Nat), (b ≠ 20 ∧ b ≠ 21 ∧ b ≠ 22 ∧ b ≠ 23 ∧ b ≠ 24 ∧ b ≠ 25 ∧ b ≠ 54 ∧ b ≠ 55) → kbeg S k 0 c b = S b := fun b hb => kbeg_cell hb
  have hBt : kCt (kbeg S k 0 c) t n L := by
    unfold kCt
    rw [hBc 1 (by decide), hBc 2 (by decide), hBc 3 (by decide), hBc 4 (by decide), hBc 5 (by decide), hBc 6 (by decide)]
    exact hC
  have hns := kbeg_ns (S := S) (k := k) (z := 0) (c := c)
  have hnt := kmk_nt (T := T) (k := k) (c := c)
  obtain ⟨A1, A2⟩ := A0.node (Y := ku (kbeg S k 0 c) 53 2 (P : Int)) (X := ku (kmk T k c) 30 21 (P : Int)) (k := k) (z := 0) (a' := P) hc hk (by omega) haa hae hns hnt ⟨hBt, by show kbeg S k 0 c 53 1 = _; rw [hBc 53 (by decide)]; exact c1, rfl, by show kbeg S k 0 c 53 3 = _; rw [hBc 53 (by decide)]; exact c3⟩ ⟨kRt.mk hR k c, by show kmk T k c 30 22 = _; rw [kmk_30 (by decide) (by decide)]; exact m1, by show kmk T k c 30 24 = _; rw [kmk_30 (by decide) (by decide)]; exact m2, by show kmk T k c 30 23 = _; rw [kmk_30 (by decide) (by decide)]; exact m3, rfl⟩ (by show kmk T k c 30 19 = _; rw [kmk_30 (by decide) (by decide)]; exact q3) (by show kmk T k c 30 29 = _; rw [kmk_30 (by decide) (by decide)]) (by show kmk T k c 43 = _; rw [kmk_cell (by decide)]) (by show kmk T k c 44 = _; rw [kmk_cell (by decide)])
  refine ⟨A1, A2, fun b hb => ?_, ⟨fun j hj => ⟨by show kmk T k c 43 j = _; rw [kmk_cell (by decide)], by show kmk T k c 44 j = _; rw [kmk_cell (by decide)], by show kmk T k c 45 j = _; rw [kmk_cell (by decide)], by show kmk T k c 46 j = _; rw [kmk_cell (by decide)]⟩, by show kmk T k c 30 28 = _; rw [kmk_30 (by decide) (by decide)]⟩, (kFt.rf.mk k c).w (by decide), hns.2.2.2.2.2.2.2.2.2.2.2.2.2, by show kbeg S k 0 c 21 c = _; rw [hns.2.2.2.1, if_pos rfl]⟩
  rw [show ku (kbeg S k 0 c) 53 2 (P : Int) b = kbeg S k 0 c b from if_neg (by omega)]
  exact hBc b (by omega)
theorem sim_row (hX : kTx t n L) (A : kAt S T t n L l a o c u e) (h91 : kch t (kre t n l) a = 91) {d D : Nat} (hg : c < 60 ∧ o ≤ 7) (IH : ∀ (S T : Nat → Nat → Int) (a c u e : Nat), kAt S T t n L l a (o + 1) c u e → T 30 20 = 2 → kins T (o + 1) = 1 → S 54 3 = -1 → kR D 66 (blk 66 0) (kent 66 [.ref 54, .int (Int32.ofInt ((o : Int) + 1 + 1)), .int (Int32.ofInt 1)]) [] (sz, hp 57 E S) (kRes sz szT E x1 S T t n L l a (o + 1) c e d)) (hD : 5 ≤ D) : kR (D + 1) 68 (blk 68 0) (kent 68 [.ref 54, .int (Int32.ofInt ((o : Int) + 1))]) [] (sz, hp 57 E S) (kReU sz szT E x1 S T t n L l a o c e (d + 1)) := by
  have A0 := A
  obtain ⟨hl, ⟨hC, c1, c2, c3⟩, ⟨hR, m1, m2, m3, m4⟩, R, W, ⟨g1, g2, g3⟩, q3, q4, q5, q6, q7, q8⟩ := A
  have hln := hX.ln hl
  have hx1 := hX.1
  have hen : kre t n l ≤ n := by omega
  have hae : a < kre t n l := kch_lt (t := t) (by rw [h91]; decide)
  obtain ⟨⟨r1, r2, r3, r4, r5, r6⟩, ra, rb, rc, rd, re⟩ := R
  obtain ⟨⟨w1, w2, w3⟩, wa, wb, wc, wd⟩ := W
  have hBc : ∀ (b : Nat), (b ≠ 20 ∧ b ≠ 21 ∧ b ≠ 22 ∧ b ≠ 23 ∧ b ≠ 24 ∧ b ≠ 25 ∧ b ≠ 54 ∧ b ≠ 55) → kbeg S 4 0 c b = S b := fun b hb => kbeg_cell hb
  have hBt : kCt (kbeg S 4 0 c) t n L := by
    unfold kCt
    rw [hBc 1 (by decide), hBc 2 (by decide), hBc 3 (by decide), hBc 4 (by decide), hBc 5 (by decide), hBc 6 (by decide)]
    exact hC
  have kop := c_70 (S := kbeg S 4 0 c) (E := E) (sz := sz) hX hBt (by rw [hBc 53 (by decide)]; exact c3) hen (by rw [hBc 53 (by decide)]; exact c2) hae (x := 93) (by decide)
  have hmk : kR 0 110 (blk 110 0) (kent 110 [.ref 30, .int (Int32.ofInt 4)]) [] (szT, hp 53 E T) (fun r => r = (.inl (some (.int (Int32.ofInt (c : Int)))), (szT, hp 53 E (kmk T 4 c)))) := c_110 (S := T) ⟨by omega, by omega⟩ r2 (by omega) q4 (by omega) (by rw [← re]; exact wd) hg
  have kref := l_140b_1 (S := T) (E := E) (sz := szT) (m := 53) ⟨by omega, by omega⟩ hX hR m3 hen m4 q7 (S1 := kmk T 4 c) (v := c) (o := o) (w := 0) (Or.inl rfl) hmk (kRt.mk hR 4 c) (by rw [kmk_30 (by decide) (by decide)]; exact m4) (by rw [kmk_30 (by decide) (by decide)]; exact m3) (by rw [kmk_30 (by decide) (by decide)]; exact q4) (by omega) (by rw [kmk_30 (by decide) (by decide)]; exact q3) h91 (v1 := kun) (v2 := kun)
  have hP : a + 1 ≤ kw (fun i => decide (t i = 32)) (kre t n l) (a + 1) ∧ (a + 1 ≤ kre t n l → kw (fun i => decide (t i = 32)) (kre t n l) (a + 1) ≤ kre t n l) := kw_rng
  obtain ⟨P, hPd⟩ : ∃ P, P = kw (fun i => decide (t i = 32)) (kre t n l) (a + 1) := ⟨_, rfl⟩
  rw [← hPd] at hP kop kref
  simp only [kuku] at kop
  show kR (D + 1) 68 b68_0 _ _ _ _
  refine kR.s rfl rfl ?_
  refine kR.s rfl rfl ?_
  refine kR.s rfl rfl ?_
  refine kR.s rfl rfl ?_
  refine kR.cv rfl rfl (kR.up (c_62g (S := S) (k := 4) (z := 0) (d := (o : Int) + 1) r1 (by omega) (by omega) wd (by omega)) (by omega)) ?_
  refine kR.s rfl rfl ?_
  refine kR.s rfl rfl ?_
  refine kR.bi rfl ?_
  refine kR.c rfl rfl (kR.up kop (by omega)) (fun r hr => ?_)
  by_cases p1 : kch t (kre t n l) P = 93
  · have hr := hr.1 p1
    subst hr
    show kR (D + 1) 68 _ _ (Value.int (Int32.ofInt 0) :: _) (sz, hp 57 E _) _
    refine kR.s rfl rfl ?_
    refine kR.s rfl rfl ?_
    refine kR.s rfl rfl ?_
    refine kR.n ?_
    show kR (D + 1) 68 b68_18 _ _ _ _
    refine kR.s rfl rfl ?_
    refine kR.zeq (by decide) (by decide) (fun _ => ?_) (fun q => absurd rfl q)
    show kR (D + 1) 68 b68_60 _ _ _ _
    refine kR.s rfl rfl ?_
    refine kR.ret rfl rfl ?_
    have hPl : P < kre t n l := kch_lt (t := t) (by rw [p1]; decide)
    obtain ⟨B1, B2, B3, B4, B5, B6, B7⟩ := A0.made (k := 4) (P := P + 1) hg.1 (by decide) (by omega) (by omega)
    refine Or.inl ⟨c, _, _, _, P + 1, c + 1, u, e, rfl, kR.wk kref (fun u hu => hu.1 p1), kStep.rf, B1, rfl, rfl, by omega, B6, B2, by omega, by omega, by omega, B4, B3, (B5.w (by decide)).w (by decide), Or.inl ⟨rfl, Or.inr ⟨?_, 0, rfl, rfl⟩⟩⟩
    exact Int.le_of_eq B7.symm
  · have hr := hr.2 p1
    subst hr
    show kR (D + 1) 68 _ _ (Value.int (Int32.ofInt 1) :: _) (sz, hp 57 E _) _
    refine kR.s rfl rfl ?_
    refine kR.s rfl rfl ?_
    refine kR.s rfl rfl ?_
    refine kR.n ?_
    obtain ⟨B1, B2, B3, B4, B5, B6, B7⟩ := A0.made (k := 4) (P := P) hg.1 (by decide) (by omega) (by omega)
    obtain ⟨C1, C2, C3⟩ := B1.push (w := 3) (z := 0) (s := 2) (m := c) hg.2 (by omega) (by omega) (by decide) ⟨fun _ => B7, fun z => absurd z (by decide)⟩
    have hz := l_68 (sz := sz) (szT := szT) (E := E) (x1 := x1) (l := l) hX (o := o) (c0 := c) (e0 := e) (d := d) (D := D) hg.2 hg.1 IH hD _ P (c + 1) u e 0 (ku (kbeg S 4 0 c) 53 2 (P : Int)) (ku (kbgm (ku (kmk T 4 c) 30 21 (P : Int)) 3 c 0 o) 30 20 2) rfl C1 rfl (by show (if o = o then (3 : Int) else _) = 3; rw [if_pos rfl]) (by show (if o = o then (c : Int) else _) = _; rw [if_pos rfl]) B7 B6 (by omega) (by omega) ⟨0, rfl, rfl⟩
    refine kR.wk hz (fun r hr => ?_)
    have hU : kU1 szT E T (ku (kbgm (ku (kmk T 4 c) 30 21 (P : Int)) 3 c 0 o) 30 20 2) := kR.wk kref (fun u hu => hu.2.1 p1 rfl)
    rcases hr with ⟨S'', T'', a'', c'', u'', e'', h1, h2, h3, h4, h5, h6, h7, h8, h9, h10, h11, h12, h13, j, h14⟩ | ⟨h1, T'', h2, h3, h4⟩
    · refine Or.inl ⟨c, S'', _, T'', a'', c'', u'', e'', h1, hU, h2, h3, h4, h5, by omega, h6, B2.tr h7 (by omega) (Nat.le_refl _), by omega, h9, by omega, (B4.tr C2 (Nat.le_refl _)).tr h11 (Nat.le_refl _), B3.tr h12, (B5.tr C3).tr h13, Or.inl ⟨rfl, Or.inr ⟨?_, j, h14⟩⟩⟩
      rw [h7.1 c (by omega), B7]
      decide
    · exact Or.inr ⟨h1.to B3, _, T'', hU, h2, h3, (B5.tr C3).tr h4⟩
end KSO
