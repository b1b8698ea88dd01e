/-! Namings and repeats, side by side. -/
/-- the reference's value, behind the naming, goes from T to T1 -/
def kU1 (szT : Nat × Nat) (E : Nat → kC) (T T1 : Nat → Nat → Int) : Prop := kR 5 140 (b140_0.drop 3) [.ref 30, kun, kun] [] (szT, hp 53 E T) (fun r => r = (.inl none, (szT, hp 53 E T1)))
section KSN
variable {sz szT : Nat × Nat} {E : Nat → kC} {x1 : Int} {S T : Nat → Nat → Int} {t : Nat → Int} {n L l a o c u e : Nat}
/-- from the loop's head over the naming -/
theorem kStep_n {T0 T1 : Nat → Nat → Int} (hw : T0 30 19 = 0) (hs : T0 30 20 = 2) (hn : kR 2 129 (blk 129 0) (kent 129 [.ref 30, .int (Int32.ofInt 0)]) [] (szT, hp 53 E T0) (fun r => r = (.inl none, (szT, hp 53 E T)))) (h1 : kU1 szT E T T1) : kStep szT E x1 T0 T1 := by
  refine kStep.of (y := 140) (fun Q q => kM_2 hw hs q) ?_
  show kR 8 140 b140_0 _ _ _ _
  refine kR.s rfl rfl ?_
  refine kR.s rfl rfl ?_
  refine kR.c0 rfl rfl (kR.up hn (by decide)) ?_
  exact kR.up h1 (by decide)
theorem name_no (hX : kTx t n L) (A : kAt S T t n L l a o c u e) (h : knm t (kre t n l) 0 a = 0) : kR 2 129 (blk 129 0) (kent 129 [.ref 30, .int (Int32.ofInt 0)]) [] (szT, hp 53 E T) (fun r => r = (.inl none, (szT, hp 53 E T))) := by
  obtain ⟨hl, ⟨hC, c1, c2, c3⟩, ⟨hR, m1, m2, m3, m4⟩, R, W, ⟨g1, g2, g3⟩, q3, q4, q5, q6, q7, q8⟩ := A
  have hln := hX.ln hl
  have hx1 := hX.1
  exact c_129n ⟨by omega, by omega⟩ hX hR m3 (by omega) m4 (by omega) (Or.inl rfl) h
theorem name_yes (hX : kTx t n L) (A : kAt S T t n L l a o c u e) (h : knm t (kre t n l) 0 a = 1) : kR 2 129 (blk 129 0) (kent 129 [.ref 30, .int (Int32.ofInt 0)]) [] (szT, hp 53 E T) (fun r => r = (.inl none, (szT, hp 53 E (ku (ku (ku T 30 19 (if 0 ≤ T 30 26 then 1 else 0)) 30 26 (klt t (kre t n l) (a + 1))) 30 21 ((kw (fun i => decide (t i = 32)) (kre t n l) (a + 2) : Nat) : Int))))) := by
  obtain ⟨hl, ⟨hC, c1, c2, c3⟩, ⟨hR, m1, m2, m3, m4⟩, R, W, ⟨g1, g2, g3⟩, q3, q4, q5, q6, q7, q8⟩ := A
  have hln := hX.ln hl
  have hx1 := hX.1
  exact c_129 ⟨by omega, by omega⟩ hX hR m3 (by omega) m4 (by omega) (Or.inl rfl) h q3 (by rw [← R.2.2.2.2.2]; exact W.2.2.2.2)
/-- a naming read by both -/
theorem kAt.named (hX : kTx t n L) (A : kAt S T t n L l a o c u e) (hk : kch t (kre t n l) (a + 2) = 32) (hlt : 0 ≤ klt t (kre t n l) (a + 1)) (hnm : S 54 3 = -1) : kAt (ku (ku S 54 3 (klt t (kre t n l) (a + 1))) 53 2 ((kw (fun i => decide (t i = 32)) (kre t n l) (a + 2) : Nat) : Int)) (ku (ku (ku T 30 19 (if 0 ≤ T 30 26 then 1 else 0)) 30 26 (klt t (kre t n l) (a + 1))) 30 21 ((kw (fun i => decide (t i = 32)) (kre t n l) (a + 2) : Nat) : Int)) t n L l (kw (fun i => decide (t i = 32)) (kre t n l) (a + 2)) o c u e := by
  obtain ⟨hl, ⟨hC, c1, c2, c3⟩, ⟨hR, m1, m2, m3, m4⟩, R, W, G, q3, q4, q5, q6, q7, q8⟩ := A
  have hle := klt_rng t (kre t n l) (a + 1)
  have hae : a + 2 < kre t n l := kch_lt (t := t) (by rw [hk]; decide)
  have hkr : a + 2 ≤ kw (fun i => decide (t i = 32)) (kre t n l) (a + 2) ∧ (a + 2 ≤ kre t n l → kw (fun i => decide (t i = 32)) (kre t n l) (a + 2) ≤ kre t n l) := kw_rng
  obtain ⟨⟨r1, r2, r3, r4, r5, r6⟩, ra, rb, rc, rd, re⟩ := R
  obtain ⟨⟨w1, w2, w3⟩, wa, wb, wc, wd⟩ := W
  refine ⟨hl, ⟨hC, c1, rfl, c3⟩, ⟨hR, m1, m2, m3, rfl⟩, ⟨⟨r1, r2, r3, r4, r5, r6⟩, ra, rb, rc, rd, rfl⟩, ⟨⟨w1, w2, w3⟩, wa, wb, wc, by show -1 ≤ klt t (kre t n l) (a + 1) ∧ klt t (kre t n l) (a + 1) < 26; omega⟩, G, ?_, q4, q5, by omega, by omega, q8⟩
  show (if 0 ≤ T 30 26 then (1 : Int) else 0) = 0
  rw [← re, hnm]
  rfl
theorem sim_again (hX : kTx t n L) (A : kAt S T t n L l a o c u e) (h42 : kch t (kre t n l) a = 42) (hok : S 54 3 = -1 ∧ 0 ≤ klt t (kre t n l) (a + 1) ∧ ¬ S 55 (klt t (kre t n l) (a + 1)).toNat = -1) : ∃ (v : Nat) (T' : Nat → Nat → Int), kR 2 67 (blk 67 0) (kent 67 [.ref 54]) [] (sz, hp 57 E S) (fun r => r = (.inl (some (.int (Int32.ofInt (v : Int)))), (sz, hp 57 E (ku S 53 2 ((a : Int) + 2))))) ∧ kU1 szT E T T' ∧ kAt (ku S 53 2 ((a : Int) + 2)) T' t n L l (a + 2) o c u e ∧ T' 30 20 = 4 ∧ T' 30 27 = (v : Int) ∧ v < c ∧ kKp T T' o ∧ kFt T T' ∧ ∃ j, j < 26 ∧ S 55 j = (v : Int) := by
  obtain ⟨hl, ⟨hC, c1, c2, c3⟩, ⟨hR, m1, m2, m3, m4⟩, R, W, G, q3, q4, q5, q6, q7, q8⟩ := A
  have hln := hX.ln hl
  have hx1 := hX.1
  have hle := klt_rng t (kre t n l) (a + 1)
  have hlo := klt_o t (kre t n l) (a + 1)
  have hae : a + 1 < kre t n l := kch_lt (t := t) (by omega)
  obtain ⟨⟨r1, r2, r3, r4, r5, r6⟩, ra, rb, rc, rd, re⟩ := R
  obtain ⟨⟨w1, w2, w3⟩, wa, wb, wc, wd⟩ := W
  have hv := wc (klt t (kre t n l) (a + 1)).toNat (by omega)
  have hd := rd (klt t (kre t n l) (a + 1)).toNat (by omega)
  obtain ⟨v, hv2⟩ : ∃ v : Nat, S 55 (klt t (kre t n l) (a + 1)).toNat = (v : Int) := ⟨(S 55 (klt t (kre t n l) (a + 1)).toNat).toNat, by omega⟩
  have kc := c_67 (S := S) (E := E) (sz := sz) hX hC c3 (by omega) c2 q7 rfl wd (fun j hj => by have := wc j hj; omega)
  have kr := l_140a (S := T) (E := E) (sz := szT) (m := 53) ⟨by omega, by omega⟩ hX hR m3 (by omega) m4 q7 (by rw [← re]; exact wd) (fun j hj => by have := wc j hj; have := rd j hj; omega) h42 (v1 := kun) (v2 := kun)
  refine ⟨v, _, kR.wk kc (fun u hu => by rw [hu.1 hok, hv2]), kR.wk kr (fun u hu => hu.1 ⟨by rw [← re]; omega, hok.2.1, by omega⟩), ?_, rfl, by show T 42 (klt t (kre t n l) (a + 1)).toNat - 1 = _; omega, by omega, ⟨fun j hj => ⟨rfl, rfl, rfl, rfl⟩, rfl⟩, ((kFt.rf.w (by decide)).w (by decide)).w (by decide), _, by omega, hv2⟩
  exact ⟨hl, ⟨hC, c1, rfl, c3⟩, ⟨hR, m1, m2, m3, rfl⟩, ⟨⟨r1, r2, r3, r4, r5, r6⟩, ra, rb, rc, rd, re⟩, ⟨⟨w1, w2, w3⟩, wa, wb, wc, wd⟩, G, q3, q4, q5, by omega, by omega, q8⟩
theorem sim_noagain (hX : kTx t n L) (A : kAt S T t n L l a o c u e) (h42 : kch t (kre t n l) a = 42) (hok : ¬ (S 54 3 = -1 ∧ 0 ≤ klt t (kre t n l) (a + 1) ∧ ¬ S 55 (klt t (kre t n l) (a + 1)).toNat = -1)) : kR 2 67 (blk 67 0) (kent 67 [.ref 54]) [] (sz, hp 57 E S) (fun r => r = (.inr sz.1, knew (sz, hp 57 E S) 30 6 (fun _ => .null))) ∧ kUb szT E T := by
  obtain ⟨hl, ⟨hC, c1, c2, c3⟩, ⟨hR, m1, m2, m3, m4⟩, R, W, G, q3, q4, q5, q6, q7, q8⟩ := A
  have hln := hX.ln hl
  have hx1 := hX.1
  have hle := klt_rng t (kre t n l) (a + 1)
  obtain ⟨⟨r1, r2, r3, r4, r5, r6⟩, ra, rb, rc, rd, re⟩ := R
  obtain ⟨⟨w1, w2, w3⟩, wa, wb, wc, wd⟩ := W
  have kc := c_67 (S := S) (E := E) (sz := sz) hX hC c3 (by omega) c2 q7 rfl wd (fun j hj => by have := wc j hj; omega)
  have kr := l_140a (S := T) (E := E) (sz := szT) (m := 53) ⟨by omega, by omega⟩ hX hR m3 (by omega) m4 q7 (by rw [← re]; exact wd) (fun j hj => by have := wc j hj; have := rd j hj; omega) h42 (v1 := kun) (v2 := kun)
  refine ⟨kR.wk kc (fun u hu => hu.2 hok), _, kR.wk kr (fun u hu => hu.2 (fun z => hok ?_)), rfl, kFt.rf.w (by decide)⟩
  obtain ⟨z1, z2, z3⟩ := z
  have hd := rd (klt t (kre t n l) (a + 1)).toNat (by omega)
  exact ⟨by omega, z2, by omega⟩
end KSN
