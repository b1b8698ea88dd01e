/-! A quoted value, and what is refused, side by side. -/
section KSQ
variable {sz szT : Nat × Nat} {E : Nat → kC} {S T : Nat → Nat → Int} {t : Nat → Int} {n L l a o c u e : Nat}
theorem sim_quoted (hX : kTx t n L) (A : kAt S T t n L l a o c u e) (hqu : kqu (kch t (kre t n l) a) = 1) {b : Nat} (hb : kbq t (kre t n l) (kch t (kre t n l) a) (a + 1) = (b : Int)) (hg : c < 60 ∧ o ≤ 7) : ∃ S' T', kR 6 77 (blk 77 0) (kent 77 [.ref 54, .int (Int32.ofInt ((o : Int) + 1))]) [] (sz, hp 57 E S) (fun r => r = (.inl (some (.int (Int32.ofInt (c : Int)))), (sz, hp 57 E S'))) ∧ kLf sz szT E S T t n L l o c u e b S' T' := by
  have A0 := A
  obtain ⟨hl, ⟨hC, c1, c2, c3⟩, ⟨hR, m1, m2, m3, m4⟩, R, W, ⟨g1, g2, g3⟩, q3, q4, q5, q6, q7, q8⟩ := A
  have hln := hX.ln hl
  have hx1 := hX.1
  have hen : kre t n l ≤ n := by omega
  have hqo := kqu_o (kch t (kre t n l) a)
  have hae : a < kre t n l := kch_lt (t := t) (by omega)
  have hbr := kbq_rng (t := t) (e := kre t n l) (q := kch t (kre t n l) a) (kre t n l - (a + 1)) (a + 1) rfl
  have hln2 := (kuq_len (t := t) (e := kre t n l) (q := kch t (kre t n l) a) (kre t n l - (a + 1)) (a + 1) rfl)
  rw [hb] at hbr hln2
  have hl2 := hln2.2 (by omega)
  have hm : 53 ≤ 53 ∧ 53 ≤ 57 := by omega
  obtain ⟨⟨r1, r2, r3, r4, r5, r6⟩, ra, rb, rc, rd, re⟩ := R
  obtain ⟨⟨w1, w2, w3⟩, wa, wb, wc, wd⟩ := W
  obtain ⟨cs, hcs⟩ : ∃ cs, cs = kuq t (kre t n l) (kch t (kre t n l) a) (a + 1) := ⟨_, rfl⟩
  rw [← hcs] at hln2 hl2
  have hbg : ∀ k x : Int, kR 1 62 (blk 62 0) (kent 62 [.ref 54, .int (Int32.ofInt k), .long (Int64.ofInt x), .int (Int32.ofInt ((o : Int) + 1))]) [] (sz, hp 57 E (ku S 53 2 (b : Int))) (fun r => r = (.inl (some (.int (Int32.ofInt (c : Int)))), (sz, hp 57 E (kbeg (ku S 53 2 (b : Int)) k x c)))) := fun k x => c_62g (S := ku S 53 2 (b : Int)) (by exact r1) (by omega) (by omega) (by exact wd) (by omega)
  have hBc : ∀ (k x : Int) (j : Nat), (j ≠ 20 ∧ j ≠ 21 ∧ j ≠ 22 ∧ j ≠ 23 ∧ j ≠ 24 ∧ j ≠ 25 ∧ j ≠ 54 ∧ j ≠ 55) → kbeg (ku S 53 2 (b : Int)) k x c j = ku S 53 2 (b : Int) j := fun k x j hj => kbeg_cell hj
  have hBt : ∀ k x, kCt (kbeg (ku S 53 2 (b : Int)) k x c) t n L := fun k x => by
    unfold kCt
    rw [hBc k x 1 (by decide), hBc k x 2 (by decide), hBc k x 3 (by decide), hBc k x 4 (by decide), hBc k x 5 (by decide), hBc k x 6 (by decide)]
    exact hC
  have hBe : ∀ k x, kbeg (ku S 53 2 (b : Int)) k x c 53 3 = (kre t n l : Int) := fun k x => by rw [hBc k x 53 (by decide)]; exact c3
  have hBu : ∀ k x, kbeg (ku S 53 2 (b : Int)) k x c 20 7 = (u : Int) := fun k x => by rw [(kbeg_ns (S := ku S 53 2 (b : Int)) (k := k) (z := x) (c := c)).2.1]; exact r3
  have k80 := c_80 (S := ku S 53 2 (b : Int)) (sz := sz) (E := E) hX (by exact hC) (by exact c3) hen hae hb (v := c) (u := u) hg.1 hbg hBt hBe hBu (by rw [← hcs]; omega)
  rw [← hcs] at k80
  have kcls := c_77g hX hC c3 hen c2 q7 hb (by omega) k80
  have k128 := c_128 (S := ku (ku (kqb T cs) 30 19 0) 30 21 (b : Int)) (E := E) (sz := szT) (m := 53) (cs := cs) (u := u) hm ⟨by show ((cs.length : Nat) : Int) = ((0 + cs.length : Nat) : Int); omega, fun j hj => by show (if 0 + j < cs.length then cs.getD (0 + j) 0 else _) = _; rw [if_pos (by omega), Nat.zero_add]⟩ (by exact r2) (by omega) (by exact q4) (by omega) (by show -1 ≤ T 30 26 ∧ T 30 26 < 26; rw [← re]; exact wd) hg (by exact r4) (by omega) (by omega) rfl
  have kref : ∀ v1 v2, _ := fun v1 v2 => l_140q (S := T) (E := E) (sz := szT) hm hX hR m3 hen m4 q7 hqu q3 (by rw [hb]; omega) (v1 := v1) (v2 := v2) (by rw [← hcs, hb]; exact kR.up k128 (by decide))
  exact sim_str (T2 := ku (ku (kqb T cs) 30 19 0) 30 21 (b : Int)) hX A0 hg (by omega) (by omega) (fun x hx => kuq_rng hX hen (kre t n l - (a + 1)) (a + 1) rfl x (by rw [← hcs]; exact hx)) (by omega) ⟨fun j h1 h2 h3 => by show (if j = 21 then _ else (if j = 19 then _ else (if j = 34 then _ else T 30 j))) = _; rw [if_neg h1, if_neg h2, if_neg h3], rfl, rfl, fun d h1 h2 => by unfold kqb ku; show (if d = 30 then _ else (if d = 30 then _ else (if d = 47 then _ else (if d = 30 then _ else T d)))) = T d; rw [if_neg h1, if_neg h1, if_neg h2, if_neg h1]⟩ kcls kref
theorem kR.ex {D y : Nat} {cs : List kI} {ls st : List Value} {h : kH} {α : Type} {P : α → kO × kH → Prop} (k : kR D y cs ls st h (fun r => ∃ x, P x r)) : ∃ x, kR D y cs ls st h (P x) := by
  obtain ⟨m, r, h1, x, h2⟩ := k
  exact ⟨x, m, r, h1, h2⟩
/-- the reference's value, behind the naming, goes wrong -/
def kUb (szT : Nat × Nat) (E : Nat → kC) (T : Nat → Nat → Int) : Prop := ∃ T', kR 5 140 (b140_0.drop 3) [.ref 30, kun, kun] [] (szT, hp 53 E T) (fun r => r = (.inl none, (szT, hp 53 E T'))) ∧ T' 30 19 = 1 ∧ kFt T T'
theorem ref_noplain (hX : kTx t n L) (A : kAt S T t n L l a o c u e) (n42 : ¬ kch t (kre t n l) a = 42) (n91 : ¬ kch t (kre t n l) a = 91) (n123 : ¬ kch t (kre t n l) a = 123) (nqu : kqu (kch t (kre t n l) a) = 0) (hbad : kpl t (kre t n l) a = 0 ∨ kcol t (kre t n l) (kins T o) (kst t (kre t n l) (kins T o) a) = 1) : kUb szT E T := by
  obtain ⟨hl, ⟨hC, c1, c2, c3⟩, ⟨hR, m1, m2, m3, m4⟩, R, W, ⟨g1, g2, g3⟩, q3, q4, q5, q6, q7, q8⟩ := A
  have hln := hX.ln hl
  obtain ⟨z, hz⟩ := kR.ex (l_140p2 (S := T) (E := E) (sz := szT) (m := 53) ⟨by omega, by omega⟩ hX hR m3 (by omega) m4 q7 n42 n91 n123 nqu q4 (by omega) g3 q3 (by rcases hbad with h | h; exact Or.inl h; exact Or.inr (Or.inr h)) (v1 := kun) (v2 := kun))
  exact ⟨_, hz, rfl, (((kFt.rf.w (by decide)).w (by decide)).w (by decide)).w (by decide)⟩
theorem ref_noquote (hX : kTx t n L) (A : kAt S T t n L l a o c u e) (hqu : kqu (kch t (kre t n l) a) = 1) (hb : kbq t (kre t n l) (kch t (kre t n l) a) (a + 1) = -1) : kUb szT E T := by
  obtain ⟨hl, ⟨hC, c1, c2, c3⟩, ⟨hR, m1, m2, m3, m4⟩, R, W, ⟨g1, g2, g3⟩, q3, q4, q5, q6, q7, q8⟩ := A
  have hln := hX.ln hl
  exact ⟨_, l_140q2 (S := T) (E := E) (sz := szT) (m := 53) ⟨by omega, by omega⟩ hX hR m3 (by omega) m4 q7 hqu q3 hb, rfl, ((((kFt.rf.qb).w (by decide)).w (by decide)).w (by decide)).w (by decide)⟩
/-- no node more can be made -/
theorem ref_mk_bad {T2 : Nat → Nat → Int} (hc : T2 30 8 = (c : Int)) (hcl : c ≤ 60) (ho : T2 30 29 = (o : Int)) (hol : o ≤ 9) (hg : ¬ (c < 60 ∧ o ≤ 7)) (k : Int) : kR 0 110 (blk 110 0) (kent 110 [.ref 30, .int (Int32.ofInt k)]) [] (szT, hp 53 E T2) (fun r => r = (.inl (some (.int (Int32.ofInt ((0 : Nat) : Int)))), (szT, hp 53 E (ku T2 30 19 1)))) := c_110b ⟨by omega, by omega⟩ hc hcl ho hol hg
theorem ref_badplain (hX : kTx t n L) (A : kAt S T t n L l a o c u e) (n42 : ¬ kch t (kre t n l) a = 42) (n91 : ¬ kch t (kre t n l) a = 91) (n123 : ¬ kch t (kre t n l) a = 123) (nqu : kqu (kch t (kre t n l) a) = 0) (hpl : kpl t (kre t n l) a = 1) (hcl : kcol t (kre t n l) (kins T o) (kst t (kre t n l) (kins T o) a) = 0) (hg : ¬ (c < 60 ∧ o ≤ 7)) : kUb szT E T := by
  obtain ⟨hl, ⟨hC, c1, c2, c3⟩, ⟨hR, m1, m2, m3, m4⟩, R, W, ⟨g1, g2, g3⟩, q3, q4, q5, q6, q7, q8⟩ := A
  have hln := hX.ln hl
  have hx1 := hX.1
  have hen : kre t n l ≤ n := by omega
  obtain ⟨k1, k2, k3⟩ := kst_gt (i := kins T o) hX hen hpl
  have hse := kst_e t (kre t n l) (kins T o) a q7
  obtain ⟨z, hz⟩ : ∃ z, z = kst t (kre t n l) (kins T o) a := ⟨_, rfl⟩
  rw [← hz] at k1 hse hcl
  obtain ⟨⟨r1, r2, r3, r4, r5, r6⟩, ra, rb, rc, rd, re⟩ := R
  obtain ⟨⟨w1, w2, w3⟩, wa, wb, wc, wd⟩ := W
  have k125 := c_125 (S := ku (ku T 30 21 (z : Int)) 30 19 0) (E := E) (sz := szT) (m := 53) ⟨by omega, by omega⟩ hX (by exact hR) k3 k1 (by omega) (Mk := fun _ => ku (ku (ku T 30 21 (z : Int)) 30 19 0) 30 19 1) (v := 0) (u := u) (w := 1) (by decide) (Or.inr rfl) (fun k => ref_mk_bad (by exact r2) w1 (by exact q4) (by omega) hg k) (fun k => by exact hR) (fun k => rfl) (by exact r4) (by omega)
  have kref := l_140p (S := T) (E := E) (sz := szT) (m := 53) ⟨by omega, by omega⟩ hX hR m3 hen m4 q7 n42 n91 n123 nqu q4 (by omega) g3 q3 hpl (by rw [← hz]; omega) (by rw [← hz]; exact hcl) (v1 := kun) (v2 := kun) (by rw [← hz]; exact k125)
  have hF0 : kFt T (ku (ku (ku T 30 21 (z : Int)) 30 19 0) 30 19 1) := ((kFt.rf.w (by decide)).w (by decide)).w (by decide)
  have hkf : a < kb (fun i => decide (t i = 32)) a z := by
    rcases Nat.lt_or_ge a (kb (fun i => decide (t i = 32)) a z) with h | h
    · exact h
    · exact absurd (of_decide_eq_true (kb_in (p := fun i => decide (t i = 32)) (lo := a) (hi := z) (i := a) (by omega) h (by omega))) k3
  have hkb := kb_rng (p := fun i => decide (t i = 32)) (lo := a) (hi := z) (by omega)
  refine ⟨_, kref, ?_, ?_⟩
  · rcases kpl_eq hX hen hkf (by omega : kb (fun i => decide (t i = 32)) a z ≤ kre t n l) (fun _ _ => S) (fun _ => ku (ku (ku T 30 21 (z : Int)) 30 19 0) 30 19 1) 0 u 0 u 1 with ⟨k, x, hk, hx2, hx3, e1, e2⟩ | ⟨e1, e2⟩
    · rw [e2]
      split <;> rfl
    · rw [e2]
      rfl
  · rcases kpl_eq hX hen hkf (by omega : kb (fun i => decide (t i = 32)) a z ≤ kre t n l) (fun _ _ => S) (fun _ => ku (ku (ku T 30 21 (z : Int)) 30 19 0) 30 19 1) 0 u 0 u 1 with ⟨k, x, hk, hx2, hx3, e1, e2⟩ | ⟨e1, e2⟩
    · rw [e2]
      split
      · exact (hF0.w (by decide)).w (by decide)
      · exact ((hF0.a (by decide)).w (by decide)).w (by decide)
    · rw [e2, if_pos rfl]
      exact (hF0.w (by decide)).w (by decide)
theorem ref_badquote (hX : kTx t n L) (A : kAt S T t n L l a o c u e) (hqu : kqu (kch t (kre t n l) a) = 1) {b : Nat} (hb : kbq t (kre t n l) (kch t (kre t n l) a) (a + 1) = (b : Int)) (hg : ¬ (c < 60 ∧ o ≤ 7)) : kUb szT E T := by
  obtain ⟨hl, ⟨hC, c1, c2, c3⟩, ⟨hR, m1, m2, m3, m4⟩, R, W, ⟨g1, g2, g3⟩, q3, q4, q5, q6, q7, q8⟩ := A
  have hln := hX.ln hl
  have hx1 := hX.1
  obtain ⟨⟨r1, r2, r3, r4, r5, r6⟩, ra, rb, rc, rd, re⟩ := R
  obtain ⟨⟨w1, w2, w3⟩, wa, wb, wc, wd⟩ := W
  have hlen := (kuq_len (t := t) (e := kre t n l) (q := kch t (kre t n l) a) (kre t n l - (a + 1)) (a + 1) rfl).1
  have k128 := c_128b (S := ku (ku (kqb T (kuq t (kre t n l) (kch t (kre t n l) a) (a + 1))) 30 19 0) 30 21 (b : Int)) (E := E) (sz := szT) (m := 53) ⟨by omega, by omega⟩ (by exact r2) w1 (by exact q4) (by omega) hg (z := (kuq t (kre t n l) (kch t (kre t n l) a) (a + 1)).length) rfl (by omega)
  have kref := l_140q (S := T) (E := E) (sz := szT) (m := 53) ⟨by omega, by omega⟩ hX hR m3 (by omega) m4 q7 hqu q3 (by rw [hb]; omega) (v1 := kun) (v2 := kun) (by rw [hb]; exact kR.up k128 (by decide))
  exact ⟨_, kref, rfl, ((((((kFt.rf.qb).w (by decide)).w (by decide)).w (by decide)).w (by decide))).w (by decide)⟩
end KSQ
