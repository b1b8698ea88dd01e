/-! A key in lines, side by side. -/
section KKL
variable {sz szT : Nat × Nat} {E : Nat → kC} {x1 : Int} {S B : Nat → Nat → Int} {t : Nat → Int} {n L l a o c u e : Nat}
theorem sim_lkey {c0 z P : Nat} (hX : kTx t n L) (hWd : kWrd E) (hCu : kCu S t n L l a) (A : kAt (ku S 53 2 ((a + 1 : Nat) : Int)) (ku B 30 21 ((a + 1 : Nat) : Int)) t n L l (a + 1) o c u e) (h21 : B 30 21 = (a : Int)) (hqb : kqu (kch t (kre t n l) a) = 1 → kQb B 0 (kuq t (kre t n l) (kch t (kre t n l) a) (a + 1))) (hg : c < 60 ∧ o ≤ 7) (ho : 1 ≤ o) (h44 : B 44 (o - 1) = (c0 : Int)) (h5 : S 21 c0 = 5) (hc0 : c0 < c) (hz : kck t (kre t n l) 0 a = (z : Int)) (hP : P = kw (fun i => decide (t i = 32)) (kre t n l) (z + 1)) : ∃ (Y X : Nat → Nat → Int) (h : Int), h = khk (Y 21) (Y 23) (Y 22) (Y 24) (Y 26) (Y 27) (Y 28) e (c0 : Int) c ∧ kR 8 74 (blk 74 0) (kent 74 [.ref 54, .int (Int32.ofInt ((o : Int) + 1)), .int (Int32.ofInt 0)]) [] (sz, hp 57 E S) (fun r => r = (.inl (some (.int (Int32.ofInt (c : Int)))), (sz, hp 57 E Y))) ∧ kLk (ku S 53 2 ((a + 1 : Nat) : Int)) (ku B 30 21 ((a + 1 : Nat) : Int)) Y X t n L l o c e (z + 1) ∧ kR 4 133 (blk 133 0) (kent 133 [.ref 30, .int (Int32.ofInt (z : Int))]) [] (szT, hp 53 E B) (fun r => r = (.inl none, (szT, hp 53 E (ku (kMid X o c h z P) 30 20 1)))) := by
  have A0 := A
  obtain ⟨hl, ⟨hC, c1, c2, c3⟩, ⟨hR, m1, m2, m3, m4⟩, ⟨⟨r1, r2, r3, r4, r5, r6⟩, ra, rb, rc, rd, re⟩, ⟨⟨w1, w2, w3⟩, wa, wb, wc, wd⟩, ⟨g1, g2, g3⟩, q3, q4, q5, q6, q7, q8⟩ := A
  have hln := hX.ln hl
  have hx1 := hX.1
  have hen : kre t n l ≤ n := by omega
  have hm : 53 ≤ 53 ∧ 53 ≤ 57 := by omega
  have hTb : (∀ j, j ≠ 21 → j ≠ 34 → B 30 j = ku B 30 21 ((a + 1 : Nat) : Int) 30 j) ∧ (∀ b, b ≠ 30 → b ≠ 47 → B b = ku B 30 21 ((a + 1 : Nat) : Int) b) := ⟨fun j h1 _ => by show _ = (if j = 21 then _ else B 30 j); rw [if_neg h1], fun b h1 _ => (if_neg h1).symm⟩
  have hwb : -1 ≤ B 30 26 ∧ B 30 26 < 26 := by
    have e26 : S 54 3 = B 30 26 := re
    rw [← e26]
    exact wd
  have hfin : ∀ (Y X : Nat → Nat → Int), kLk (ku S 53 2 ((a + 1 : Nat) : Int)) (ku B 30 21 ((a + 1 : Nat) : Int)) Y X t n L l o c e (z + 1) → kR 1 115 (blk 115 0) (kent 115 [.ref 30, .int (Int32.ofInt (c : Int))]) [] (szT, hp 53 E X) (fun r => r = (.inl none, (szT, hp 53 E (ku (ku X 46 (o - 1) (c : Int)) 30 19 (khk (Y 21) (Y 23) (Y 22) (Y 24) (Y 26) (Y 27) (Y 28) e (c0 : Int) c))))) := fun Y X K => by
    obtain ⟨⟨u', K1⟩, K2, K3, K4, K5, K6, K7, K8, K9, K10, K11⟩ := K
    exact kAt.setKey (E := E) (szT := szT) (X := X) (c0 := c0) hX (by exact K1) ho (by rw [(K7.1 (o - 1) (by omega)).2.1]; exact h44) (by rw [K2.1 c0 hc0]; exact h5) hc0 K4
  have hco := kcol_o t (kre t n l) 0 z
  rcases kqu_10 (kch t (kre t n l) a) with hqu | hqu
  · obtain ⟨hb, hcl⟩ := kck_q hqu hz
    have hqo := kqu_o (kch t (kre t n l) a)
    have hae : a < kre t n l := kch_lt (t := t) (by omega)
    have hze : z < kre t n l := kch_lt (t := t) (by omega)
    have hln2 := (kuq_len (t := t) (e := kre t n l) (q := kch t (kre t n l) a) (kre t n l - (a + 1)) (a + 1) rfl)
    rw [hb] at hln2
    have hl2 := hln2.2 (by omega)
    have hqb := hqb hqu
    have hrng := kuq_rng (q := kch t (kre t n l) a) hX hen (kre t n l - (a + 1)) (a + 1) rfl
    have kcls := clk_q (sz := sz) (E := E) (i := 0) (Or.inl rfl) hX hl hCu (by omega) (by exact r1) w1 (by exact r3) (by omega) (by exact wd) q5 hWd hg hqu hz rfl
    obtain ⟨cs, hcs⟩ : ∃ cs, cs = kuq t (kre t n l) (kch t (kre t n l) a) (a + 1) := ⟨_, rfl⟩
    rw [← hcs] at hln2 hl2 hqb hrng kcls
    have K := key_str (Tb := B) (cs := cs) (a' := z + 1) hX A0 hg.1 hTb hrng (by omega) (by omega) (by omega)
    rw [kuku] at K
    have k128 := c_128 (S := B) (E := E) (sz := szT) (m := 53) (cs := cs) (u := u) hm hqb (by exact r2) (by omega) (by exact q4) (by omega) hwb hg (by exact r4) (by omega) (by omega) (by exact q3)
    have k115 := hfin _ _ K
    refine ⟨_, _, _, rfl, kcls, K, ?_⟩
    rw [hP]
    exact c_133q (S := B) (E := E) (sz := szT) hm hX (by exact hR) (by exact m3) hen h21 (by omega) (by omega) hqu (kR.up k128 (by decide)) K.2.2.2.2.2.2.2.1 k115 (by exact K.2.2.2.2.2.2.2.2.1) (K.2.2.2.2.2.2.2.2.2.1.trans (by exact m3))
  · obtain ⟨hpl, hst, hcl⟩ := kck_p hqu hz
    have hze : z < kre t n l := kch_lt (t := t) (by omega)
    obtain ⟨k1, k2, k3⟩ := kst_gt (i := 0) hX hen hpl
    rw [hst] at k1
    have hkb := kb_rng (p := fun i => decide (t i = 32)) (lo := a) (hi := z) (by omega)
    have hkf : a < kb (fun i => decide (t i = 32)) a z := by
      rcases Nat.lt_or_ge a (kb (fun i => decide (t i = 32)) a z) with h | h
      · exact h
      · exact absurd (of_decide_eq_true (kb_in (p := fun i => decide (t i = 32)) (lo := a) (hi := z) (i := a) (by omega) h (by omega))) k3
    have kcls := clk_p (sz := sz) (E := E) (i := 0) (Or.inl rfl) hX hl hCu (by omega) (by exact r1) w1 (by exact r3) (by omega) (by exact wd) q5 hWd hg hqu hz rfl
    have hmk : ∀ k : Int, kR 0 110 (blk 110 0) (kent 110 [.ref 30, .int (Int32.ofInt k)]) [] (szT, hp 53 E B) (fun r => r = (.inl (some (.int (Int32.ofInt (c : Int)))), (szT, hp 53 E (kmk B k c)))) := fun k => c_110 (S := B) hm (by exact r2) (by omega) (by exact q4) (by omega) hwb hg
    have k125 := c_125 (S := B) (E := E) (sz := szT) hm hX (by exact hR) k3 k1 (by omega) (Mk := fun k => kmk B k c) (v := c) (u := u) (w := 0) hg.1 (Or.inl rfl) hmk (fun k => kRt.mk (by exact hR) k c) (fun k => by rw [kmk_30 (by decide) (by decide)]; exact q3) (by rw [kmk_30 (by decide) (by decide)]; exact r4) (by omega)
    obtain ⟨g, hgd⟩ : ∃ g, g = kb (fun i => decide (t i = 32)) a z := ⟨_, rfl⟩
    rw [← hgd] at hkb hkf kcls k125
    have K : kLk (ku S 53 2 ((a + 1 : Nat) : Int)) (ku B 30 21 ((a + 1 : Nat) : Int)) (kplc t (kre t n l) (fun k x => kbeg (ku S 53 2 ((z + 1 : Nat) : Int)) k x c) c u a g) (kplm t (fun k => kmk B k c) c u 0 a g) t n L l o c e (z + 1) := by
      rcases kpl_eq hX hen hkf (by omega : g ≤ kre t n l) (fun k x => kbeg (ku S 53 2 ((z + 1 : Nat) : Int)) k x c) (fun k => kmk B k c) c u c u 0 with ⟨k, x, hk, hx2, hx3, e1, e2⟩ | ⟨e1, e2⟩
      · rw [e1, e2]
        have z1 := key_node (Tb := B) (X4 := if k = 0 then kmk B 0 c else ku (kmk B k c) 35 c x) (a' := z + 1) A0 hg.1 hTb hk ⟨hx2, hx3⟩ rfl (by omega) (by omega)
        rw [kuku] at z1
        exact z1
      · rw [e1, e2, if_neg (by decide)]
        have hlen : (ksl t a g).length = g - a := kslh_len _ _ _
        have z1 := key_str (Tb := B) (cs := ksl t a g) (a' := z + 1) hX A0 hg.1 hTb (fun x hx => by
          obtain ⟨i, h1, h2⟩ := kslh_mem _ _ _ hx
          rw [h2]
          exact hX.2.1 _ (by omega)) (by omega) (by omega) (by omega)
        rw [kuku] at z1
        exact z1
    have k115 := hfin _ _ K
    refine ⟨_, _, _, rfl, kcls, K, ?_⟩
    rw [hP]
    exact c_133p (S := B) (E := E) (sz := szT) hm hX (by exact hR) (by exact m3) hen h21 (by omega) (by omega) hqu k125 K.2.2.2.2.2.2.2.1 k115 (by exact K.2.2.2.2.2.2.2.2.1) (K.2.2.2.2.2.2.2.2.2.1.trans (by exact m3))
/-- no room for a key -/
theorem ref_ent_full {z : Nat} (hX : kTx t n L) (A : kAt (ku S 53 2 ((a + 1 : Nat) : Int)) (ku B 30 21 ((a + 1 : Nat) : Int)) t n L l (a + 1) o c u e) (h21 : B 30 21 = (a : Int)) (hqb : kqu (kch t (kre t n l) a) = 1 → kQb B 0 (kuq t (kre t n l) (kch t (kre t n l) a) (a + 1))) (hg : ¬ (c < 60 ∧ o ≤ 7)) (hz : kck t (kre t n l) 0 a = (z : Int)) : ∃ X5, kR 4 133 (blk 133 0) (kent 133 [.ref 30, .int (Int32.ofInt (z : Int))]) [] (szT, hp 53 E B) (fun r => r = (.inl none, (szT, hp 53 E X5))) ∧ X5 30 19 = 1 ∧ kFt B X5 := by
  obtain ⟨hl, ⟨hC, c1, c2, c3⟩, ⟨hR, m1, m2, m3, m4⟩, ⟨⟨r1, r2, r3, r4, r5, r6⟩, ra, rb, rc, rd, re⟩, ⟨⟨w1, w2, w3⟩, wa, wb, wc, wd⟩, ⟨g1, g2, g3⟩, q3, q4, q5, q6, q7, q8⟩ := A
  have hln := hX.ln hl
  have hx1 := hX.1
  have hen : kre t n l ≤ n := by omega
  have hm : 53 ≤ 53 ∧ 53 ≤ 57 := by omega
  have hco := kcol_o t (kre t n l) 0 z
  have hF0 : kFt B (ku B 30 19 1) := kFt.rf.w (by decide)
  rcases kqu_10 (kch t (kre t n l) a) with hqu | hqu
  · obtain ⟨hb, hcl⟩ := kck_q hqu hz
    have hze : z < kre t n l := kch_lt (t := t) (by omega)
    have hlen := (kuq_len (t := t) (e := kre t n l) (q := kch t (kre t n l) a) (kre t n l - (a + 1)) (a + 1) rfl).1
    have h34 := (hqb hqu).1
    rw [Nat.zero_add] at h34
    have k128 := c_128b (S := B) (E := E) (sz := szT) (m := 53) hm (by exact r2) w1 (by exact q4) (by omega) hg h34 (by omega)
    exact ⟨_, c_133qb (S := B) (E := E) (sz := szT) hm hX (by exact hR) (by exact m3) hen h21 (by omega) (z := z) (by omega) hqu (kR.up k128 (by decide)) rfl rfl (by exact hR) (by exact m3), rfl, ((hF0.w (by decide)).w (by decide)).w (by decide)⟩
  · obtain ⟨hpl, hst, hcl⟩ := kck_p hqu hz
    have hze : z < kre t n l := kch_lt (t := t) (by omega)
    obtain ⟨k1, k2, k3⟩ := kst_gt (i := 0) hX hen hpl
    rw [hst] at k1
    have hkb := kb_rng (p := fun i => decide (t i = 32)) (lo := a) (hi := z) (by omega)
    have hkf : a < kb (fun i => decide (t i = 32)) a z := by
      rcases Nat.lt_or_ge a (kb (fun i => decide (t i = 32)) a z) with h | h
      · exact h
      · exact absurd (of_decide_eq_true (kb_in (p := fun i => decide (t i = 32)) (lo := a) (hi := z) (i := a) (by omega) h (by omega))) k3
    have k125 := c_125 (S := B) (E := E) (sz := szT) (m := 53) hm hX (by exact hR) k3 k1 (by omega) (Mk := fun _ => ku B 30 19 1) (v := 0) (u := u) (w := 1) (by decide) (Or.inr rfl) (fun k => ref_mk_bad (by exact r2) w1 (by exact q4) (by omega) hg k) (fun k => by exact hR) (fun k => rfl) (by exact r4) (by omega)
    have key : kplm t (fun _ => ku B 30 19 1) 0 u 1 a (kb (fun i => decide (t i = 32)) a z) 30 19 = 1 ∧ kRt (kplm t (fun _ => ku B 30 19 1) 0 u 1 a (kb (fun i => decide (t i = 32)) a z)) t n ∧ kplm t (fun _ => ku B 30 19 1) 0 u 1 a (kb (fun i => decide (t i = 32)) a z) 30 23 = (kre t n l : Int) ∧ kFt B (kplm t (fun _ => ku B 30 19 1) 0 u 1 a (kb (fun i => decide (t i = 32)) a z)) := by
      rcases kpl_eq hX hen hkf (by omega : kb (fun i => decide (t i = 32)) a z ≤ kre t n l) (fun _ _ => S) (fun _ => ku B 30 19 1) 0 u 0 u 1 with ⟨k, x, hk, hx2, hx3, e1, e2⟩ | ⟨e1, e2⟩
      · rw [e2]
        split
        · exact ⟨rfl, by exact hR, by exact m3, hF0⟩
        · exact ⟨rfl, by exact hR, by exact m3, hF0.a (by decide)⟩
      · rw [e2, if_pos rfl]
        exact ⟨rfl, by exact hR, by exact m3, hF0⟩
    exact ⟨_, c_133pb (S := B) (E := E) (sz := szT) hm hX (by exact hR) (by exact m3) hen h21 (by omega) (z := z) (by omega) hqu k125 key.1 rfl key.2.1 key.2.2.1, key.1, ((key.2.2.2.w (by decide)).w (by decide)).w (by decide)⟩
/-- the dash of a row is no key -/
theorem dash_nokey (hX : kTx t n L) {r : Nat} (hr : r ≤ n) (hda : kdash t r a = 1) : kck t r 0 a = -1 := by
  have hdo := kdash_o t r a
  have hqo := kqu_o (kch t r a)
  have hpo := kpl_o t r a
  rcases kck_rng (a := a) (e := r) (i := 0) hX hr with h | ⟨z, h, _, _⟩
  · exact h
  · have := (kck_p (by omega) h).1
    omega
end KKL
