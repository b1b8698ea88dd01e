/-! A key in brackets, side by side: both. -/
section KSK3
variable {sz szT : Nat × Nat} {E : Nat → kC} {x1 : Int} {S T : Nat → Nat → Int} {t : Nat → Int} {n L l a o c u e : Nat}
theorem kck_q {e z : Nat} {i : Int} (hqu : kqu (kch t e a) = 1) (hz : kck t e i a = (z : Int)) : kbq t e (kch t e a) (a + 1) = (z : Int) ∧ kcol t e i z = 1 := by
  unfold kck at hz
  rw [if_pos hqu] at hz
  by_cases h : 0 ≤ kbq t e (kch t e a) (a + 1) ∧ kcol t e i (kbq t e (kch t e a) (a + 1)).toNat = 1
  · rw [if_pos h] at hz
    refine ⟨hz, ?_⟩
    have h2 := h.2
    rw [hz] at h2
    exact h2
  · rw [if_neg h] at hz
    omega
theorem kck_p {e z : Nat} {i : Int} (hqu : kqu (kch t e a) = 0) (hz : kck t e i a = (z : Int)) : kpl t e a = 1 ∧ kst t e i a = z ∧ kcol t e i z = 1 := by
  unfold kck at hz
  rw [if_neg (by omega)] at hz
  by_cases h : kpl t e a = 1 ∧ kcol t e i (kst t e i a) = 1
  · rw [if_pos h] at hz
    have h3 : kst t e i a = z := by omega
    exact ⟨h.1, h3, by rw [← h3]; exact h.2⟩
  · rw [if_neg h] at hz
    omega
theorem kck_qn {e : Nat} {i : Int} (hqu : kqu (kch t e a) = 1) (hz : kck t e i a = -1) : kbq t e (kch t e a) (a + 1) = -1 ∨ ∃ z : Nat, kbq t e (kch t e a) (a + 1) = (z : Int) ∧ kcol t e i z = 0 := by
  have hbr := kbq_rng (t := t) (e := e) (q := kch t e a) (e - (a + 1)) (a + 1) rfl
  unfold kck at hz
  rw [if_pos hqu] at hz
  rcases hbr with hbr | hbr
  · exact Or.inl hbr
  · refine Or.inr ⟨(kbq t e (kch t e a) (a + 1)).toNat, by omega, ?_⟩
    have ho := kcol_o t e i (kbq t e (kch t e a) (a + 1)).toNat
    by_cases h : 0 ≤ kbq t e (kch t e a) (a + 1) ∧ kcol t e i (kbq t e (kch t e a) (a + 1)).toNat = 1
    · rw [if_pos h] at hz
      omega
    · have h1 : ¬ kcol t e i (kbq t e (kch t e a) (a + 1)).toNat = 1 := fun z => h ⟨by omega, z⟩
      rcases ho with ho | ho
      · exact absurd ho.1 h1
      · exact ho.1
theorem kck_pn {e : Nat} {i : Int} (hqu : kqu (kch t e a) = 0) (hz : kck t e i a = -1) : kpl t e a = 0 ∨ kpl t e a = 1 ∧ kcol t e i (kst t e i a) = 0 := by
  unfold kck at hz
  rw [if_neg (by omega)] at hz
  have h1 := kpl_o t e a
  have ho := kcol_o t e i (kst t e i a)
  by_cases h : kpl t e a = 1 ∧ kcol t e i (kst t e i a) = 1
  · rw [if_pos h] at hz
    omega
  · rcases h1 with h1 | h1
    · rcases ho with ho | ho
      · exact absurd ⟨h1.1, ho.1⟩ h
      · exact Or.inr ⟨h1.1, ho.1⟩
    · exact Or.inl h1.1
theorem kqu_10 (x : Int) : kqu x = 1 ∨ kqu x = 0 := by have := kqu_o x; omega
theorem kck_rng (hX : kTx t n L) {e : Nat} (hen : e ≤ n) {i : Int} : kck t e i a = -1 ∨ ∃ z : Nat, kck t e i a = (z : Int) ∧ z < e ∧ a < z := by
  by_cases h : kck t e i a = -1
  · exact Or.inl h
  · refine Or.inr ?_
    rcases kqu_10 (kch t e a) with hq | hq
    · have hbr := kbq_rng (t := t) (e := e) (q := kch t e a) (e - (a + 1)) (a + 1) rfl
      have h2 : kck t e i a = kbq t e (kch t e a) (a + 1) ∧ 0 ≤ kbq t e (kch t e a) (a + 1) := by
        unfold kck at h ⊢
        rw [if_pos hq] at h ⊢
        split
        · rename_i h2
          exact ⟨rfl, h2.1⟩
        · rename_i h2
          rw [if_neg h2] at h
          exact absurd rfl h
      obtain ⟨z, hz⟩ : ∃ z : Nat, kck t e i a = (z : Int) := ⟨(kck t e i a).toNat, by omega⟩
      obtain ⟨y1, y2⟩ := kck_q hq hz
      have hco := kcol_o t e i z
      exact ⟨z, hz, kch_lt (t := t) (by omega), by omega⟩
    · have h2 : ∃ z : Nat, kck t e i a = (z : Int) := by
        unfold kck at h ⊢
        rw [if_neg (by omega)] at h ⊢
        split
        · exact ⟨_, rfl⟩
        · rename_i h2
          rw [if_neg h2] at h
          exact absurd rfl h
      obtain ⟨z, hz⟩ := h2
      obtain ⟨y1, y2, y3⟩ := kck_p hq hz
      have hco := kcol_o t e i z
      have hgt := (kst_gt (i := i) hX hen y1).1
      exact ⟨z, hz, kch_lt (t := t) (by omega), by omega⟩
/-- the class: a key is read -/
theorem clk_q {z : Nat} {i : Int} (hi : i = 0 ∨ i = 1) {cs : List Int} (hX : kTx t n L) (hl : l < L) (hCu : kCu S t n L l a) (q7 : a ≤ kre t n l) (r1 : S 20 5 = (c : Int)) (w1 : c ≤ 60) (r3 : S 20 7 = (u : Int)) (hua : u ≤ a + 1) (wd : -1 ≤ S 54 3 ∧ S 54 3 < 26) (q5 : o ≤ 8) (hWd : kWrd E) (hg : c < 60 ∧ o ≤ 7) (hqu : kqu (kch t (kre t n l) a) = 1) (hz : kck t (kre t n l) i a = (z : Int)) (hcs : cs = kuq t (kre t n l) (kch t (kre t n l) a) (a + 1)) : kR 8 74 (blk 74 0) (kent 74 [.ref 54, .int (Int32.ofInt ((o : Int) + 1)), .int (Int32.ofInt i)]) [] (sz, hp 57 E S) (fun r => r = (.inl (some (.int (Int32.ofInt (c : Int)))), (sz, hp 57 E (kapl c cs u (kbeg (ku S 53 2 ((z + 1 : Nat) : Int)) 3 0 c))))) := by
  obtain ⟨hC, c1, c2, c3⟩ := hCu
  have hln := hX.ln hl
  have hx1 := hX.1
  have hen : kre t n l ≤ n := by omega
  obtain ⟨hb, hcl⟩ := kck_q hqu hz
  have hqo := kqu_o (kch t (kre t n l) a)
  have hae : a < kre t n l := kch_lt (t := t) (by omega)
  have hco := kcol_o t (kre t n l) i z
  have hze : z < kre t n l := kch_lt (t := t) (by omega)
  have hln2 := (kuq_len (t := t) (e := kre t n l) (q := kch t (kre t n l) a) (kre t n l - (a + 1)) (a + 1) rfl)
  rw [hb] at hln2
  have hl2 := hln2.2 (by omega)
  rw [← hcs] at hln2 hl2
  have hbg : ∀ k x : Int, kR 1 62 (blk 62 0) (kent 62 [.ref 54, .int (Int32.ofInt k), .long (Int64.ofInt x), .int (Int32.ofInt ((o : Int) + 1))]) [] (sz, hp 57 E (ku S 53 2 ((z + 1 : Nat) : Int))) (fun r => r = (.inl (some (.int (Int32.ofInt (c : Int)))), (sz, hp 57 E (kbeg (ku S 53 2 ((z + 1 : Nat) : Int)) k x c)))) := fun k x => c_62g (S := ku S 53 2 ((z + 1 : Nat) : Int)) (by exact r1) (by omega) (by omega) (by exact wd) (by omega)
  have hBc : ∀ (k x : Int) (j : Nat), (j ≠ 20 ∧ j ≠ 21 ∧ j ≠ 22 ∧ j ≠ 23 ∧ j ≠ 24 ∧ j ≠ 25 ∧ j ≠ 54 ∧ j ≠ 55) → kbeg (ku S 53 2 ((z + 1 : Nat) : Int)) k x c j = ku S 53 2 ((z + 1 : Nat) : Int) j := fun k x j hj => kbeg_cell hj
  have hBt : ∀ k x, kCt (kbeg (ku S 53 2 ((z + 1 : Nat) : Int)) k x c) t n L := fun k x => by
    unfold kCt
    rw [hBc k x 1 (by decide), hBc k x 2 (by decide), hBc k x 3 (by decide), hBc k x 4 (by decide), hBc k x 5 (by decide), hBc k x 6 (by decide)]
    exact hC
  have hBe : ∀ k x, kbeg (ku S 53 2 ((z + 1 : Nat) : Int)) k x c 53 3 = (kre t n l : Int) := fun k x => by rw [hBc k x 53 (by decide)]; exact c3
  have hBu : ∀ k x, kbeg (ku S 53 2 ((z + 1 : Nat) : Int)) k x c 20 7 = (u : Int) := fun k x => by rw [(kbeg_ns (S := ku S 53 2 ((z + 1 : Nat) : Int)) (k := k) (z := x) (c := c)).2.1]; exact r3
  have k80 := c_80 (S := ku S 53 2 ((z + 1 : Nat) : Int)) (sz := sz) (E := E) hX (by exact hC) (by exact c3) hen hae hb (v := c) (u := u) hg.1 hbg hBt hBe hBu (by rw [← hcs]; omega)
  rw [← hcs] at k80
  exact c_74q hX hC c3 hen c2 q7 hi hWd.2.2.2.1 hz (by omega) hqu k80
theorem cls_keyq {z : Nat} {i : Int} (hi : i = 0 ∨ i = 1) {cs : List Int} (hX : kTx t n L) (A : kAt S T t n L l a o c u e) (hWd : kWrd E) (hg : c < 60 ∧ o ≤ 7) (hqu : kqu (kch t (kre t n l) a) = 1) (hz : kck t (kre t n l) i a = (z : Int)) (hcs : cs = kuq t (kre t n l) (kch t (kre t n l) a) (a + 1)) : kR 8 74 (blk 74 0) (kent 74 [.ref 54, .int (Int32.ofInt ((o : Int) + 1)), .int (Int32.ofInt i)]) [] (sz, hp 57 E S) (fun r => r = (.inl (some (.int (Int32.ofInt (c : Int)))), (sz, hp 57 E (kapl c cs u (kbeg (ku S 53 2 ((z + 1 : Nat) : Int)) 3 0 c))))) := by
  obtain ⟨hl, hCu, _, ⟨⟨r1, r2, r3, r4, r5, r6⟩, _⟩, ⟨⟨w1, w2, w3⟩, wa, wb, wc, wd⟩, _, q3, q4, q5, q6, q7, q8⟩ := A
  exact clk_q hi hX hl hCu q7 r1 w1 r3 (by omega) wd q5 hWd hg hqu hz hcs
theorem clk_p {z g : Nat} {i : Int} (hi : i = 0 ∨ i = 1) (hX : kTx t n L) (hl : l < L) (hCu : kCu S t n L l a) (q7 : a ≤ kre t n l) (r1 : S 20 5 = (c : Int)) (w1 : c ≤ 60) (r3 : S 20 7 = (u : Int)) (hua : u ≤ a + 1) (wd : -1 ≤ S 54 3 ∧ S 54 3 < 26) (q5 : o ≤ 8) (hWd : kWrd E) (hg : c < 60 ∧ o ≤ 7) (hqu : kqu (kch t (kre t n l) a) = 0) (hz : kck t (kre t n l) i a = (z : Int)) (hgd : g = kb (fun i => decide (t i = 32)) a z) : kR 8 74 (blk 74 0) (kent 74 [.ref 54, .int (Int32.ofInt ((o : Int) + 1)), .int (Int32.ofInt i)]) [] (sz, hp 57 E S) (fun r => r = (.inl (some (.int (Int32.ofInt (c : Int)))), (sz, hp 57 E (kplc t (kre t n l) (fun k x => kbeg (ku S 53 2 ((z + 1 : Nat) : Int)) k x c) c u a g)))) := by
  obtain ⟨hC, c1, c2, c3⟩ := hCu
  have hln := hX.ln hl
  have hx1 := hX.1
  have hen : kre t n l ≤ n := by omega
  obtain ⟨hpl, hst, hcl⟩ := kck_p hqu hz
  obtain ⟨k1, k2, k3⟩ := kst_gt (i := i) hX hen hpl
  rw [hst] at k1
  have hco := kcol_o t (kre t n l) i z
  have hze : z < kre t n l := kch_lt (t := t) (by omega)
  have hbg : ∀ k x : Int, kR 1 62 (blk 62 0) (kent 62 [.ref 54, .int (Int32.ofInt k), .long (Int64.ofInt x), .int (Int32.ofInt ((o : Int) + 1))]) [] (sz, hp 57 E (ku S 53 2 ((z + 1 : Nat) : Int))) (fun r => r = (.inl (some (.int (Int32.ofInt (c : Int)))), (sz, hp 57 E (kbeg (ku S 53 2 ((z + 1 : Nat) : Int)) k x c)))) := fun k x => c_62g (S := ku S 53 2 ((z + 1 : Nat) : Int)) (by exact r1) (by omega) (by omega) (by exact wd) (by omega)
  have hBc : ∀ (k x : Int) (j : Nat), (j ≠ 20 ∧ j ≠ 21 ∧ j ≠ 22 ∧ j ≠ 23 ∧ j ≠ 24 ∧ j ≠ 25 ∧ j ≠ 54 ∧ j ≠ 55) → kbeg (ku S 53 2 ((z + 1 : Nat) : Int)) k x c j = ku S 53 2 ((z + 1 : Nat) : Int) j := fun k x j hj => kbeg_cell hj
  have hBt : ∀ k x, kCt (kbeg (ku S 53 2 ((z + 1 : Nat) : Int)) k x c) t n L := fun k x => by
    unfold kCt
    rw [hBc k x 1 (by decide), hBc k x 2 (by decide), hBc k x 3 (by decide), hBc k x 4 (by decide), hBc k x 5 (by decide), hBc k x 6 (by decide)]
    exact hC
  have hBe : ∀ k x, kbeg (ku S 53 2 ((z + 1 : Nat) : Int)) k x c 53 3 = (kre t n l : Int) := fun k x => by rw [hBc k x 53 (by decide)]; exact c3
  have hBu : ∀ k x, kbeg (ku S 53 2 ((z + 1 : Nat) : Int)) k x c 20 7 = (u : Int) := fun k x => by rw [(kbeg_ns (S := ku S 53 2 ((z + 1 : Nat) : Int)) (k := k) (z := x) (c := c)).2.1]; exact r3
  have k83 := c_83 (S := ku S 53 2 ((z + 1 : Nat) : Int)) (sz := sz) (E := E) hX (by exact hC) (by exact c3) hen k3 k1 (by omega) (v := c) (u := u) hg.1 hbg hBt hBe hBu (by omega) hWd
  rw [← hgd] at k83
  exact c_74p hX hC c3 hen c2 q7 hi hWd.2.2.2.1 hz (by omega) hqu k83
theorem cls_keyp {z g : Nat} {i : Int} (hi : i = 0 ∨ i = 1) (hX : kTx t n L) (A : kAt S T t n L l a o c u e) (hWd : kWrd E) (hg : c < 60 ∧ o ≤ 7) (hqu : kqu (kch t (kre t n l) a) = 0) (hz : kck t (kre t n l) i a = (z : Int)) (hgd : g = kb (fun i => decide (t i = 32)) a z) : kR 8 74 (blk 74 0) (kent 74 [.ref 54, .int (Int32.ofInt ((o : Int) + 1)), .int (Int32.ofInt i)]) [] (sz, hp 57 E S) (fun r => r = (.inl (some (.int (Int32.ofInt (c : Int)))), (sz, hp 57 E (kplc t (kre t n l) (fun k x => kbeg (ku S 53 2 ((z + 1 : Nat) : Int)) k x c) c u a g)))) := by
  obtain ⟨hl, hCu, _, ⟨⟨r1, r2, r3, r4, r5, r6⟩, _⟩, ⟨⟨w1, w2, w3⟩, wa, wb, wc, wd⟩, _, q3, q4, q5, q6, q7, q8⟩ := A
  exact clk_p hi hX hl hCu q7 r1 w1 r3 (by omega) wd q5 hWd hg hqu hz hgd
theorem clk_full {z : Nat} {i : Int} (hi : i = 0 ∨ i = 1) (hX : kTx t n L) (hl : l < L) (hCu : kCu S t n L l a) (q7 : a ≤ kre t n l) (r1 : S 20 5 = (c : Int)) (w1 : c ≤ 60) (r3 : S 20 7 = (u : Int)) (hua : u ≤ a + 1) (wd : -1 ≤ S 54 3 ∧ S 54 3 < 26) (q5 : o ≤ 8) (hWd : kWrd E) (hg : ¬ (c < 60 ∧ o ≤ 7)) (hz : kck t (kre t n l) i a = (z : Int)) : kR 8 74 (blk 74 0) (kent 74 [.ref 54, .int (Int32.ofInt ((o : Int) + 1)), .int (Int32.ofInt i)]) [] (sz, hp 57 E S) (fun r => r = (.inr sz.1, knew (sz, hp 57 E (ku S 53 2 ((z : Int) + 1))) 30 6 (fun _ => .null))) := by
  obtain ⟨hC, c1, c2, c3⟩ := hCu
  have hln := hX.ln hl
  have hx1 := hX.1
  have hen : kre t n l ≤ n := by omega
  have hbg : ∀ k x : Int, kR 1 62 (blk 62 0) (kent 62 [.ref 54, .int (Int32.ofInt k), .long (Int64.ofInt x), .int (Int32.ofInt ((o : Int) + 1))]) [] (sz, hp 57 E (ku S 53 2 ((z : Int) + 1))) (fun r => r = (.inr sz.1, knew (sz, hp 57 E (ku S 53 2 ((z : Int) + 1))) 30 6 (fun _ => .null))) := fun k x => c_62b (S := ku S 53 2 ((z : Int) + 1)) (by exact r1) (by omega) (by omega) (by exact wd) (by omega)
  have hco := kcol_o t (kre t n l) i z
  rcases kqu_10 (kch t (kre t n l) a) with hqu | hqu
  · obtain ⟨hb, hcl⟩ := kck_q hqu hz
    have hze : z < kre t n l := kch_lt (t := t) (by omega)
    have hqo := kqu_o (kch t (kre t n l) a)
    have hae : a < kre t n l := kch_lt (t := t) (by omega)
    exact c_74qt hX hC c3 hen c2 q7 hi hWd.2.2.2.1 hz (by omega) hqu (c_80b (S := ku S 53 2 ((z : Int) + 1)) hX (by exact hC) (by exact c3) hen hae hbg)
  · obtain ⟨hpl, hst, hcl⟩ := kck_p hqu hz
    have hze : z < kre t n l := kch_lt (t := t) (by omega)
    obtain ⟨k1, k2, k3⟩ := kst_gt (i := i) hX hen hpl
    rw [hst] at k1
    exact c_74pt hX hC c3 hen c2 q7 hi hWd.2.2.2.1 hz (by omega) hqu (c_83b (S := ku S 53 2 ((z : Int) + 1)) hX (by exact hC) (by exact c3) hen k3 k1 (by omega) hbg hWd)
theorem cls_keyfull {z : Nat} {i : Int} (hi : i = 0 ∨ i = 1) (hX : kTx t n L) (A : kAt S T t n L l a o c u e) (hWd : kWrd E) (hg : ¬ (c < 60 ∧ o ≤ 7)) (hz : kck t (kre t n l) i a = (z : Int)) : kR 8 74 (blk 74 0) (kent 74 [.ref 54, .int (Int32.ofInt ((o : Int) + 1)), .int (Int32.ofInt i)]) [] (sz, hp 57 E S) (fun r => r = (.inr sz.1, knew (sz, hp 57 E (ku S 53 2 ((z : Int) + 1))) 30 6 (fun _ => .null))) := by
  obtain ⟨hl, hCu, _, ⟨⟨r1, r2, r3, r4, r5, r6⟩, _⟩, ⟨⟨w1, w2, w3⟩, wa, wb, wc, wd⟩, _, q3, q4, q5, q6, q7, q8⟩ := A
  exact clk_full hi hX hl hCu q7 r1 w1 r3 (by omega) wd q5 hWd hg hz
theorem sim_key {c0 z : Nat} (hX : kTx t n L) (A : kAt S T t n L l a o c u e) (hWd : kWrd E) (hg : c < 60 ∧ o ≤ 7) (ho : 1 ≤ o) (h44 : T 44 (o - 1) = (c0 : Int)) (h5 : S 21 c0 = 5) (hc0 : c0 < c) (hz : kck t (kre t n l) 1 a = (z : Int)) : ∃ (Y X : Nat → Nat → Int) (h : Int), h = khk (Y 21) (Y 23) (Y 22) (Y 24) (Y 26) (Y 27) (Y 28) e (c0 : Int) c ∧ kR 8 74 (blk 74 0) (kent 74 [.ref 54, .int (Int32.ofInt ((o : Int) + 1)), .int (Int32.ofInt 1)]) [] (sz, hp 57 E S) (fun r => r = (.inl (some (.int (Int32.ofInt (c : Int)))), (sz, hp 57 E Y))) ∧ kLk S T Y X t n L l o c e (z + 1) ∧ kMk szT E T (kMid X o c h z (kw (fun i => decide (t i = 32)) (kre t n l) (z + 1))) t (kre t n l) z (kw (fun i => decide (t i = 32)) (kre t n l) (z + 1)) h := by
  rcases kqu_10 (kch t (kre t n l) a) with hqu | hqu
  · obtain ⟨hb, hcl⟩ := kck_q hqu hz
    have hco := kcol_o t (kre t n l) 1 z
    exact ⟨_, _, _, rfl, cls_keyq (Or.inr rfl) hX A hWd hg hqu hz rfl, refk_q hX A hg ho h44 h5 hc0 hqu hb (by omega) rfl rfl rfl rfl⟩
  · obtain ⟨hpl, hst, hcl⟩ := kck_p hqu hz
    exact ⟨_, _, _, rfl, cls_keyp (Or.inr rfl) hX A hWd hg hqu hz rfl, refk_p hX A hg ho h44 h5 hc0 hqu hpl hst hcl rfl rfl rfl rfl⟩
theorem kFt.mid {X : Nat → Nat → Int} {h : Int} {z P : Nat} (f : kFt T X) : kFt T (kMid X o c h z P) := (((f.a (by decide)).w (by decide)).w (by decide)).w (by decide)
theorem ref_keyfull {z : Nat} (hX : kTx t n L) (A : kAt S T t n L l a o c u e) (hg : ¬ (c < 60 ∧ o ≤ 7)) (hqu : kqu (kch t (kre t n l) a) = 1) (hb : kbq t (kre t n l) (kch t (kre t n l) a) (a + 1) = (z : Int)) (h58 : kch t (kre t n l) z = 58) : kKb szT E T := by
  obtain ⟨hl, ⟨hC, c1, c2, c3⟩, ⟨hR, m1, m2, m3, m4⟩, R, W, ⟨g1, g2, g3⟩, q3, q4, q5, q6, q7, q8⟩ := A
  have hln := hX.ln hl
  have hx1 := hX.1
  obtain ⟨⟨r1, r2, r3, r4, r5, r6⟩, ra, rb, rc, rd, re⟩ := R
  obtain ⟨⟨w1, w2, w3⟩, wa, wb, wc, wd⟩ := W
  have hze : z < kre t n l := kch_lt (t := t) (by rw [h58]; decide)
  have hlen := (kuq_len (t := t) (e := kre t n l) (q := kch t (kre t n l) a) (kre t n l - (a + 1)) (a + 1) rfl).1
  have k128 := c_128b (S := ku (kqb T (kuq t (kre t n l) (kch t (kre t n l) a) (a + 1))) 30 21 (z : Int)) (E := E) (sz := szT) (m := 53) ⟨by omega, by omega⟩ (by exact r2) w1 (by exact q4) (by omega) hg (z := (kuq t (kre t n l) (kch t (kre t n l) a) (a + 1)).length) rfl (by omega)
  exact ⟨_, c_141q_w (S := T) (E := E) (sz := szT) (m := 53) ⟨by omega, by omega⟩ hX hR m3 (by omega) m4 q7 hqu hb (by omega) h58 (kR.up k128 (by decide)) rfl, rfl, ((kFt.rf.qb).w (by decide)).w (by decide)⟩
theorem ref_keyfullp {z : Nat} (hX : kTx t n L) (A : kAt S T t n L l a o c u e) (hg : ¬ (c < 60 ∧ o ≤ 7)) (hqu : kqu (kch t (kre t n l) a) = 0) (hpl : kpl t (kre t n l) a = 1) (hst : kst t (kre t n l) 1 a = z) (hcl : kcol t (kre t n l) 1 z = 1) : kKb szT E T := by
  obtain ⟨hl, ⟨hC, c1, c2, c3⟩, ⟨hR, m1, m2, m3, m4⟩, R, W, ⟨g1, g2, g3⟩, q3, q4, q5, q6, q7, q8⟩ := A
  have hln := hX.ln hl
  have hx1 := hX.1
  have hen : kre t n l ≤ n := by omega
  obtain ⟨⟨r1, r2, r3, r4, r5, r6⟩, ra, rb, rc, rd, re⟩ := R
  obtain ⟨⟨w1, w2, w3⟩, wa, wb, wc, wd⟩ := W
  obtain ⟨k1, k2, k3⟩ := kst_gt (i := 1) hX hen hpl
  rw [hst] at k1
  have hco := kcol_o t (kre t n l) 1 z
  have hze : z < kre t n l := kch_lt (t := t) (by omega)
  have hkf : a < kb (fun i => decide (t i = 32)) a z := by
    rcases Nat.lt_or_ge a (kb (fun i => decide (t i = 32)) a z) with h | h
    · exact h
    · exact absurd (of_decide_eq_true (kb_in (p := fun i => decide (t i = 32)) (lo := a) (hi := z) (i := a) (by omega) h (by omega))) k3
  have hkb := kb_rng (p := fun i => decide (t i = 32)) (lo := a) (hi := z) (by omega)
  have k125 := c_125 (S := ku T 30 21 (z : Int)) (E := E) (sz := szT) (m := 53) ⟨by omega, by omega⟩ hX (by exact hR) k3 k1 (by omega) (Mk := fun _ => ku (ku T 30 21 (z : Int)) 30 19 1) (v := 0) (u := u) (w := 1) (by decide) (Or.inr rfl) (fun k => ref_mk_bad (by exact r2) w1 (by exact q4) (by omega) hg k) (fun k => by exact hR) (fun k => rfl) (by exact r4) (by omega)
  have hF0 : kFt T (ku (ku T 30 21 (z : Int)) 30 19 1) := (kFt.rf.w (by decide)).w (by decide)
  have key : kplm t (fun _ => ku (ku T 30 21 (z : Int)) 30 19 1) 0 u 1 a (kb (fun i => decide (t i = 32)) a z) 30 19 = 1 ∧ kFt T (kplm t (fun _ => ku (ku T 30 21 (z : Int)) 30 19 1) 0 u 1 a (kb (fun i => decide (t i = 32)) a z)) := by
    rcases kpl_eq hX hen hkf (by omega : kb (fun i => decide (t i = 32)) a z ≤ kre t n l) (fun _ _ => S) (fun _ => ku (ku T 30 21 (z : Int)) 30 19 1) 0 u 0 u 1 with ⟨k, x, hk, hx2, hx3, e1, e2⟩ | ⟨e1, e2⟩
    · rw [e2]
      split
      · exact ⟨rfl, hF0⟩
      · exact ⟨rfl, hF0.a (by decide)⟩
    · rw [e2, if_pos rfl]
      exact ⟨rfl, hF0⟩
  exact ⟨_, c_141p_w (S := T) (E := E) (sz := szT) (m := 53) ⟨by omega, by omega⟩ hX hR m3 hen m4 q7 hqu hpl hst (by omega) hcl k125 key.1, key.1, key.2⟩
theorem key_full {z : Nat} (hX : kTx t n L) (A : kAt S T t n L l a o c u e) (hg : ¬ (c < 60 ∧ o ≤ 7)) (hz : kck t (kre t n l) 1 a = (z : Int)) : kKb szT E T := by
  rcases kqu_10 (kch t (kre t n l) a) with hqu | hqu
  · obtain ⟨hb, hcl⟩ := kck_q hqu hz
    have hco := kcol_o t (kre t n l) 1 z
    exact ref_keyfull hX A hg hqu hb (by omega)
  · obtain ⟨hpl, hst, hcl⟩ := kck_p hqu hz
    exact ref_keyfullp hX A hg hqu hpl hst hcl
theorem key_none {c0 : Nat} (hX : kTx t n L) (A : kAt S T t n L l a o c u e) (ho : 1 ≤ o) (h44 : T 44 (o - 1) = (c0 : Int)) (h5 : S 21 c0 = 5) (hc0 : c0 < c) (hz : kck t (kre t n l) 1 a = -1) : kKb szT E T := by
  have A0 := A
  obtain ⟨hl, ⟨hC, c1, c2, c3⟩, ⟨hR, m1, m2, m3, m4⟩, R, W, ⟨g1, g2, g3⟩, q3, q4, q5, q6, q7, q8⟩ := A
  have hln := hX.ln hl
  have hx1 := hX.1
  have hen : kre t n l ≤ n := by omega
  have hm : 53 ≤ 53 ∧ 53 ≤ 57 := by omega
  rcases kqu_10 (kch t (kre t n l) a) with hqu | hqu
  · rcases kck_qn hqu hz with hb | ⟨z, hb, hcl⟩
    · exact ⟨_, c_141_2 (S := T) (E := E) (sz := szT) hm hX hR m3 hen m4 q7 hqu hb, rfl, ((kFt.rf.qb).w (by decide)).w (by decide)⟩
    · have hbr := kbq_rng (t := t) (e := kre t n l) (q := kch t (kre t n l) a) (kre t n l - (a + 1)) (a + 1) rfl
      rw [hb] at hbr
      by_cases h58 : kch t (kre t n l) z = 58
      · by_cases hg : c < 60 ∧ o ≤ 7
        · obtain ⟨K, M1, M2⟩ := refk_q (szT := szT) (E := E) (P := kw (fun i => decide (t i = 32)) (kre t n l) (z + 1)) hX A0 hg ho h44 h5 hc0 hqu hb h58 rfl rfl rfl rfl
          have hze : z < kre t n l := kch_lt (t := t) (by rw [h58]; decide)
          have hco := kcol_o t (kre t n l) 1 z
          have hgo := kgap_o t (kre t n l) (z + 1)
          have hbo := kbk_o (kch t (kre t n l) (z + 1))
          have hz1 : z + 1 < kre t n l ∧ ¬ t (z + 1) = 32 ∧ kbk (kch t (kre t n l) (z + 1)) = 0 := by omega
          have hPe : kw (fun i => decide (t i = 32)) (kre t n l) (z + 1) = z + 1 := kw_no (Or.inr (decide_eq_false hz1.2.1))
          have hne : ¬ (kch t (kre t n l) (z + 1) = 44 ∨ kch t (kre t n l) (z + 1) = 125) := by omega
          have hn32 : ¬ kch t (kre t n l) (z + 1) = 32 := by rw [kch_in hz1.1]; exact hz1.2.1
          have w := M2 (by rw [hPe]; exact hne)
          rw [if_pos (Or.inr hn32)] at w
          exact ⟨_, w, rfl, ((kFt.mid K.2.2.2.2.2.1).w (by decide)).w (by decide)⟩
        · exact ref_keyfull hX A0 hg hqu hb h58
      · exact ⟨_, c_141_3 (S := T) (E := E) (sz := szT) hm hX hR m3 hen m4 q7 hqu hb (by omega) h58, rfl, ((kFt.rf.qb).w (by decide)).w (by decide)⟩
  · rcases kck_pn hqu hz with hb | ⟨hpl, hcl⟩
    · exact ⟨_, c_141_1 (S := T) (E := E) (sz := szT) hm hX hR m3 hen m4 q7 hqu hb, rfl, ((kFt.rf).w (by decide)).w (by decide)⟩
    · exact ⟨_, c_141_5 (S := T) (E := E) (sz := szT) hm hX hR m3 hen m4 q7 hqu hpl hcl, rfl, ((kFt.rf).w (by decide)).w (by decide)⟩
end KSK3
