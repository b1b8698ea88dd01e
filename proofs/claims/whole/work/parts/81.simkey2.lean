/-! A key in brackets, side by side. -/
/-- what the reference's step at a key gives -/
def kMk (szT : Nat × Nat) (E : Nat → kC) (T M : Nat → Nat → Int) (t : Nat → Int) (e z P : Nat) (h : Int) : Prop := ((kch t e P = 44 ∨ kch t e P = 125) → ∀ (X7 : Nat → Nat → Int) (v0 : Int), kR 0 110 (blk 110 0) (kent 110 [.ref 30, .int (Int32.ofInt 0)]) [] (szT, hp 53 E M) (fun r => r = (.inl (some (.int (Int32.ofInt v0))), (szT, hp 53 E X7))) → kR 5 141 (blk 141 0) (kent 141 [.ref 30]) [] (szT, hp 53 E T) (fun r => r = (.inl none, (szT, hp 53 E (ku (ku X7 30 27 v0) 30 20 4))))) ∧ (¬ (kch t e P = 44 ∨ kch t e P = 125) → kR 5 141 (blk 141 0) (kent 141 [.ref 30]) [] (szT, hp 53 E T) (fun r => r = (.inl none, (szT, hp 53 E (ku (ku M 30 19 (if h = 1 ∨ ¬ kch t e (z + 1) = 32 then 1 else 0)) 30 20 2)))))
/-- the reference's step at a key goes wrong -/
def kKb (szT : Nat × Nat) (E : Nat → kC) (T : Nat → Nat → Int) : Prop := ∃ T', kR 5 141 (blk 141 0) (kent 141 [.ref 30]) [] (szT, hp 53 E T) (fun r => r = (.inl none, (szT, hp 53 E T'))) ∧ T' 30 19 = 1 ∧ kFt T T'
theorem khk_01 (K N Z B C O Y : Nat → Int) (n : Nat) (t : Int) (b : Nat) : khk K N Z B C O Y n t b = 0 ∨ khk K N Z B C O Y n t b = 1 := by
  unfold khk
  split
  · exact Or.inr rfl
  · exact Or.inl rfl
section KSK2
variable {sz szT : Nat × Nat} {E : Nat → kC} {x1 : Int} {S T : Nat → Nat → Int} {t : Nat → Int} {n L l a o c u e : Nat}
/-- the state behind a key, at P -/
def kMid (X : Nat → Nat → Int) (o c : Nat) (h : Int) (z P : Nat) : Nat → Nat → Int := ku (ku (ku (ku X 46 (o - 1) (c : Int)) 30 19 h) 30 21 ((z : Int) + 1)) 30 21 (P : Int)
theorem kAt.mid {Y X : Nat → Nat → Int} {z P : Nat} {h : Int} (A : kAt Y (ku X 30 21 ((z + 1 : Nat) : Int)) t n L l (z + 1) o (c + 1) u e) (h1 : z + 1 ≤ P) (h2 : P ≤ kre t n l) : kAt (ku Y 53 2 (P : Int)) (ku (kMid X o c h z P) 30 19 0) t n L l P o (c + 1) u e := by
  obtain ⟨hl, ⟨hC, c1, c2, c3⟩, ⟨hR, m1, m2, m3, m4⟩, R, W, G, q3, q4, q5, q6, q7, q8⟩ := A
  exact ⟨hl, ⟨hC, c1, rfl, c3⟩, ⟨hR, m1, m2, m3, rfl⟩, R, W, G, rfl, q4, q5, by omega, h2, q8⟩
theorem refk_q {c0 z P : Nat} {cs : List Int} {h : Int} (hX : kTx t n L) (A : kAt S T t n L l a o c u e) (hg : c < 60 ∧ o ≤ 7) (ho : 1 ≤ o) (h44 : T 44 (o - 1) = (c0 : Int)) (h5 : S 21 c0 = 5) (hc0 : c0 < c) (hqu : kqu (kch t (kre t n l) a) = 1) (hb : kbq t (kre t n l) (kch t (kre t n l) a) (a + 1) = (z : Int)) (h58 : kch t (kre t n l) z = 58) (hcs : cs = kuq t (kre t n l) (kch t (kre t n l) a) (a + 1)) (hP : P = kw (fun i => decide (t i = 32)) (kre t n l) (z + 1)) {Y : Nat → Nat → Int} (hY : Y = kapl c cs u (kbeg (ku S 53 2 ((z + 1 : Nat) : Int)) 3 0 c)) (hh : h = khk (Y 21) (Y 23) (Y 22) (Y 24) (Y 26) (Y 27) (Y 28) e (c0 : Int) c) : kLk S T Y (kspl c cs u (kmk (ku (kqb T cs) 30 21 (z : Int)) 3 c)) t n L l o c e (z + 1) ∧ kMk szT E T (kMid (kspl c cs u (kmk (ku (kqb T cs) 30 21 (z : Int)) 3 c)) o c h z P) t (kre t n l) z P h := by
  have A0 := A
  obtain ⟨hl, ⟨hC, c1, c2, c3⟩, ⟨hR, m1, m2, m3, m4⟩, R, W, ⟨g1, g2, g3⟩, q3, q4, q5, q6, q7, q8⟩ := A
  have hln := hX.ln hl
  have hx1 := hX.1
  have hen : kre t n l ≤ n := by omega
  have hqo := kqu_o (kch t (kre t n l) a)
  have hae : a < kre t n l := kch_lt (t := t) (by omega)
  have hze : z < kre t n l := kch_lt (t := t) (by rw [h58]; decide)
  have hbr := kbq_rng (t := t) (e := kre t n l) (q := kch t (kre t n l) a) (kre t n l - (a + 1)) (a + 1) rfl
  have hln2 := (kuq_len (t := t) (e := kre t n l) (q := kch t (kre t n l) a) (kre t n l - (a + 1)) (a + 1) rfl)
  rw [hb] at hbr hln2
  have hl2 := hln2.2 (by omega)
  rw [← hcs] at hln2 hl2
  have hm : 53 ≤ 53 ∧ 53 ≤ 57 := by omega
  obtain ⟨⟨r1, r2, r3, r4, r5, r6⟩, ra, rb, rc, rd, re⟩ := R
  obtain ⟨⟨w1, w2, w3⟩, wa, wb, wc, wd⟩ := W
  have K := key_str (Tb := ku (kqb T cs) 30 21 (z : Int)) (cs := cs) (a' := z + 1) hX A0 hg.1 ⟨fun j h1 h3 => by show (if j = 21 then _ else (if j = 34 then _ else T 30 j)) = _; rw [if_neg h1, if_neg h3], fun d h1 h2 => by unfold kqb ku; show (if d = 30 then _ else (if d = 47 then _ else (if d = 30 then _ else T d))) = T d; rw [if_neg h1, if_neg h2, if_neg h1]⟩ (fun x hx => kuq_rng hX hen (kre t n l - (a + 1)) (a + 1) rfl x (by rw [← hcs]; exact hx)) (by omega) (by omega) (by omega)
  rw [← hY] at K
  refine ⟨K, ?_⟩
  obtain ⟨⟨u', K1⟩, K2, K3, K4, K5, K6, K7, K8, K9, K10, K11⟩ := K
  have k128 := c_128 (S := ku (kqb T cs) 30 21 (z : Int)) (E := E) (sz := szT) (m := 53) (cs := cs) (u := u) hm ⟨by show ((cs.length : Nat) : Int) = ((0 + cs.length : Nat) : Int); omega, fun j hj => by show (if 0 + j < cs.length then cs.getD (0 + j) 0 else _) = _; rw [if_pos (by omega), Nat.zero_add]⟩ (by exact r2) (by omega) (by exact q4) (by omega) (by show -1 ≤ T 30 26 ∧ T 30 26 < 26; rw [← re]; exact wd) hg (by exact r4) (by omega) (by omega) (by exact q3)
  obtain ⟨X4, hX4⟩ : ∃ X4, X4 = kspl c cs u (kmk (ku (kqb T cs) 30 21 (z : Int)) 3 c) := ⟨_, rfl⟩
  have h21z : X4 30 21 = (z : Int) := by
    rw [hX4, kspl_30 (by rw [kmk_30 (by decide) (by decide)]; exact r4) (by decide), kmk_30 (by decide) (by decide)]
    rfl
  rw [← hX4] at k128 K1 K6 K7 K8 K9 K10 K11 ⊢
  have k115 := kAt.setKey (E := E) (szT := szT) (X := X4) (c0 := c0) hX (by exact K1) ho (by rw [(K7.1 (o - 1) (by omega)).2.1]; exact h44) (by rw [K2.1 c0 hc0]; exact h5) hc0 K4
  rw [← hh] at k115
  have h01 : h = 0 ∨ h = 1 := by rw [hh]; exact khk_01 _ _ _ _ _ _ _ _ _ _
  subst hcs
  subst hP
  refine ⟨fun hce X7 v0 hmk => ?_, fun hce => ?_⟩
  · exact c_141q_e (S := T) (E := E) (sz := szT) hm hX hR m3 hen m4 q7 hqu hb (by omega) h58 (kR.up k128 (by decide)) K8 k115 (by exact K9) (by show X4 30 23 = _; rw [K10]; exact m3) (by exact h21z) rfl hce hmk
  · rcases h01 with h0 | h0
    · rw [h0] at k115 ⊢
      exact c_141q_v0 (S := T) (E := E) (sz := szT) hm hX hR m3 hen m4 q7 hqu hb (by omega) h58 (kR.up k128 (by decide)) K8 k115 (by exact K9) (by show X4 30 23 = _; rw [K10]; exact m3) (by exact h21z) rfl hce
    · rw [h0] at k115 ⊢
      exact c_141q_v1 (S := T) (E := E) (sz := szT) hm hX hR m3 hen m4 q7 hqu hb (by omega) h58 (kR.up k128 (by decide)) K8 k115 (by exact K9) (by show X4 30 23 = _; rw [K10]; exact m3) (by exact h21z) rfl hce
theorem refk_p {c0 z P g : Nat} {h : Int} (hX : kTx t n L) (A : kAt S T t n L l a o c u e) (hg : c < 60 ∧ o ≤ 7) (ho : 1 ≤ o) (h44 : T 44 (o - 1) = (c0 : Int)) (h5 : S 21 c0 = 5) (hc0 : c0 < c) (hqu : kqu (kch t (kre t n l) a) = 0) (hpl : kpl t (kre t n l) a = 1) (hz : kst t (kre t n l) 1 a = z) (hcl : kcol t (kre t n l) 1 z = 1) (hP : P = kw (fun i => decide (t i = 32)) (kre t n l) (z + 1)) (hgd : g = kb (fun i => decide (t i = 32)) a z) {Y : Nat → Nat → Int} (hY : Y = kplc t (kre t n l) (fun k x => kbeg (ku S 53 2 ((z + 1 : Nat) : Int)) k x c) c u a g) (hh : h = khk (Y 21) (Y 23) (Y 22) (Y 24) (Y 26) (Y 27) (Y 28) e (c0 : Int) c) : kLk S T Y (kplm t (fun k => kmk (ku T 30 21 (z : Int)) k c) c u 0 a g) t n L l o c e (z + 1) ∧ kMk szT E T (kMid (kplm t (fun k => kmk (ku T 30 21 (z : Int)) k c) c u 0 a g) o c h z P) t (kre t n l) z P h := by
  have A0 := A
  obtain ⟨hl, ⟨hC, c1, c2, c3⟩, ⟨hR, m1, m2, m3, m4⟩, R, W, ⟨g1, g2, g3⟩, q3, q4, q5, q6, q7, q8⟩ := A
  have hln := hX.ln hl
  have hx1 := hX.1
  have hen : kre t n l ≤ n := by omega
  obtain ⟨k1, k2, k3⟩ := kst_gt (i := 1) hX hen hpl
  rw [hz] at k1
  have hco := kcol_o t (kre t n l) 1 z
  have h58 : kch t (kre t n l) z = 58 := by omega
  have hze : z < kre t n l := kch_lt (t := t) (by rw [h58]; decide)
  have hm : 53 ≤ 53 ∧ 53 ≤ 57 := by omega
  obtain ⟨⟨r1, r2, r3, r4, r5, r6⟩, ra, rb, rc, rd, re⟩ := R
  obtain ⟨⟨w1, w2, w3⟩, wa, wb, wc, wd⟩ := W
  have hkb := kb_rng (p := fun i => decide (t i = 32)) (lo := a) (hi := z) (by omega)
  have hkf : a < kb (fun i => decide (t i = 32)) a z := by
    rcases Nat.lt_or_ge a (kb (fun i => decide (t i = 32)) a z) with h | h
    · exact h
    · exact absurd (of_decide_eq_true (kb_in (p := fun i => decide (t i = 32)) (lo := a) (hi := z) (i := a) (by omega) h (by omega))) k3
  rw [← hgd] at hkb hkf
  have hTb : (∀ j, j ≠ 21 → j ≠ 34 → ku T 30 21 (z : Int) 30 j = T 30 j) ∧ (∀ b, b ≠ 30 → b ≠ 47 → ku T 30 21 (z : Int) b = T b) := ⟨fun j h1 _ => by show (if j = 21 then _ else T 30 j) = _; rw [if_neg h1], fun b h1 _ => if_neg h1⟩
  have hmk : ∀ k : Int, kR 0 110 (blk 110 0) (kent 110 [.ref 30, .int (Int32.ofInt k)]) [] (szT, hp 53 E (ku T 30 21 (z : Int))) (fun r => r = (.inl (some (.int (Int32.ofInt (c : Int)))), (szT, hp 53 E (kmk (ku T 30 21 (z : Int)) k c)))) := fun k => c_110 (S := ku T 30 21 (z : Int)) hm (by exact r2) (by omega) (by exact q4) (by omega) (by show -1 ≤ T 30 26 ∧ T 30 26 < 26; rw [← re]; exact wd) hg
  have k125 := c_125 (S := ku T 30 21 (z : Int)) (E := E) (sz := szT) hm hX (by exact hR) k3 k1 (by omega) (Mk := fun k => kmk (ku T 30 21 (z : Int)) k c) (v := c) (u := u) (w := 0) hg.1 (Or.inl rfl) hmk (fun k => kRt.mk (by exact hR) k c) (fun k => by rw [kmk_30 (by decide) (by decide)]; exact q3) (by rw [kmk_30 (by decide) (by decide)]; exact r4) (by omega)
  rw [← hgd] at k125
  obtain ⟨X4, hX4⟩ : ∃ X4, X4 = kplm t (fun k => kmk (ku T 30 21 (z : Int)) k c) c u 0 a g := ⟨_, rfl⟩
  have K : kLk S T Y X4 t n L l o c e (z + 1) ∧ X4 30 21 = (z : Int) := by
    rcases kpl_eq hX hen hkf (by omega : g ≤ kre t n l) (fun k x => kbeg (ku S 53 2 ((z + 1 : Nat) : Int)) k x c) (fun k => kmk (ku T 30 21 (z : Int)) k c) c u c u 0 with ⟨k, x, hk, hx2, hx3, e1, e2⟩ | ⟨e1, e2⟩
    · rw [e1] at hY
      rw [e2] at hX4
      rw [hY]
      refine ⟨key_node A0 hg.1 hTb hk ⟨hx2, hx3⟩ hX4 (by omega) (by omega), ?_⟩
      rw [hX4]
      split
      · rw [kmk_30 (by decide) (by decide)]; rfl
      · show kmk _ k c 30 21 = _
        rw [kmk_30 (by decide) (by decide)]; rfl
    · rw [e1] at hY
      rw [e2, if_neg (by decide)] at hX4
      rw [hY, hX4]
      have hlen : (ksl t a g).length = g - a := kslh_len _ _ _
      refine ⟨key_str hX A0 hg.1 hTb (fun x hx => by
        obtain ⟨i, h1, h2⟩ := kslh_mem _ _ _ hx
        rw [h2]
        exact hX.2.1 _ (by omega)) (by omega) (by omega) (by omega), ?_⟩
      rw [kspl_30 (by rw [kmk_30 (by decide) (by decide)]; exact r4) (by decide), kmk_30 (by decide) (by decide)]
      rfl
  obtain ⟨K, h21z⟩ := K
  rw [← hX4] at k125 ⊢
  refine ⟨K, ?_⟩
  obtain ⟨⟨u', K1⟩, K2, K3, K4, K5, K6, K7, K8, K9, K10, K11⟩ := K
  have k115 := kAt.setKey (E := E) (szT := szT) (X := X4) (c0 := c0) hX (by exact K1) ho (by rw [(K7.1 (o - 1) (by omega)).2.1]; exact h44) (by rw [K2.1 c0 hc0]; exact h5) hc0 K4
  rw [← hh] at k115
  have h01 : h = 0 ∨ h = 1 := by rw [hh]; exact khk_01 _ _ _ _ _ _ _ _ _ _
  subst hP
  refine ⟨fun hce X7 v0 hmk => ?_, fun hce => ?_⟩
  · exact c_141p_e (S := T) (E := E) (sz := szT) hm hX hR m3 hen m4 q7 hqu hpl hz (by omega) hcl k125 K8 k115 (by exact K9) (by show X4 30 23 = _; rw [K10]; exact m3) (by exact h21z) rfl hce hmk
  · rcases h01 with h0 | h0
    · rw [h0] at k115 ⊢
      exact c_141p_v0 (S := T) (E := E) (sz := szT) hm hX hR m3 hen m4 q7 hqu hpl hz (by omega) hcl k125 K8 k115 (by exact K9) (by show X4 30 23 = _; rw [K10]; exact m3) (by exact h21z) rfl hce
    · rw [h0] at k115 ⊢
      exact c_141p_v1 (S := T) (E := E) (sz := szT) hm hX hR m3 hen m4 q7 hqu hpl hz (by omega) hcl k125 K8 k115 (by exact K9) (by show X4 30 23 = _; rw [K10]; exact m3) (by exact h21z) rfl hce
end KSK2
