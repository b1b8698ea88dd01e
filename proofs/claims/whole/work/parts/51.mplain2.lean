/-! The reference: plain. By program (wip/gen/gen51.py). -/
theorem l_125e {m : Nat} {E : Nat → kC} {sz : Nat × Nat} (hm : 53 ≤ m ∧ m ≤ 57) {t : Nat → Int} {n L : Nat} (hX : kTx t n L) {f g v : Nat} (hv : v < 60) (hgn : g ≤ n) {v2 v4 v5 v6 v7 v8 v11 : Value} : ∀ (j p u : Nat) (S : Nat → Nat → Int), g - p = j → p ≤ g → kRt S t n → S 30 19 = 0 → S 30 14 = (u : Int) → u + j ≤ 500 → kR 2 125 (blk 125 376) [.ref 30, .int (Int32.ofInt (f : Int)), v2, .int (Int32.ofInt (g : Int)), v4, v5, v6, v7, v8, .int (Int32.ofInt (v : Int)), .int (Int32.ofInt (p : Int)), v11] [] (sz, hp m E S) (fun r => r = (.inl (some (.int (Int32.ofInt (v : Int)))), (sz, hp m E (kspl v (kslh t j p) u S)))) := by
  intro j
  induction j with
  | zero =>
    intro p u S hj hpp hR hwr hu hul
    have hx1 := hX.1
    show kR 2 125 b125_376 _ _ _ _
    refine kR.s rfl rfl ?_
    refine kR.s rfl rfl ?_
    refine kR.jge (by omega) (by omega) (by omega) (by omega) (fun q1 => ?_) (fun q1 => ?_)
    · skip
      show kR 2 125 b125_408 _ _ _ _
      refine kR.s rfl rfl ?_
      refine kR.ret rfl rfl ?_
      rfl
    · skip
      exfalso
      omega
  | succ j ih =>
    intro p u S hj hpp hR hwr hu hul
    have hx1 := hX.1
    have z0 := hX.2.1 p
    show kR 2 125 b125_376 _ _ _ _
    refine kR.s rfl rfl ?_
    refine kR.s rfl rfl ?_
    refine kR.jge (by omega) (by omega) (by omega) (by omega) (fun q1 => ?_) (fun q1 => ?_)
    · skip
      exfalso
      omega
    · skip
      refine kR.s rfl rfl ?_
      refine kR.gi (a := 30) (k := 19) (v := 0) (by omega) rfl rfl rfl (by decide) (by decide) rfl (by exact hwr) ?_
      refine kR.zne (by decide) (by decide) (fun q2 => absurd q2 (by decide)) (fun q2 => ?_)
      refine kR.s rfl rfl ?_
      refine kR.s rfl rfl ?_
      refine kR.s rfl rfl ?_
      refine kR.gr (a := 30) (b := 33) (k := 6) (by omega) rfl rfl rfl (by decide) (by decide) rfl ?_
      refine kR.s rfl rfl ?_
      refine kR.ia (a := 33) (v := t p) (by omega) rfl (by decide) (by omega) (by omega) (by exact (hR.2 _ (by omega))) ?_
      refine kR.c0 (kargs_m hm (by decide) rfl) rfl (kR.up (c_111 hm (v := v) (x := t p) hv hu (by omega)) (by decide)) ?_
      refine kR.inc rfl ?_
      refine kR.g rfl ?_
      exact ih (p + 1) (u + 1) (ksp1 S v (t p) u) (by omega) (by omega) hR hwr rfl (by omega)
theorem l_125d {m : Nat} {E : Nat → kC} {S : Nat → Nat → Int} {sz : Nat × Nat} (hm : 53 ≤ m ∧ m ≤ 57) {t : Nat → Int} {n L : Nat} (hX : kTx t n L) (hR : kRt S t n) {f g : Nat} (hfg : f < g) (hgn : g ≤ n) {q : Nat} (hq : q ≤ g) {Mk : Int → Nat → Nat → Int} {v u : Nat} {w : Int} (hv : v < 60) (hw01 : w = 0 ∨ w = 1) (hmk : ∀ k : Int, kR 0 110 (blk 110 0) (kent 110 [.ref 30, .int (Int32.ofInt k)]) [] (sz, hp m E S) (fun r => r = (.inl (some (.int (Int32.ofInt (v : Int)))), (sz, hp m E (Mk k))))) (hMt : ∀ k, kRt (Mk k) t n) (hMw : ∀ k, Mk k 30 19 = w) (hMu : Mk 3 30 14 = (u : Int)) (hul : u ≤ 250) {dv hx : Int} (hd : dv = 0 ∨ dv = 1) (hh : hx = 0 ∨ hx = 1) (h16 : ¬ dv = 1 → hx = 1 → f + 2 ≤ g) {v2 v8 v9 v10 v11 : Value} {n4 n6 : Int} : kR 3 125 (blk 125 289) [.ref 30, .int (Int32.ofInt (f : Int)), v2, .int (Int32.ofInt (g : Int)), .int (Int32.ofInt n4), .int (Int32.ofInt (q : Int)), .int (Int32.ofInt n6), .int (Int32.ofInt dv), v8, v9, v10, v11] [.int (Int32.ofInt hx)] (sz, hp m E S) (fun r => r = (.inl (some (.int (Int32.ofInt (v : Int)))), (sz, hp m E ((if dv = 1 ∨ hx = 1 then ku (Mk 2) 35 v (if t f = 45 then -(if dv = 1 then kwoh t 10 (g - q) q 0 else kwoh t 16 (g - (f + 2)) (f + 2) 0) else (if dv = 1 then kwoh t 10 (g - q) q 0 else kwoh t 16 (g - (f + 2)) (f + 2) 0)) else if w = 1 then Mk 3 else kspl v (ksl t f g) u (Mk 3)))))) := by
  have hx1 := hX.1
  have z0 := hX.2.1 f
  have hMw2 := hMw 2
  have hMw3 := hMw 3
  show kR 3 125 b125_289 _ _ _ _
  refine kR.s rfl rfl ?_
  refine kR.s rfl rfl ?_
  refine kR.zne (by omega) (by omega) (fun q1 => ?_) (fun q1 => ?_)
  · skip
    show kR 3 125 b125_301 _ _ _ _
    refine kR.s rfl rfl ?_
    refine kR.s rfl rfl ?_
    refine kR.cv (v := .int (Int32.ofInt ((v : Int)))) (kargs_m hm (by decide) rfl) rfl (kR.up (hmk 2) (by decide)) ?_
    refine kR.s rfl rfl ?_
    refine kR.s rfl rfl ?_
    refine kR.zeq (by omega) (by omega) (fun q3 => ?_) (fun q3 => ?_)
    · skip
      show kR 3 125 b125_325 _ _ _ _
      refine kR.s rfl rfl ?_
      refine kR.s rfl rfl ?_
      refine kR.s rfl rfl ?_
      refine kR.add ?_
      refine kR.s rfl rfl ?_
      refine kR.bi rfl ?_
      refine kR.cv (v := .long (Int64.ofInt (kwoh t 16 (g - (f + 2)) (f + 2) 0))) (kargs_m hm (by decide) rfl) rfl (kR.up (c_124 (S := (Mk 2)) hm hX (hMt 2) (f := (f + 2)) (g := g) (b := 16) (by omega) (by omega) (by omega)) (by decide)) ?_
      refine kR.n ?_
      show kR 3 125 b125_335 _ _ _ _
      refine kR.s rfl rfl ?_
      refine kR.s rfl rfl ?_
      refine kR.gr (a := 30) (b := 35) (k := 10) (by omega) rfl rfl rfl (by decide) (by decide) rfl ?_
      refine kR.s rfl rfl ?_
      refine kR.s rfl rfl ?_
      refine kR.gr (a := 30) (b := 33) (k := 6) (by omega) rfl rfl rfl (by decide) (by decide) rfl ?_
      refine kR.s rfl rfl ?_
      refine kR.ia (a := 33) (v := t f) (by omega) rfl (by decide) (by omega) (by omega) (by exact ((hMt 2).2 _ (by omega))) ?_
      refine kR.bi rfl ?_
      refine kR.jne (by omega) (by omega) (by omega) (by omega) (fun q5 => ?_) (fun q5 => ?_)
      · skip
        show kR 3 125 b125_360 _ _ _ _
        refine kR.s rfl rfl ?_
        refine kR.n ?_
        show kR 3 125 b125_362 _ _ _ _
        refine kR.lst (a := 35) (by omega) rfl (by decide) (by omega) (by omega) ?_
        refine kR.s rfl rfl ?_
        refine kR.ret rfl rfl ?_
        refine Prod.ext rfl (Prod.ext rfl ?_)
        show hp m E _ = hp m E _
        congr 1
        first | (exfalso; omega) | (rw [if_pos (by omega : dv = 1 ∨ hx = 1)]; rw [if_neg (by omega : ¬ dv = 1)]; first | (rw [if_pos (by omega : t f = 45)]; rfl) | (rw [if_neg (by omega : ¬ t f = 45)]; rfl))
      · skip
        refine kR.s rfl rfl ?_
        refine kR.lneg ?_
        refine kR.g rfl ?_
        show kR 3 125 b125_362 _ _ _ _
        refine kR.lst (a := 35) (by omega) rfl (by decide) (by omega) (by omega) ?_
        refine kR.s rfl rfl ?_
        refine kR.ret rfl rfl ?_
        refine Prod.ext rfl (Prod.ext rfl ?_)
        show hp m E _ = hp m E _
        congr 1
        first | (exfalso; omega) | (rw [if_pos (by omega : dv = 1 ∨ hx = 1)]; rw [if_neg (by omega : ¬ dv = 1)]; first | (rw [if_pos (by omega : t f = 45)]; rfl) | (rw [if_neg (by omega : ¬ t f = 45)]; rfl))
    · skip
      refine kR.s rfl rfl ?_
      refine kR.s rfl rfl ?_
      refine kR.s rfl rfl ?_
      refine kR.bi rfl ?_
      refine kR.cv (v := .long (Int64.ofInt (kwoh t 10 (g - q) q 0))) (kargs_m hm (by decide) rfl) rfl (kR.up (c_124 (S := (Mk 2)) hm hX (hMt 2) (f := q) (g := g) (b := 10) (by omega) (by omega) (by omega)) (by decide)) ?_
      refine kR.g rfl ?_
      show kR 3 125 b125_335 _ _ _ _
      refine kR.s rfl rfl ?_
      refine kR.s rfl rfl ?_
      refine kR.gr (a := 30) (b := 35) (k := 10) (by omega) rfl rfl rfl (by decide) (by decide) rfl ?_
      refine kR.s rfl rfl ?_
      refine kR.s rfl rfl ?_
      refine kR.gr (a := 30) (b := 33) (k := 6) (by omega) rfl rfl rfl (by decide) (by decide) rfl ?_
      refine kR.s rfl rfl ?_
      refine kR.ia (a := 33) (v := t f) (by omega) rfl (by decide) (by omega) (by omega) (by exact ((hMt 2).2 _ (by omega))) ?_
      refine kR.bi rfl ?_
      refine kR.jne (by omega) (by omega) (by omega) (by omega) (fun q7 => ?_) (fun q7 => ?_)
      · skip
        show kR 3 125 b125_360 _ _ _ _
        refine kR.s rfl rfl ?_
        refine kR.n ?_
        show kR 3 125 b125_362 _ _ _ _
        refine kR.lst (a := 35) (by omega) rfl (by decide) (by omega) (by omega) ?_
        refine kR.s rfl rfl ?_
        refine kR.ret rfl rfl ?_
        refine Prod.ext rfl (Prod.ext rfl ?_)
        show hp m E _ = hp m E _
        congr 1
        first | (exfalso; omega) | (rw [if_pos (by omega : dv = 1 ∨ hx = 1)]; rw [if_pos (by omega : dv = 1)]; first | (rw [if_pos (by omega : t f = 45)]; rfl) | (rw [if_neg (by omega : ¬ t f = 45)]; rfl))
      · skip
        refine kR.s rfl rfl ?_
        refine kR.lneg ?_
        refine kR.g rfl ?_
        show kR 3 125 b125_362 _ _ _ _
        refine kR.lst (a := 35) (by omega) rfl (by decide) (by omega) (by omega) ?_
        refine kR.s rfl rfl ?_
        refine kR.ret rfl rfl ?_
        refine Prod.ext rfl (Prod.ext rfl ?_)
        show hp m E _ = hp m E _
        congr 1
        first | (exfalso; omega) | (rw [if_pos (by omega : dv = 1 ∨ hx = 1)]; rw [if_pos (by omega : dv = 1)]; first | (rw [if_pos (by omega : t f = 45)]; rfl) | (rw [if_neg (by omega : ¬ t f = 45)]; rfl))
  · skip
    refine kR.s rfl rfl ?_
    refine kR.zeq (by omega) (by omega) (fun q8 => ?_) (fun q8 => ?_)
    · skip
      show kR 3 125 b125_366 _ _ _ _
      refine kR.s rfl rfl ?_
      refine kR.s rfl rfl ?_
      refine kR.cv (v := .int (Int32.ofInt ((v : Int)))) (kargs_m hm (by decide) rfl) rfl (kR.up (hmk 3) (by decide)) ?_
      refine kR.s rfl rfl ?_
      refine kR.s rfl rfl ?_
      refine kR.s rfl rfl ?_
      refine kR.n ?_
      rw [if_neg (by omega : ¬ (dv = 1 ∨ hx = 1))]
      rcases hw01 with hw0 | hw1
      · rw [if_neg (by omega : ¬ w = 1)]
        exact kR.up (l_125e hm hX hv hgn (g - f) f u (Mk 3) rfl (by omega) (hMt 3) (by rw [hMw3, hw0]) hMu (by omega)) (by decide)
      · rw [if_pos (by omega : w = 1)]
        show kR 3 125 b125_376 _ _ _ _
        refine kR.s rfl rfl ?_
        refine kR.s rfl rfl ?_
        refine kR.jge (by omega) (by omega) (by omega) (by omega) (fun q10 => ?_) (fun q10 => ?_)
        · skip
          show kR 3 125 b125_408 _ _ _ _
          refine kR.s rfl rfl ?_
          refine kR.ret rfl rfl ?_
          rfl
        · skip
          refine kR.s rfl rfl ?_
          refine kR.gi (a := 30) (k := 19) (v := w) (by omega) rfl rfl rfl (by decide) (by decide) rfl (by exact (hMw 3)) ?_
          refine kR.zne (by omega) (by omega) (fun q11 => ?_) (fun q11 => ?_)
          · skip
            show kR 3 125 b125_408 _ _ _ _
            refine kR.s rfl rfl ?_
            refine kR.ret rfl rfl ?_
            rfl
          · skip
            exfalso
            omega
    · skip
      refine kR.n ?_
      show kR 3 125 b125_301 _ _ _ _
      refine kR.s rfl rfl ?_
      refine kR.s rfl rfl ?_
      refine kR.cv (v := .int (Int32.ofInt ((v : Int)))) (kargs_m hm (by decide) rfl) rfl (kR.up (hmk 2) (by decide)) ?_
      refine kR.s rfl rfl ?_
      refine kR.s rfl rfl ?_
      refine kR.zeq (by omega) (by omega) (fun q13 => ?_) (fun q13 => ?_)
      · skip
        show kR 3 125 b125_325 _ _ _ _
        refine kR.s rfl rfl ?_
        refine kR.s rfl rfl ?_
        refine kR.s rfl rfl ?_
        refine kR.add ?_
        refine kR.s rfl rfl ?_
        refine kR.bi rfl ?_
        refine kR.cv (v := .long (Int64.ofInt (kwoh t 16 (g - (f + 2)) (f + 2) 0))) (kargs_m hm (by decide) rfl) rfl (kR.up (c_124 (S := (Mk 2)) hm hX (hMt 2) (f := (f + 2)) (g := g) (b := 16) (by omega) (by omega) (by omega)) (by decide)) ?_
        refine kR.n ?_
        show kR 3 125 b125_335 _ _ _ _
        refine kR.s rfl rfl ?_
        refine kR.s rfl rfl ?_
        refine kR.gr (a := 30) (b := 35) (k := 10) (by omega) rfl rfl rfl (by decide) (by decide) rfl ?_
        refine kR.s rfl rfl ?_
        refine kR.s rfl rfl ?_
        refine kR.gr (a := 30) (b := 33) (k := 6) (by omega) rfl rfl rfl (by decide) (by decide) rfl ?_
        refine kR.s rfl rfl ?_
        refine kR.ia (a := 33) (v := t f) (by omega) rfl (by decide) (by omega) (by omega) (by exact ((hMt 2).2 _ (by omega))) ?_
        refine kR.bi rfl ?_
        refine kR.jne (by omega) (by omega) (by omega) (by omega) (fun q15 => ?_) (fun q15 => ?_)
        · skip
          show kR 3 125 b125_360 _ _ _ _
          refine kR.s rfl rfl ?_
          refine kR.n ?_
          show kR 3 125 b125_362 _ _ _ _
          refine kR.lst (a := 35) (by omega) rfl (by decide) (by omega) (by omega) ?_
          refine kR.s rfl rfl ?_
          refine kR.ret rfl rfl ?_
          refine Prod.ext rfl (Prod.ext rfl ?_)
          show hp m E _ = hp m E _
          congr 1
          first | (exfalso; omega) | (rw [if_pos (by omega : dv = 1 ∨ hx = 1)]; rw [if_neg (by omega : ¬ dv = 1)]; first | (rw [if_pos (by omega : t f = 45)]; rfl) | (rw [if_neg (by omega : ¬ t f = 45)]; rfl))
        · skip
          refine kR.s rfl rfl ?_
          refine kR.lneg ?_
          refine kR.g rfl ?_
          show kR 3 125 b125_362 _ _ _ _
          refine kR.lst (a := 35) (by omega) rfl (by decide) (by omega) (by omega) ?_
          refine kR.s rfl rfl ?_
          refine kR.ret rfl rfl ?_
          refine Prod.ext rfl (Prod.ext rfl ?_)
          show hp m E _ = hp m E _
          congr 1
          first | (exfalso; omega) | (rw [if_pos (by omega : dv = 1 ∨ hx = 1)]; rw [if_neg (by omega : ¬ dv = 1)]; first | (rw [if_pos (by omega : t f = 45)]; rfl) | (rw [if_neg (by omega : ¬ t f = 45)]; rfl))
      · skip
        refine kR.s rfl rfl ?_
        refine kR.s rfl rfl ?_
        refine kR.s rfl rfl ?_
        refine kR.bi rfl ?_
        refine kR.cv (v := .long (Int64.ofInt (kwoh t 10 (g - q) q 0))) (kargs_m hm (by decide) rfl) rfl (kR.up (c_124 (S := (Mk 2)) hm hX (hMt 2) (f := q) (g := g) (b := 10) (by omega) (by omega) (by omega)) (by decide)) ?_
        refine kR.g rfl ?_
        show kR 3 125 b125_335 _ _ _ _
        refine kR.s rfl rfl ?_
        refine kR.s rfl rfl ?_
        refine kR.gr (a := 30) (b := 35) (k := 10) (by omega) rfl rfl rfl (by decide) (by decide) rfl ?_
        refine kR.s rfl rfl ?_
        refine kR.s rfl rfl ?_
        refine kR.gr (a := 30) (b := 33) (k := 6) (by omega) rfl rfl rfl (by decide) (by decide) rfl ?_
        refine kR.s rfl rfl ?_
        refine kR.ia (a := 33) (v := t f) (by omega) rfl (by decide) (by omega) (by omega) (by exact ((hMt 2).2 _ (by omega))) ?_
        refine kR.bi rfl ?_
        refine kR.jne (by omega) (by omega) (by omega) (by omega) (fun q17 => ?_) (fun q17 => ?_)
        · skip
          show kR 3 125 b125_360 _ _ _ _
          refine kR.s rfl rfl ?_
          refine kR.n ?_
          show kR 3 125 b125_362 _ _ _ _
          refine kR.lst (a := 35) (by omega) rfl (by decide) (by omega) (by omega) ?_
          refine kR.s rfl rfl ?_
          refine kR.ret rfl rfl ?_
          refine Prod.ext rfl (Prod.ext rfl ?_)
          show hp m E _ = hp m E _
          congr 1
          first | (exfalso; omega) | (rw [if_pos (by omega : dv = 1 ∨ hx = 1)]; rw [if_pos (by omega : dv = 1)]; first | (rw [if_pos (by omega : t f = 45)]; rfl) | (rw [if_neg (by omega : ¬ t f = 45)]; rfl))
        · skip
          refine kR.s rfl rfl ?_
          refine kR.lneg ?_
          refine kR.g rfl ?_
          show kR 3 125 b125_362 _ _ _ _
          refine kR.lst (a := 35) (by omega) rfl (by decide) (by omega) (by omega) ?_
          refine kR.s rfl rfl ?_
          refine kR.ret rfl rfl ?_
          refine Prod.ext rfl (Prod.ext rfl ?_)
          show hp m E _ = hp m E _
          congr 1
          first | (exfalso; omega) | (rw [if_pos (by omega : dv = 1 ∨ hx = 1)]; rw [if_pos (by omega : dv = 1)]; first | (rw [if_pos (by omega : t f = 45)]; rfl) | (rw [if_neg (by omega : ¬ t f = 45)]; rfl))
