/-! The reference: plain, from its beginning. By program (wip/gen/gen52.py). -/
theorem l_125c {m : Nat} {E : Nat → kC} {S : Nat → Nat → Int} {sz : Nat × Nat} (hm : 53 ≤ m ∧ m ≤ 57) {t : Nat → Int} {n L : Nat} (hX : kTx t n L) (hR : kRt S t n) {f g : Nat} (hfg : f < g) (hgn : g ≤ n) {q : Nat} (hq : q ≤ g) {Mk : Int → Nat → Nat → Int} {v u : Nat} {w : Int} (hv : v < 60) (hw01 : w = 0 ∨ w = 1) (hmk : ∀ k : Int, kR 0 110 (blk 110 0) (kent 110 [.ref 30, .int (Int32.ofInt k)]) [] (sz, hp m E S) (fun r => r = (.inl (some (.int (Int32.ofInt (v : Int)))), (sz, hp m E (Mk k))))) (hMt : ∀ k, kRt (Mk k) t n) (hMw : ∀ k, Mk k 30 19 = w) (hMu : Mk 3 30 14 = (u : Int)) (hul : u ≤ 250) {dv : Int} (hd : dv = 0 ∨ dv = 1) {v2 v7 v8 v9 v10 v11 : Value} {n4 n6 : Int} : kR 3 125 (blk 125 225) [.ref 30, .int (Int32.ofInt ((f : Int))), v2, .int (Int32.ofInt ((g : Int))), .int (Int32.ofInt (n4)), .int (Int32.ofInt ((q : Int))), .int (Int32.ofInt (n6)), v7, v8, v9, v10, v11] [.int (Int32.ofInt (dv))] (sz, hp m E S) (fun r => r = (.inl (some (.int (Int32.ofInt (v : Int)))), (sz, hp m E ((if dv = 1 ∨ (if 2 < (g : Int) - f ∧ (g : Int) - f < 17 ∧ t f = 48 ∧ t (f + 1) = 120 ∧ kdch t 16 (g - (f + 2)) (f + 2) 0 = (g : Int) - f - 2 then (1 : Int) else 0) = 1 then ku (Mk 2) 35 v (if t f = 45 then -(if dv = 1 then kwoh t 10 (g - q) q 0 else kwoh t 16 (g - (f + 2)) (f + 2) 0) else (if dv = 1 then kwoh t 10 (g - q) q 0 else kwoh t 16 (g - (f + 2)) (f + 2) 0)) else if w = 1 then Mk 3 else kspl v (ksl t f g) u (Mk 3)))))) := by
  have hx1 := hX.1
  have z0 := hX.2.1 f
  have z1 := hX.2.1 (f + 1)
  have z2 := hX.2.1 (f + 2)
  have z3 := hX.2.1 (f + 3)
  have z4 := hX.2.1 (f + 4)
  show kR 3 125 b125_225 _ _ _ _
  refine kR.s rfl rfl ?_
  refine kR.s rfl rfl ?_
  refine kR.s rfl rfl ?_
  refine kR.sub ?_
  refine kR.s rfl rfl ?_
  refine kR.jle (by omega) (by omega) (by omega) (by omega) (fun q1 => ?_) (fun q1 => ?_)
  · skip
    show kR 3 125 b125_288 _ _ _ _
    refine kR.s rfl rfl ?_
    refine kR.n ?_
    rw [show (if 2 < (g : Int) - f ∧ (g : Int) - f < 17 ∧ t f = 48 ∧ t (f + 1) = 120 ∧ kdch t 16 (g - (f + 2)) (f + 2) 0 = (g : Int) - f - 2 then (1 : Int) else 0) = 0 from if_neg (by omega)]
    exact l_125d hm hX hR hfg hgn hq hv hw01 hmk hMt hMw hMu hul (dv := dv) (hx := 0) hd (by omega) (by omega)
  · skip
    refine kR.s rfl rfl ?_
    refine kR.s rfl rfl ?_
    refine kR.sub ?_
    refine kR.bi rfl ?_
    refine kR.jge (by omega) (by omega) (by omega) (by omega) (fun q2 => ?_) (fun q2 => ?_)
    · skip
      show kR 3 125 b125_288 _ _ _ _
      refine kR.s rfl rfl ?_
      refine kR.n ?_
      rw [show (if 2 < (g : Int) - f ∧ (g : Int) - f < 17 ∧ t f = 48 ∧ t (f + 1) = 120 ∧ kdch t 16 (g - (f + 2)) (f + 2) 0 = (g : Int) - f - 2 then (1 : Int) else 0) = 0 from if_neg (by omega)]
      exact l_125d hm hX hR hfg hgn hq hv hw01 hmk hMt hMw hMu hul (dv := dv) (hx := 0) hd (by omega) (by omega)
    · skip
      refine kR.s rfl rfl ?_
      refine kR.gr (a := 30) (b := 33) (k := 6) (by omega) rfl rfl rfl (by decide) (by decide) rfl ?_
      refine kR.s rfl rfl ?_
      refine kR.ia (a := 33) (v := t f) (by omega) rfl (by decide) (by omega) (by omega) (by exact (hR.2 _ (by omega))) ?_
      refine kR.bi rfl ?_
      refine kR.jne (by omega) (by omega) (by omega) (by omega) (fun q3 => ?_) (fun q3 => ?_)
      · skip
        show kR 3 125 b125_288 _ _ _ _
        refine kR.s rfl rfl ?_
        refine kR.n ?_
        rw [show (if 2 < (g : Int) - f ∧ (g : Int) - f < 17 ∧ t f = 48 ∧ t (f + 1) = 120 ∧ kdch t 16 (g - (f + 2)) (f + 2) 0 = (g : Int) - f - 2 then (1 : Int) else 0) = 0 from if_neg (by omega)]
        exact l_125d hm hX hR hfg hgn hq hv hw01 hmk hMt hMw hMu hul (dv := dv) (hx := 0) hd (by omega) (by omega)
      · skip
        refine kR.s rfl rfl ?_
        refine kR.gr (a := 30) (b := 33) (k := 6) (by omega) rfl rfl rfl (by decide) (by decide) rfl ?_
        refine kR.s rfl rfl ?_
        refine kR.s rfl rfl ?_
        refine kR.add ?_
        refine kR.ia (a := 33) (v := t (f + 1)) (by omega) rfl (by decide) (by omega) (by omega) (by exact (hR.2 _ (by omega))) ?_
        refine kR.bi rfl ?_
        refine kR.jne (by omega) (by omega) (by omega) (by omega) (fun q4 => ?_) (fun q4 => ?_)
        · skip
          show kR 3 125 b125_288 _ _ _ _
          refine kR.s rfl rfl ?_
          refine kR.n ?_
          rw [show (if 2 < (g : Int) - f ∧ (g : Int) - f < 17 ∧ t f = 48 ∧ t (f + 1) = 120 ∧ kdch t 16 (g - (f + 2)) (f + 2) 0 = (g : Int) - f - 2 then (1 : Int) else 0) = 0 from if_neg (by omega)]
          exact l_125d hm hX hR hfg hgn hq hv hw01 hmk hMt hMw hMu hul (dv := dv) (hx := 0) hd (by omega) (by omega)
        · skip
          refine kR.s rfl rfl ?_
          refine kR.s rfl rfl ?_
          refine kR.s rfl rfl ?_
          refine kR.add ?_
          refine kR.s rfl rfl ?_
          refine kR.bi rfl ?_
          have f5_0 := kdch_rng t 16 (g - (f + 2)) (f + 2) 0
          refine kR.cv (v := .int (Int32.ofInt (kdch t 16 (g - (f + 2)) (f + 2) 0))) (kargs_m hm (by decide) rfl) rfl (kR.up (c_123 hm hX hR (f := (f + 2)) (g := g) (by omega) (by omega) (by omega)) (by decide)) ?_
          refine kR.s rfl rfl ?_
          refine kR.s rfl rfl ?_
          refine kR.sub ?_
          refine kR.s rfl rfl ?_
          refine kR.sub ?_
          refine kR.jne (by omega) (by omega) (by omega) (by omega) (fun q6 => ?_) (fun q6 => ?_)
          · skip
            show kR 3 125 b125_288 _ _ _ _
            refine kR.s rfl rfl ?_
            refine kR.n ?_
            rw [show (if 2 < (g : Int) - f ∧ (g : Int) - f < 17 ∧ t f = 48 ∧ t (f + 1) = 120 ∧ kdch t 16 (g - (f + 2)) (f + 2) 0 = (g : Int) - f - 2 then (1 : Int) else 0) = 0 from if_neg (by omega)]
            exact l_125d hm hX hR hfg hgn hq hv hw01 hmk hMt hMw hMu hul (dv := dv) (hx := 0) hd (by omega) (by omega)
          · skip
            refine kR.s rfl rfl ?_
            refine kR.g rfl ?_
            rw [show (if 2 < (g : Int) - f ∧ (g : Int) - f < 17 ∧ t f = 48 ∧ t (f + 1) = 120 ∧ kdch t 16 (g - (f + 2)) (f + 2) 0 = (g : Int) - f - 2 then (1 : Int) else 0) = 1 from if_pos (by omega)]
            exact l_125d hm hX hR hfg hgn hq hv hw01 hmk hMt hMw hMu hul (dv := dv) (hx := 1) hd (by omega) (by omega)
theorem l_125b {m : Nat} {E : Nat → kC} {S : Nat → Nat → Int} {sz : Nat × Nat} (hm : 53 ≤ m ∧ m ≤ 57) {t : Nat → Int} {n L : Nat} (hX : kTx t n L) (hR : kRt S t n) {f g : Nat} (hfg : f < g) (hgn : g ≤ n) {q : Nat} (hq : q ≤ g) {Mk : Int → Nat → Nat → Int} {v u : Nat} {w : Int} (hv : v < 60) (hw01 : w = 0 ∨ w = 1) (hmk : ∀ k : Int, kR 0 110 (blk 110 0) (kent 110 [.ref 30, .int (Int32.ofInt k)]) [] (sz, hp m E S) (fun r => r = (.inl (some (.int (Int32.ofInt (v : Int)))), (sz, hp m E (Mk k))))) (hMt : ∀ k, kRt (Mk k) t n) (hMw : ∀ k, Mk k 30 19 = w) (hMu : Mk 3 30 14 = (u : Int)) (hul : u ≤ 250) {v2 v5 v6 v7 v8 v9 v10 v11 : Value} {n4 : Int} : kR 3 125 (blk 125 186) [.ref 30, .int (Int32.ofInt ((f : Int))), v2, .int (Int32.ofInt ((g : Int))), .int (Int32.ofInt (n4)), v5, v6, v7, v8, v9, v10, v11] [.int (Int32.ofInt ((q : Int)))] (sz, hp m E S) (fun r => r = (.inl (some (.int (Int32.ofInt (v : Int)))), (sz, hp m E ((if (if 0 < (g : Int) - q ∧ (g : Int) - q < 19 ∧ kdch t 10 (g - q) q 0 = (g : Int) - q then (1 : Int) else 0) = 1 ∨ (if 2 < (g : Int) - f ∧ (g : Int) - f < 17 ∧ t f = 48 ∧ t (f + 1) = 120 ∧ kdch t 16 (g - (f + 2)) (f + 2) 0 = (g : Int) - f - 2 then (1 : Int) else 0) = 1 then ku (Mk 2) 35 v (if t f = 45 then -(if (if 0 < (g : Int) - q ∧ (g : Int) - q < 19 ∧ kdch t 10 (g - q) q 0 = (g : Int) - q then (1 : Int) else 0) = 1 then kwoh t 10 (g - q) q 0 else kwoh t 16 (g - (f + 2)) (f + 2) 0) else (if (if 0 < (g : Int) - q ∧ (g : Int) - q < 19 ∧ kdch t 10 (g - q) q 0 = (g : Int) - q then (1 : Int) else 0) = 1 then kwoh t 10 (g - q) q 0 else kwoh t 16 (g - (f + 2)) (f + 2) 0)) else if w = 1 then Mk 3 else kspl v (ksl t f g) u (Mk 3)))))) := by
  have hx1 := hX.1
  have z0 := hX.2.1 f
  have z1 := hX.2.1 (f + 1)
  have z2 := hX.2.1 (f + 2)
  have z3 := hX.2.1 (f + 3)
  have z4 := hX.2.1 (f + 4)
  show kR 3 125 b125_186 _ _ _ _
  refine kR.s rfl rfl ?_
  refine kR.s rfl rfl ?_
  refine kR.s rfl rfl ?_
  refine kR.sub ?_
  refine kR.s rfl rfl ?_
  refine kR.s rfl rfl ?_
  refine kR.zle (by omega) (by omega) (fun q1 => ?_) (fun q1 => ?_)
  · skip
    show kR 3 125 b125_224 _ _ _ _
    refine kR.s rfl rfl ?_
    refine kR.n ?_
    rw [show (if 0 < (g : Int) - q ∧ (g : Int) - q < 19 ∧ kdch t 10 (g - q) q 0 = (g : Int) - q then (1 : Int) else 0) = 0 from if_neg (by omega)]
    exact l_125c hm hX hR hfg hgn hq hv hw01 hmk hMt hMw hMu hul (dv := 0) (by omega)
  · skip
    refine kR.s rfl rfl ?_
    refine kR.bi rfl ?_
    refine kR.jge (by omega) (by omega) (by omega) (by omega) (fun q2 => ?_) (fun q2 => ?_)
    · skip
      show kR 3 125 b125_224 _ _ _ _
      refine kR.s rfl rfl ?_
      refine kR.n ?_
      rw [show (if 0 < (g : Int) - q ∧ (g : Int) - q < 19 ∧ kdch t 10 (g - q) q 0 = (g : Int) - q then (1 : Int) else 0) = 0 from if_neg (by omega)]
      exact l_125c hm hX hR hfg hgn hq hv hw01 hmk hMt hMw hMu hul (dv := 0) (by omega)
    · skip
      refine kR.s rfl rfl ?_
      refine kR.s rfl rfl ?_
      refine kR.s rfl rfl ?_
      refine kR.bi rfl ?_
      have f3_0 := kdch_rng t 10 (g - q) q 0
      refine kR.cv (v := .int (Int32.ofInt (kdch t 10 (g - q) q 0))) (kargs_m hm (by decide) rfl) rfl (kR.up (c_123 hm hX hR (f := q) (g := g) (by omega) (by omega) (by omega)) (by decide)) ?_
      refine kR.s rfl rfl ?_
      refine kR.jne (by omega) (by omega) (by omega) (by omega) (fun q4 => ?_) (fun q4 => ?_)
      · skip
        show kR 3 125 b125_224 _ _ _ _
        refine kR.s rfl rfl ?_
        refine kR.n ?_
        rw [show (if 0 < (g : Int) - q ∧ (g : Int) - q < 19 ∧ kdch t 10 (g - q) q 0 = (g : Int) - q then (1 : Int) else 0) = 0 from if_neg (by omega)]
        exact l_125c hm hX hR hfg hgn hq hv hw01 hmk hMt hMw hMu hul (dv := 0) (by omega)
      · skip
        refine kR.s rfl rfl ?_
        refine kR.g rfl ?_
        rw [show (if 0 < (g : Int) - q ∧ (g : Int) - q < 19 ∧ kdch t 10 (g - q) q 0 = (g : Int) - q then (1 : Int) else 0) = 1 from if_pos (by omega)]
        exact l_125c hm hX hR hfg hgn hq hv hw01 hmk hMt hMw hMu hul (dv := 1) (by omega)
theorem l_125a {m : Nat} {E : Nat → kC} {S : Nat → Nat → Int} {sz : Nat × Nat} (hm : 53 ≤ m ∧ m ≤ 57) {t : Nat → Int} {n L : Nat} (hX : kTx t n L) (hR : kRt S t n) {f g : Nat} (hfg : f < g) (hgn : g ≤ n) {Mk : Int → Nat → Nat → Int} {v u : Nat} {w : Int} (hv : v < 60) (hw01 : w = 0 ∨ w = 1) (hmk : ∀ k : Int, kR 0 110 (blk 110 0) (kent 110 [.ref 30, .int (Int32.ofInt k)]) [] (sz, hp m E S) (fun r => r = (.inl (some (.int (Int32.ofInt (v : Int)))), (sz, hp m E (Mk k))))) (hMt : ∀ k, kRt (Mk k) t n) (hMw : ∀ k, Mk k 30 19 = w) (hMu : Mk 3 30 14 = (u : Int)) (hul : u ≤ 250) {v2 v5 v6 v7 v8 v9 v10 v11 : Value} {n4 : Int} : kR 3 125 (blk 125 157) [.ref 30, .int (Int32.ofInt ((f : Int))), v2, .int (Int32.ofInt ((g : Int))), .int (Int32.ofInt (n4)), v5, v6, v7, v8, v9, v10, v11] [] (sz, hp m E S) (fun r => r = (.inl (some (.int (Int32.ofInt (v : Int)))), (sz, hp m E ((if (if 0 < (g : Int) - (if t f = 43 ∨ t f = 45 then f + 1 else f) ∧ (g : Int) - (if t f = 43 ∨ t f = 45 then f + 1 else f) < 19 ∧ kdch t 10 (g - (if t f = 43 ∨ t f = 45 then f + 1 else f)) (if t f = 43 ∨ t f = 45 then f + 1 else f) 0 = (g : Int) - (if t f = 43 ∨ t f = 45 then f + 1 else f) then (1 : Int) else 0) = 1 ∨ (if 2 < (g : Int) - f ∧ (g : Int) - f < 17 ∧ t f = 48 ∧ t (f + 1) = 120 ∧ kdch t 16 (g - (f + 2)) (f + 2) 0 = (g : Int) - f - 2 then (1 : Int) else 0) = 1 then ku (Mk 2) 35 v (if t f = 45 then -(if (if 0 < (g : Int) - (if t f = 43 ∨ t f = 45 then f + 1 else f) ∧ (g : Int) - (if t f = 43 ∨ t f = 45 then f + 1 else f) < 19 ∧ kdch t 10 (g - (if t f = 43 ∨ t f = 45 then f + 1 else f)) (if t f = 43 ∨ t f = 45 then f + 1 else f) 0 = (g : Int) - (if t f = 43 ∨ t f = 45 then f + 1 else f) then (1 : Int) else 0) = 1 then kwoh t 10 (g - (if t f = 43 ∨ t f = 45 then f + 1 else f)) (if t f = 43 ∨ t f = 45 then f + 1 else f) 0 else kwoh t 16 (g - (f + 2)) (f + 2) 0) else (if (if 0 < (g : Int) - (if t f = 43 ∨ t f = 45 then f + 1 else f) ∧ (g : Int) - (if t f = 43 ∨ t f = 45 then f + 1 else f) < 19 ∧ kdch t 10 (g - (if t f = 43 ∨ t f = 45 then f + 1 else f)) (if t f = 43 ∨ t f = 45 then f + 1 else f) 0 = (g : Int) - (if t f = 43 ∨ t f = 45 then f + 1 else f) then (1 : Int) else 0) = 1 then kwoh t 10 (g - (if t f = 43 ∨ t f = 45 then f + 1 else f)) (if t f = 43 ∨ t f = 45 then f + 1 else f) 0 else kwoh t 16 (g - (f + 2)) (f + 2) 0)) else if w = 1 then Mk 3 else kspl v (ksl t f g) u (Mk 3)))))) := by
  have hx1 := hX.1
  have z0 := hX.2.1 f
  have z1 := hX.2.1 (f + 1)
  have z2 := hX.2.1 (f + 2)
  have z3 := hX.2.1 (f + 3)
  have z4 := hX.2.1 (f + 4)
  show kR 3 125 b125_157 _ _ _ _
  refine kR.s rfl rfl ?_
  refine kR.gr (a := 30) (b := 33) (k := 6) (by omega) rfl rfl rfl (by decide) (by decide) rfl ?_
  refine kR.s rfl rfl ?_
  refine kR.ia (a := 33) (v := t f) (by omega) rfl (by decide) (by omega) (by omega) (by exact (hR.2 _ (by omega))) ?_
  refine kR.bi rfl ?_
  refine kR.jeq (by omega) (by omega) (by omega) (by omega) (fun q1 => ?_) (fun q1 => ?_)
  · skip
    show kR 3 125 b125_179 _ _ _ _
    refine kR.s rfl rfl ?_
    refine kR.s rfl rfl ?_
    refine kR.add ?_
    refine kR.g rfl ?_
    rw [show (if t f = 43 ∨ t f = 45 then f + 1 else f) = f + 1 from if_pos (by omega)]
    exact l_125b hm hX hR hfg hgn (q := f + 1) (by omega) hv hw01 hmk hMt hMw hMu hul
  · skip
    refine kR.s rfl rfl ?_
    refine kR.gr (a := 30) (b := 33) (k := 6) (by omega) rfl rfl rfl (by decide) (by decide) rfl ?_
    refine kR.s rfl rfl ?_
    refine kR.ia (a := 33) (v := t f) (by omega) rfl (by decide) (by omega) (by omega) (by exact (hR.2 _ (by omega))) ?_
    refine kR.bi rfl ?_
    refine kR.jne (by omega) (by omega) (by omega) (by omega) (fun q2 => ?_) (fun q2 => ?_)
    · skip
      show kR 3 125 b125_185 _ _ _ _
      refine kR.s rfl rfl ?_
      refine kR.n ?_
      rw [show (if t f = 43 ∨ t f = 45 then f + 1 else f) = f from if_neg (by omega)]
      exact l_125b hm hX hR hfg hgn (q := f) (by omega) hv hw01 hmk hMt hMw hMu hul
    · skip
      refine kR.n ?_
      show kR 3 125 b125_179 _ _ _ _
      refine kR.s rfl rfl ?_
      refine kR.s rfl rfl ?_
      refine kR.add ?_
      refine kR.g rfl ?_
      rw [show (if t f = 43 ∨ t f = 45 then f + 1 else f) = f + 1 from if_pos (by omega)]
      exact l_125b hm hX hR hfg hgn (q := f + 1) (by omega) hv hw01 hmk hMt hMw hMu hul
theorem l_125n {m : Nat} {E : Nat → kC} {S : Nat → Nat → Int} {sz : Nat × Nat} (hm : 53 ≤ m ∧ m ≤ 57) {t : Nat → Int} {n L : Nat} (hX : kTx t n L) (hR : kRt S t n) {f g : Nat} (hfg : f < g) (hgn : g ≤ n) {Mk : Int → Nat → Nat → Int} {v u : Nat} {w : Int} (hv : v < 60) (hw01 : w = 0 ∨ w = 1) (hmk : ∀ k : Int, kR 0 110 (blk 110 0) (kent 110 [.ref 30, .int (Int32.ofInt k)]) [] (sz, hp m E S) (fun r => r = (.inl (some (.int (Int32.ofInt (v : Int)))), (sz, hp m E (Mk k))))) (hMt : ∀ k, kRt (Mk k) t n) (hMw : ∀ k, Mk k 30 19 = w) (hMu : Mk 3 30 14 = (u : Int)) (hul : u ≤ 250) {nv : Int} (hnv : nv = 0 ∨ nv = 1) {v2 v4 v5 v6 v7 v8 v9 v10 v11 : Value} : kR 3 125 (blk 125 106) [.ref 30, .int (Int32.ofInt ((f : Int))), v2, .int (Int32.ofInt ((g : Int))), v4, v5, v6, v7, v8, v9, v10, v11] [.int (Int32.ofInt (nv))] (sz, hp m E S) (fun r => r = (.inl (some (.int (Int32.ofInt (v : Int)))), (sz, hp m E ((if nv = 1 ∨ ((g : Int) - (f : Int) = 4 ∧ t f = 116 ∧ t (f + 1) = 114 ∧ t (f + 2) = 117 ∧ t (f + 3) = 101) then ku (Mk 1) 35 v (if nv = 1 then 0 else 1) else (if (if 0 < (g : Int) - (if t f = 43 ∨ t f = 45 then f + 1 else f) ∧ (g : Int) - (if t f = 43 ∨ t f = 45 then f + 1 else f) < 19 ∧ kdch t 10 (g - (if t f = 43 ∨ t f = 45 then f + 1 else f)) (if t f = 43 ∨ t f = 45 then f + 1 else f) 0 = (g : Int) - (if t f = 43 ∨ t f = 45 then f + 1 else f) then (1 : Int) else 0) = 1 ∨ (if 2 < (g : Int) - f ∧ (g : Int) - f < 17 ∧ t f = 48 ∧ t (f + 1) = 120 ∧ kdch t 16 (g - (f + 2)) (f + 2) 0 = (g : Int) - f - 2 then (1 : Int) else 0) = 1 then ku (Mk 2) 35 v (if t f = 45 then -(if (if 0 < (g : Int) - (if t f = 43 ∨ t f = 45 then f + 1 else f) ∧ (g : Int) - (if t f = 43 ∨ t f = 45 then f + 1 else f) < 19 ∧ kdch t 10 (g - (if t f = 43 ∨ t f = 45 then f + 1 else f)) (if t f = 43 ∨ t f = 45 then f + 1 else f) 0 = (g : Int) - (if t f = 43 ∨ t f = 45 then f + 1 else f) then (1 : Int) else 0) = 1 then kwoh t 10 (g - (if t f = 43 ∨ t f = 45 then f + 1 else f)) (if t f = 43 ∨ t f = 45 then f + 1 else f) 0 else kwoh t 16 (g - (f + 2)) (f + 2) 0) else (if (if 0 < (g : Int) - (if t f = 43 ∨ t f = 45 then f + 1 else f) ∧ (g : Int) - (if t f = 43 ∨ t f = 45 then f + 1 else f) < 19 ∧ kdch t 10 (g - (if t f = 43 ∨ t f = 45 then f + 1 else f)) (if t f = 43 ∨ t f = 45 then f + 1 else f) 0 = (g : Int) - (if t f = 43 ∨ t f = 45 then f + 1 else f) then (1 : Int) else 0) = 1 then kwoh t 10 (g - (if t f = 43 ∨ t f = 45 then f + 1 else f)) (if t f = 43 ∨ t f = 45 then f + 1 else f) 0 else kwoh t 16 (g - (f + 2)) (f + 2) 0)) else if w = 1 then Mk 3 else kspl v (ksl t f g) u (Mk 3))))))) := by
  have hx1 := hX.1
  have z0 := hX.2.1 f
  have z1 := hX.2.1 (f + 1)
  have z2 := hX.2.1 (f + 2)
  have z3 := hX.2.1 (f + 3)
  have z4 := hX.2.1 (f + 4)
  show kR 3 125 b125_106 _ _ _ _
  refine kR.s rfl rfl ?_
  refine kR.s rfl rfl ?_
  refine kR.zne (by omega) (by omega) (fun q1 => ?_) (fun q1 => ?_)
  · skip
    show kR 3 125 b125_130 _ _ _ _
    refine kR.s rfl rfl ?_
    refine kR.s rfl rfl ?_
    refine kR.cv (v := .int (Int32.ofInt ((v : Int)))) (kargs_m hm (by decide) rfl) rfl (kR.up (hmk 1) (by decide)) ?_
    refine kR.s rfl rfl ?_
    refine kR.s rfl rfl ?_
    refine kR.gr (a := 30) (b := 35) (k := 10) (by omega) rfl rfl rfl (by decide) (by decide) rfl ?_
    refine kR.s rfl rfl ?_
    refine kR.s rfl rfl ?_
    refine kR.zeq (by omega) (by omega) (fun q3 => ?_) (fun q3 => ?_)
    · skip
      show kR 3 125 b125_152 _ _ _ _
      refine kR.lcn (c := 1) rfl ?_
      refine kR.n ?_
      show kR 3 125 b125_153 _ _ _ _
      refine kR.lst (a := 35) (by omega) rfl (by decide) (by omega) (by omega) ?_
      refine kR.s rfl rfl ?_
      refine kR.ret rfl rfl ?_
      rw [if_pos (by omega : nv = 1 ∨ ((g : Int) - (f : Int) = 4 ∧ t f = 116 ∧ t (f + 1) = 114 ∧ t (f + 2) = 117 ∧ t (f + 3) = 101))]
      first | (rw [if_pos (by omega : nv = 1)]; rfl) | (rw [if_neg (by omega : ¬ nv = 1)]; rfl)
    · skip
      refine kR.lcn (c := 0) rfl ?_
      refine kR.g rfl ?_
      show kR 3 125 b125_153 _ _ _ _
      refine kR.lst (a := 35) (by omega) rfl (by decide) (by omega) (by omega) ?_
      refine kR.s rfl rfl ?_
      refine kR.ret rfl rfl ?_
      rw [if_pos (by omega : nv = 1 ∨ ((g : Int) - (f : Int) = 4 ∧ t f = 116 ∧ t (f + 1) = 114 ∧ t (f + 2) = 117 ∧ t (f + 3) = 101))]
      first | (rw [if_pos (by omega : nv = 1)]; rfl) | (rw [if_neg (by omega : ¬ nv = 1)]; rfl)
  · skip
    refine kR.s rfl rfl ?_
    refine kR.s rfl rfl ?_
    refine kR.s rfl rfl ?_
    refine kR.bi rfl ?_
    refine kR.bi rfl ?_
    refine kR.bi rfl ?_
    refine kR.bi rfl ?_
    refine kR.cb (P := (g : Int) - (f : Int) = 4 ∧ t f = 116 ∧ t (f + 1) = 114 ∧ t (f + 2) = 117 ∧ t (f + 3) = 101) (kargs_m hm (by decide) rfl) rfl (kR.up (c_122 hm hX hR (f := f) (g := g) (by omega) (by omega) (by omega) (by omega) (by omega) (by omega)) (by decide)) (fun q4 => ?_) (fun q4 => ?_)
    · skip
      refine kR.zeq (by decide) (by decide) (fun q5 => absurd q5 (by decide)) (fun q5 => ?_)
      refine kR.n ?_
      show kR 3 125 b125_130 _ _ _ _
      refine kR.s rfl rfl ?_
      refine kR.s rfl rfl ?_
      refine kR.cv (v := .int (Int32.ofInt ((v : Int)))) (kargs_m hm (by decide) rfl) rfl (kR.up (hmk 1) (by decide)) ?_
      refine kR.s rfl rfl ?_
      refine kR.s rfl rfl ?_
      refine kR.gr (a := 30) (b := 35) (k := 10) (by omega) rfl rfl rfl (by decide) (by decide) rfl ?_
      refine kR.s rfl rfl ?_
      refine kR.s rfl rfl ?_
      refine kR.zeq (by omega) (by omega) (fun q7 => ?_) (fun q7 => ?_)
      · skip
        show kR 3 125 b125_152 _ _ _ _
        refine kR.lcn (c := 1) rfl ?_
        refine kR.n ?_
        show kR 3 125 b125_153 _ _ _ _
        refine kR.lst (a := 35) (by omega) rfl (by decide) (by omega) (by omega) ?_
        refine kR.s rfl rfl ?_
        refine kR.ret rfl rfl ?_
        rw [if_pos (by omega : nv = 1 ∨ ((g : Int) - (f : Int) = 4 ∧ t f = 116 ∧ t (f + 1) = 114 ∧ t (f + 2) = 117 ∧ t (f + 3) = 101))]
        first | (rw [if_pos (by omega : nv = 1)]; rfl) | (rw [if_neg (by omega : ¬ nv = 1)]; rfl)
      · skip
        refine kR.lcn (c := 0) rfl ?_
        refine kR.g rfl ?_
        show kR 3 125 b125_153 _ _ _ _
        refine kR.lst (a := 35) (by omega) rfl (by decide) (by omega) (by omega) ?_
        refine kR.s rfl rfl ?_
        refine kR.ret rfl rfl ?_
        rw [if_pos (by omega : nv = 1 ∨ ((g : Int) - (f : Int) = 4 ∧ t f = 116 ∧ t (f + 1) = 114 ∧ t (f + 2) = 117 ∧ t (f + 3) = 101))]
        first | (rw [if_pos (by omega : nv = 1)]; rfl) | (rw [if_neg (by omega : ¬ nv = 1)]; rfl)
    · skip
      refine kR.zeq (by decide) (by decide) (fun q8 => ?_) (fun q8 => absurd q8 (by decide))
      rw [if_neg (by omega : ¬ (nv = 1 ∨ ((g : Int) - (f : Int) = 4 ∧ t f = 116 ∧ t (f + 1) = 114 ∧ t (f + 2) = 117 ∧ t (f + 3) = 101)))]
      exact l_125a hm hX hR hfg hgn hv hw01 hmk hMt hMw hMu hul
/-- what the reference makes of a plain text from f to g -/
def kplm (t : Nat → Int) (Mk : Int → Nat → Nat → Int) (v u : Nat) (w : Int) (f g : Nat) : Nat → Nat → Int := (if ((g : Int) - (f : Int) = 1 ∧ t f = 126) ∨ ((g : Int) - (f : Int) = 4 ∧ t f = 110 ∧ t (f + 1) = 117 ∧ t (f + 2) = 108 ∧ t (f + 3) = 108) then Mk 0 else (if (if (g : Int) - (f : Int) = 5 ∧ t f = 102 ∧ t (f + 1) = 97 ∧ t (f + 2) = 108 ∧ t (f + 3) = 115 ∧ t (f + 4) = 101 then (1 : Int) else 0) = 1 ∨ ((g : Int) - (f : Int) = 4 ∧ t f = 116 ∧ t (f + 1) = 114 ∧ t (f + 2) = 117 ∧ t (f + 3) = 101) then ku (Mk 1) 35 v (if (if (g : Int) - (f : Int) = 5 ∧ t f = 102 ∧ t (f + 1) = 97 ∧ t (f + 2) = 108 ∧ t (f + 3) = 115 ∧ t (f + 4) = 101 then (1 : Int) else 0) = 1 then 0 else 1) else (if (if 0 < (g : Int) - (if t f = 43 ∨ t f = 45 then f + 1 else f) ∧ (g : Int) - (if t f = 43 ∨ t f = 45 then f + 1 else f) < 19 ∧ kdch t 10 (g - (if t f = 43 ∨ t f = 45 then f + 1 else f)) (if t f = 43 ∨ t f = 45 then f + 1 else f) 0 = (g : Int) - (if t f = 43 ∨ t f = 45 then f + 1 else f) then (1 : Int) else 0) = 1 ∨ (if 2 < (g : Int) - f ∧ (g : Int) - f < 17 ∧ t f = 48 ∧ t (f + 1) = 120 ∧ kdch t 16 (g - (f + 2)) (f + 2) 0 = (g : Int) - f - 2 then (1 : Int) else 0) = 1 then ku (Mk 2) 35 v (if t f = 45 then -(if (if 0 < (g : Int) - (if t f = 43 ∨ t f = 45 then f + 1 else f) ∧ (g : Int) - (if t f = 43 ∨ t f = 45 then f + 1 else f) < 19 ∧ kdch t 10 (g - (if t f = 43 ∨ t f = 45 then f + 1 else f)) (if t f = 43 ∨ t f = 45 then f + 1 else f) 0 = (g : Int) - (if t f = 43 ∨ t f = 45 then f + 1 else f) then (1 : Int) else 0) = 1 then kwoh t 10 (g - (if t f = 43 ∨ t f = 45 then f + 1 else f)) (if t f = 43 ∨ t f = 45 then f + 1 else f) 0 else kwoh t 16 (g - (f + 2)) (f + 2) 0) else (if (if 0 < (g : Int) - (if t f = 43 ∨ t f = 45 then f + 1 else f) ∧ (g : Int) - (if t f = 43 ∨ t f = 45 then f + 1 else f) < 19 ∧ kdch t 10 (g - (if t f = 43 ∨ t f = 45 then f + 1 else f)) (if t f = 43 ∨ t f = 45 then f + 1 else f) 0 = (g : Int) - (if t f = 43 ∨ t f = 45 then f + 1 else f) then (1 : Int) else 0) = 1 then kwoh t 10 (g - (if t f = 43 ∨ t f = 45 then f + 1 else f)) (if t f = 43 ∨ t f = 45 then f + 1 else f) 0 else kwoh t 16 (g - (f + 2)) (f + 2) 0)) else if w = 1 then Mk 3 else kspl v (ksl t f g) u (Mk 3))))
theorem l_125m {m : Nat} {E : Nat → kC} {S : Nat → Nat → Int} {sz : Nat × Nat} (hm : 53 ≤ m ∧ m ≤ 57) {t : Nat → Int} {n L : Nat} (hX : kTx t n L) (hR : kRt S t n) {f g : Nat} (hfg : f < g) (hgn : g ≤ n) {Mk : Int → Nat → Nat → Int} {v u : Nat} {w : Int} (hv : v < 60) (hw01 : w = 0 ∨ w = 1) (hmk : ∀ k : Int, kR 0 110 (blk 110 0) (kent 110 [.ref 30, .int (Int32.ofInt k)]) [] (sz, hp m E S) (fun r => r = (.inl (some (.int (Int32.ofInt (v : Int)))), (sz, hp m E (Mk k))))) (hMt : ∀ k, kRt (Mk k) t n) (hMw : ∀ k, Mk k 30 19 = w) (hMu : Mk 3 30 14 = (u : Int)) (hul : u ≤ 250) {v2 v4 v5 v6 v7 v8 v9 v10 v11 : Value} : kR 3 125 (blk 125 21) [.ref 30, .int (Int32.ofInt ((f : Int))), v2, .int (Int32.ofInt ((g : Int))), v4, v5, v6, v7, v8, v9, v10, v11] [] (sz, hp m E S) (fun r => r = (.inl (some (.int (Int32.ofInt (v : Int)))), (sz, hp m E (kplm t Mk v u w f g)))) := by
  have hx1 := hX.1
  have z0 := hX.2.1 f
  have z1 := hX.2.1 (f + 1)
  have z2 := hX.2.1 (f + 2)
  have z3 := hX.2.1 (f + 3)
  have z4 := hX.2.1 (f + 4)
  show kR 3 125 b125_21 _ _ _ _
  refine kR.s rfl rfl ?_
  refine kR.s rfl rfl ?_
  refine kR.sub ?_
  refine kR.s rfl rfl ?_
  refine kR.jne (by omega) (by omega) (by omega) (by omega) (fun q1 => ?_) (fun q1 => ?_)
  · skip
    show kR 3 125 b125_39 _ _ _ _
    refine kR.s rfl rfl ?_
    refine kR.s rfl rfl ?_
    refine kR.s rfl rfl ?_
    refine kR.bi rfl ?_
    refine kR.bi rfl ?_
    refine kR.bi rfl ?_
    refine kR.bi rfl ?_
    refine kR.cb (P := (g : Int) - (f : Int) = 4 ∧ t f = 110 ∧ t (f + 1) = 117 ∧ t (f + 2) = 108 ∧ t (f + 3) = 108) (kargs_m hm (by decide) rfl) rfl (kR.up (c_122 hm hX hR (f := f) (g := g) (by omega) (by omega) (by omega) (by omega) (by omega) (by omega)) (by decide)) (fun q2 => ?_) (fun q2 => ?_)
    · skip
      refine kR.zeq (by decide) (by decide) (fun q3 => absurd q3 (by decide)) (fun q3 => ?_)
      refine kR.n ?_
      show kR 3 125 b125_56 _ _ _ _
      refine kR.s rfl rfl ?_
      refine kR.s rfl rfl ?_
      refine kR.cv (v := .int (Int32.ofInt ((v : Int)))) (kargs_m hm (by decide) rfl) rfl (kR.up (hmk 0) (by decide)) ?_
      refine kR.ret rfl rfl ?_
      unfold kplm
      rw [if_pos (by omega : ((g : Int) - (f : Int) = 1 ∧ t f = 126) ∨ ((g : Int) - (f : Int) = 4 ∧ t f = 110 ∧ t (f + 1) = 117 ∧ t (f + 2) = 108 ∧ t (f + 3) = 108))]
    · skip
      refine kR.zeq (by decide) (by decide) (fun q5 => ?_) (fun q5 => absurd q5 (by decide))
      show kR 3 125 b125_62 _ _ _ _
      refine kR.s rfl rfl ?_
      refine kR.s rfl rfl ?_
      refine kR.sub ?_
      refine kR.s rfl rfl ?_
      refine kR.jne (by omega) (by omega) (by omega) (by omega) (fun q6 => ?_) (fun q6 => ?_)
      · skip
        show kR 3 125 b125_105 _ _ _ _
        refine kR.s rfl rfl ?_
        refine kR.n ?_
        unfold kplm
        rw [if_neg (by omega : ¬ (((g : Int) - (f : Int) = 1 ∧ t f = 126) ∨ ((g : Int) - (f : Int) = 4 ∧ t f = 110 ∧ t (f + 1) = 117 ∧ t (f + 2) = 108 ∧ t (f + 3) = 108)))]
        rw [show (if (g : Int) - (f : Int) = 5 ∧ t f = 102 ∧ t (f + 1) = 97 ∧ t (f + 2) = 108 ∧ t (f + 3) = 115 ∧ t (f + 4) = 101 then (1 : Int) else 0) = 0 from if_neg (by omega)]
        exact l_125n hm hX hR hfg hgn hv hw01 hmk hMt hMw hMu hul (nv := 0) (by omega)
      · skip
        refine kR.s rfl rfl ?_
        refine kR.s rfl rfl ?_
        refine kR.s rfl rfl ?_
        refine kR.s rfl rfl ?_
        refine kR.sub ?_
        rw [show (g : Int) - 1 = ((g - 1 : Nat) : Int) by omega]
        refine kR.bi rfl ?_
        refine kR.bi rfl ?_
        refine kR.bi rfl ?_
        refine kR.bi rfl ?_
        refine kR.cb (P := ((g - 1 : Nat) : Int) - (f : Int) = 4 ∧ t f = 102 ∧ t (f + 1) = 97 ∧ t (f + 2) = 108 ∧ t (f + 3) = 115) (kargs_m hm (by decide) rfl) rfl (kR.up (c_122 hm hX hR (f := f) (g := (g - 1)) (by omega) (by omega) (by omega) (by omega) (by omega) (by omega)) (by decide)) (fun q7 => ?_) (fun q7 => ?_)
        · skip
          refine kR.zeq (by decide) (by decide) (fun q8 => absurd q8 (by decide)) (fun q8 => ?_)
          refine kR.s rfl rfl ?_
          refine kR.gr (a := 30) (b := 33) (k := 6) (by omega) rfl rfl rfl (by decide) (by decide) rfl ?_
          refine kR.s rfl rfl ?_
          refine kR.s rfl rfl ?_
          refine kR.sub ?_
          rw [show (g : Int) - 1 = ((g - 1 : Nat) : Int) by omega]
          refine kR.ia (a := 33) (v := t (f + 4)) (by omega) rfl (by decide) (by omega) (by omega) (by show S 33 (g - 1) = _; rw [hR.2 _ (by omega), show g - 1 = f + 4 by omega]) ?_
          refine kR.bi rfl ?_
          refine kR.jne (by omega) (by omega) (by omega) (by omega) (fun q9 => ?_) (fun q9 => ?_)
          · skip
            show kR 3 125 b125_105 _ _ _ _
            refine kR.s rfl rfl ?_
            refine kR.n ?_
            unfold kplm
            rw [if_neg (by omega : ¬ (((g : Int) - (f : Int) = 1 ∧ t f = 126) ∨ ((g : Int) - (f : Int) = 4 ∧ t f = 110 ∧ t (f + 1) = 117 ∧ t (f + 2) = 108 ∧ t (f + 3) = 108)))]
            rw [show (if (g : Int) - (f : Int) = 5 ∧ t f = 102 ∧ t (f + 1) = 97 ∧ t (f + 2) = 108 ∧ t (f + 3) = 115 ∧ t (f + 4) = 101 then (1 : Int) else 0) = 0 from if_neg (by omega)]
            exact l_125n hm hX hR hfg hgn hv hw01 hmk hMt hMw hMu hul (nv := 0) (by omega)
          · skip
            refine kR.s rfl rfl ?_
            refine kR.g rfl ?_
            unfold kplm
            rw [if_neg (by omega : ¬ (((g : Int) - (f : Int) = 1 ∧ t f = 126) ∨ ((g : Int) - (f : Int) = 4 ∧ t f = 110 ∧ t (f + 1) = 117 ∧ t (f + 2) = 108 ∧ t (f + 3) = 108)))]
            rw [show (if (g : Int) - (f : Int) = 5 ∧ t f = 102 ∧ t (f + 1) = 97 ∧ t (f + 2) = 108 ∧ t (f + 3) = 115 ∧ t (f + 4) = 101 then (1 : Int) else 0) = 1 from if_pos (by omega)]
            exact l_125n hm hX hR hfg hgn hv hw01 hmk hMt hMw hMu hul (nv := 1) (by omega)
        · skip
          refine kR.zeq (by decide) (by decide) (fun q10 => ?_) (fun q10 => absurd q10 (by decide))
          show kR 3 125 b125_105 _ _ _ _
          refine kR.s rfl rfl ?_
          refine kR.n ?_
          unfold kplm
          rw [if_neg (by omega : ¬ (((g : Int) - (f : Int) = 1 ∧ t f = 126) ∨ ((g : Int) - (f : Int) = 4 ∧ t f = 110 ∧ t (f + 1) = 117 ∧ t (f + 2) = 108 ∧ t (f + 3) = 108)))]
          rw [show (if (g : Int) - (f : Int) = 5 ∧ t f = 102 ∧ t (f + 1) = 97 ∧ t (f + 2) = 108 ∧ t (f + 3) = 115 ∧ t (f + 4) = 101 then (1 : Int) else 0) = 0 from if_neg (by omega)]
          exact l_125n hm hX hR hfg hgn hv hw01 hmk hMt hMw hMu hul (nv := 0) (by omega)
  · skip
    refine kR.s rfl rfl ?_
    refine kR.gr (a := 30) (b := 33) (k := 6) (by omega) rfl rfl rfl (by decide) (by decide) rfl ?_
    refine kR.s rfl rfl ?_
    refine kR.ia (a := 33) (v := t f) (by omega) rfl (by decide) (by omega) (by omega) (by exact (hR.2 _ (by omega))) ?_
    refine kR.bi rfl ?_
    refine kR.jeq (by omega) (by omega) (by omega) (by omega) (fun q11 => ?_) (fun q11 => ?_)
    · skip
      show kR 3 125 b125_56 _ _ _ _
      refine kR.s rfl rfl ?_
      refine kR.s rfl rfl ?_
      refine kR.cv (v := .int (Int32.ofInt ((v : Int)))) (kargs_m hm (by decide) rfl) rfl (kR.up (hmk 0) (by decide)) ?_
      refine kR.ret rfl rfl ?_
      unfold kplm
      rw [if_pos (by omega : ((g : Int) - (f : Int) = 1 ∧ t f = 126) ∨ ((g : Int) - (f : Int) = 4 ∧ t f = 110 ∧ t (f + 1) = 117 ∧ t (f + 2) = 108 ∧ t (f + 3) = 108))]
    · skip
      refine kR.n ?_
      show kR 3 125 b125_39 _ _ _ _
      refine kR.s rfl rfl ?_
      refine kR.s rfl rfl ?_
      refine kR.s rfl rfl ?_
      refine kR.bi rfl ?_
      refine kR.bi rfl ?_
      refine kR.bi rfl ?_
      refine kR.bi rfl ?_
      refine kR.cb (P := (g : Int) - (f : Int) = 4 ∧ t f = 110 ∧ t (f + 1) = 117 ∧ t (f + 2) = 108 ∧ t (f + 3) = 108) (kargs_m hm (by decide) rfl) rfl (kR.up (c_122 hm hX hR (f := f) (g := g) (by omega) (by omega) (by omega) (by omega) (by omega) (by omega)) (by decide)) (fun q13 => ?_) (fun q13 => ?_)
      · skip
        refine kR.zeq (by decide) (by decide) (fun q14 => absurd q14 (by decide)) (fun q14 => ?_)
        refine kR.n ?_
        show kR 3 125 b125_56 _ _ _ _
        refine kR.s rfl rfl ?_
        refine kR.s rfl rfl ?_
        refine kR.cv (v := .int (Int32.ofInt ((v : Int)))) (kargs_m hm (by decide) rfl) rfl (kR.up (hmk 0) (by decide)) ?_
        refine kR.ret rfl rfl ?_
        unfold kplm
        rw [if_pos (by omega : ((g : Int) - (f : Int) = 1 ∧ t f = 126) ∨ ((g : Int) - (f : Int) = 4 ∧ t f = 110 ∧ t (f + 1) = 117 ∧ t (f + 2) = 108 ∧ t (f + 3) = 108))]
      · skip
        refine kR.zeq (by decide) (by decide) (fun q16 => ?_) (fun q16 => absurd q16 (by decide))
        show kR 3 125 b125_62 _ _ _ _
        refine kR.s rfl rfl ?_
        refine kR.s rfl rfl ?_
        refine kR.sub ?_
        refine kR.s rfl rfl ?_
        refine kR.jne (by omega) (by omega) (by omega) (by omega) (fun q17 => ?_) (fun q17 => ?_)
        · skip
          show kR 3 125 b125_105 _ _ _ _
          refine kR.s rfl rfl ?_
          refine kR.n ?_
          unfold kplm
          rw [if_neg (by omega : ¬ (((g : Int) - (f : Int) = 1 ∧ t f = 126) ∨ ((g : Int) - (f : Int) = 4 ∧ t f = 110 ∧ t (f + 1) = 117 ∧ t (f + 2) = 108 ∧ t (f + 3) = 108)))]
          rw [show (if (g : Int) - (f : Int) = 5 ∧ t f = 102 ∧ t (f + 1) = 97 ∧ t (f + 2) = 108 ∧ t (f + 3) = 115 ∧ t (f + 4) = 101 then (1 : Int) else 0) = 0 from if_neg (by omega)]
          exact l_125n hm hX hR hfg hgn hv hw01 hmk hMt hMw hMu hul (nv := 0) (by omega)
        · skip
          refine kR.s rfl rfl ?_
          refine kR.s rfl rfl ?_
          refine kR.s rfl rfl ?_
          refine kR.s rfl rfl ?_
          refine kR.sub ?_
          rw [show (g : Int) - 1 = ((g - 1 : Nat) : Int) by omega]
          refine kR.bi rfl ?_
          refine kR.bi rfl ?_
          refine kR.bi rfl ?_
          refine kR.bi rfl ?_
          refine kR.cb (P := ((g - 1 : Nat) : Int) - (f : Int) = 4 ∧ t f = 102 ∧ t (f + 1) = 97 ∧ t (f + 2) = 108 ∧ t (f + 3) = 115) (kargs_m hm (by decide) rfl) rfl (kR.up (c_122 hm hX hR (f := f) (g := (g - 1)) (by omega) (by omega) (by omega) (by omega) (by omega) (by omega)) (by decide)) (fun q18 => ?_) (fun q18 => ?_)
          · skip
            refine kR.zeq (by decide) (by decide) (fun q19 => absurd q19 (by decide)) (fun q19 => ?_)
            refine kR.s rfl rfl ?_
            refine kR.gr (a := 30) (b := 33) (k := 6) (by omega) rfl rfl rfl (by decide) (by decide) rfl ?_
            refine kR.s rfl rfl ?_
            refine kR.s rfl rfl ?_
            refine kR.sub ?_
            rw [show (g : Int) - 1 = ((g - 1 : Nat) : Int) by omega]
            refine kR.ia (a := 33) (v := t (f + 4)) (by omega) rfl (by decide) (by omega) (by omega) (by show S 33 (g - 1) = _; rw [hR.2 _ (by omega), show g - 1 = f + 4 by omega]) ?_
            refine kR.bi rfl ?_
            refine kR.jne (by omega) (by omega) (by omega) (by omega) (fun q20 => ?_) (fun q20 => ?_)
            · skip
              show kR 3 125 b125_105 _ _ _ _
              refine kR.s rfl rfl ?_
              refine kR.n ?_
              unfold kplm
              rw [if_neg (by omega : ¬ (((g : Int) - (f : Int) = 1 ∧ t f = 126) ∨ ((g : Int) - (f : Int) = 4 ∧ t f = 110 ∧ t (f + 1) = 117 ∧ t (f + 2) = 108 ∧ t (f + 3) = 108)))]
              rw [show (if (g : Int) - (f : Int) = 5 ∧ t f = 102 ∧ t (f + 1) = 97 ∧ t (f + 2) = 108 ∧ t (f + 3) = 115 ∧ t (f + 4) = 101 then (1 : Int) else 0) = 0 from if_neg (by omega)]
              exact l_125n hm hX hR hfg hgn hv hw01 hmk hMt hMw hMu hul (nv := 0) (by omega)
            · skip
              refine kR.s rfl rfl ?_
              refine kR.g rfl ?_
              unfold kplm
              rw [if_neg (by omega : ¬ (((g : Int) - (f : Int) = 1 ∧ t f = 126) ∨ ((g : Int) - (f : Int) = 4 ∧ t f = 110 ∧ t (f + 1) = 117 ∧ t (f + 2) = 108 ∧ t (f + 3) = 108)))]
              rw [show (if (g : Int) - (f : Int) = 5 ∧ t f = 102 ∧ t (f + 1) = 97 ∧ t (f + 2) = 108 ∧ t (f + 3) = 115 ∧ t (f + 4) = 101 then (1 : Int) else 0) = 1 from if_pos (by omega)]
              exact l_125n hm hX hR hfg hgn hv hw01 hmk hMt hMw hMu hul (nv := 1) (by omega)
          · skip
            refine kR.zeq (by decide) (by decide) (fun q21 => ?_) (fun q21 => absurd q21 (by decide))
            show kR 3 125 b125_105 _ _ _ _
            refine kR.s rfl rfl ?_
            refine kR.n ?_
            unfold kplm
            rw [if_neg (by omega : ¬ (((g : Int) - (f : Int) = 1 ∧ t f = 126) ∨ ((g : Int) - (f : Int) = 4 ∧ t f = 110 ∧ t (f + 1) = 117 ∧ t (f + 2) = 108 ∧ t (f + 3) = 108)))]
            rw [show (if (g : Int) - (f : Int) = 5 ∧ t f = 102 ∧ t (f + 1) = 97 ∧ t (f + 2) = 108 ∧ t (f + 3) = 115 ∧ t (f + 4) = 101 then (1 : Int) else 0) = 0 from if_neg (by omega)]
            exact l_125n hm hX hR hfg hgn hv hw01 hmk hMt hMw hMu hul (nv := 0) (by omega)
theorem l_125t {m : Nat} {E : Nat → kC} {S : Nat → Nat → Int} {sz : Nat × Nat} (hm : 53 ≤ m ∧ m ≤ 57) {t : Nat → Int} {n L : Nat} (hX : kTx t n L) (hR : kRt S t n) {f z : Nat} (hfb : ¬ t f = 32) (hzn : z ≤ n) {Q : kO × kH → Prop} {v4 v5 v6 v7 v8 v9 v10 v11 : Value} : ∀ (j k : Nat), k = j → f < k → k ≤ z → (f < kb (fun i => decide (t i = 32)) f k → kR 3 125 (blk 125 21) [.ref 30, .int (Int32.ofInt (f : Int)), .int (Int32.ofInt (z : Int)), .int (Int32.ofInt ((kb (fun i => decide (t i = 32)) f k : Nat) : Int)), v4, v5, v6, v7, v8, v9, v10, v11] [] (sz, hp m E S) Q) → kR 3 125 (blk 125 2) [.ref 30, .int (Int32.ofInt (f : Int)), .int (Int32.ofInt (z : Int)), .int (Int32.ofInt (k : Int)), v4, v5, v6, v7, v8, v9, v10, v11] [] (sz, hp m E S) Q := by
  intro j
  induction j using Nat.strongRecOn with
  | _ j ih =>
    intro k hj hk1 hk2 h21
    have hx1 := hX.1
    have z0 := hX.2.1 (k - 1)
    have hf1 : k = f + 1 → ¬ t (k - 1) = 32 := fun w => by rw [w]; exact hfb
    show kR 3 125 b125_2 _ _ _ _
    refine kR.s rfl rfl ?_
    refine kR.gr (a := 30) (b := 33) (k := 6) (by omega) rfl rfl rfl (by decide) (by decide) rfl ?_
    refine kR.s rfl rfl ?_
    refine kR.s rfl rfl ?_
    refine kR.sub ?_
    rw [show (k : Int) - 1 = ((k - 1 : Nat) : Int) by omega]
    refine kR.ia (a := 33) (v := t (k - 1)) (by omega) rfl (by decide) (by omega) (by omega) (by exact hR.2 _ (by omega)) ?_
    refine kR.bi rfl ?_
    refine kR.jne (by omega) (by omega) (by omega) (by omega) (fun q1 => ?_) (fun q1 => ?_)
    · skip
      rw [kb_no (by omega) (Or.inr (decide_eq_false ‹_›))] at h21
      exact h21 hk1
    · skip
      refine kR.inc rfl ?_
      refine kR.g rfl ?_
      rw [kb_go (by omega) (decide_eq_true ‹_›)] at h21
      have w := ih (k - 1) (by omega) (k - 1) rfl (by omega) (by omega) h21
      rw [show ((k - 1 : Nat) : Int) = (k : Int) + -1 by omega] at w
      exact w
theorem c_125 {m : Nat} {E : Nat → kC} {S : Nat → Nat → Int} {sz : Nat × Nat} (hm : 53 ≤ m ∧ m ≤ 57) {t : Nat → Int} {n L : Nat} (hX : kTx t n L) (hR : kRt S t n) {f z : Nat} (hfb : ¬ t f = 32) (hfz : f < z) (hzn : z ≤ n) {Mk : Int → Nat → Nat → Int} {v u : Nat} {w : Int} (hv : v < 60) (hw01 : w = 0 ∨ w = 1) (hmk : ∀ k : Int, kR 0 110 (blk 110 0) (kent 110 [.ref 30, .int (Int32.ofInt k)]) [] (sz, hp m E S) (fun r => r = (.inl (some (.int (Int32.ofInt (v : Int)))), (sz, hp m E (Mk k))))) (hMt : ∀ k, kRt (Mk k) t n) (hMw : ∀ k, Mk k 30 19 = w) (hMu : Mk 3 30 14 = (u : Int)) (hul : u ≤ 250) : kR 3 125 (blk 125 0) (kent 125 [.ref 30, .int (Int32.ofInt (f : Int)), .int (Int32.ofInt (z : Int))]) [] (sz, hp m E S) (fun r => r = (.inl (some (.int (Int32.ofInt (v : Int)))), (sz, hp m E (kplm t Mk v u w f (kb (fun i => decide (t i = 32)) f z))))) := by
  have hx1 := hX.1
  have hkb := kb_rng (p := (fun i => decide (t i = 32))) (lo := f) (hi := z) (by omega)
  show kR 3 125 b125_0 _ _ _ _
  refine kR.s rfl rfl ?_
  refine kR.s rfl rfl ?_
  refine kR.n ?_
  exact l_125t hm hX hR hfb hzn z z rfl hfz (Nat.le_refl _) (fun h => l_125m hm hX hR h (by omega) hv hw01 hmk hMt hMw hMu hul)
