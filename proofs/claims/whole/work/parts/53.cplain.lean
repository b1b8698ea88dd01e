/-! The class: nodes of plain and quoted texts. By program (wip/gen/gen53.py). -/
def kWrd (E : Nat → kC) : Prop := kStr E 1000001 [116, 114, 117, 101] ∧ kStr E 1000003 [102, 97, 108, 115, 101] ∧ kStr E 1000005 [110, 117, 108, 108] ∧ kStr E 1000011 [95, 46, 43, 47, 126, 40, 60, 61, 36, 94] ∧ kStr E 1000013 [126] ∧ kStr E 1000015 [48, 120] ∧ kStr E 1000017 [124] ∧ kStr E 1000019 [124, 45] ∧ kStr E 1000007 [44, 32] ∧ kStr E 1000009 [58, 32]
theorem kuq_close {t : Nat → Int} {e p : Nat} {q : Int} (h1 : 0 ≤ kbq t e q p) (h2 : kbq t e q p ≤ (p : Int) + 1) : kuq t e q p = [] := by
  rcases Nat.lt_or_ge p e with h | h
  · have r1 := kbq_rng (t := t) (e := e) (q := q) (e - (p + 2)) (p + 2) rfl
    have r2 := kbq_rng (t := t) (e := e) (q := q) (e - (p + 1)) (p + 1) rfl
    rw [kbq_u h] at h1 h2
    rw [kuq_u h]
    split at h1
    · rename_i c1
      rw [if_pos c1] at h2
      exfalso
      omega
    · rename_i c1
      rw [if_neg c1] at h2 ⊢
      split at h1
      · rename_i c2
        rw [if_pos c2]
      · rename_i c2
        rw [if_neg c2] at h2 ⊢
        split at h1
        · exfalso
          omega
        · rename_i c3
          rw [if_neg c3] at h2
          exfalso
          omega
  · exact kuq_end h
theorem kuq_more {t : Nat → Int} {e p : Nat} {q : Int} {b : Int} (hb : kbq t e q p = b) (h : (p : Int) + 1 < b) : p < e ∧ (kpr q (kch t e p) (kch t e (p + 1)) = 1 → kuq t e q p = (if kch t e (p + 1) = 110 then 10 else kch t e (p + 1)) :: kuq t e q (p + 2) ∧ kbq t e q (p + 2) = b) ∧ (¬ kpr q (kch t e p) (kch t e (p + 1)) = 1 → kuq t e q p = kch t e p :: kuq t e q (p + 1) ∧ kbq t e q (p + 1) = b) := by
  rcases Nat.lt_or_ge p e with hp | hp
  · rw [kbq_u hp] at hb
    refine ⟨hp, fun c1 => ?_, fun c1 => ?_⟩
    · rw [if_pos c1] at hb
      exact ⟨by rw [kuq_u hp, if_pos c1], hb⟩
    · rw [if_neg c1] at hb
      split at hb
      · exfalso
        omega
      · rename_i c2
        split at hb
        · exfalso
          omega
        · rename_i c3
          exact ⟨by rw [kuq_u hp, if_neg c1, if_neg c2, if_neg c3], hb⟩
  · rw [kbq_end hp] at hb
    exfalso
    omega
theorem c_62g {E : Nat → kC} {S : Nat → Nat → Int} {sz : Nat × Nat} {k z d : Int} {c : Nat} (hc : S 20 5 = (c : Int)) (hcl : c ≤ 60) (hd : 0 ≤ d ∧ d ≤ 100) (hnm : -1 ≤ S 54 3 ∧ S 54 3 < 26) (hg : d ≤ 8 ∧ c < 60) : kR 1 62 (blk 62 0) (kent 62 [.ref 54, .int (Int32.ofInt (k)), .long (Int64.ofInt (z)), .int (Int32.ofInt (d))]) [] (sz, hp 57 E S) (fun r => r = (.inl (some (.int (Int32.ofInt (c : Int)))), (sz, hp 57 E (kbeg S k z c)))) := kR.wk (c_62 hc hcl hd hnm) (fun u hu => hu.1 hg)
theorem c_62b {E : Nat → kC} {S : Nat → Nat → Int} {sz : Nat × Nat} {k z d : Int} {c : Nat} (hc : S 20 5 = (c : Int)) (hcl : c ≤ 60) (hd : 0 ≤ d ∧ d ≤ 100) (hnm : -1 ≤ S 54 3 ∧ S 54 3 < 26) (hg : ¬ (d ≤ 8 ∧ c < 60)) : kR 1 62 (blk 62 0) (kent 62 [.ref 54, .int (Int32.ofInt (k)), .long (Int64.ofInt (z)), .int (Int32.ofInt (d))]) [] (sz, hp 57 E S) (fun r => r = (.inr sz.1, knew (sz, hp 57 E S) 30 6 (fun _ => .null))) := kR.wk (c_62 hc hcl hd hnm) (fun u hu => hu.2 hg)
theorem kR.cT {D y pc x a : Nat} {i : Instr} {cs : List kI} {ls st st1 as : List Value} {h h2 : kH} {r : kO × kH → Prop} (e : kargs x st h = some (as, st1)) (hk : kkind i x = 5) (hy : khl y = []) (k1 : kR D x (blk x 0) (kent x as) [] h (fun r => r = (.inr a, h2))) (kf : r (.inr a, h2)) : kR (D + 1) y ((pc, x, i) :: cs) ls st h r :=
  kR.c e hk k1 (fun u hu => by
    subst hu
    show (match kfind (khl y) pc (h2.2 a).1 with
      | some (some t) => kR (D + 1) y (blk y t) ls [.ref a] h2 r
      | some none => r (.inr a, h2)
      | none => False)
    rw [hy]
    exact kf)
theorem l_83e {E : Nat → kC} {sz : Nat × Nat} {t : Nat → Int} {n L : Nat} (hX : kTx t n L) {e f g v : Nat} (hen : e ≤ n) (hv : v < 60) (hge : g ≤ e) {v2 v3 v5 v6 : Value} : ∀ (j p u : Nat) (S : Nat → Nat → Int), g - p = j → p ≤ g → kCt S t n L → S 53 3 = (e : Int) → S 20 7 = (u : Int) → u + j ≤ 200 → kR 2 83 (blk 83 268) [.ref 54, .int (Int32.ofInt (f : Int)), v2, v3, .int (Int32.ofInt (g : Int)), v5, v6, .int (Int32.ofInt (v : Int)), .int (Int32.ofInt (p : Int))] [] (sz, hp 57 E S) (fun r => r = (.inl (some (.int (Int32.ofInt (v : Int)))), (sz, hp 57 E (kapl v (kslh t j p) u S)))) := by
  intro j
  induction j with
  | zero =>
    intro p u S hj hpp hC he hu hul
    have hx1 := hX.1
    show kR 2 83 b83_268 _ _ _ _
    refine kR.s rfl rfl ?_
    refine kR.s rfl rfl ?_
    refine kR.jge (by omega) (by omega) (by omega) (by omega) (fun q1 => ?_) (fun q1 => ?_)
    · skip
      show kR 2 83 b83_299 _ _ _ _
      refine kR.s rfl rfl ?_
      refine kR.ret rfl rfl ?_
      rfl
    · skip
      exfalso
      omega
  | succ j ih =>
    intro p u S hj hpp hC he hu hul
    have hx1 := hX.1
    have z0 := hX.2.1 p
    have z1 : kch t e p = t p := kch_in (by omega)
    show kR 2 83 b83_268 _ _ _ _
    refine kR.s rfl rfl ?_
    refine kR.s rfl rfl ?_
    refine kR.jge (by omega) (by omega) (by omega) (by omega) (fun q1 => ?_) (fun q1 => ?_)
    · skip
      exfalso
      omega
    · skip
      refine kR.s rfl rfl ?_
      refine kR.gr (a := 54) (b := 20) (k := 1) (by omega) rfl rfl rfl (by decide) (by decide) rfl ?_
      refine kR.s rfl rfl ?_
      refine kR.s rfl rfl ?_
      refine kR.gr (a := 54) (b := 53) (k := 0) (by omega) rfl rfl rfl (by decide) (by decide) rfl ?_
      refine kR.s rfl rfl ?_
      refine kR.cv (v := .int (Int32.ofInt (t p))) rfl rfl (kR.up (z1 ▸ c_52 hX hC he hen (p := p) (by omega)) (by decide)) ?_
      refine kR.c0 rfl rfl (kR.up (c_38 (v := v) (x := t p) hv (by omega) hu (by omega)) (by decide)) ?_
      refine kR.inc rfl ?_
      refine kR.g rfl ?_
      exact ih (p + 1) (u + 1) (kapt S v (t p) u) (by omega) (by omega) hC he rfl (by omega)
theorem ksay_01 (t : Nat → Int) (e f g : Nat) (w : List Int) : 0 ≤ ksay t e f g w ∧ ksay t e f g w ≤ 1 := by
  unfold ksay
  split <;> omega
theorem kad_01 (t : Nat → Int) (e p g : Nat) (b o : Int) : 0 ≤ kad t e p g b o ∧ kad t e p g b o ≤ 1 := by
  unfold kad
  split <;> omega
/-- what the class makes of a plain text from f to g -/
def kplc (t : Nat → Int) (e : Nat) (Bg : Int → Int → Nat → Nat → Int) (v u f g : Nat) : Nat → Nat → Int := (if ksay t e f g [126] = 1 ∨ ksay t e f g [110, 117, 108, 108] = 1 then Bg 0 0 else if ksay t e f g [116, 114, 117, 101] = 1 ∨ ksay t e f g [102, 97, 108, 115, 101] = 1 then Bg 1 (if kch t e f = 116 then 1 else 0) else if kad t e (if kch t e f = 43 ∨ kch t e f = 45 then f + 1 else f) g 10 18 = 1 then Bg 2 (if kch t e f = 45 then -kvd t e 10 (if kch t e f = 43 ∨ kch t e f = 45 then f + 1 else f) g else kvd t e 10 (if kch t e f = 43 ∨ kch t e f = 45 then f + 1 else f) g) else if ksay t e f (f + 2) [48, 120] = 1 ∧ kad t e (f + 2) g 16 14 = 1 then Bg 2 (kvd t e 16 (f + 2) g) else kapl v (ksl t f g) u (Bg 3 0))
theorem l_83m {E : Nat → kC} {S : Nat → Nat → Int} {sz : Nat × Nat} {t : Nat → Int} {n L : Nat} (hX : kTx t n L) (hC : kCt S t n L) {e : Nat} (he : S 53 3 = (e : Int)) (hen : e ≤ n) {f g : Nat} (hfg : f < g) (hge : g ≤ e) {Bg : Int → Int → Nat → Nat → Int} {v u : Nat} {d : Int} (hv : v < 60) (hbg : ∀ k z : Int, kR 1 62 (blk 62 0) (kent 62 [.ref 54, .int (Int32.ofInt (k)), .long (Int64.ofInt (z)), .int (Int32.ofInt (d))]) [] (sz, hp 57 E S) (fun r => r = (.inl (some (.int (Int32.ofInt (v : Int)))), (sz, hp 57 E (Bg k z))))) (hBt : ∀ k z, kCt (Bg k z) t n L) (hBe : ∀ k z, Bg k z 53 3 = (e : Int)) (hBu : ∀ k z, Bg k z 20 7 = (u : Int)) (hul : u + (g - f) ≤ 200) (hWd : kWrd E) {v2 v5 v6 v7 v8 : Value} : kR 6 83 ((b83_0).drop 6) [.ref 54, .int (Int32.ofInt (f : Int)), v2, .int (Int32.ofInt d), .int (Int32.ofInt (g : Int)), v5, v6, v7, v8] [] (sz, hp 57 E S) (fun r => r = (.inl (some (.int (Int32.ofInt (v : Int)))), (sz, hp 57 E (kplc t e Bg v u f g)))) := by
  have hm : 53 ≤ 57 ∧ 57 ≤ 57 := by omega
  have hx1 := hX.1
  have hfr := kch_rng hX hen f
  show kR 6 83 [(11, 0, .aload_n 0), (12, 30600, .getfield 19), (15, 0, .iload_n 1), (16, 0, .iload 4), (18, 9, .ldc 193), (20, 59, .invokevirtual 195), (23, 41, .ifCond .ne (18)), (26, 0, .aload_n 0), (27, 30600, .getfield 19), (30, 0, .iload_n 1), (31, 0, .iload 4), (33, 2, .ldc 199), (35, 59, .invokevirtual 195), (38, 49, .ifCond .eq (11)), (41, 0, .nop)] _ _ _ _
  refine kR.s rfl rfl ?_
  refine kR.gr (a := 54) (b := 53) (k := 0) (by omega) rfl rfl rfl (by decide) (by decide) rfl ?_
  refine kR.s rfl rfl ?_
  refine kR.s rfl rfl ?_
  refine kR.s rfl rfl ?_
  have f1_0 := ksay_01 t e f g [126]
  refine kR.cv (v := .int (Int32.ofInt (ksay t e f g [126]))) rfl rfl (kR.up (c_59 hX hC he hen (f := f) (g := g) (by omega) (by omega) hWd.2.2.2.2.1) (by decide)) ?_
  refine kR.zne (by omega) (by omega) (fun q2 => ?_) (fun q2 => ?_)
  · skip
    show kR 6 83 b83_41 _ _ _ _
    refine kR.s rfl rfl ?_
    refine kR.s rfl rfl ?_
    refine kR.lcn (c := 0) rfl ?_
    refine kR.s rfl rfl ?_
    refine kR.cv (v := .int (Int32.ofInt ((v : Int)))) rfl rfl (kR.up (hbg _ _) (by decide)) ?_
    refine kR.ret rfl rfl ?_
    refine Prod.ext rfl (Prod.ext rfl ?_)
    show hp 57 E _ = hp 57 E (kplc t e Bg v u f g)
    congr 1
    unfold kplc
    rw [if_pos (by omega : ksay t e f g [126] = 1 ∨ ksay t e f g [110, 117, 108, 108] = 1)]
  · skip
    refine kR.s rfl rfl ?_
    refine kR.gr (a := 54) (b := 53) (k := 0) (by omega) rfl rfl rfl (by decide) (by decide) rfl ?_
    refine kR.s rfl rfl ?_
    refine kR.s rfl rfl ?_
    refine kR.s rfl rfl ?_
    have f4_0 := ksay_01 t e f g [110, 117, 108, 108]
    refine kR.cv (v := .int (Int32.ofInt (ksay t e f g [110, 117, 108, 108]))) rfl rfl (kR.up (c_59 hX hC he hen (f := f) (g := g) (by omega) (by omega) hWd.2.2.1) (by decide)) ?_
    refine kR.zeq (by omega) (by omega) (fun q5 => ?_) (fun q5 => ?_)
    · skip
      show kR 6 83 b83_49 _ _ _ _
      refine kR.s rfl rfl ?_
      refine kR.gr (a := 54) (b := 53) (k := 0) (by omega) rfl rfl rfl (by decide) (by decide) rfl ?_
      refine kR.s rfl rfl ?_
      refine kR.s rfl rfl ?_
      refine kR.s rfl rfl ?_
      have f6_0 := ksay_01 t e f g [116, 114, 117, 101]
      refine kR.cv (v := .int (Int32.ofInt (ksay t e f g [116, 114, 117, 101]))) rfl rfl (kR.up (c_59 hX hC he hen (f := f) (g := g) (by omega) (by omega) hWd.1) (by decide)) ?_
      refine kR.zne (by omega) (by omega) (fun q7 => ?_) (fun q7 => ?_)
      · skip
        show kR 6 83 b83_79 _ _ _ _
        refine kR.s rfl rfl ?_
        refine kR.s rfl rfl ?_
        refine kR.s rfl rfl ?_
        refine kR.gr (a := 54) (b := 53) (k := 0) (by omega) rfl rfl rfl (by decide) (by decide) rfl ?_
        refine kR.s rfl rfl ?_
        have f8_0 := kch_rng hX hen f
        refine kR.cv (v := .int (Int32.ofInt (kch t e f))) rfl rfl (kR.up (c_52 hX hC he hen (p := f) (by omega)) (by decide)) ?_
        refine kR.bi rfl ?_
        refine kR.jne (by omega) (by omega) (by omega) (by omega) (fun q9 => ?_) (fun q9 => ?_)
        · skip
          show kR 6 83 b83_98 _ _ _ _
          refine kR.lcn (c := 0) rfl ?_
          refine kR.n ?_
          show kR 6 83 b83_99 _ _ _ _
          refine kR.s rfl rfl ?_
          refine kR.cv (v := .int (Int32.ofInt ((v : Int)))) rfl rfl (kR.up (hbg _ _) (by decide)) ?_
          refine kR.ret rfl rfl ?_
          refine Prod.ext rfl (Prod.ext rfl ?_)
          show hp 57 E _ = hp 57 E (kplc t e Bg v u f g)
          congr 1
          unfold kplc
          rw [if_neg (by omega : ¬ (ksay t e f g [126] = 1 ∨ ksay t e f g [110, 117, 108, 108] = 1)), if_pos (by omega : ksay t e f g [116, 114, 117, 101] = 1 ∨ ksay t e f g [102, 97, 108, 115, 101] = 1)]
          first | rw [if_pos (by omega : kch t e f = 116)] | rw [if_neg (by omega : ¬ kch t e f = 116)]
        · skip
          refine kR.lcn (c := 1) rfl ?_
          refine kR.g rfl ?_
          show kR 6 83 b83_99 _ _ _ _
          refine kR.s rfl rfl ?_
          refine kR.cv (v := .int (Int32.ofInt ((v : Int)))) rfl rfl (kR.up (hbg _ _) (by decide)) ?_
          refine kR.ret rfl rfl ?_
          refine Prod.ext rfl (Prod.ext rfl ?_)
          show hp 57 E _ = hp 57 E (kplc t e Bg v u f g)
          congr 1
          unfold kplc
          rw [if_neg (by omega : ¬ (ksay t e f g [126] = 1 ∨ ksay t e f g [110, 117, 108, 108] = 1)), if_pos (by omega : ksay t e f g [116, 114, 117, 101] = 1 ∨ ksay t e f g [102, 97, 108, 115, 101] = 1)]
          first | rw [if_pos (by omega : kch t e f = 116)] | rw [if_neg (by omega : ¬ kch t e f = 116)]
      · skip
        refine kR.s rfl rfl ?_
        refine kR.gr (a := 54) (b := 53) (k := 0) (by omega) rfl rfl rfl (by decide) (by decide) rfl ?_
        refine kR.s rfl rfl ?_
        refine kR.s rfl rfl ?_
        refine kR.s rfl rfl ?_
        have f12_0 := ksay_01 t e f g [102, 97, 108, 115, 101]
        refine kR.cv (v := .int (Int32.ofInt (ksay t e f g [102, 97, 108, 115, 101]))) rfl rfl (kR.up (c_59 hX hC he hen (f := f) (g := g) (by omega) (by omega) hWd.2.1) (by decide)) ?_
        refine kR.zeq (by omega) (by omega) (fun q13 => ?_) (fun q13 => ?_)
        · skip
          show kR 6 83 b83_104 _ _ _ _
          refine kR.s rfl rfl ?_
          refine kR.gr (a := 54) (b := 53) (k := 0) (by omega) rfl rfl rfl (by decide) (by decide) rfl ?_
          refine kR.s rfl rfl ?_
          have f14_0 := kch_rng hX hen f
          refine kR.cv (v := .int (Int32.ofInt (kch t e f))) rfl rfl (kR.up (c_52 hX hC he hen (p := f) (by omega)) (by decide)) ?_
          refine kR.bi rfl ?_
          refine kR.jeq (by omega) (by omega) (by omega) (by omega) (fun q15 => ?_) (fun q15 => ?_)
          · skip
            show kR 6 83 b83_130 _ _ _ _
            refine kR.s rfl rfl ?_
            refine kR.g rfl ?_
            show kR 6 83 b83_135 _ _ _ _
            refine kR.s rfl rfl ?_
            refine kR.s rfl rfl ?_
            refine kR.zeq (by decide) (by decide) (fun q16 => absurd q16 (by decide)) (fun q16 => ?_)
            refine kR.s rfl rfl ?_
            refine kR.s rfl rfl ?_
            refine kR.add ?_
            refine kR.g rfl ?_
            show kR 6 83 b83_149 _ _ _ _
            refine kR.s rfl rfl ?_
            refine kR.s rfl rfl ?_
            refine kR.s rfl rfl ?_
            refine kR.s rfl rfl ?_
            refine kR.bi rfl ?_
            refine kR.bi rfl ?_
            have f17_0 := kad_01 t e (f + 1) g 10 18
            have f17_1 := kad_o t e (f + 1) g 10 18
            refine kR.cv (v := .int (Int32.ofInt (kad t e (f + 1) g 10 18))) rfl rfl (kR.up (c_84 hX hC he hen (f := (f + 1)) (g := g) (by omega) (by omega) (by omega) (by omega)) (by decide)) ?_
            refine kR.zeq (by omega) (by omega) (fun q18 => ?_) (fun q18 => ?_)
            · skip
              show kR 6 83 b83_206 _ _ _ _
              refine kR.s rfl rfl ?_
              refine kR.gr (a := 54) (b := 53) (k := 0) (by omega) rfl rfl rfl (by decide) (by decide) rfl ?_
              refine kR.s rfl rfl ?_
              refine kR.s rfl rfl ?_
              refine kR.s rfl rfl ?_
              refine kR.add ?_
              refine kR.s rfl rfl ?_
              have f19_0 := ksay_01 t e f (f + 2) [48, 120]
              refine kR.cv (v := .int (Int32.ofInt (ksay t e f (f + 2) [48, 120]))) rfl rfl (kR.up (c_59 hX hC he hen (f := f) (g := (f + 2)) (by omega) (by omega) hWd.2.2.2.2.2.1) (by decide)) ?_
              refine kR.zeq (by omega) (by omega) (fun q20 => ?_) (fun q20 => ?_)
              · skip
                show kR 6 83 b83_256 _ _ _ _
                refine kR.s rfl rfl ?_
                refine kR.s rfl rfl ?_
                refine kR.lcn (c := 0) rfl ?_
                refine kR.s rfl rfl ?_
                refine kR.cv (v := .int (Int32.ofInt ((v : Int)))) rfl rfl (kR.up (hbg _ _) (by decide)) ?_
                refine kR.s rfl rfl ?_
                refine kR.s rfl rfl ?_
                refine kR.s rfl rfl ?_
                refine kR.n ?_
                unfold kplc
                rw [if_neg (by omega : ¬ (ksay t e f g [126] = 1 ∨ ksay t e f g [110, 117, 108, 108] = 1)), if_neg (by omega : ¬ (ksay t e f g [116, 114, 117, 101] = 1 ∨ ksay t e f g [102, 97, 108, 115, 101] = 1)), show (if kch t e f = 43 ∨ kch t e f = 45 then f + 1 else f) = f + 1 from if_pos (by omega)]
                rw [if_neg (by omega : ¬ kad t e (f + 1) g 10 18 = 1), if_neg (by omega : ¬ (ksay t e f (f + 2) [48, 120] = 1 ∧ kad t e (f + 2) g 16 14 = 1))]
                exact kR.up (l_83e hX hen hv hge (g - f) f u (Bg 3 0) rfl (by omega) (hBt _ _) (hBe _ _) (hBu _ _) (by omega)) (by decide)
              · skip
                refine kR.s rfl rfl ?_
                refine kR.s rfl rfl ?_
                refine kR.s rfl rfl ?_
                refine kR.add ?_
                refine kR.s rfl rfl ?_
                refine kR.bi rfl ?_
                refine kR.bi rfl ?_
                have f22_0 := kad_01 t e (f + 2) g 16 14
                have f22_1 := kad_o t e (f + 2) g 16 14
                refine kR.cv (v := .int (Int32.ofInt (kad t e (f + 2) g 16 14))) rfl rfl (kR.up (c_84 hX hC he hen (f := (f + 2)) (g := g) (by omega) (by omega) (by omega) (by omega)) (by decide)) ?_
                refine kR.zeq (by omega) (by omega) (fun q23 => ?_) (fun q23 => ?_)
                · skip
                  show kR 6 83 b83_256 _ _ _ _
                  refine kR.s rfl rfl ?_
                  refine kR.s rfl rfl ?_
                  refine kR.lcn (c := 0) rfl ?_
                  refine kR.s rfl rfl ?_
                  refine kR.cv (v := .int (Int32.ofInt ((v : Int)))) rfl rfl (kR.up (hbg _ _) (by decide)) ?_
                  refine kR.s rfl rfl ?_
                  refine kR.s rfl rfl ?_
                  refine kR.s rfl rfl ?_
                  refine kR.n ?_
                  unfold kplc
                  rw [if_neg (by omega : ¬ (ksay t e f g [126] = 1 ∨ ksay t e f g [110, 117, 108, 108] = 1)), if_neg (by omega : ¬ (ksay t e f g [116, 114, 117, 101] = 1 ∨ ksay t e f g [102, 97, 108, 115, 101] = 1)), show (if kch t e f = 43 ∨ kch t e f = 45 then f + 1 else f) = f + 1 from if_pos (by omega)]
                  rw [if_neg (by omega : ¬ kad t e (f + 1) g 10 18 = 1), if_neg (by omega : ¬ (ksay t e f (f + 2) [48, 120] = 1 ∧ kad t e (f + 2) g 16 14 = 1))]
                  exact kR.up (l_83e hX hen hv hge (g - f) f u (Bg 3 0) rfl (by omega) (hBt _ _) (hBe _ _) (hBu _ _) (by omega)) (by decide)
                · skip
                  refine kR.s rfl rfl ?_
                  refine kR.s rfl rfl ?_
                  refine kR.s rfl rfl ?_
                  refine kR.s rfl rfl ?_
                  refine kR.s rfl rfl ?_
                  refine kR.add ?_
                  refine kR.s rfl rfl ?_
                  refine kR.bi rfl ?_
                  refine kR.cv (v := .long (Int64.ofInt (kvd t e 16 (f + 2) g))) rfl rfl (kR.up (c_85 hX hC he hen (f := (f + 2)) (g := g) (by omega) (by omega) (by omega)) (by decide)) ?_
                  refine kR.s rfl rfl ?_
                  refine kR.cv (v := .int (Int32.ofInt ((v : Int)))) rfl rfl (kR.up (hbg _ _) (by decide)) ?_
                  refine kR.ret rfl rfl ?_
                  refine Prod.ext rfl (Prod.ext rfl ?_)
                  show hp 57 E _ = hp 57 E (kplc t e Bg v u f g)
                  congr 1
                  unfold kplc
                  rw [if_neg (by omega : ¬ (ksay t e f g [126] = 1 ∨ ksay t e f g [110, 117, 108, 108] = 1)), if_neg (by omega : ¬ (ksay t e f g [116, 114, 117, 101] = 1 ∨ ksay t e f g [102, 97, 108, 115, 101] = 1)), show (if kch t e f = 43 ∨ kch t e f = 45 then f + 1 else f) = f + 1 from if_pos (by omega)]
                  rw [if_neg (by omega : ¬ kad t e (f + 1) g 10 18 = 1), if_pos (by omega : ksay t e f (f + 2) [48, 120] = 1 ∧ kad t e (f + 2) g 16 14 = 1)]
            · skip
              refine kR.s rfl rfl ?_
              refine kR.s rfl rfl ?_
              refine kR.s rfl rfl ?_
              refine kR.bi rfl ?_
              refine kR.cv (v := .long (Int64.ofInt (kvd t e 10 (f + 1) g))) rfl rfl (kR.up (c_85 hX hC he hen (f := (f + 1)) (g := g) (by omega) (by omega) (by omega)) (by decide)) ?_
              refine kR.s rfl rfl ?_
              refine kR.s rfl rfl ?_
              refine kR.s rfl rfl ?_
              refine kR.s rfl rfl ?_
              refine kR.gr (a := 54) (b := 53) (k := 0) (by omega) rfl rfl rfl (by decide) (by decide) rfl ?_
              refine kR.s rfl rfl ?_
              have f28_0 := kch_rng hX hen f
              refine kR.cv (v := .int (Int32.ofInt (kch t e f))) rfl rfl (kR.up (c_52 hX hC he hen (p := f) (by omega)) (by decide)) ?_
              refine kR.bi rfl ?_
              refine kR.jne (by omega) (by omega) (by omega) (by omega) (fun q29 => ?_) (fun q29 => ?_)
              · skip
                show kR 6 83 b83_199 _ _ _ _
                refine kR.s rfl rfl ?_
                refine kR.n ?_
                show kR 6 83 b83_201 _ _ _ _
                refine kR.s rfl rfl ?_
                refine kR.cv (v := .int (Int32.ofInt ((v : Int)))) rfl rfl (kR.up (hbg _ _) (by decide)) ?_
                refine kR.ret rfl rfl ?_
                refine Prod.ext rfl (Prod.ext rfl ?_)
                show hp 57 E _ = hp 57 E (kplc t e Bg v u f g)
                congr 1
                unfold kplc
                rw [if_neg (by omega : ¬ (ksay t e f g [126] = 1 ∨ ksay t e f g [110, 117, 108, 108] = 1)), if_neg (by omega : ¬ (ksay t e f g [116, 114, 117, 101] = 1 ∨ ksay t e f g [102, 97, 108, 115, 101] = 1)), show (if kch t e f = 43 ∨ kch t e f = 45 then f + 1 else f) = f + 1 from if_pos (by omega)]
                rw [if_pos (by omega : kad t e (f + 1) g 10 18 = 1)]
                first | (exfalso; omega) | (rw [if_pos (by omega : kch t e f = 45)]; done) | (rw [if_neg (by omega : ¬ kch t e f = 45)]; done)
              · skip
                refine kR.s rfl rfl ?_
                refine kR.lneg ?_
                refine kR.g rfl ?_
                show kR 6 83 b83_201 _ _ _ _
                refine kR.s rfl rfl ?_
                refine kR.cv (v := .int (Int32.ofInt ((v : Int)))) rfl rfl (kR.up (hbg _ _) (by decide)) ?_
                refine kR.ret rfl rfl ?_
                refine Prod.ext rfl (Prod.ext rfl ?_)
                show hp 57 E _ = hp 57 E (kplc t e Bg v u f g)
                congr 1
                unfold kplc
                rw [if_neg (by omega : ¬ (ksay t e f g [126] = 1 ∨ ksay t e f g [110, 117, 108, 108] = 1)), if_neg (by omega : ¬ (ksay t e f g [116, 114, 117, 101] = 1 ∨ ksay t e f g [102, 97, 108, 115, 101] = 1)), show (if kch t e f = 43 ∨ kch t e f = 45 then f + 1 else f) = f + 1 from if_pos (by omega)]
                rw [if_pos (by omega : kad t e (f + 1) g 10 18 = 1)]
                first | (exfalso; omega) | (rw [if_pos (by omega : kch t e f = 45)]; done) | (rw [if_neg (by omega : ¬ kch t e f = 45)]; done)
          · skip
            refine kR.s rfl rfl ?_
            refine kR.gr (a := 54) (b := 53) (k := 0) (by omega) rfl rfl rfl (by decide) (by decide) rfl ?_
            refine kR.s rfl rfl ?_
            have f32_0 := kch_rng hX hen f
            refine kR.cv (v := .int (Int32.ofInt (kch t e f))) rfl rfl (kR.up (c_52 hX hC he hen (p := f) (by omega)) (by decide)) ?_
            refine kR.bi rfl ?_
            refine kR.jne (by omega) (by omega) (by omega) (by omega) (fun q33 => ?_) (fun q33 => ?_)
            · skip
              show kR 6 83 b83_134 _ _ _ _
              refine kR.s rfl rfl ?_
              refine kR.n ?_
              show kR 6 83 b83_135 _ _ _ _
              refine kR.s rfl rfl ?_
              refine kR.s rfl rfl ?_
              refine kR.zeq (by decide) (by decide) (fun q34 => ?_) (fun q34 => absurd q34 (by decide))
              show kR 6 83 b83_148 _ _ _ _
              refine kR.s rfl rfl ?_
              refine kR.n ?_
              show kR 6 83 b83_149 _ _ _ _
              refine kR.s rfl rfl ?_
              refine kR.s rfl rfl ?_
              refine kR.s rfl rfl ?_
              refine kR.s rfl rfl ?_
              refine kR.bi rfl ?_
              refine kR.bi rfl ?_
              have f35_0 := kad_01 t e f g 10 18
              have f35_1 := kad_o t e f g 10 18
              refine kR.cv (v := .int (Int32.ofInt (kad t e f g 10 18))) rfl rfl (kR.up (c_84 hX hC he hen (f := f) (g := g) (by omega) (by omega) (by omega) (by omega)) (by decide)) ?_
              refine kR.zeq (by omega) (by omega) (fun q36 => ?_) (fun q36 => ?_)
              · skip
                show kR 6 83 b83_206 _ _ _ _
                refine kR.s rfl rfl ?_
                refine kR.gr (a := 54) (b := 53) (k := 0) (by omega) rfl rfl rfl (by decide) (by decide) rfl ?_
                refine kR.s rfl rfl ?_
                refine kR.s rfl rfl ?_
                refine kR.s rfl rfl ?_
                refine kR.add ?_
                refine kR.s rfl rfl ?_
                have f37_0 := ksay_01 t e f (f + 2) [48, 120]
                refine kR.cv (v := .int (Int32.ofInt (ksay t e f (f + 2) [48, 120]))) rfl rfl (kR.up (c_59 hX hC he hen (f := f) (g := (f + 2)) (by omega) (by omega) hWd.2.2.2.2.2.1) (by decide)) ?_
                refine kR.zeq (by omega) (by omega) (fun q38 => ?_) (fun q38 => ?_)
                · skip
                  show kR 6 83 b83_256 _ _ _ _
                  refine kR.s rfl rfl ?_
                  refine kR.s rfl rfl ?_
                  refine kR.lcn (c := 0) rfl ?_
                  refine kR.s rfl rfl ?_
                  refine kR.cv (v := .int (Int32.ofInt ((v : Int)))) rfl rfl (kR.up (hbg _ _) (by decide)) ?_
                  refine kR.s rfl rfl ?_
                  refine kR.s rfl rfl ?_
                  refine kR.s rfl rfl ?_
                  refine kR.n ?_
                  unfold kplc
                  rw [if_neg (by omega : ¬ (ksay t e f g [126] = 1 ∨ ksay t e f g [110, 117, 108, 108] = 1)), if_neg (by omega : ¬ (ksay t e f g [116, 114, 117, 101] = 1 ∨ ksay t e f g [102, 97, 108, 115, 101] = 1)), show (if kch t e f = 43 ∨ kch t e f = 45 then f + 1 else f) = f from if_neg (by omega)]
                  rw [if_neg (by omega : ¬ kad t e f g 10 18 = 1), if_neg (by omega : ¬ (ksay t e f (f + 2) [48, 120] = 1 ∧ kad t e (f + 2) g 16 14 = 1))]
                  exact kR.up (l_83e hX hen hv hge (g - f) f u (Bg 3 0) rfl (by omega) (hBt _ _) (hBe _ _) (hBu _ _) (by omega)) (by decide)
                · skip
                  refine kR.s rfl rfl ?_
                  refine kR.s rfl rfl ?_
                  refine kR.s rfl rfl ?_
                  refine kR.add ?_
                  refine kR.s rfl rfl ?_
                  refine kR.bi rfl ?_
                  refine kR.bi rfl ?_
                  have f40_0 := kad_01 t e (f + 2) g 16 14
                  have f40_1 := kad_o t e (f + 2) g 16 14
                  refine kR.cv (v := .int (Int32.ofInt (kad t e (f + 2) g 16 14))) rfl rfl (kR.up (c_84 hX hC he hen (f := (f + 2)) (g := g) (by omega) (by omega) (by omega) (by omega)) (by decide)) ?_
                  refine kR.zeq (by omega) (by omega) (fun q41 => ?_) (fun q41 => ?_)
                  · skip
                    show kR 6 83 b83_256 _ _ _ _
                    refine kR.s rfl rfl ?_
                    refine kR.s rfl rfl ?_
                    refine kR.lcn (c := 0) rfl ?_
                    refine kR.s rfl rfl ?_
                    refine kR.cv (v := .int (Int32.ofInt ((v : Int)))) rfl rfl (kR.up (hbg _ _) (by decide)) ?_
                    refine kR.s rfl rfl ?_
                    refine kR.s rfl rfl ?_
                    refine kR.s rfl rfl ?_
                    refine kR.n ?_
                    unfold kplc
                    rw [if_neg (by omega : ¬ (ksay t e f g [126] = 1 ∨ ksay t e f g [110, 117, 108, 108] = 1)), if_neg (by omega : ¬ (ksay t e f g [116, 114, 117, 101] = 1 ∨ ksay t e f g [102, 97, 108, 115, 101] = 1)), show (if kch t e f = 43 ∨ kch t e f = 45 then f + 1 else f) = f from if_neg (by omega)]
                    rw [if_neg (by omega : ¬ kad t e f g 10 18 = 1), if_neg (by omega : ¬ (ksay t e f (f + 2) [48, 120] = 1 ∧ kad t e (f + 2) g 16 14 = 1))]
                    exact kR.up (l_83e hX hen hv hge (g - f) f u (Bg 3 0) rfl (by omega) (hBt _ _) (hBe _ _) (hBu _ _) (by omega)) (by decide)
                  · skip
                    refine kR.s rfl rfl ?_
                    refine kR.s rfl rfl ?_
                    refine kR.s rfl rfl ?_
                    refine kR.s rfl rfl ?_
                    refine kR.s rfl rfl ?_
                    refine kR.add ?_
                    refine kR.s rfl rfl ?_
                    refine kR.bi rfl ?_
                    refine kR.cv (v := .long (Int64.ofInt (kvd t e 16 (f + 2) g))) rfl rfl (kR.up (c_85 hX hC he hen (f := (f + 2)) (g := g) (by omega) (by omega) (by omega)) (by decide)) ?_
                    refine kR.s rfl rfl ?_
                    refine kR.cv (v := .int (Int32.ofInt ((v : Int)))) rfl rfl (kR.up (hbg _ _) (by decide)) ?_
                    refine kR.ret rfl rfl ?_
                    refine Prod.ext rfl (Prod.ext rfl ?_)
                    show hp 57 E _ = hp 57 E (kplc t e Bg v u f g)
                    congr 1
                    unfold kplc
                    rw [if_neg (by omega : ¬ (ksay t e f g [126] = 1 ∨ ksay t e f g [110, 117, 108, 108] = 1)), if_neg (by omega : ¬ (ksay t e f g [116, 114, 117, 101] = 1 ∨ ksay t e f g [102, 97, 108, 115, 101] = 1)), show (if kch t e f = 43 ∨ kch t e f = 45 then f + 1 else f) = f from if_neg (by omega)]
                    rw [if_neg (by omega : ¬ kad t e f g 10 18 = 1), if_pos (by omega : ksay t e f (f + 2) [48, 120] = 1 ∧ kad t e (f + 2) g 16 14 = 1)]
              · skip
                refine kR.s rfl rfl ?_
                refine kR.s rfl rfl ?_
                refine kR.s rfl rfl ?_
                refine kR.bi rfl ?_
                refine kR.cv (v := .long (Int64.ofInt (kvd t e 10 f g))) rfl rfl (kR.up (c_85 hX hC he hen (f := f) (g := g) (by omega) (by omega) (by omega)) (by decide)) ?_
                refine kR.s rfl rfl ?_
                refine kR.s rfl rfl ?_
                refine kR.s rfl rfl ?_
                refine kR.s rfl rfl ?_
                refine kR.gr (a := 54) (b := 53) (k := 0) (by omega) rfl rfl rfl (by decide) (by decide) rfl ?_
                refine kR.s rfl rfl ?_
                have f46_0 := kch_rng hX hen f
                refine kR.cv (v := .int (Int32.ofInt (kch t e f))) rfl rfl (kR.up (c_52 hX hC he hen (p := f) (by omega)) (by decide)) ?_
                refine kR.bi rfl ?_
                refine kR.jne (by omega) (by omega) (by omega) (by omega) (fun q47 => ?_) (fun q47 => ?_)
                · skip
                  show kR 6 83 b83_199 _ _ _ _
                  refine kR.s rfl rfl ?_
                  refine kR.n ?_
                  show kR 6 83 b83_201 _ _ _ _
                  refine kR.s rfl rfl ?_
                  refine kR.cv (v := .int (Int32.ofInt ((v : Int)))) rfl rfl (kR.up (hbg _ _) (by decide)) ?_
                  refine kR.ret rfl rfl ?_
                  refine Prod.ext rfl (Prod.ext rfl ?_)
                  show hp 57 E _ = hp 57 E (kplc t e Bg v u f g)
                  congr 1
                  unfold kplc
                  rw [if_neg (by omega : ¬ (ksay t e f g [126] = 1 ∨ ksay t e f g [110, 117, 108, 108] = 1)), if_neg (by omega : ¬ (ksay t e f g [116, 114, 117, 101] = 1 ∨ ksay t e f g [102, 97, 108, 115, 101] = 1)), show (if kch t e f = 43 ∨ kch t e f = 45 then f + 1 else f) = f from if_neg (by omega)]
                  rw [if_pos (by omega : kad t e f g 10 18 = 1)]
                  first | (exfalso; omega) | (rw [if_pos (by omega : kch t e f = 45)]; done) | (rw [if_neg (by omega : ¬ kch t e f = 45)]; done)
                · skip
                  refine kR.s rfl rfl ?_
                  refine kR.lneg ?_
                  refine kR.g rfl ?_
                  show kR 6 83 b83_201 _ _ _ _
                  refine kR.s rfl rfl ?_
                  refine kR.cv (v := .int (Int32.ofInt ((v : Int)))) rfl rfl (kR.up (hbg _ _) (by decide)) ?_
                  refine kR.ret rfl rfl ?_
                  refine Prod.ext rfl (Prod.ext rfl ?_)
                  show hp 57 E _ = hp 57 E (kplc t e Bg v u f g)
                  congr 1
                  unfold kplc
                  rw [if_neg (by omega : ¬ (ksay t e f g [126] = 1 ∨ ksay t e f g [110, 117, 108, 108] = 1)), if_neg (by omega : ¬ (ksay t e f g [116, 114, 117, 101] = 1 ∨ ksay t e f g [102, 97, 108, 115, 101] = 1)), show (if kch t e f = 43 ∨ kch t e f = 45 then f + 1 else f) = f from if_neg (by omega)]
                  rw [if_pos (by omega : kad t e f g 10 18 = 1)]
                  first | (exfalso; omega) | (rw [if_pos (by omega : kch t e f = 45)]; done) | (rw [if_neg (by omega : ¬ kch t e f = 45)]; done)
            · skip
              refine kR.n ?_
              show kR 6 83 b83_130 _ _ _ _
              refine kR.s rfl rfl ?_
              refine kR.g rfl ?_
              show kR 6 83 b83_135 _ _ _ _
              refine kR.s rfl rfl ?_
              refine kR.s rfl rfl ?_
              refine kR.zeq (by decide) (by decide) (fun q50 => absurd q50 (by decide)) (fun q50 => ?_)
              refine kR.s rfl rfl ?_
              refine kR.s rfl rfl ?_
              refine kR.add ?_
              refine kR.g rfl ?_
              show kR 6 83 b83_149 _ _ _ _
              refine kR.s rfl rfl ?_
              refine kR.s rfl rfl ?_
              refine kR.s rfl rfl ?_
              refine kR.s rfl rfl ?_
              refine kR.bi rfl ?_
              refine kR.bi rfl ?_
              have f51_0 := kad_01 t e (f + 1) g 10 18
              have f51_1 := kad_o t e (f + 1) g 10 18
              refine kR.cv (v := .int (Int32.ofInt (kad t e (f + 1) g 10 18))) rfl rfl (kR.up (c_84 hX hC he hen (f := (f + 1)) (g := g) (by omega) (by omega) (by omega) (by omega)) (by decide)) ?_
              refine kR.zeq (by omega) (by omega) (fun q52 => ?_) (fun q52 => ?_)
              · skip
                show kR 6 83 b83_206 _ _ _ _
                refine kR.s rfl rfl ?_
                refine kR.gr (a := 54) (b := 53) (k := 0) (by omega) rfl rfl rfl (by decide) (by decide) rfl ?_
                refine kR.s rfl rfl ?_
                refine kR.s rfl rfl ?_
                refine kR.s rfl rfl ?_
                refine kR.add ?_
                refine kR.s rfl rfl ?_
                have f53_0 := ksay_01 t e f (f + 2) [48, 120]
                refine kR.cv (v := .int (Int32.ofInt (ksay t e f (f + 2) [48, 120]))) rfl rfl (kR.up (c_59 hX hC he hen (f := f) (g := (f + 2)) (by omega) (by omega) hWd.2.2.2.2.2.1) (by decide)) ?_
                refine kR.zeq (by omega) (by omega) (fun q54 => ?_) (fun q54 => ?_)
                · skip
                  show kR 6 83 b83_256 _ _ _ _
                  refine kR.s rfl rfl ?_
                  refine kR.s rfl rfl ?_
                  refine kR.lcn (c := 0) rfl ?_
                  refine kR.s rfl rfl ?_
                  refine kR.cv (v := .int (Int32.ofInt ((v : Int)))) rfl rfl (kR.up (hbg _ _) (by decide)) ?_
                  refine kR.s rfl rfl ?_
                  refine kR.s rfl rfl ?_
                  refine kR.s rfl rfl ?_
                  refine kR.n ?_
                  unfold kplc
                  rw [if_neg (by omega : ¬ (ksay t e f g [126] = 1 ∨ ksay t e f g [110, 117, 108, 108] = 1)), if_neg (by omega : ¬ (ksay t e f g [116, 114, 117, 101] = 1 ∨ ksay t e f g [102, 97, 108, 115, 101] = 1)), show (if kch t e f = 43 ∨ kch t e f = 45 then f + 1 else f) = f + 1 from if_pos (by omega)]
                  rw [if_neg (by omega : ¬ kad t e (f + 1) g 10 18 = 1), if_neg (by omega : ¬ (ksay t e f (f + 2) [48, 120] = 1 ∧ kad t e (f + 2) g 16 14 = 1))]
                  exact kR.up (l_83e hX hen hv hge (g - f) f u (Bg 3 0) rfl (by omega) (hBt _ _) (hBe _ _) (hBu _ _) (by omega)) (by decide)
                · skip
                  refine kR.s rfl rfl ?_
                  refine kR.s rfl rfl ?_
                  refine kR.s rfl rfl ?_
                  refine kR.add ?_
                  refine kR.s rfl rfl ?_
                  refine kR.bi rfl ?_
                  refine kR.bi rfl ?_
                  have f56_0 := kad_01 t e (f + 2) g 16 14
                  have f56_1 := kad_o t e (f + 2) g 16 14
                  refine kR.cv (v := .int (Int32.ofInt (kad t e (f + 2) g 16 14))) rfl rfl (kR.up (c_84 hX hC he hen (f := (f + 2)) (g := g) (by omega) (by omega) (by omega) (by omega)) (by decide)) ?_
                  refine kR.zeq (by omega) (by omega) (fun q57 => ?_) (fun q57 => ?_)
                  · skip
                    show kR 6 83 b83_256 _ _ _ _
                    refine kR.s rfl rfl ?_
                    refine kR.s rfl rfl ?_
                    refine kR.lcn (c := 0) rfl ?_
                    refine kR.s rfl rfl ?_
                    refine kR.cv (v := .int (Int32.ofInt ((v : Int)))) rfl rfl (kR.up (hbg _ _) (by decide)) ?_
                    refine kR.s rfl rfl ?_
                    refine kR.s rfl rfl ?_
                    refine kR.s rfl rfl ?_
                    refine kR.n ?_
                    unfold kplc
                    rw [if_neg (by omega : ¬ (ksay t e f g [126] = 1 ∨ ksay t e f g [110, 117, 108, 108] = 1)), if_neg (by omega : ¬ (ksay t e f g [116, 114, 117, 101] = 1 ∨ ksay t e f g [102, 97, 108, 115, 101] = 1)), show (if kch t e f = 43 ∨ kch t e f = 45 then f + 1 else f) = f + 1 from if_pos (by omega)]
                    rw [if_neg (by omega : ¬ kad t e (f + 1) g 10 18 = 1), if_neg (by omega : ¬ (ksay t e f (f + 2) [48, 120] = 1 ∧ kad t e (f + 2) g 16 14 = 1))]
                    exact kR.up (l_83e hX hen hv hge (g - f) f u (Bg 3 0) rfl (by omega) (hBt _ _) (hBe _ _) (hBu _ _) (by omega)) (by decide)
                  · skip
                    refine kR.s rfl rfl ?_
                    refine kR.s rfl rfl ?_
                    refine kR.s rfl rfl ?_
                    refine kR.s rfl rfl ?_
                    refine kR.s rfl rfl ?_
                    refine kR.add ?_
                    refine kR.s rfl rfl ?_
                    refine kR.bi rfl ?_
                    refine kR.cv (v := .long (Int64.ofInt (kvd t e 16 (f + 2) g))) rfl rfl (kR.up (c_85 hX hC he hen (f := (f + 2)) (g := g) (by omega) (by omega) (by omega)) (by decide)) ?_
                    refine kR.s rfl rfl ?_
                    refine kR.cv (v := .int (Int32.ofInt ((v : Int)))) rfl rfl (kR.up (hbg _ _) (by decide)) ?_
                    refine kR.ret rfl rfl ?_
                    refine Prod.ext rfl (Prod.ext rfl ?_)
                    show hp 57 E _ = hp 57 E (kplc t e Bg v u f g)
                    congr 1
                    unfold kplc
                    rw [if_neg (by omega : ¬ (ksay t e f g [126] = 1 ∨ ksay t e f g [110, 117, 108, 108] = 1)), if_neg (by omega : ¬ (ksay t e f g [116, 114, 117, 101] = 1 ∨ ksay t e f g [102, 97, 108, 115, 101] = 1)), show (if kch t e f = 43 ∨ kch t e f = 45 then f + 1 else f) = f + 1 from if_pos (by omega)]
                    rw [if_neg (by omega : ¬ kad t e (f + 1) g 10 18 = 1), if_pos (by omega : ksay t e f (f + 2) [48, 120] = 1 ∧ kad t e (f + 2) g 16 14 = 1)]
              · skip
                refine kR.s rfl rfl ?_
                refine kR.s rfl rfl ?_
                refine kR.s rfl rfl ?_
                refine kR.bi rfl ?_
                refine kR.cv (v := .long (Int64.ofInt (kvd t e 10 (f + 1) g))) rfl rfl (kR.up (c_85 hX hC he hen (f := (f + 1)) (g := g) (by omega) (by omega) (by omega)) (by decide)) ?_
                refine kR.s rfl rfl ?_
                refine kR.s rfl rfl ?_
                refine kR.s rfl rfl ?_
                refine kR.s rfl rfl ?_
                refine kR.gr (a := 54) (b := 53) (k := 0) (by omega) rfl rfl rfl (by decide) (by decide) rfl ?_
                refine kR.s rfl rfl ?_
                have f62_0 := kch_rng hX hen f
                refine kR.cv (v := .int (Int32.ofInt (kch t e f))) rfl rfl (kR.up (c_52 hX hC he hen (p := f) (by omega)) (by decide)) ?_
                refine kR.bi rfl ?_
                refine kR.jne (by omega) (by omega) (by omega) (by omega) (fun q63 => ?_) (fun q63 => ?_)
                · skip
                  show kR 6 83 b83_199 _ _ _ _
                  refine kR.s rfl rfl ?_
                  refine kR.n ?_
                  show kR 6 83 b83_201 _ _ _ _
                  refine kR.s rfl rfl ?_
                  refine kR.cv (v := .int (Int32.ofInt ((v : Int)))) rfl rfl (kR.up (hbg _ _) (by decide)) ?_
                  refine kR.ret rfl rfl ?_
                  refine Prod.ext rfl (Prod.ext rfl ?_)
                  show hp 57 E _ = hp 57 E (kplc t e Bg v u f g)
                  congr 1
                  unfold kplc
                  rw [if_neg (by omega : ¬ (ksay t e f g [126] = 1 ∨ ksay t e f g [110, 117, 108, 108] = 1)), if_neg (by omega : ¬ (ksay t e f g [116, 114, 117, 101] = 1 ∨ ksay t e f g [102, 97, 108, 115, 101] = 1)), show (if kch t e f = 43 ∨ kch t e f = 45 then f + 1 else f) = f + 1 from if_pos (by omega)]
                  rw [if_pos (by omega : kad t e (f + 1) g 10 18 = 1)]
                  first | (exfalso; omega) | (rw [if_pos (by omega : kch t e f = 45)]; done) | (rw [if_neg (by omega : ¬ kch t e f = 45)]; done)
                · skip
                  refine kR.s rfl rfl ?_
                  refine kR.lneg ?_
                  refine kR.g rfl ?_
                  show kR 6 83 b83_201 _ _ _ _
                  refine kR.s rfl rfl ?_
                  refine kR.cv (v := .int (Int32.ofInt ((v : Int)))) rfl rfl (kR.up (hbg _ _) (by decide)) ?_
                  refine kR.ret rfl rfl ?_
                  refine Prod.ext rfl (Prod.ext rfl ?_)
                  show hp 57 E _ = hp 57 E (kplc t e Bg v u f g)
                  congr 1
                  unfold kplc
                  rw [if_neg (by omega : ¬ (ksay t e f g [126] = 1 ∨ ksay t e f g [110, 117, 108, 108] = 1)), if_neg (by omega : ¬ (ksay t e f g [116, 114, 117, 101] = 1 ∨ ksay t e f g [102, 97, 108, 115, 101] = 1)), show (if kch t e f = 43 ∨ kch t e f = 45 then f + 1 else f) = f + 1 from if_pos (by omega)]
                  rw [if_pos (by omega : kad t e (f + 1) g 10 18 = 1)]
                  first | (exfalso; omega) | (rw [if_pos (by omega : kch t e f = 45)]; done) | (rw [if_neg (by omega : ¬ kch t e f = 45)]; done)
        · skip
          refine kR.n ?_
          show kR 6 83 b83_79 _ _ _ _
          refine kR.s rfl rfl ?_
          refine kR.s rfl rfl ?_
          refine kR.s rfl rfl ?_
          refine kR.gr (a := 54) (b := 53) (k := 0) (by omega) rfl rfl rfl (by decide) (by decide) rfl ?_
          refine kR.s rfl rfl ?_
          have f66_0 := kch_rng hX hen f
          refine kR.cv (v := .int (Int32.ofInt (kch t e f))) rfl rfl (kR.up (c_52 hX hC he hen (p := f) (by omega)) (by decide)) ?_
          refine kR.bi rfl ?_
          refine kR.jne (by omega) (by omega) (by omega) (by omega) (fun q67 => ?_) (fun q67 => ?_)
          · skip
            show kR 6 83 b83_98 _ _ _ _
            refine kR.lcn (c := 0) rfl ?_
            refine kR.n ?_
            show kR 6 83 b83_99 _ _ _ _
            refine kR.s rfl rfl ?_
            refine kR.cv (v := .int (Int32.ofInt ((v : Int)))) rfl rfl (kR.up (hbg _ _) (by decide)) ?_
            refine kR.ret rfl rfl ?_
            refine Prod.ext rfl (Prod.ext rfl ?_)
            show hp 57 E _ = hp 57 E (kplc t e Bg v u f g)
            congr 1
            unfold kplc
            rw [if_neg (by omega : ¬ (ksay t e f g [126] = 1 ∨ ksay t e f g [110, 117, 108, 108] = 1)), if_pos (by omega : ksay t e f g [116, 114, 117, 101] = 1 ∨ ksay t e f g [102, 97, 108, 115, 101] = 1)]
            first | rw [if_pos (by omega : kch t e f = 116)] | rw [if_neg (by omega : ¬ kch t e f = 116)]
          · skip
            refine kR.lcn (c := 1) rfl ?_
            refine kR.g rfl ?_
            show kR 6 83 b83_99 _ _ _ _
            refine kR.s rfl rfl ?_
            refine kR.cv (v := .int (Int32.ofInt ((v : Int)))) rfl rfl (kR.up (hbg _ _) (by decide)) ?_
            refine kR.ret rfl rfl ?_
            refine Prod.ext rfl (Prod.ext rfl ?_)
            show hp 57 E _ = hp 57 E (kplc t e Bg v u f g)
            congr 1
            unfold kplc
            rw [if_neg (by omega : ¬ (ksay t e f g [126] = 1 ∨ ksay t e f g [110, 117, 108, 108] = 1)), if_pos (by omega : ksay t e f g [116, 114, 117, 101] = 1 ∨ ksay t e f g [102, 97, 108, 115, 101] = 1)]
            first | rw [if_pos (by omega : kch t e f = 116)] | rw [if_neg (by omega : ¬ kch t e f = 116)]
    · skip
      refine kR.n ?_
      show kR 6 83 b83_41 _ _ _ _
      refine kR.s rfl rfl ?_
      refine kR.s rfl rfl ?_
      refine kR.lcn (c := 0) rfl ?_
      refine kR.s rfl rfl ?_
      refine kR.cv (v := .int (Int32.ofInt ((v : Int)))) rfl rfl (kR.up (hbg _ _) (by decide)) ?_
      refine kR.ret rfl rfl ?_
      refine Prod.ext rfl (Prod.ext rfl ?_)
      show hp 57 E _ = hp 57 E (kplc t e Bg v u f g)
      congr 1
      unfold kplc
      rw [if_pos (by omega : ksay t e f g [126] = 1 ∨ ksay t e f g [110, 117, 108, 108] = 1)]
theorem c_83 {E : Nat → kC} {S : Nat → Nat → Int} {sz : Nat × Nat} {t : Nat → Int} {n L : Nat} (hX : kTx t n L) (hC : kCt S t n L) {e : Nat} (he : S 53 3 = (e : Int)) (hen : e ≤ n) {f z : Nat} (hfb : ¬ t f = 32) (hfz : f < z) (hze : z ≤ e) {Bg : Int → Int → Nat → Nat → Int} {v u : Nat} {d : Int} (hv : v < 60) (hbg : ∀ k z : Int, kR 1 62 (blk 62 0) (kent 62 [.ref 54, .int (Int32.ofInt (k)), .long (Int64.ofInt (z)), .int (Int32.ofInt (d))]) [] (sz, hp 57 E S) (fun r => r = (.inl (some (.int (Int32.ofInt (v : Int)))), (sz, hp 57 E (Bg k z))))) (hBt : ∀ k z, kCt (Bg k z) t n L) (hBe : ∀ k z, Bg k z 53 3 = (e : Int)) (hBu : ∀ k z, Bg k z 20 7 = (u : Int)) (hul : u + (z - f) ≤ 200) (hWd : kWrd E) : kR 6 83 (blk 83 0) (kent 83 [.ref 54, .int (Int32.ofInt ((f : Int))), .int (Int32.ofInt ((z : Int))), .int (Int32.ofInt (d))]) [] (sz, hp 57 E S) (fun r => r = (.inl (some (.int (Int32.ofInt (v : Int)))), (sz, hp 57 E (kplc t e Bg v u f (kb (fun i => decide (t i = 32)) f z))))) := by
  have hm : 53 ≤ 57 ∧ 57 ≤ 57 := by omega
  have hx1 := hX.1
  have hkb := kb_rng (p := (fun i => decide (t i = 32))) (lo := f) (hi := z) (by omega)
  have hkf : f < kb (fun i => decide (t i = 32)) f z := by
    rcases Nat.lt_or_ge f (kb (fun i => decide (t i = 32)) f z) with h | h
    · exact h
    · exact absurd (of_decide_eq_true (kb_in (p := fun i => decide (t i = 32)) (lo := f) (hi := z) (i := f) (by omega) h (by omega))) hfb
  show kR 6 83 b83_0 _ _ _ _
  refine kR.s rfl rfl ?_
  refine kR.gr (a := 54) (b := 53) (k := 0) (by omega) rfl rfl rfl (by decide) (by decide) rfl ?_
  refine kR.s rfl rfl ?_
  refine kR.s rfl rfl ?_
  refine kR.cv (v := .int (Int32.ofInt ((kb (fun i => decide (t i = 32)) f z : Nat) : Int))) rfl rfl (kR.up (c_60 hX hC he hen (f := f) (g := z) hze (by omega)) (by decide)) ?_
  refine kR.s rfl rfl ?_
  exact l_83m hX hC he hen hkf (by omega) hv hbg hBt hBe hBu (by omega) hWd
theorem c_83b {E : Nat → kC} {S : Nat → Nat → Int} {sz : Nat × Nat} {t : Nat → Int} {n L : Nat} (hX : kTx t n L) (hC : kCt S t n L) {e : Nat} (he : S 53 3 = (e : Int)) (hen : e ≤ n) {f z : Nat} (hfb : ¬ t f = 32) (hfz : f < z) (hze : z ≤ e) {d : Int} (hbg : ∀ k z : Int, kR 1 62 (blk 62 0) (kent 62 [.ref 54, .int (Int32.ofInt (k)), .long (Int64.ofInt (z)), .int (Int32.ofInt (d))]) [] (sz, hp 57 E S) (fun r => r = (.inr sz.1, knew (sz, hp 57 E S) 30 6 (fun _ => .null)))) (hWd : kWrd E) : kR 6 83 (blk 83 0) (kent 83 [.ref 54, .int (Int32.ofInt ((f : Int))), .int (Int32.ofInt ((z : Int))), .int (Int32.ofInt (d))]) [] (sz, hp 57 E S) (fun r => r = (.inr sz.1, knew (sz, hp 57 E S) 30 6 (fun _ => .null))) := by
  have hm : 53 ≤ 57 ∧ 57 ≤ 57 := by omega
  have hx1 := hX.1
  have hfr := kch_rng hX hen f
  have hkb := kb_rng (p := (fun i => decide (t i = 32))) (lo := f) (hi := z) (by omega)
  obtain ⟨g, hgz⟩ : ∃ g, g = kb (fun i => decide (t i = 32)) f z := ⟨_, rfl⟩
  rw [← hgz] at hkb
  show kR 6 83 b83_0 _ _ _ _
  refine kR.s rfl rfl ?_
  refine kR.gr (a := 54) (b := 53) (k := 0) (by omega) rfl rfl rfl (by decide) (by decide) rfl ?_
  refine kR.s rfl rfl ?_
  refine kR.s rfl rfl ?_
  refine kR.cv (v := .int (Int32.ofInt ((g : Int)))) rfl rfl (kR.up (hgz ▸ c_60 hX hC he hen (f := f) (g := z) hze (by omega)) (by decide)) ?_
  refine kR.s rfl rfl ?_
  refine kR.s rfl rfl ?_
  refine kR.gr (a := 54) (b := 53) (k := 0) (by omega) rfl rfl rfl (by decide) (by decide) rfl ?_
  refine kR.s rfl rfl ?_
  refine kR.s rfl rfl ?_
  refine kR.s rfl rfl ?_
  have f2_0 := ksay_01 t e f g [126]
  refine kR.cv (v := .int (Int32.ofInt (ksay t e f g [126]))) rfl rfl (kR.up (c_59 hX hC he hen (f := f) (g := g) (by omega) (by omega) hWd.2.2.2.2.1) (by decide)) ?_
  refine kR.zne (by omega) (by omega) (fun q3 => ?_) (fun q3 => ?_)
  · skip
    show kR 6 83 b83_41 _ _ _ _
    refine kR.s rfl rfl ?_
    refine kR.s rfl rfl ?_
    refine kR.lcn (c := 0) rfl ?_
    refine kR.s rfl rfl ?_
    exact kR.cT rfl rfl rfl (kR.up (hbg _ _) (by decide)) rfl
  · skip
    refine kR.s rfl rfl ?_
    refine kR.gr (a := 54) (b := 53) (k := 0) (by omega) rfl rfl rfl (by decide) (by decide) rfl ?_
    refine kR.s rfl rfl ?_
    refine kR.s rfl rfl ?_
    refine kR.s rfl rfl ?_
    have f4_0 := ksay_01 t e f g [110, 117, 108, 108]
    refine kR.cv (v := .int (Int32.ofInt (ksay t e f g [110, 117, 108, 108]))) rfl rfl (kR.up (c_59 hX hC he hen (f := f) (g := g) (by omega) (by omega) hWd.2.2.1) (by decide)) ?_
    refine kR.zeq (by omega) (by omega) (fun q5 => ?_) (fun q5 => ?_)
    · skip
      show kR 6 83 b83_49 _ _ _ _
      refine kR.s rfl rfl ?_
      refine kR.gr (a := 54) (b := 53) (k := 0) (by omega) rfl rfl rfl (by decide) (by decide) rfl ?_
      refine kR.s rfl rfl ?_
      refine kR.s rfl rfl ?_
      refine kR.s rfl rfl ?_
      have f6_0 := ksay_01 t e f g [116, 114, 117, 101]
      refine kR.cv (v := .int (Int32.ofInt (ksay t e f g [116, 114, 117, 101]))) rfl rfl (kR.up (c_59 hX hC he hen (f := f) (g := g) (by omega) (by omega) hWd.1) (by decide)) ?_
      refine kR.zne (by omega) (by omega) (fun q7 => ?_) (fun q7 => ?_)
      · skip
        show kR 6 83 b83_79 _ _ _ _
        refine kR.s rfl rfl ?_
        refine kR.s rfl rfl ?_
        refine kR.s rfl rfl ?_
        refine kR.gr (a := 54) (b := 53) (k := 0) (by omega) rfl rfl rfl (by decide) (by decide) rfl ?_
        refine kR.s rfl rfl ?_
        have f8_0 := kch_rng hX hen f
        refine kR.cv (v := .int (Int32.ofInt (kch t e f))) rfl rfl (kR.up (c_52 hX hC he hen (p := f) (by omega)) (by decide)) ?_
        refine kR.bi rfl ?_
        refine kR.jne (by omega) (by omega) (by omega) (by omega) (fun q9 => ?_) (fun q9 => ?_)
        · skip
          show kR 6 83 b83_98 _ _ _ _
          refine kR.lcn (c := 0) rfl ?_
          refine kR.n ?_
          show kR 6 83 b83_99 _ _ _ _
          refine kR.s rfl rfl ?_
          exact kR.cT rfl rfl rfl (kR.up (hbg _ _) (by decide)) rfl
        · skip
          refine kR.lcn (c := 1) rfl ?_
          refine kR.g rfl ?_
          show kR 6 83 b83_99 _ _ _ _
          refine kR.s rfl rfl ?_
          exact kR.cT rfl rfl rfl (kR.up (hbg _ _) (by decide)) rfl
      · skip
        refine kR.s rfl rfl ?_
        refine kR.gr (a := 54) (b := 53) (k := 0) (by omega) rfl rfl rfl (by decide) (by decide) rfl ?_
        refine kR.s rfl rfl ?_
        refine kR.s rfl rfl ?_
        refine kR.s rfl rfl ?_
        have f10_0 := ksay_01 t e f g [102, 97, 108, 115, 101]
        refine kR.cv (v := .int (Int32.ofInt (ksay t e f g [102, 97, 108, 115, 101]))) rfl rfl (kR.up (c_59 hX hC he hen (f := f) (g := g) (by omega) (by omega) hWd.2.1) (by decide)) ?_
        refine kR.zeq (by omega) (by omega) (fun q11 => ?_) (fun q11 => ?_)
        · skip
          show kR 6 83 b83_104 _ _ _ _
          refine kR.s rfl rfl ?_
          refine kR.gr (a := 54) (b := 53) (k := 0) (by omega) rfl rfl rfl (by decide) (by decide) rfl ?_
          refine kR.s rfl rfl ?_
          have f12_0 := kch_rng hX hen f
          refine kR.cv (v := .int (Int32.ofInt (kch t e f))) rfl rfl (kR.up (c_52 hX hC he hen (p := f) (by omega)) (by decide)) ?_
          refine kR.bi rfl ?_
          refine kR.jeq (by omega) (by omega) (by omega) (by omega) (fun q13 => ?_) (fun q13 => ?_)
          · skip
            show kR 6 83 b83_130 _ _ _ _
            refine kR.s rfl rfl ?_
            refine kR.g rfl ?_
            show kR 6 83 b83_135 _ _ _ _
            refine kR.s rfl rfl ?_
            refine kR.s rfl rfl ?_
            refine kR.zeq (by decide) (by decide) (fun q14 => absurd q14 (by decide)) (fun q14 => ?_)
            refine kR.s rfl rfl ?_
            refine kR.s rfl rfl ?_
            refine kR.add ?_
            refine kR.g rfl ?_
            show kR 6 83 b83_149 _ _ _ _
            refine kR.s rfl rfl ?_
            refine kR.s rfl rfl ?_
            refine kR.s rfl rfl ?_
            refine kR.s rfl rfl ?_
            refine kR.bi rfl ?_
            refine kR.bi rfl ?_
            have f15_0 := kad_01 t e (f + 1) g 10 18
            have f15_1 := kad_o t e (f + 1) g 10 18
            refine kR.cv (v := .int (Int32.ofInt (kad t e (f + 1) g 10 18))) rfl rfl (kR.up (c_84 hX hC he hen (f := (f + 1)) (g := g) (by omega) (by omega) (by omega) (by omega)) (by decide)) ?_
            refine kR.zeq (by omega) (by omega) (fun q16 => ?_) (fun q16 => ?_)
            · skip
              show kR 6 83 b83_206 _ _ _ _
              refine kR.s rfl rfl ?_
              refine kR.gr (a := 54) (b := 53) (k := 0) (by omega) rfl rfl rfl (by decide) (by decide) rfl ?_
              refine kR.s rfl rfl ?_
              refine kR.s rfl rfl ?_
              refine kR.s rfl rfl ?_
              refine kR.add ?_
              refine kR.s rfl rfl ?_
              have f17_0 := ksay_01 t e f (f + 2) [48, 120]
              refine kR.cv (v := .int (Int32.ofInt (ksay t e f (f + 2) [48, 120]))) rfl rfl (kR.up (c_59 hX hC he hen (f := f) (g := (f + 2)) (by omega) (by omega) hWd.2.2.2.2.2.1) (by decide)) ?_
              refine kR.zeq (by omega) (by omega) (fun q18 => ?_) (fun q18 => ?_)
              · skip
                show kR 6 83 b83_256 _ _ _ _
                refine kR.s rfl rfl ?_
                refine kR.s rfl rfl ?_
                refine kR.lcn (c := 0) rfl ?_
                refine kR.s rfl rfl ?_
                exact kR.cT rfl rfl rfl (kR.up (hbg _ _) (by decide)) rfl
              · skip
                refine kR.s rfl rfl ?_
                refine kR.s rfl rfl ?_
                refine kR.s rfl rfl ?_
                refine kR.add ?_
                refine kR.s rfl rfl ?_
                refine kR.bi rfl ?_
                refine kR.bi rfl ?_
                have f19_0 := kad_01 t e (f + 2) g 16 14
                have f19_1 := kad_o t e (f + 2) g 16 14
                refine kR.cv (v := .int (Int32.ofInt (kad t e (f + 2) g 16 14))) rfl rfl (kR.up (c_84 hX hC he hen (f := (f + 2)) (g := g) (by omega) (by omega) (by omega) (by omega)) (by decide)) ?_
                refine kR.zeq (by omega) (by omega) (fun q20 => ?_) (fun q20 => ?_)
                · skip
                  show kR 6 83 b83_256 _ _ _ _
                  refine kR.s rfl rfl ?_
                  refine kR.s rfl rfl ?_
                  refine kR.lcn (c := 0) rfl ?_
                  refine kR.s rfl rfl ?_
                  exact kR.cT rfl rfl rfl (kR.up (hbg _ _) (by decide)) rfl
                · skip
                  refine kR.s rfl rfl ?_
                  refine kR.s rfl rfl ?_
                  refine kR.s rfl rfl ?_
                  refine kR.s rfl rfl ?_
                  refine kR.s rfl rfl ?_
                  refine kR.add ?_
                  refine kR.s rfl rfl ?_
                  refine kR.bi rfl ?_
                  refine kR.cv (v := .long (Int64.ofInt (kvd t e 16 (f + 2) g))) rfl rfl (kR.up (c_85 hX hC he hen (f := (f + 2)) (g := g) (by omega) (by omega) (by omega)) (by decide)) ?_
                  refine kR.s rfl rfl ?_
                  exact kR.cT rfl rfl rfl (kR.up (hbg _ _) (by decide)) rfl
            · skip
              refine kR.s rfl rfl ?_
              refine kR.s rfl rfl ?_
              refine kR.s rfl rfl ?_
              refine kR.bi rfl ?_
              refine kR.cv (v := .long (Int64.ofInt (kvd t e 10 (f + 1) g))) rfl rfl (kR.up (c_85 hX hC he hen (f := (f + 1)) (g := g) (by omega) (by omega) (by omega)) (by decide)) ?_
              refine kR.s rfl rfl ?_
              refine kR.s rfl rfl ?_
              refine kR.s rfl rfl ?_
              refine kR.s rfl rfl ?_
              refine kR.gr (a := 54) (b := 53) (k := 0) (by omega) rfl rfl rfl (by decide) (by decide) rfl ?_
              refine kR.s rfl rfl ?_
              have f23_0 := kch_rng hX hen f
              refine kR.cv (v := .int (Int32.ofInt (kch t e f))) rfl rfl (kR.up (c_52 hX hC he hen (p := f) (by omega)) (by decide)) ?_
              refine kR.bi rfl ?_
              refine kR.jne (by omega) (by omega) (by omega) (by omega) (fun q24 => ?_) (fun q24 => ?_)
              · skip
                show kR 6 83 b83_199 _ _ _ _
                refine kR.s rfl rfl ?_
                refine kR.n ?_
                show kR 6 83 b83_201 _ _ _ _
                refine kR.s rfl rfl ?_
                exact kR.cT rfl rfl rfl (kR.up (hbg _ _) (by decide)) rfl
              · skip
                refine kR.s rfl rfl ?_
                refine kR.lneg ?_
                refine kR.g rfl ?_
                show kR 6 83 b83_201 _ _ _ _
                refine kR.s rfl rfl ?_
                exact kR.cT rfl rfl rfl (kR.up (hbg _ _) (by decide)) rfl
          · skip
            refine kR.s rfl rfl ?_
            refine kR.gr (a := 54) (b := 53) (k := 0) (by omega) rfl rfl rfl (by decide) (by decide) rfl ?_
            refine kR.s rfl rfl ?_
            have f25_0 := kch_rng hX hen f
            refine kR.cv (v := .int (Int32.ofInt (kch t e f))) rfl rfl (kR.up (c_52 hX hC he hen (p := f) (by omega)) (by decide)) ?_
            refine kR.bi rfl ?_
            refine kR.jne (by omega) (by omega) (by omega) (by omega) (fun q26 => ?_) (fun q26 => ?_)
            · skip
              show kR 6 83 b83_134 _ _ _ _
              refine kR.s rfl rfl ?_
              refine kR.n ?_
              show kR 6 83 b83_135 _ _ _ _
              refine kR.s rfl rfl ?_
              refine kR.s rfl rfl ?_
              refine kR.zeq (by decide) (by decide) (fun q27 => ?_) (fun q27 => absurd q27 (by decide))
              show kR 6 83 b83_148 _ _ _ _
              refine kR.s rfl rfl ?_
              refine kR.n ?_
              show kR 6 83 b83_149 _ _ _ _
              refine kR.s rfl rfl ?_
              refine kR.s rfl rfl ?_
              refine kR.s rfl rfl ?_
              refine kR.s rfl rfl ?_
              refine kR.bi rfl ?_
              refine kR.bi rfl ?_
              have f28_0 := kad_01 t e f g 10 18
              have f28_1 := kad_o t e f g 10 18
              refine kR.cv (v := .int (Int32.ofInt (kad t e f g 10 18))) rfl rfl (kR.up (c_84 hX hC he hen (f := f) (g := g) (by omega) (by omega) (by omega) (by omega)) (by decide)) ?_
              refine kR.zeq (by omega) (by omega) (fun q29 => ?_) (fun q29 => ?_)
              · skip
                show kR 6 83 b83_206 _ _ _ _
                refine kR.s rfl rfl ?_
                refine kR.gr (a := 54) (b := 53) (k := 0) (by omega) rfl rfl rfl (by decide) (by decide) rfl ?_
                refine kR.s rfl rfl ?_
                refine kR.s rfl rfl ?_
                refine kR.s rfl rfl ?_
                refine kR.add ?_
                refine kR.s rfl rfl ?_
                have f30_0 := ksay_01 t e f (f + 2) [48, 120]
                refine kR.cv (v := .int (Int32.ofInt (ksay t e f (f + 2) [48, 120]))) rfl rfl (kR.up (c_59 hX hC he hen (f := f) (g := (f + 2)) (by omega) (by omega) hWd.2.2.2.2.2.1) (by decide)) ?_
                refine kR.zeq (by omega) (by omega) (fun q31 => ?_) (fun q31 => ?_)
                · skip
                  show kR 6 83 b83_256 _ _ _ _
                  refine kR.s rfl rfl ?_
                  refine kR.s rfl rfl ?_
                  refine kR.lcn (c := 0) rfl ?_
                  refine kR.s rfl rfl ?_
                  exact kR.cT rfl rfl rfl (kR.up (hbg _ _) (by decide)) rfl
                · skip
                  refine kR.s rfl rfl ?_
                  refine kR.s rfl rfl ?_
                  refine kR.s rfl rfl ?_
                  refine kR.add ?_
                  refine kR.s rfl rfl ?_
                  refine kR.bi rfl ?_
                  refine kR.bi rfl ?_
                  have f32_0 := kad_01 t e (f + 2) g 16 14
                  have f32_1 := kad_o t e (f + 2) g 16 14
                  refine kR.cv (v := .int (Int32.ofInt (kad t e (f + 2) g 16 14))) rfl rfl (kR.up (c_84 hX hC he hen (f := (f + 2)) (g := g) (by omega) (by omega) (by omega) (by omega)) (by decide)) ?_
                  refine kR.zeq (by omega) (by omega) (fun q33 => ?_) (fun q33 => ?_)
                  · skip
                    show kR 6 83 b83_256 _ _ _ _
                    refine kR.s rfl rfl ?_
                    refine kR.s rfl rfl ?_
                    refine kR.lcn (c := 0) rfl ?_
                    refine kR.s rfl rfl ?_
                    exact kR.cT rfl rfl rfl (kR.up (hbg _ _) (by decide)) rfl
                  · skip
                    refine kR.s rfl rfl ?_
                    refine kR.s rfl rfl ?_
                    refine kR.s rfl rfl ?_
                    refine kR.s rfl rfl ?_
                    refine kR.s rfl rfl ?_
                    refine kR.add ?_
                    refine kR.s rfl rfl ?_
                    refine kR.bi rfl ?_
                    refine kR.cv (v := .long (Int64.ofInt (kvd t e 16 (f + 2) g))) rfl rfl (kR.up (c_85 hX hC he hen (f := (f + 2)) (g := g) (by omega) (by omega) (by omega)) (by decide)) ?_
                    refine kR.s rfl rfl ?_
                    exact kR.cT rfl rfl rfl (kR.up (hbg _ _) (by decide)) rfl
              · skip
                refine kR.s rfl rfl ?_
                refine kR.s rfl rfl ?_
                refine kR.s rfl rfl ?_
                refine kR.bi rfl ?_
                refine kR.cv (v := .long (Int64.ofInt (kvd t e 10 f g))) rfl rfl (kR.up (c_85 hX hC he hen (f := f) (g := g) (by omega) (by omega) (by omega)) (by decide)) ?_
                refine kR.s rfl rfl ?_
                refine kR.s rfl rfl ?_
                refine kR.s rfl rfl ?_
                refine kR.s rfl rfl ?_
                refine kR.gr (a := 54) (b := 53) (k := 0) (by omega) rfl rfl rfl (by decide) (by decide) rfl ?_
                refine kR.s rfl rfl ?_
                have f36_0 := kch_rng hX hen f
                refine kR.cv (v := .int (Int32.ofInt (kch t e f))) rfl rfl (kR.up (c_52 hX hC he hen (p := f) (by omega)) (by decide)) ?_
                refine kR.bi rfl ?_
                refine kR.jne (by omega) (by omega) (by omega) (by omega) (fun q37 => ?_) (fun q37 => ?_)
                · skip
                  show kR 6 83 b83_199 _ _ _ _
                  refine kR.s rfl rfl ?_
                  refine kR.n ?_
                  show kR 6 83 b83_201 _ _ _ _
                  refine kR.s rfl rfl ?_
                  exact kR.cT rfl rfl rfl (kR.up (hbg _ _) (by decide)) rfl
                · skip
                  refine kR.s rfl rfl ?_
                  refine kR.lneg ?_
                  refine kR.g rfl ?_
                  show kR 6 83 b83_201 _ _ _ _
                  refine kR.s rfl rfl ?_
                  exact kR.cT rfl rfl rfl (kR.up (hbg _ _) (by decide)) rfl
            · skip
              refine kR.n ?_
              show kR 6 83 b83_130 _ _ _ _
              refine kR.s rfl rfl ?_
              refine kR.g rfl ?_
              show kR 6 83 b83_135 _ _ _ _
              refine kR.s rfl rfl ?_
              refine kR.s rfl rfl ?_
              refine kR.zeq (by decide) (by decide) (fun q38 => absurd q38 (by decide)) (fun q38 => ?_)
              refine kR.s rfl rfl ?_
              refine kR.s rfl rfl ?_
              refine kR.add ?_
              refine kR.g rfl ?_
              show kR 6 83 b83_149 _ _ _ _
              refine kR.s rfl rfl ?_
              refine kR.s rfl rfl ?_
              refine kR.s rfl rfl ?_
              refine kR.s rfl rfl ?_
              refine kR.bi rfl ?_
              refine kR.bi rfl ?_
              have f39_0 := kad_01 t e (f + 1) g 10 18
              have f39_1 := kad_o t e (f + 1) g 10 18
              refine kR.cv (v := .int (Int32.ofInt (kad t e (f + 1) g 10 18))) rfl rfl (kR.up (c_84 hX hC he hen (f := (f + 1)) (g := g) (by omega) (by omega) (by omega) (by omega)) (by decide)) ?_
              refine kR.zeq (by omega) (by omega) (fun q40 => ?_) (fun q40 => ?_)
              · skip
                show kR 6 83 b83_206 _ _ _ _
                refine kR.s rfl rfl ?_
                refine kR.gr (a := 54) (b := 53) (k := 0) (by omega) rfl rfl rfl (by decide) (by decide) rfl ?_
                refine kR.s rfl rfl ?_
                refine kR.s rfl rfl ?_
                refine kR.s rfl rfl ?_
                refine kR.add ?_
                refine kR.s rfl rfl ?_
                have f41_0 := ksay_01 t e f (f + 2) [48, 120]
                refine kR.cv (v := .int (Int32.ofInt (ksay t e f (f + 2) [48, 120]))) rfl rfl (kR.up (c_59 hX hC he hen (f := f) (g := (f + 2)) (by omega) (by omega) hWd.2.2.2.2.2.1) (by decide)) ?_
                refine kR.zeq (by omega) (by omega) (fun q42 => ?_) (fun q42 => ?_)
                · skip
                  show kR 6 83 b83_256 _ _ _ _
                  refine kR.s rfl rfl ?_
                  refine kR.s rfl rfl ?_
                  refine kR.lcn (c := 0) rfl ?_
                  refine kR.s rfl rfl ?_
                  exact kR.cT rfl rfl rfl (kR.up (hbg _ _) (by decide)) rfl
                · skip
                  refine kR.s rfl rfl ?_
                  refine kR.s rfl rfl ?_
                  refine kR.s rfl rfl ?_
                  refine kR.add ?_
                  refine kR.s rfl rfl ?_
                  refine kR.bi rfl ?_
                  refine kR.bi rfl ?_
                  have f43_0 := kad_01 t e (f + 2) g 16 14
                  have f43_1 := kad_o t e (f + 2) g 16 14
                  refine kR.cv (v := .int (Int32.ofInt (kad t e (f + 2) g 16 14))) rfl rfl (kR.up (c_84 hX hC he hen (f := (f + 2)) (g := g) (by omega) (by omega) (by omega) (by omega)) (by decide)) ?_
                  refine kR.zeq (by omega) (by omega) (fun q44 => ?_) (fun q44 => ?_)
                  · skip
                    show kR 6 83 b83_256 _ _ _ _
                    refine kR.s rfl rfl ?_
                    refine kR.s rfl rfl ?_
                    refine kR.lcn (c := 0) rfl ?_
                    refine kR.s rfl rfl ?_
                    exact kR.cT rfl rfl rfl (kR.up (hbg _ _) (by decide)) rfl
                  · skip
                    refine kR.s rfl rfl ?_
                    refine kR.s rfl rfl ?_
                    refine kR.s rfl rfl ?_
                    refine kR.s rfl rfl ?_
                    refine kR.s rfl rfl ?_
                    refine kR.add ?_
                    refine kR.s rfl rfl ?_
                    refine kR.bi rfl ?_
                    refine kR.cv (v := .long (Int64.ofInt (kvd t e 16 (f + 2) g))) rfl rfl (kR.up (c_85 hX hC he hen (f := (f + 2)) (g := g) (by omega) (by omega) (by omega)) (by decide)) ?_
                    refine kR.s rfl rfl ?_
                    exact kR.cT rfl rfl rfl (kR.up (hbg _ _) (by decide)) rfl
              · skip
                refine kR.s rfl rfl ?_
                refine kR.s rfl rfl ?_
                refine kR.s rfl rfl ?_
                refine kR.bi rfl ?_
                refine kR.cv (v := .long (Int64.ofInt (kvd t e 10 (f + 1) g))) rfl rfl (kR.up (c_85 hX hC he hen (f := (f + 1)) (g := g) (by omega) (by omega) (by omega)) (by decide)) ?_
                refine kR.s rfl rfl ?_
                refine kR.s rfl rfl ?_
                refine kR.s rfl rfl ?_
                refine kR.s rfl rfl ?_
                refine kR.gr (a := 54) (b := 53) (k := 0) (by omega) rfl rfl rfl (by decide) (by decide) rfl ?_
                refine kR.s rfl rfl ?_
                have f47_0 := kch_rng hX hen f
                refine kR.cv (v := .int (Int32.ofInt (kch t e f))) rfl rfl (kR.up (c_52 hX hC he hen (p := f) (by omega)) (by decide)) ?_
                refine kR.bi rfl ?_
                refine kR.jne (by omega) (by omega) (by omega) (by omega) (fun q48 => ?_) (fun q48 => ?_)
                · skip
                  show kR 6 83 b83_199 _ _ _ _
                  refine kR.s rfl rfl ?_
                  refine kR.n ?_
                  show kR 6 83 b83_201 _ _ _ _
                  refine kR.s rfl rfl ?_
                  exact kR.cT rfl rfl rfl (kR.up (hbg _ _) (by decide)) rfl
                · skip
                  refine kR.s rfl rfl ?_
                  refine kR.lneg ?_
                  refine kR.g rfl ?_
                  show kR 6 83 b83_201 _ _ _ _
                  refine kR.s rfl rfl ?_
                  exact kR.cT rfl rfl rfl (kR.up (hbg _ _) (by decide)) rfl
        · skip
          refine kR.n ?_
          show kR 6 83 b83_79 _ _ _ _
          refine kR.s rfl rfl ?_
          refine kR.s rfl rfl ?_
          refine kR.s rfl rfl ?_
          refine kR.gr (a := 54) (b := 53) (k := 0) (by omega) rfl rfl rfl (by decide) (by decide) rfl ?_
          refine kR.s rfl rfl ?_
          have f49_0 := kch_rng hX hen f
          refine kR.cv (v := .int (Int32.ofInt (kch t e f))) rfl rfl (kR.up (c_52 hX hC he hen (p := f) (by omega)) (by decide)) ?_
          refine kR.bi rfl ?_
          refine kR.jne (by omega) (by omega) (by omega) (by omega) (fun q50 => ?_) (fun q50 => ?_)
          · skip
            show kR 6 83 b83_98 _ _ _ _
            refine kR.lcn (c := 0) rfl ?_
            refine kR.n ?_
            show kR 6 83 b83_99 _ _ _ _
            refine kR.s rfl rfl ?_
            exact kR.cT rfl rfl rfl (kR.up (hbg _ _) (by decide)) rfl
          · skip
            refine kR.lcn (c := 1) rfl ?_
            refine kR.g rfl ?_
            show kR 6 83 b83_99 _ _ _ _
            refine kR.s rfl rfl ?_
            exact kR.cT rfl rfl rfl (kR.up (hbg _ _) (by decide)) rfl
    · skip
      refine kR.n ?_
      show kR 6 83 b83_41 _ _ _ _
      refine kR.s rfl rfl ?_
      refine kR.s rfl rfl ?_
      refine kR.lcn (c := 0) rfl ?_
      refine kR.s rfl rfl ?_
      exact kR.cT rfl rfl rfl (kR.up (hbg _ _) (by decide)) rfl
