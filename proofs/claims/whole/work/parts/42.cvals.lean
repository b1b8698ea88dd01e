/-! The class's ValueReader: what it looks at. By program (wip/gen/gen42.py). -/
section KLM
variable {D y pc x : Nat} {cs : List kI} {ls st : List Value} {h : kH} {r : kO × kH → Prop}
theorem kR.ladd {a b : Int} (k : kR D y cs ls (.long (Int64.ofInt (a + b)) :: st) h r) : kR D y ((pc, x, .ladd) :: cs) ls (.long (Int64.ofInt b) :: .long (Int64.ofInt a) :: st) h r := by
  rw [Int64.ofInt_add] at k
  exact kR.s rfl rfl k
theorem kR.lmul {a b : Int} (k : kR D y cs ls (.long (Int64.ofInt (a * b)) :: st) h r) : kR D y ((pc, x, .lmul) :: cs) ls (.long (Int64.ofInt b) :: .long (Int64.ofInt a) :: st) h r := by
  rw [Int64.ofInt_mul] at k
  exact kR.s rfl rfl k
theorem kR.lneg {a : Int} (k : kR D y cs ls (.long (Int64.ofInt (-a)) :: st) h r) : kR D y ((pc, x, .lneg) :: cs) ls (.long (Int64.ofInt a) :: st) h r := by
  rw [Int64.ofInt_neg] at k
  exact kR.s rfl rfl k
end KLM
theorem c_86 {h : kH} {c : Int} (hc : 0 ≤ c ∧ c < 128) : kR 0 86 (blk 86 0) (kent 86 [.int (Int32.ofInt (c))]) [] h (fun r => r = (.inl (some (.int (Int32.ofInt (kdg c)))), h)) := by
  show kR 0 86 b86_0 _ _ _ _
  refine kR.s rfl rfl ?_
  refine kR.bi rfl ?_
  refine kR.jlt (by omega) (by omega) (by omega) (by omega) (fun q1 => ?_) (fun q1 => ?_)
  · skip
    show kR 0 86 b86_17 _ _ _ _
    refine kR.s rfl rfl ?_
    refine kR.bi rfl ?_
    refine kR.jlt (by omega) (by omega) (by omega) (by omega) (fun q2 => ?_) (fun q2 => ?_)
    · skip
      show kR 0 86 b86_39 _ _ _ _
      refine kR.s rfl rfl ?_
      refine kR.n ?_
      show kR 0 86 b86_40 _ _ _ _
      refine kR.ret rfl rfl ?_
      exact kfing (by have z := kdg_o c; omega)
    · skip
      refine kR.s rfl rfl ?_
      refine kR.bi rfl ?_
      refine kR.jgt (by omega) (by omega) (by omega) (by omega) (fun q3 => ?_) (fun q3 => ?_)
      · skip
        show kR 0 86 b86_39 _ _ _ _
        refine kR.s rfl rfl ?_
        refine kR.n ?_
        show kR 0 86 b86_40 _ _ _ _
        refine kR.ret rfl rfl ?_
        exact kfing (by have z := kdg_o c; omega)
      · skip
        refine kR.s rfl rfl ?_
        refine kR.bi rfl ?_
        refine kR.sub ?_
        refine kR.bi rfl ?_
        refine kR.add ?_
        refine kR.g rfl ?_
        show kR 0 86 b86_40 _ _ _ _
        refine kR.ret rfl rfl ?_
        exact kfing (by have z := kdg_o c; omega)
  · skip
    refine kR.s rfl rfl ?_
    refine kR.bi rfl ?_
    refine kR.jgt (by omega) (by omega) (by omega) (by omega) (fun q4 => ?_) (fun q4 => ?_)
    · skip
      show kR 0 86 b86_17 _ _ _ _
      refine kR.s rfl rfl ?_
      refine kR.bi rfl ?_
      refine kR.jlt (by omega) (by omega) (by omega) (by omega) (fun q5 => ?_) (fun q5 => ?_)
      · skip
        show kR 0 86 b86_39 _ _ _ _
        refine kR.s rfl rfl ?_
        refine kR.n ?_
        show kR 0 86 b86_40 _ _ _ _
        refine kR.ret rfl rfl ?_
        exact kfing (by have z := kdg_o c; omega)
      · skip
        refine kR.s rfl rfl ?_
        refine kR.bi rfl ?_
        refine kR.jgt (by omega) (by omega) (by omega) (by omega) (fun q6 => ?_) (fun q6 => ?_)
        · skip
          show kR 0 86 b86_39 _ _ _ _
          refine kR.s rfl rfl ?_
          refine kR.n ?_
          show kR 0 86 b86_40 _ _ _ _
          refine kR.ret rfl rfl ?_
          exact kfing (by have z := kdg_o c; omega)
        · skip
          refine kR.s rfl rfl ?_
          refine kR.bi rfl ?_
          refine kR.sub ?_
          refine kR.bi rfl ?_
          refine kR.add ?_
          refine kR.g rfl ?_
          show kR 0 86 b86_40 _ _ _ _
          refine kR.ret rfl rfl ?_
          exact kfing (by have z := kdg_o c; omega)
    · skip
      refine kR.s rfl rfl ?_
      refine kR.bi rfl ?_
      refine kR.sub ?_
      refine kR.ret rfl rfl ?_
      exact kfing (by have z := kdg_o c; omega)
theorem c_87 {h : kH} {c : Int} (hc : 0 ≤ c ∧ c < 128) : kR 0 87 (blk 87 0) (kent 87 [.int (Int32.ofInt (c))]) [] h (fun r => r = (.inl (some (.int (Int32.ofInt (kqu c)))), h)) := by
  show kR 0 87 b87_0 _ _ _ _
  refine kR.s rfl rfl ?_
  refine kR.bi rfl ?_
  refine kR.jeq (by omega) (by omega) (by omega) (by omega) (fun q1 => ?_) (fun q1 => ?_)
  · skip
    show kR 0 87 b87_12 _ _ _ _
    refine kR.s rfl rfl ?_
    refine kR.g rfl ?_
    show kR 0 87 b87_17 _ _ _ _
    refine kR.ret rfl rfl ?_
    exact kfing (by have z := kqu_o c; omega)
  · skip
    refine kR.s rfl rfl ?_
    refine kR.bi rfl ?_
    refine kR.jne (by omega) (by omega) (by omega) (by omega) (fun q2 => ?_) (fun q2 => ?_)
    · skip
      show kR 0 87 b87_16 _ _ _ _
      refine kR.s rfl rfl ?_
      refine kR.n ?_
      show kR 0 87 b87_17 _ _ _ _
      refine kR.ret rfl rfl ?_
      exact kfing (by have z := kqu_o c; omega)
    · skip
      refine kR.n ?_
      show kR 0 87 b87_12 _ _ _ _
      refine kR.s rfl rfl ?_
      refine kR.g rfl ?_
      show kR 0 87 b87_17 _ _ _ _
      refine kR.ret rfl rfl ?_
      exact kfing (by have z := kqu_o c; omega)
theorem c_88 {h : kH} {c : Int} (hc : 0 ≤ c ∧ c < 128) : kR 0 88 (blk 88 0) (kent 88 [.int (Int32.ofInt (c))]) [] h (fun r => r = (.inl (some (.int (Int32.ofInt (kbk c)))), h)) := by
  show kR 0 88 b88_0 _ _ _ _
  refine kR.s rfl rfl ?_
  refine kR.bi rfl ?_
  refine kR.jeq (by omega) (by omega) (by omega) (by omega) (fun q1 => ?_) (fun q1 => ?_)
  · skip
    show kR 0 88 b88_30 _ _ _ _
    refine kR.s rfl rfl ?_
    refine kR.g rfl ?_
    show kR 0 88 b88_35 _ _ _ _
    refine kR.ret rfl rfl ?_
    exact kfing (by have z := kbk_o c; omega)
  · skip
    refine kR.s rfl rfl ?_
    refine kR.bi rfl ?_
    refine kR.jeq (by omega) (by omega) (by omega) (by omega) (fun q2 => ?_) (fun q2 => ?_)
    · skip
      show kR 0 88 b88_30 _ _ _ _
      refine kR.s rfl rfl ?_
      refine kR.g rfl ?_
      show kR 0 88 b88_35 _ _ _ _
      refine kR.ret rfl rfl ?_
      exact kfing (by have z := kbk_o c; omega)
    · skip
      refine kR.s rfl rfl ?_
      refine kR.bi rfl ?_
      refine kR.jeq (by omega) (by omega) (by omega) (by omega) (fun q3 => ?_) (fun q3 => ?_)
      · skip
        show kR 0 88 b88_30 _ _ _ _
        refine kR.s rfl rfl ?_
        refine kR.g rfl ?_
        show kR 0 88 b88_35 _ _ _ _
        refine kR.ret rfl rfl ?_
        exact kfing (by have z := kbk_o c; omega)
      · skip
        refine kR.s rfl rfl ?_
        refine kR.bi rfl ?_
        refine kR.jeq (by omega) (by omega) (by omega) (by omega) (fun q4 => ?_) (fun q4 => ?_)
        · skip
          show kR 0 88 b88_30 _ _ _ _
          refine kR.s rfl rfl ?_
          refine kR.g rfl ?_
          show kR 0 88 b88_35 _ _ _ _
          refine kR.ret rfl rfl ?_
          exact kfing (by have z := kbk_o c; omega)
        · skip
          refine kR.s rfl rfl ?_
          refine kR.bi rfl ?_
          refine kR.jne (by omega) (by omega) (by omega) (by omega) (fun q5 => ?_) (fun q5 => ?_)
          · skip
            show kR 0 88 b88_34 _ _ _ _
            refine kR.s rfl rfl ?_
            refine kR.n ?_
            show kR 0 88 b88_35 _ _ _ _
            refine kR.ret rfl rfl ?_
            exact kfing (by have z := kbk_o c; omega)
          · skip
            refine kR.n ?_
            show kR 0 88 b88_30 _ _ _ _
            refine kR.s rfl rfl ?_
            refine kR.g rfl ?_
            show kR 0 88 b88_35 _ _ _ _
            refine kR.ret rfl rfl ?_
            exact kfing (by have z := kbk_o c; omega)
theorem c_79 {h : kH} {q c z : Int} (hq : 0 ≤ q ∧ q < 128) (hc : 0 ≤ c ∧ c < 128) (hz : 0 ≤ z ∧ z < 128) : kR 0 79 (blk 79 0) (kent 79 [.int (Int32.ofInt (q)), .int (Int32.ofInt (c)), .int (Int32.ofInt (z))]) [] h (fun r => r = (.inl (some (.int (Int32.ofInt (kpr q c z)))), h)) := by
  show kR 0 79 b79_0 _ _ _ _
  refine kR.s rfl rfl ?_
  refine kR.bi rfl ?_
  refine kR.jne (by omega) (by omega) (by omega) (by omega) (fun q1 => ?_) (fun q1 => ?_)
  · skip
    show kR 0 79 b79_24 _ _ _ _
    refine kR.s rfl rfl ?_
    refine kR.bi rfl ?_
    refine kR.jne (by omega) (by omega) (by omega) (by omega) (fun q2 => ?_) (fun q2 => ?_)
    · skip
      show kR 0 79 b79_52 _ _ _ _
      refine kR.s rfl rfl ?_
      refine kR.n ?_
      show kR 0 79 b79_53 _ _ _ _
      refine kR.ret rfl rfl ?_
      exact kfing (by have z := kpr_o q c z; omega)
    · skip
      refine kR.s rfl rfl ?_
      refine kR.bi rfl ?_
      refine kR.jeq (by omega) (by omega) (by omega) (by omega) (fun q3 => ?_) (fun q3 => ?_)
      · skip
        show kR 0 79 b79_48 _ _ _ _
        refine kR.s rfl rfl ?_
        refine kR.g rfl ?_
        show kR 0 79 b79_53 _ _ _ _
        refine kR.ret rfl rfl ?_
        exact kfing (by have z := kpr_o q c z; omega)
      · skip
        refine kR.s rfl rfl ?_
        refine kR.bi rfl ?_
        refine kR.jeq (by omega) (by omega) (by omega) (by omega) (fun q4 => ?_) (fun q4 => ?_)
        · skip
          show kR 0 79 b79_48 _ _ _ _
          refine kR.s rfl rfl ?_
          refine kR.g rfl ?_
          show kR 0 79 b79_53 _ _ _ _
          refine kR.ret rfl rfl ?_
          exact kfing (by have z := kpr_o q c z; omega)
        · skip
          refine kR.s rfl rfl ?_
          refine kR.bi rfl ?_
          refine kR.jne (by omega) (by omega) (by omega) (by omega) (fun q5 => ?_) (fun q5 => ?_)
          · skip
            show kR 0 79 b79_52 _ _ _ _
            refine kR.s rfl rfl ?_
            refine kR.n ?_
            show kR 0 79 b79_53 _ _ _ _
            refine kR.ret rfl rfl ?_
            exact kfing (by have z := kpr_o q c z; omega)
          · skip
            refine kR.n ?_
            show kR 0 79 b79_48 _ _ _ _
            refine kR.s rfl rfl ?_
            refine kR.g rfl ?_
            show kR 0 79 b79_53 _ _ _ _
            refine kR.ret rfl rfl ?_
            exact kfing (by have z := kpr_o q c z; omega)
  · skip
    refine kR.s rfl rfl ?_
    refine kR.bi rfl ?_
    refine kR.jne (by omega) (by omega) (by omega) (by omega) (fun q6 => ?_) (fun q6 => ?_)
    · skip
      show kR 0 79 b79_22 _ _ _ _
      refine kR.s rfl rfl ?_
      refine kR.n ?_
      show kR 0 79 b79_23 _ _ _ _
      refine kR.ret rfl rfl ?_
      exact kfing (by have z := kpr_o q c z; omega)
    · skip
      refine kR.s rfl rfl ?_
      refine kR.bi rfl ?_
      refine kR.jne (by omega) (by omega) (by omega) (by omega) (fun q7 => ?_) (fun q7 => ?_)
      · skip
        show kR 0 79 b79_22 _ _ _ _
        refine kR.s rfl rfl ?_
        refine kR.n ?_
        show kR 0 79 b79_23 _ _ _ _
        refine kR.ret rfl rfl ?_
        exact kfing (by have z := kpr_o q c z; omega)
      · skip
        refine kR.s rfl rfl ?_
        refine kR.g rfl ?_
        show kR 0 79 b79_23 _ _ _ _
        refine kR.ret rfl rfl ?_
        exact kfing (by have z := kpr_o q c z; omega)
theorem c_65 {E : Nat → kC} {S : Nat → Nat → Int} {sz : Nat × Nat} {t : Nat → Int} {n L : Nat} (hX : kTx t n L) (hC : kCt S t n L) {e : Nat} (he : S 53 3 = (e : Int)) (hen : e ≤ n) {p : Nat} (hpp : p ≤ 1000) : kR 1 65 (blk 65 0) (kent 65 [.ref 54, .int (Int32.ofInt ((p : Int)))]) [] (sz, hp 57 E S) (fun r => r = (.inl (some (.int (Int32.ofInt (klt t e p)))), (sz, hp 57 E S))) := by
  have hm : 53 ≤ 57 ∧ 57 ≤ 57 := by omega
  have hx1 := hX.1
  have hx2 := hX.2.2.2.1
  show kR 1 65 b65_0 _ _ _ _
  refine kR.s rfl rfl ?_
  refine kR.gr (a := 54) (b := 53) (k := 0) (by omega) rfl rfl rfl (by decide) (by decide) rfl ?_
  refine kR.s rfl rfl ?_
  have f1_0 := kch_rng hX hen p
  refine kR.cv (v := .int (Int32.ofInt (kch t e p))) rfl rfl (kR.up (c_52 hX hC he hen (p := p) (by omega)) (by decide)) ?_
  refine kR.s rfl rfl ?_
  refine kR.s rfl rfl ?_
  refine kR.bi rfl ?_
  refine kR.jlt (by omega) (by omega) (by omega) (by omega) (fun q2 => ?_) (fun q2 => ?_)
  · skip
    show kR 1 65 b65_28 _ _ _ _
    refine kR.s rfl rfl ?_
    refine kR.n ?_
    show kR 1 65 b65_29 _ _ _ _
    refine kR.ret rfl rfl ?_
    refine kfin (by have z := klt_o t e p; omega) rfl
  · skip
    refine kR.s rfl rfl ?_
    refine kR.bi rfl ?_
    refine kR.jgt (by omega) (by omega) (by omega) (by omega) (fun q3 => ?_) (fun q3 => ?_)
    · skip
      show kR 1 65 b65_28 _ _ _ _
      refine kR.s rfl rfl ?_
      refine kR.n ?_
      show kR 1 65 b65_29 _ _ _ _
      refine kR.ret rfl rfl ?_
      refine kfin (by have z := klt_o t e p; omega) rfl
    · skip
      refine kR.s rfl rfl ?_
      refine kR.bi rfl ?_
      refine kR.sub ?_
      refine kR.g rfl ?_
      show kR 1 65 b65_29 _ _ _ _
      refine kR.ret rfl rfl ?_
      refine kfin (by have z := klt_o t e p; omega) rfl
theorem c_76 {E : Nat → kC} {S : Nat → Nat → Int} {sz : Nat × Nat} {t : Nat → Int} {n L : Nat} (hX : kTx t n L) (hC : kCt S t n L) {e : Nat} (he : S 53 3 = (e : Int)) (hen : e ≤ n) {p : Nat} (hpp : p ≤ 900) {i : Int} (hi : i = 0 ∨ i = 1) : kR 1 76 (blk 76 0) (kent 76 [.ref 54, .int (Int32.ofInt ((p : Int))), .int (Int32.ofInt (i))]) [] (sz, hp 57 E S) (fun r => r = (.inl (some (.int (Int32.ofInt (kcol t e i p)))), (sz, hp 57 E S))) := by
  have hm : 53 ≤ 57 ∧ 57 ≤ 57 := by omega
  have hx1 := hX.1
  have hx2 := hX.2.2.2.1
  show kR 1 76 b76_0 _ _ _ _
  refine kR.s rfl rfl ?_
  refine kR.gr (a := 54) (b := 53) (k := 0) (by omega) rfl rfl rfl (by decide) (by decide) rfl ?_
  refine kR.s rfl rfl ?_
  have f1_0 := kch_rng hX hen p
  refine kR.cv (v := .int (Int32.ofInt (kch t e p))) rfl rfl (kR.up (c_52 hX hC he hen (p := p) (by omega)) (by decide)) ?_
  refine kR.bi rfl ?_
  refine kR.jne (by omega) (by omega) (by omega) (by omega) (fun q2 => ?_) (fun q2 => ?_)
  · skip
    show kR 1 76 b76_50 _ _ _ _
    refine kR.s rfl rfl ?_
    refine kR.n ?_
    show kR 1 76 b76_51 _ _ _ _
    refine kR.ret rfl rfl ?_
    refine kfin (by have z := kcol_o t e i p; omega) rfl
  · skip
    refine kR.s rfl rfl ?_
    refine kR.gr (a := 54) (b := 53) (k := 0) (by omega) rfl rfl rfl (by decide) (by decide) rfl ?_
    refine kR.s rfl rfl ?_
    refine kR.s rfl rfl ?_
    refine kR.add ?_
    have f3_0 := kgap_o t e (p + 1)
    refine kR.cv (v := .int (Int32.ofInt (kgap t e (p + 1)))) rfl rfl (kR.up (c_56 hX hC he hen (p := (p + 1)) (by omega)) (by decide)) ?_
    refine kR.zne (by omega) (by omega) (fun q4 => ?_) (fun q4 => ?_)
    · skip
      show kR 1 76 b76_46 _ _ _ _
      refine kR.s rfl rfl ?_
      refine kR.g rfl ?_
      show kR 1 76 b76_51 _ _ _ _
      refine kR.ret rfl rfl ?_
      refine kfin (by have z := kcol_o t e i p; omega) rfl
    · skip
      refine kR.s rfl rfl ?_
      refine kR.zeq (by omega) (by omega) (fun q5 => ?_) (fun q5 => ?_)
      · skip
        show kR 1 76 b76_50 _ _ _ _
        refine kR.s rfl rfl ?_
        refine kR.n ?_
        show kR 1 76 b76_51 _ _ _ _
        refine kR.ret rfl rfl ?_
        refine kfin (by have z := kcol_o t e i p; omega) rfl
      · skip
        refine kR.s rfl rfl ?_
        refine kR.gr (a := 54) (b := 53) (k := 0) (by omega) rfl rfl rfl (by decide) (by decide) rfl ?_
        refine kR.s rfl rfl ?_
        refine kR.s rfl rfl ?_
        refine kR.add ?_
        have f6_0 := kch_rng hX hen (p + 1)
        refine kR.cv (v := .int (Int32.ofInt (kch t e (p + 1)))) rfl rfl (kR.up (c_52 hX hC he hen (p := (p + 1)) (by omega)) (by decide)) ?_
        have f7_0 := kbk_o (kch t e (p + 1))
        refine kR.cv (v := .int (Int32.ofInt (kbk (kch t e (p + 1))))) rfl rfl (kR.up (c_88 (c := kch t e (p + 1)) (by omega)) (by decide)) ?_
        refine kR.zeq (by omega) (by omega) (fun q8 => ?_) (fun q8 => ?_)
        · skip
          show kR 1 76 b76_50 _ _ _ _
          refine kR.s rfl rfl ?_
          refine kR.n ?_
          show kR 1 76 b76_51 _ _ _ _
          refine kR.ret rfl rfl ?_
          refine kfin (by have z := kcol_o t e i p; omega) rfl
        · skip
          refine kR.n ?_
          show kR 1 76 b76_46 _ _ _ _
          refine kR.s rfl rfl ?_
          refine kR.g rfl ?_
          show kR 1 76 b76_51 _ _ _ _
          refine kR.ret rfl rfl ?_
          refine kfin (by have z := kcol_o t e i p; omega) rfl
theorem c_82 {E : Nat → kC} {S : Nat → Nat → Int} {sz : Nat × Nat} {t : Nat → Int} {n L : Nat} (hX : kTx t n L) (hC : kCt S t n L) {e : Nat} (he : S 53 3 = (e : Int)) (hen : e ≤ n) {p : Nat} (hpp : p ≤ 900) (hs : kStr E 1000011 [95, 46, 43, 47, 126, 40, 60, 61, 36, 94]) : kR 5 82 (blk 82 0) (kent 82 [.ref 54, .int (Int32.ofInt ((p : Int)))]) [] (sz, hp 57 E S) (fun r => r = (.inl (some (.int (Int32.ofInt (kpl t e p)))), (sz, hp 57 E S))) := by
  have hm : 53 ≤ 57 ∧ 57 ≤ 57 := by omega
  have hx1 := hX.1
  have hx2 := hX.2.2.2.1
  show kR 5 82 b82_0 _ _ _ _
  refine kR.s rfl rfl ?_
  refine kR.gr (a := 54) (b := 53) (k := 0) (by omega) rfl rfl rfl (by decide) (by decide) rfl ?_
  refine kR.s rfl rfl ?_
  have f1_0 := kch_rng hX hen p
  refine kR.cv (v := .int (Int32.ofInt (kch t e p))) rfl rfl (kR.up (c_52 hX hC he hen (p := p) (by omega)) (by decide)) ?_
  refine kR.s rfl rfl ?_
  refine kR.s rfl rfl ?_
  refine kR.bi rfl ?_
  refine kR.jne (by omega) (by omega) (by omega) (by omega) (fun q2 => ?_) (fun q2 => ?_)
  · skip
    show kR 5 82 b82_34 _ _ _ _
    refine kR.s rfl rfl ?_
    refine kR.bi rfl ?_
    refine kR.jlt (by omega) (by omega) (by omega) (by omega) (fun q3 => ?_) (fun q3 => ?_)
    · skip
      show kR 5 82 b82_46 _ _ _ _
      refine kR.s rfl rfl ?_
      refine kR.bi rfl ?_
      refine kR.jlt (by omega) (by omega) (by omega) (by omega) (fun q4 => ?_) (fun q4 => ?_)
      · skip
        show kR 5 82 b82_58 _ _ _ _
        refine kR.s rfl rfl ?_
        refine kR.bi rfl ?_
        refine kR.jlt (by omega) (by omega) (by omega) (by omega) (fun q5 => ?_) (fun q5 => ?_)
        · skip
          show kR 5 82 b82_70 _ _ _ _
          refine kR.s rfl rfl ?_
          refine kR.s rfl rfl ?_
          have f6_0 := kix_sg (kch t e p)
          refine kR.cv (v := .int (Int32.ofInt (kix [95, 46, 43, 47, 126, 40, 60, 61, 36, 94] (kch t e p)))) (kargs_S (by omega) hs ⟨Nat.le_of_ble_eq_true rfl, Nat.le_of_ble_eq_true rfl, Nat.le_of_ble_eq_true rfl, rfl⟩ (by decide) rfl rfl) rfl (kR.up (c_171 (by omega) hs (by decide) (by omega)) (by decide)) ?_
          refine kR.zlt (by omega) (by omega) (fun q7 => ?_) (fun q7 => ?_)
          · skip
            show kR 5 82 b82_83 _ _ _ _
            refine kR.s rfl rfl ?_
            refine kR.n ?_
            show kR 5 82 b82_84 _ _ _ _
            refine kR.ret rfl rfl ?_
            refine kfin (by have z := kpl_o t e p; omega) rfl
          · skip
            refine kR.n ?_
            show kR 5 82 b82_79 _ _ _ _
            refine kR.s rfl rfl ?_
            refine kR.g rfl ?_
            show kR 5 82 b82_84 _ _ _ _
            refine kR.ret rfl rfl ?_
            refine kfin (by have z := kpl_o t e p; omega) rfl
        · skip
          refine kR.s rfl rfl ?_
          refine kR.bi rfl ?_
          refine kR.jle (by omega) (by omega) (by omega) (by omega) (fun q8 => ?_) (fun q8 => ?_)
          · skip
            show kR 5 82 b82_79 _ _ _ _
            refine kR.s rfl rfl ?_
            refine kR.g rfl ?_
            show kR 5 82 b82_84 _ _ _ _
            refine kR.ret rfl rfl ?_
            refine kfin (by have z := kpl_o t e p; omega) rfl
          · skip
            refine kR.n ?_
            show kR 5 82 b82_70 _ _ _ _
            refine kR.s rfl rfl ?_
            refine kR.s rfl rfl ?_
            have f9_0 := kix_sg (kch t e p)
            refine kR.cv (v := .int (Int32.ofInt (kix [95, 46, 43, 47, 126, 40, 60, 61, 36, 94] (kch t e p)))) (kargs_S (by omega) hs ⟨Nat.le_of_ble_eq_true rfl, Nat.le_of_ble_eq_true rfl, Nat.le_of_ble_eq_true rfl, rfl⟩ (by decide) rfl rfl) rfl (kR.up (c_171 (by omega) hs (by decide) (by omega)) (by decide)) ?_
            refine kR.zlt (by omega) (by omega) (fun q10 => ?_) (fun q10 => ?_)
            · skip
              show kR 5 82 b82_83 _ _ _ _
              refine kR.s rfl rfl ?_
              refine kR.n ?_
              show kR 5 82 b82_84 _ _ _ _
              refine kR.ret rfl rfl ?_
              refine kfin (by have z := kpl_o t e p; omega) rfl
            · skip
              refine kR.n ?_
              show kR 5 82 b82_79 _ _ _ _
              refine kR.s rfl rfl ?_
              refine kR.g rfl ?_
              show kR 5 82 b82_84 _ _ _ _
              refine kR.ret rfl rfl ?_
              refine kfin (by have z := kpl_o t e p; omega) rfl
      · skip
        refine kR.s rfl rfl ?_
        refine kR.bi rfl ?_
        refine kR.jle (by omega) (by omega) (by omega) (by omega) (fun q11 => ?_) (fun q11 => ?_)
        · skip
          show kR 5 82 b82_79 _ _ _ _
          refine kR.s rfl rfl ?_
          refine kR.g rfl ?_
          show kR 5 82 b82_84 _ _ _ _
          refine kR.ret rfl rfl ?_
          refine kfin (by have z := kpl_o t e p; omega) rfl
        · skip
          refine kR.n ?_
          show kR 5 82 b82_58 _ _ _ _
          refine kR.s rfl rfl ?_
          refine kR.bi rfl ?_
          refine kR.jlt (by omega) (by omega) (by omega) (by omega) (fun q12 => ?_) (fun q12 => ?_)
          · skip
            show kR 5 82 b82_70 _ _ _ _
            refine kR.s rfl rfl ?_
            refine kR.s rfl rfl ?_
            have f13_0 := kix_sg (kch t e p)
            refine kR.cv (v := .int (Int32.ofInt (kix [95, 46, 43, 47, 126, 40, 60, 61, 36, 94] (kch t e p)))) (kargs_S (by omega) hs ⟨Nat.le_of_ble_eq_true rfl, Nat.le_of_ble_eq_true rfl, Nat.le_of_ble_eq_true rfl, rfl⟩ (by decide) rfl rfl) rfl (kR.up (c_171 (by omega) hs (by decide) (by omega)) (by decide)) ?_
            refine kR.zlt (by omega) (by omega) (fun q14 => ?_) (fun q14 => ?_)
            · skip
              show kR 5 82 b82_83 _ _ _ _
              refine kR.s rfl rfl ?_
              refine kR.n ?_
              show kR 5 82 b82_84 _ _ _ _
              refine kR.ret rfl rfl ?_
              refine kfin (by have z := kpl_o t e p; omega) rfl
            · skip
              refine kR.n ?_
              show kR 5 82 b82_79 _ _ _ _
              refine kR.s rfl rfl ?_
              refine kR.g rfl ?_
              show kR 5 82 b82_84 _ _ _ _
              refine kR.ret rfl rfl ?_
              refine kfin (by have z := kpl_o t e p; omega) rfl
          · skip
            refine kR.s rfl rfl ?_
            refine kR.bi rfl ?_
            refine kR.jle (by omega) (by omega) (by omega) (by omega) (fun q15 => ?_) (fun q15 => ?_)
            · skip
              show kR 5 82 b82_79 _ _ _ _
              refine kR.s rfl rfl ?_
              refine kR.g rfl ?_
              show kR 5 82 b82_84 _ _ _ _
              refine kR.ret rfl rfl ?_
              refine kfin (by have z := kpl_o t e p; omega) rfl
            · skip
              refine kR.n ?_
              show kR 5 82 b82_70 _ _ _ _
              refine kR.s rfl rfl ?_
              refine kR.s rfl rfl ?_
              have f16_0 := kix_sg (kch t e p)
              refine kR.cv (v := .int (Int32.ofInt (kix [95, 46, 43, 47, 126, 40, 60, 61, 36, 94] (kch t e p)))) (kargs_S (by omega) hs ⟨Nat.le_of_ble_eq_true rfl, Nat.le_of_ble_eq_true rfl, Nat.le_of_ble_eq_true rfl, rfl⟩ (by decide) rfl rfl) rfl (kR.up (c_171 (by omega) hs (by decide) (by omega)) (by decide)) ?_
              refine kR.zlt (by omega) (by omega) (fun q17 => ?_) (fun q17 => ?_)
              · skip
                show kR 5 82 b82_83 _ _ _ _
                refine kR.s rfl rfl ?_
                refine kR.n ?_
                show kR 5 82 b82_84 _ _ _ _
                refine kR.ret rfl rfl ?_
                refine kfin (by have z := kpl_o t e p; omega) rfl
              · skip
                refine kR.n ?_
                show kR 5 82 b82_79 _ _ _ _
                refine kR.s rfl rfl ?_
                refine kR.g rfl ?_
                show kR 5 82 b82_84 _ _ _ _
                refine kR.ret rfl rfl ?_
                refine kfin (by have z := kpl_o t e p; omega) rfl
    · skip
      refine kR.s rfl rfl ?_
      refine kR.bi rfl ?_
      refine kR.jle (by omega) (by omega) (by omega) (by omega) (fun q18 => ?_) (fun q18 => ?_)
      · skip
        show kR 5 82 b82_79 _ _ _ _
        refine kR.s rfl rfl ?_
        refine kR.g rfl ?_
        show kR 5 82 b82_84 _ _ _ _
        refine kR.ret rfl rfl ?_
        refine kfin (by have z := kpl_o t e p; omega) rfl
      · skip
        refine kR.n ?_
        show kR 5 82 b82_46 _ _ _ _
        refine kR.s rfl rfl ?_
        refine kR.bi rfl ?_
        refine kR.jlt (by omega) (by omega) (by omega) (by omega) (fun q19 => ?_) (fun q19 => ?_)
        · skip
          show kR 5 82 b82_58 _ _ _ _
          refine kR.s rfl rfl ?_
          refine kR.bi rfl ?_
          refine kR.jlt (by omega) (by omega) (by omega) (by omega) (fun q20 => ?_) (fun q20 => ?_)
          · skip
            show kR 5 82 b82_70 _ _ _ _
            refine kR.s rfl rfl ?_
            refine kR.s rfl rfl ?_
            have f21_0 := kix_sg (kch t e p)
            refine kR.cv (v := .int (Int32.ofInt (kix [95, 46, 43, 47, 126, 40, 60, 61, 36, 94] (kch t e p)))) (kargs_S (by omega) hs ⟨Nat.le_of_ble_eq_true rfl, Nat.le_of_ble_eq_true rfl, Nat.le_of_ble_eq_true rfl, rfl⟩ (by decide) rfl rfl) rfl (kR.up (c_171 (by omega) hs (by decide) (by omega)) (by decide)) ?_
            refine kR.zlt (by omega) (by omega) (fun q22 => ?_) (fun q22 => ?_)
            · skip
              show kR 5 82 b82_83 _ _ _ _
              refine kR.s rfl rfl ?_
              refine kR.n ?_
              show kR 5 82 b82_84 _ _ _ _
              refine kR.ret rfl rfl ?_
              refine kfin (by have z := kpl_o t e p; omega) rfl
            · skip
              refine kR.n ?_
              show kR 5 82 b82_79 _ _ _ _
              refine kR.s rfl rfl ?_
              refine kR.g rfl ?_
              show kR 5 82 b82_84 _ _ _ _
              refine kR.ret rfl rfl ?_
              refine kfin (by have z := kpl_o t e p; omega) rfl
          · skip
            refine kR.s rfl rfl ?_
            refine kR.bi rfl ?_
            refine kR.jle (by omega) (by omega) (by omega) (by omega) (fun q23 => ?_) (fun q23 => ?_)
            · skip
              show kR 5 82 b82_79 _ _ _ _
              refine kR.s rfl rfl ?_
              refine kR.g rfl ?_
              show kR 5 82 b82_84 _ _ _ _
              refine kR.ret rfl rfl ?_
              refine kfin (by have z := kpl_o t e p; omega) rfl
            · skip
              refine kR.n ?_
              show kR 5 82 b82_70 _ _ _ _
              refine kR.s rfl rfl ?_
              refine kR.s rfl rfl ?_
              have f24_0 := kix_sg (kch t e p)
              refine kR.cv (v := .int (Int32.ofInt (kix [95, 46, 43, 47, 126, 40, 60, 61, 36, 94] (kch t e p)))) (kargs_S (by omega) hs ⟨Nat.le_of_ble_eq_true rfl, Nat.le_of_ble_eq_true rfl, Nat.le_of_ble_eq_true rfl, rfl⟩ (by decide) rfl rfl) rfl (kR.up (c_171 (by omega) hs (by decide) (by omega)) (by decide)) ?_
              refine kR.zlt (by omega) (by omega) (fun q25 => ?_) (fun q25 => ?_)
              · skip
                show kR 5 82 b82_83 _ _ _ _
                refine kR.s rfl rfl ?_
                refine kR.n ?_
                show kR 5 82 b82_84 _ _ _ _
                refine kR.ret rfl rfl ?_
                refine kfin (by have z := kpl_o t e p; omega) rfl
              · skip
                refine kR.n ?_
                show kR 5 82 b82_79 _ _ _ _
                refine kR.s rfl rfl ?_
                refine kR.g rfl ?_
                show kR 5 82 b82_84 _ _ _ _
                refine kR.ret rfl rfl ?_
                refine kfin (by have z := kpl_o t e p; omega) rfl
        · skip
          refine kR.s rfl rfl ?_
          refine kR.bi rfl ?_
          refine kR.jle (by omega) (by omega) (by omega) (by omega) (fun q26 => ?_) (fun q26 => ?_)
          · skip
            show kR 5 82 b82_79 _ _ _ _
            refine kR.s rfl rfl ?_
            refine kR.g rfl ?_
            show kR 5 82 b82_84 _ _ _ _
            refine kR.ret rfl rfl ?_
            refine kfin (by have z := kpl_o t e p; omega) rfl
          · skip
            refine kR.n ?_
            show kR 5 82 b82_58 _ _ _ _
            refine kR.s rfl rfl ?_
            refine kR.bi rfl ?_
            refine kR.jlt (by omega) (by omega) (by omega) (by omega) (fun q27 => ?_) (fun q27 => ?_)
            · skip
              show kR 5 82 b82_70 _ _ _ _
              refine kR.s rfl rfl ?_
              refine kR.s rfl rfl ?_
              have f28_0 := kix_sg (kch t e p)
              refine kR.cv (v := .int (Int32.ofInt (kix [95, 46, 43, 47, 126, 40, 60, 61, 36, 94] (kch t e p)))) (kargs_S (by omega) hs ⟨Nat.le_of_ble_eq_true rfl, Nat.le_of_ble_eq_true rfl, Nat.le_of_ble_eq_true rfl, rfl⟩ (by decide) rfl rfl) rfl (kR.up (c_171 (by omega) hs (by decide) (by omega)) (by decide)) ?_
              refine kR.zlt (by omega) (by omega) (fun q29 => ?_) (fun q29 => ?_)
              · skip
                show kR 5 82 b82_83 _ _ _ _
                refine kR.s rfl rfl ?_
                refine kR.n ?_
                show kR 5 82 b82_84 _ _ _ _
                refine kR.ret rfl rfl ?_
                refine kfin (by have z := kpl_o t e p; omega) rfl
              · skip
                refine kR.n ?_
                show kR 5 82 b82_79 _ _ _ _
                refine kR.s rfl rfl ?_
                refine kR.g rfl ?_
                show kR 5 82 b82_84 _ _ _ _
                refine kR.ret rfl rfl ?_
                refine kfin (by have z := kpl_o t e p; omega) rfl
            · skip
              refine kR.s rfl rfl ?_
              refine kR.bi rfl ?_
              refine kR.jle (by omega) (by omega) (by omega) (by omega) (fun q30 => ?_) (fun q30 => ?_)
              · skip
                show kR 5 82 b82_79 _ _ _ _
                refine kR.s rfl rfl ?_
                refine kR.g rfl ?_
                show kR 5 82 b82_84 _ _ _ _
                refine kR.ret rfl rfl ?_
                refine kfin (by have z := kpl_o t e p; omega) rfl
              · skip
                refine kR.n ?_
                show kR 5 82 b82_70 _ _ _ _
                refine kR.s rfl rfl ?_
                refine kR.s rfl rfl ?_
                have f31_0 := kix_sg (kch t e p)
                refine kR.cv (v := .int (Int32.ofInt (kix [95, 46, 43, 47, 126, 40, 60, 61, 36, 94] (kch t e p)))) (kargs_S (by omega) hs ⟨Nat.le_of_ble_eq_true rfl, Nat.le_of_ble_eq_true rfl, Nat.le_of_ble_eq_true rfl, rfl⟩ (by decide) rfl rfl) rfl (kR.up (c_171 (by omega) hs (by decide) (by omega)) (by decide)) ?_
                refine kR.zlt (by omega) (by omega) (fun q32 => ?_) (fun q32 => ?_)
                · skip
                  show kR 5 82 b82_83 _ _ _ _
                  refine kR.s rfl rfl ?_
                  refine kR.n ?_
                  show kR 5 82 b82_84 _ _ _ _
                  refine kR.ret rfl rfl ?_
                  refine kfin (by have z := kpl_o t e p; omega) rfl
                · skip
                  refine kR.n ?_
                  show kR 5 82 b82_79 _ _ _ _
                  refine kR.s rfl rfl ?_
                  refine kR.g rfl ?_
                  show kR 5 82 b82_84 _ _ _ _
                  refine kR.ret rfl rfl ?_
                  refine kfin (by have z := kpl_o t e p; omega) rfl
  · skip
    refine kR.s rfl rfl ?_
    refine kR.gr (a := 54) (b := 53) (k := 0) (by omega) rfl rfl rfl (by decide) (by decide) rfl ?_
    refine kR.s rfl rfl ?_
    refine kR.s rfl rfl ?_
    refine kR.add ?_
    have f33_0 := kgap_o t e (p + 1)
    refine kR.cv (v := .int (Int32.ofInt (kgap t e (p + 1)))) rfl rfl (kR.up (c_56 hX hC he hen (p := (p + 1)) (by omega)) (by decide)) ?_
    refine kR.zne (by omega) (by omega) (fun q34 => ?_) (fun q34 => ?_)
    · skip
      show kR 5 82 b82_32 _ _ _ _
      refine kR.s rfl rfl ?_
      refine kR.n ?_
      show kR 5 82 b82_33 _ _ _ _
      refine kR.ret rfl rfl ?_
      refine kfin (by have z := kpl_o t e p; omega) rfl
    · skip
      refine kR.s rfl rfl ?_
      refine kR.g rfl ?_
      show kR 5 82 b82_33 _ _ _ _
      refine kR.ret rfl rfl ?_
      refine kfin (by have z := kpl_o t e p; omega) rfl
theorem l_78 {E : Nat → kC} {S : Nat → Nat → Int} {sz : Nat × Nat} {t : Nat → Int} {n L : Nat} (hX : kTx t n L) (hC : kCt S t n L) {e : Nat} (he : S 53 3 = (e : Int)) (hen : e ≤ n) {f : Nat} {q : Int} (hq : 0 ≤ q ∧ q < 128) : ∀ (j p : Nat) (v4 v5 : Value), e + 2 - p = j → p ≤ e + 1 → kR 1 78 (blk 78 13) [.ref 54, .int (Int32.ofInt (f : Int)), .int (Int32.ofInt q), .int (Int32.ofInt (p : Int)), v4, v5] [] (sz, hp 57 E S) (fun r => r = (.inl (some (.int (Int32.ofInt (kbq t e q p)))), (sz, hp 57 E S))) := by
  have hm : 53 ≤ 57 ∧ 57 ≤ 57 := by omega
  intro j
  induction j using Nat.strongRecOn with
  | _ j ih =>
    intro p v4 v5 hj hpp
    have hx1 := hX.1
    show kR 1 78 b78_13 _ _ _ _
    refine kR.s rfl rfl ?_
    refine kR.s rfl rfl ?_
    refine kR.gr (a := 54) (b := 53) (k := 0) (by omega) rfl rfl rfl (by decide) (by decide) rfl ?_
    refine kR.gi (a := 53) (k := 3) (v := (e : Int)) (by omega) rfl rfl rfl (by decide) (by decide) rfl (by exact he) ?_
    refine kR.jge (by omega) (by omega) (by omega) (by omega) (fun q1 => ?_) (fun q1 => ?_)
    · skip
      show kR 1 78 b78_94 _ _ _ _
      refine kR.s rfl rfl ?_
      refine kR.ret rfl rfl ?_
      first | rw [kbq_end (by omega)] | rw [kbq_u (by omega), if_neg (by omega), if_neg (by omega), if_pos (by omega)]
    · skip
      refine kR.s rfl rfl ?_
      refine kR.gr (a := 54) (b := 53) (k := 0) (by omega) rfl rfl rfl (by decide) (by decide) rfl ?_
      refine kR.s rfl rfl ?_
      have f2_0 := kch_rng hX hen p
      refine kR.cv (v := .int (Int32.ofInt (kch t e p))) rfl rfl (kR.up (c_52 hX hC he hen (p := p) (by omega)) (by decide)) ?_
      refine kR.s rfl rfl ?_
      refine kR.s rfl rfl ?_
      refine kR.gr (a := 54) (b := 53) (k := 0) (by omega) rfl rfl rfl (by decide) (by decide) rfl ?_
      refine kR.s rfl rfl ?_
      refine kR.s rfl rfl ?_
      refine kR.add ?_
      have f3_0 := kch_rng hX hen (p + 1)
      refine kR.cv (v := .int (Int32.ofInt (kch t e (p + 1)))) rfl rfl (kR.up (c_52 hX hC he hen (p := (p + 1)) (by omega)) (by decide)) ?_
      refine kR.s rfl rfl ?_
      refine kR.s rfl rfl ?_
      refine kR.s rfl rfl ?_
      refine kR.s rfl rfl ?_
      have f4_0 := kpr_o q (kch t e p) (kch t e (p + 1))
      refine kR.cv (v := .int (Int32.ofInt (kpr q (kch t e p) (kch t e (p + 1))))) rfl rfl (kR.up (c_79 (q := q) (c := kch t e p) (z := kch t e (p + 1)) (by omega) (by omega) (by omega)) (by decide)) ?_
      refine kR.zeq (by omega) (by omega) (fun q5 => ?_) (fun q5 => ?_)
      · skip
        show kR 1 78 b78_63 _ _ _ _
        refine kR.s rfl rfl ?_
        refine kR.s rfl rfl ?_
        refine kR.jne (by omega) (by omega) (by omega) (by omega) (fun q6 => ?_) (fun q6 => ?_)
        · skip
          show kR 1 78 b78_73 _ _ _ _
          refine kR.s rfl rfl ?_
          refine kR.bi rfl ?_
          refine kR.jne (by omega) (by omega) (by omega) (by omega) (fun q7 => ?_) (fun q7 => ?_)
          · skip
            show kR 1 78 b78_88 _ _ _ _
            refine kR.inc rfl ?_
            refine kR.g rfl ?_
            rw [kbq_u (by omega)]
            rw [if_neg (by omega), if_neg (by omega), if_neg (by omega)]
            exact ih (e + 2 - (p + 1)) (by omega) (p + 1) _ _ rfl (by omega)
          · skip
            refine kR.s rfl rfl ?_
            refine kR.bi rfl ?_
            refine kR.jne (by omega) (by omega) (by omega) (by omega) (fun q8 => ?_) (fun q8 => ?_)
            · skip
              show kR 1 78 b78_88 _ _ _ _
              refine kR.inc rfl ?_
              refine kR.g rfl ?_
              rw [kbq_u (by omega)]
              rw [if_neg (by omega), if_neg (by omega), if_neg (by omega)]
              exact ih (e + 2 - (p + 1)) (by omega) (p + 1) _ _ rfl (by omega)
            · skip
              refine kR.s rfl rfl ?_
              refine kR.ret rfl rfl ?_
              first | rw [kbq_end (by omega)] | rw [kbq_u (by omega), if_neg (by omega), if_neg (by omega), if_pos (by omega)]
        · skip
          refine kR.s rfl rfl ?_
          refine kR.s rfl rfl ?_
          refine kR.add ?_
          refine kR.ret rfl rfl ?_
          rw [kbq_u (by omega), if_neg (by omega), if_pos (by omega)]
      · skip
        refine kR.inc rfl ?_
        refine kR.g rfl ?_
        show kR 1 78 b78_88 _ _ _ _
        refine kR.inc rfl ?_
        refine kR.g rfl ?_
        rw [kbq_u (by omega)]
        rw [if_pos (by omega)]
        exact ih (e + 2 - (p + 2)) (by omega) (p + 2) _ _ rfl (by omega)
theorem c_78 {E : Nat → kC} {S : Nat → Nat → Int} {sz : Nat × Nat} {t : Nat → Int} {n L : Nat} (hX : kTx t n L) (hC : kCt S t n L) {e : Nat} (he : S 53 3 = (e : Int)) (hen : e ≤ n) {p : Nat} (hpp : p ≤ e) : kR 1 78 (blk 78 0) (kent 78 [.ref 54, .int (Int32.ofInt ((p : Int)))]) [] (sz, hp 57 E S) (fun r => r = (.inl (some (.int (Int32.ofInt (kbq t e (kch t e p) (p + 1))))), (sz, hp 57 E S))) := by
  have hm : 53 ≤ 57 ∧ 57 ≤ 57 := by omega
  have hx1 := hX.1
  have hx2 := hX.2.2.2.1
  show kR 1 78 b78_0 _ _ _ _
  refine kR.s rfl rfl ?_
  refine kR.gr (a := 54) (b := 53) (k := 0) (by omega) rfl rfl rfl (by decide) (by decide) rfl ?_
  refine kR.s rfl rfl ?_
  have f1_0 := kch_rng hX hen p
  refine kR.cv (v := .int (Int32.ofInt (kch t e p))) rfl rfl (kR.up (c_52 hX hC he hen (p := p) (by omega)) (by decide)) ?_
  refine kR.s rfl rfl ?_
  refine kR.s rfl rfl ?_
  refine kR.s rfl rfl ?_
  refine kR.add ?_
  refine kR.s rfl rfl ?_
  refine kR.n ?_
  exact l_78 hX hC he hen (by omega) _ (p + 1) _ _ rfl (by omega)
theorem l_75 {E : Nat → kC} {S : Nat → Nat → Int} {sz : Nat × Nat} {t : Nat → Int} {n L : Nat} (hX : kTx t n L) (hC : kCt S t n L) {e : Nat} (he : S 53 3 = (e : Int)) (hen : e ≤ n) {i : Int} (hi : i = 0 ∨ i = 1) {a : Nat} : ∀ (j p : Nat), e - p = j → p ≤ 200 → kR 2 75 (blk 75 60) [.ref 54, .int (Int32.ofInt i), .int (Int32.ofInt (a : Int)), .int (Int32.ofInt (p : Int))] [] (sz, hp 57 E S) (fun r => r = (.inl (some (.int (Int32.ofInt (if kcol t e i (kw (fun k => decide (kcol t e i k = 0 ∧ ¬ (i = 1 ∧ kbk (kch t e k) = 1))) e p) = 1 then ((kw (fun k => decide (kcol t e i k = 0 ∧ ¬ (i = 1 ∧ kbk (kch t e k) = 1))) e p : Nat) : Int) else -1)))), (sz, hp 57 E S))) := by
  have hm : 53 ≤ 57 ∧ 57 ≤ 57 := by omega
  intro j
  induction j using Nat.strongRecOn with
  | _ j ih =>
    intro p hj hpp
    have hx1 := hX.1
    have hco := kcol_o t e i p
    have hco2 : e ≤ p → kch t e p = 10 := fun z => kch_out z
    show kR 2 75 b75_60 _ _ _ _
    refine kR.s rfl rfl ?_
    refine kR.s rfl rfl ?_
    refine kR.gr (a := 54) (b := 53) (k := 0) (by omega) rfl rfl rfl (by decide) (by decide) rfl ?_
    refine kR.gi (a := 53) (k := 3) (v := (e : Int)) (by omega) rfl rfl rfl (by decide) (by decide) rfl (by exact he) ?_
    refine kR.jge (by omega) (by omega) (by omega) (by omega) (fun q1 => ?_) (fun q1 => ?_)
    · skip
      show kR 2 75 b75_108 _ _ _ _
      refine kR.s rfl rfl ?_
      refine kR.ret rfl rfl ?_
      rw [kw_no (by first | (left; omega) | (right; exact decide_eq_false (by omega)))]
      first | rw [if_pos (by omega)] | rw [if_neg (by omega)]
    · skip
      refine kR.s rfl rfl ?_
      refine kR.s rfl rfl ?_
      refine kR.s rfl rfl ?_
      have f2_0 := kcol_o t e i p
      refine kR.cv (v := .int (Int32.ofInt (kcol t e i p))) rfl rfl (kR.up (c_76 hX hC he hen (p := p) (by omega) hi) (by decide)) ?_
      refine kR.zeq (by omega) (by omega) (fun q3 => ?_) (fun q3 => ?_)
      · skip
        show kR 2 75 b75_82 _ _ _ _
        refine kR.s rfl rfl ?_
        refine kR.zeq (by omega) (by omega) (fun q4 => ?_) (fun q4 => ?_)
        · skip
          show kR 2 75 b75_102 _ _ _ _
          refine kR.inc rfl ?_
          refine kR.g rfl ?_
          rw [kw_go (by omega) (decide_eq_true (by omega))]
          exact ih (e - (p + 1)) (by omega) (p + 1) rfl (by omega)
        · skip
          refine kR.s rfl rfl ?_
          refine kR.gr (a := 54) (b := 53) (k := 0) (by omega) rfl rfl rfl (by decide) (by decide) rfl ?_
          refine kR.s rfl rfl ?_
          have f5_0 := kch_rng hX hen p
          refine kR.cv (v := .int (Int32.ofInt (kch t e p))) rfl rfl (kR.up (c_52 hX hC he hen (p := p) (by omega)) (by decide)) ?_
          have f6_0 := kbk_o (kch t e p)
          refine kR.cv (v := .int (Int32.ofInt (kbk (kch t e p)))) rfl rfl (kR.up (c_88 (c := kch t e p) (by omega)) (by decide)) ?_
          refine kR.zeq (by omega) (by omega) (fun q7 => ?_) (fun q7 => ?_)
          · skip
            show kR 2 75 b75_102 _ _ _ _
            refine kR.inc rfl ?_
            refine kR.g rfl ?_
            rw [kw_go (by omega) (decide_eq_true (by omega))]
            exact ih (e - (p + 1)) (by omega) (p + 1) rfl (by omega)
          · skip
            refine kR.s rfl rfl ?_
            refine kR.ret rfl rfl ?_
            rw [kw_no (by first | (left; omega) | (right; exact decide_eq_false (by omega)))]
            first | rw [if_pos (by omega)] | rw [if_neg (by omega)]
      · skip
        refine kR.s rfl rfl ?_
        refine kR.ret rfl rfl ?_
        rw [kw_no (by first | (left; omega) | (right; exact decide_eq_false (by omega)))]
        first | rw [if_pos (by omega)] | rw [if_neg (by omega)]
theorem c_75 {E : Nat → kC} {S : Nat → Nat → Int} {sz : Nat × Nat} {t : Nat → Int} {n L : Nat} (hX : kTx t n L) (hC : kCt S t n L) {e : Nat} (he : S 53 3 = (e : Int)) (hen : e ≤ n) {a : Nat} (ha : S 53 2 = (a : Int)) (hae : a ≤ e) {i : Int} (hi : i = 0 ∨ i = 1) (hs : kStr E 1000011 [95, 46, 43, 47, 126, 40, 60, 61, 36, 94]) : kR 6 75 (blk 75 0) (kent 75 [.ref 54, .int (Int32.ofInt (i))]) [] (sz, hp 57 E S) (fun r => r = (.inl (some (.int (Int32.ofInt (kck t e i a)))), (sz, hp 57 E S))) := by
  have hm : 53 ≤ 57 ∧ 57 ≤ 57 := by omega
  have hx1 := hX.1
  have hx2 := hX.2.2.2.1
  show kR 6 75 b75_0 _ _ _ _
  refine kR.s rfl rfl ?_
  refine kR.gr (a := 54) (b := 53) (k := 0) (by omega) rfl rfl rfl (by decide) (by decide) rfl ?_
  refine kR.gi (a := 53) (k := 2) (v := (a : Int)) (by omega) rfl rfl rfl (by decide) (by decide) rfl (by exact ha) ?_
  refine kR.s rfl rfl ?_
  refine kR.s rfl rfl ?_
  refine kR.gr (a := 54) (b := 53) (k := 0) (by omega) rfl rfl rfl (by decide) (by decide) rfl ?_
  refine kR.s rfl rfl ?_
  have f1_0 := kch_rng hX hen a
  refine kR.cv (v := .int (Int32.ofInt (kch t e a))) rfl rfl (kR.up (c_52 hX hC he hen (p := a) (by omega)) (by decide)) ?_
  have f2_0 := kqu_o (kch t e a)
  refine kR.cv (v := .int (Int32.ofInt (kqu (kch t e a)))) rfl rfl (kR.up (c_87 (c := kch t e a) (by omega)) (by decide)) ?_
  refine kR.zeq (by omega) (by omega) (fun q3 => ?_) (fun q3 => ?_)
  · skip
    show kR 6 75 b75_48 _ _ _ _
    refine kR.s rfl rfl ?_
    refine kR.s rfl rfl ?_
    have f4_0 := kpl_o t e a
    refine kR.cv (v := .int (Int32.ofInt (kpl t e a))) rfl rfl (kR.up (c_82 hX hC he hen (p := a) (by omega) hs) (by decide)) ?_
    refine kR.zne (by omega) (by omega) (fun q5 => ?_) (fun q5 => ?_)
    · skip
      show kR 6 75 b75_58 _ _ _ _
      refine kR.s rfl rfl ?_
      refine kR.s rfl rfl ?_
      refine kR.n ?_
      have z := l_75 hX hC he hen hi (E := E) (sz := sz) (a := a) (e - a) a rfl (by omega)
      unfold kck
      rw [if_neg (by omega)]
      refine kR.up (kR.wk z (fun u hu => ?_)) (by decide)
      rw [hu]
      refine kfin ?_ rfl
      show (if kcol t e i (kst t e i a) = 1 then (kst t e i a : Int) else -1) = _
      by_cases c1 : kcol t e i (kst t e i a) = 1
      · rw [if_pos c1, if_pos ⟨by omega, c1⟩]
      · rw [if_neg c1, if_neg (fun w => c1 w.2)]
    · skip
      refine kR.s rfl rfl ?_
      refine kR.ret rfl rfl ?_
      unfold kck
      rw [if_neg (by omega), if_neg (by omega)]
  · skip
    refine kR.s rfl rfl ?_
    refine kR.s rfl rfl ?_
    refine kR.cv (v := .int (Int32.ofInt (kbq t e (kch t e a) (a + 1)))) rfl rfl (kR.up (c_78 hX hC he hen (p := a) (by omega)) (by decide)) ?_
    have hkc : kck t e i a = if 0 ≤ kbq t e (kch t e a) (a + 1) ∧ kcol t e i (kbq t e (kch t e a) (a + 1)).toNat = 1 then kbq t e (kch t e a) (a + 1) else -1 := if_pos (by omega)
    have hbr := kbq_rng (t := t) (e := e) (q := kch t e a) (e - (a + 1)) (a + 1) rfl
    rw [hkc]
    obtain hbz | ⟨b, hbz⟩ : kbq t e (kch t e a) (a + 1) = -1 ∨ ∃ b : Nat, kbq t e (kch t e a) (a + 1) = (b : Int) := by
      rcases hbr with z | z
      · exact Or.inl z
      · exact Or.inr ⟨(kbq t e (kch t e a) (a + 1)).toNat, by omega⟩
    · skip
      rw [hbz] at hbr ⊢
      refine kR.s rfl rfl ?_
      refine kR.s rfl rfl ?_
      refine kR.s rfl rfl ?_
      refine kR.jeq (by decide) (by decide) (by decide) (by decide) (fun q6 => ?_) (fun q6 => absurd q6 (by decide))
      show kR 6 75 b75_46 _ _ _ _
      refine kR.s rfl rfl ?_
      refine kR.n ?_
      show kR 6 75 b75_47 _ _ _ _
      refine kR.ret rfl rfl ?_
      rw [if_neg (by omega)]
    · skip
      rw [hbz] at hbr ⊢
      refine kR.s rfl rfl ?_
      refine kR.s rfl rfl ?_
      refine kR.s rfl rfl ?_
      refine kR.jeq (by omega) (by omega) (by omega) (by omega) (fun q7 => ?_) (fun q7 => ?_)
      · skip
        show kR 6 75 b75_46 _ _ _ _
        refine kR.s rfl rfl ?_
        refine kR.n ?_
        show kR 6 75 b75_47 _ _ _ _
        refine kR.ret rfl rfl ?_
        rw [if_neg (fun z => by have z := z.2; change kcol t e i b = 1 at z; omega)]
      · skip
        refine kR.s rfl rfl ?_
        refine kR.s rfl rfl ?_
        refine kR.s rfl rfl ?_
        have f8_0 := kcol_o t e i b
        refine kR.cv (v := .int (Int32.ofInt (kcol t e i b))) rfl rfl (kR.up (c_76 hX hC he hen (p := b) (by omega) hi) (by decide)) ?_
        refine kR.zeq (by omega) (by omega) (fun q9 => ?_) (fun q9 => ?_)
        · skip
          show kR 6 75 b75_46 _ _ _ _
          refine kR.s rfl rfl ?_
          refine kR.n ?_
          show kR 6 75 b75_47 _ _ _ _
          refine kR.ret rfl rfl ?_
          rw [if_neg (fun z => by have z := z.2; change kcol t e i b = 1 at z; omega)]
        · skip
          refine kR.s rfl rfl ?_
          refine kR.g rfl ?_
          show kR 6 75 b75_47 _ _ _ _
          refine kR.ret rfl rfl ?_
          rw [if_pos ⟨by omega, by show kcol t e i b = 1; omega⟩]
