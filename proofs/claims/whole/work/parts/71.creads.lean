/-! The class: values and keys. By program (wip/gen/gen71.py). -/
theorem l_81 {E : Nat → kC} {S : Nat → Nat → Int} {sz : Nat × Nat} {t : Nat → Int} {n L : Nat} (hX : kTx t n L) (hC : kCt S t n L) {e : Nat} (he : S 53 3 = (e : Int)) (hen : e ≤ n) {i : Int} (hi : i = 0 ∨ i = 1) {d : Int} {a : Nat} {Q : kO × kH → Prop} : ∀ (j p : Nat), e - p = j → p ≤ e → (kcol t e i (kw (fun k => decide (kcol t e i k = 0 ∧ ¬ (i = 1 ∧ kbk (kch t e k) = 1))) e p) = 0 → kR 7 81 (blk 81 86) [.ref 54, .int (Int32.ofInt d), .int (Int32.ofInt i), .int (Int32.ofInt (a : Int)), .int (Int32.ofInt ((kw (fun k => decide (kcol t e i k = 0 ∧ ¬ (i = 1 ∧ kbk (kch t e k) = 1))) e p : Nat) : Int))] [] (sz, hp 57 E S) Q) → (kcol t e i (kw (fun k => decide (kcol t e i k = 0 ∧ ¬ (i = 1 ∧ kbk (kch t e k) = 1))) e p) = 1 → Q (.inr sz.1, knew (sz, hp 57 E S) 30 6 (fun _ => .null))) → kR 7 81 (blk 81 29) [.ref 54, .int (Int32.ofInt d), .int (Int32.ofInt i), .int (Int32.ofInt (a : Int)), .int (Int32.ofInt (p : Int))] [] (sz, hp 57 E S) Q := by
  have hm : 53 ≤ 57 ∧ 57 ≤ 57 := by omega
  intro j
  induction j using Nat.strongRecOn with
  | _ j ih =>
    intro p hj hpe h86 hth
    have hx1 := hX.1
    have hco := kcol_o t e i p
    have hc1 := kcol_01 t e i p
    have hco2 : e ≤ p → kch t e p = 10 := fun z => kch_out z
    have hbk := kbk_01 (kch t e p)
    have hbo := kbk_o (kch t e p)
    show kR 7 81 b81_29 _ _ _ _
    refine kR.s rfl rfl ?_
    refine kR.s rfl rfl ?_
    refine kR.gr (a := 54) (b := 53) (k := 0) (by omega) rfl rfl rfl (by decide) (by decide) rfl ?_
    refine kR.gi (a := 53) (k := 3) (v := (e : Int)) (by omega) rfl rfl rfl (by decide) (by decide) rfl (by exact he) ?_
    refine kR.jge (by omega) (by omega) (by omega) (by omega) (fun q1 => ?_) (fun q1 => ?_)
    · skip
      rw [kw_no (by first | (left; omega) | (right; exact decide_eq_false (by omega)))] at h86
      exact h86 (by omega)
    · skip
      refine kR.s rfl rfl ?_
      refine kR.zeq (by omega) (by omega) (fun q2 => ?_) (fun q2 => ?_)
      · skip
        show kR 7 81 b81_60 _ _ _ _
        refine kR.s rfl rfl ?_
        refine kR.s rfl rfl ?_
        refine kR.s rfl rfl ?_
        refine kR.cv (v := .int (Int32.ofInt (kcol t e i p))) rfl rfl (kR.up (c_76 hX hC he hen (p := p) (by omega) hi) (by decide)) ?_
        refine kR.zeq (by omega) (by omega) (fun q4 => ?_) (fun q4 => ?_)
        · skip
          show kR 7 81 b81_80 _ _ _ _
          refine kR.inc rfl ?_
          refine kR.g rfl ?_
          rw [kw_go (by omega) (decide_eq_true (by omega))] at h86 hth
          exact ih (e - (p + 1)) (by omega) (p + 1) rfl (by omega) h86 hth
        · skip
          refine kR.t rfl rfl (Nat.le_of_ble_eq_true rfl) ?_
          rw [kw_no (Or.inr (decide_eq_false (by omega)))] at hth
          exact hth (by omega)
      · skip
        refine kR.s rfl rfl ?_
        refine kR.gr (a := 54) (b := 53) (k := 0) (by omega) rfl rfl rfl (by decide) (by decide) rfl ?_
        refine kR.s rfl rfl ?_
        have f5_0 := kch_rng hX hen p
        refine kR.cv (v := .int (Int32.ofInt (kch t e p))) rfl rfl (kR.up (c_52 hX hC he hen (p := p) (by omega)) (by decide)) ?_
        refine kR.cv (v := .int (Int32.ofInt (kbk (kch t e p)))) rfl rfl (kR.up (c_88 (c := kch t e p) (by omega)) (by decide)) ?_
        refine kR.zne (by omega) (by omega) (fun q7 => ?_) (fun q7 => ?_)
        · skip
          rw [kw_no (by first | (left; omega) | (right; exact decide_eq_false (by omega)))] at h86
          exact h86 (by omega)
        · skip
          refine kR.n ?_
          show kR 7 81 b81_60 _ _ _ _
          refine kR.s rfl rfl ?_
          refine kR.s rfl rfl ?_
          refine kR.s rfl rfl ?_
          refine kR.cv (v := .int (Int32.ofInt (kcol t e i p))) rfl rfl (kR.up (c_76 hX hC he hen (p := p) (by omega) hi) (by decide)) ?_
          refine kR.zeq (by omega) (by omega) (fun q9 => ?_) (fun q9 => ?_)
          · skip
            show kR 7 81 b81_80 _ _ _ _
            refine kR.inc rfl ?_
            refine kR.g rfl ?_
            rw [kw_go (by omega) (decide_eq_true (by omega))] at h86 hth
            exact ih (e - (p + 1)) (by omega) (p + 1) rfl (by omega) h86 hth
          · skip
            refine kR.t rfl rfl (Nat.le_of_ble_eq_true rfl) ?_
            rw [kw_no (Or.inr (decide_eq_false (by omega)))] at hth
            exact hth (by omega)
theorem c_81n {E : Nat → kC} {S : Nat → Nat → Int} {sz : Nat × Nat} {t : Nat → Int} {n L : Nat} (hX : kTx t n L) (hC : kCt S t n L) {e : Nat} (he : S 53 3 = (e : Int)) (hen : e ≤ n) {a : Nat} (ha : S 53 2 = (a : Int)) (hae : a ≤ e) {i : Int} (hi : i = 0 ∨ i = 1) (hs : kStr E 1000011 [95, 46, 43, 47, 126, 40, 60, 61, 36, 94]) {d : Int} (hpl : kpl t e a = 0) : kR 8 81 (blk 81 0) (kent 81 [.ref 54, .int (Int32.ofInt (d)), .int (Int32.ofInt (i))]) [] (sz, hp 57 E S) (fun r => r = (.inr sz.1, knew (sz, hp 57 E S) 30 6 (fun _ => .null))) := by
  have hm : 53 ≤ 57 ∧ 57 ≤ 57 := by omega
  have hx1 := hX.1
  show kR 8 81 b81_0 _ _ _ _
  refine kR.s rfl rfl ?_
  refine kR.gr (a := 54) (b := 53) (k := 0) (by omega) rfl rfl rfl (by decide) (by decide) rfl ?_
  refine kR.gi (a := 53) (k := 2) (v := (a : Int)) (by omega) rfl rfl rfl (by decide) (by decide) rfl (by exact ha) ?_
  refine kR.s rfl rfl ?_
  refine kR.s rfl rfl ?_
  refine kR.s rfl rfl ?_
  have f1_0 := kpl_01 t e a
  refine kR.cv (v := .int (Int32.ofInt (kpl t e a))) rfl rfl (kR.up (c_82 hX hC he hen (p := a) (by omega) hs) (by decide)) ?_
  refine kR.zne (by omega) (by omega) (fun q2 => ?_) (fun q2 => ?_)
  · skip
    exfalso
    omega
  · skip
    refine kR.t rfl rfl (Nat.le_of_ble_eq_true rfl) ?_
    rfl
theorem c_81c {E : Nat → kC} {S : Nat → Nat → Int} {sz : Nat × Nat} {t : Nat → Int} {n L : Nat} (hX : kTx t n L) (hC : kCt S t n L) {e : Nat} (he : S 53 3 = (e : Int)) (hen : e ≤ n) {a : Nat} (ha : S 53 2 = (a : Int)) (hae : a ≤ e) {i : Int} (hi : i = 0 ∨ i = 1) (hs : kStr E 1000011 [95, 46, 43, 47, 126, 40, 60, 61, 36, 94]) {d : Int} (hpl : kpl t e a = 1) (hcl : kcol t e i (kst t e i a) = 1) : kR 8 81 (blk 81 0) (kent 81 [.ref 54, .int (Int32.ofInt (d)), .int (Int32.ofInt (i))]) [] (sz, hp 57 E S) (fun r => r = (.inr sz.1, knew (sz, hp 57 E S) 30 6 (fun _ => .null))) := by
  have hm : 53 ≤ 57 ∧ 57 ≤ 57 := by omega
  have hx1 := hX.1
  show kR 8 81 b81_0 _ _ _ _
  refine kR.s rfl rfl ?_
  refine kR.gr (a := 54) (b := 53) (k := 0) (by omega) rfl rfl rfl (by decide) (by decide) rfl ?_
  refine kR.gi (a := 53) (k := 2) (v := (a : Int)) (by omega) rfl rfl rfl (by decide) (by decide) rfl (by exact ha) ?_
  refine kR.s rfl rfl ?_
  refine kR.s rfl rfl ?_
  refine kR.s rfl rfl ?_
  have f1_0 := kpl_01 t e a
  refine kR.cv (v := .int (Int32.ofInt (kpl t e a))) rfl rfl (kR.up (c_82 hX hC he hen (p := a) (by omega) hs) (by decide)) ?_
  refine kR.zne (by omega) (by omega) (fun q2 => ?_) (fun q2 => ?_)
  · skip
    show kR 8 81 b81_26 _ _ _ _
    refine kR.s rfl rfl ?_
    refine kR.s rfl rfl ?_
    refine kR.n ?_
    exact kR.up (l_81 hX hC he hen hi (e - a) a rfl (by omega) (fun z => absurd (show kcol t e i (kst t e i a) = 0 from z) (by omega)) (fun _ => rfl)) (by decide)
  · skip
    refine kR.t rfl rfl (Nat.le_of_ble_eq_true rfl) ?_
    exfalso
    omega
theorem c_81g {E : Nat → kC} {S : Nat → Nat → Int} {sz : Nat × Nat} {t : Nat → Int} {n L : Nat} (hX : kTx t n L) (hC : kCt S t n L) {e : Nat} (he : S 53 3 = (e : Int)) (hen : e ≤ n) {a : Nat} (ha : S 53 2 = (a : Int)) (hae : a ≤ e) {i : Int} (hi : i = 0 ∨ i = 1) (hs : kStr E 1000011 [95, 46, 43, 47, 126, 40, 60, 61, 36, 94]) {d : Int} (hpl : kpl t e a = 1) (hcl : kcol t e i (kst t e i a) = 0) {S1 : Nat → Nat → Int} {v : Int} {z : Nat} (hz : kst t e i a = z) (k83 : kR 6 83 (blk 83 0) (kent 83 [.ref 54, .int (Int32.ofInt (a : Int)), .int (Int32.ofInt (z : Int)), .int (Int32.ofInt d)]) [] (sz, hp 57 E (ku S 53 2 (z : Int))) (fun r => r = (.inl (some (.int (Int32.ofInt v))), (sz, hp 57 E S1)))) : kR 8 81 (blk 81 0) (kent 81 [.ref 54, .int (Int32.ofInt (d)), .int (Int32.ofInt (i))]) [] (sz, hp 57 E S) (fun r => r = (.inl (some (.int (Int32.ofInt v))), (sz, hp 57 E S1))) := by
  have hm : 53 ≤ 57 ∧ 57 ≤ 57 := by omega
  have hx1 := hX.1
  show kR 8 81 b81_0 _ _ _ _
  refine kR.s rfl rfl ?_
  refine kR.gr (a := 54) (b := 53) (k := 0) (by omega) rfl rfl rfl (by decide) (by decide) rfl ?_
  refine kR.gi (a := 53) (k := 2) (v := (a : Int)) (by omega) rfl rfl rfl (by decide) (by decide) rfl (by exact ha) ?_
  refine kR.s rfl rfl ?_
  refine kR.s rfl rfl ?_
  refine kR.s rfl rfl ?_
  have f1_0 := kpl_01 t e a
  refine kR.cv (v := .int (Int32.ofInt (kpl t e a))) rfl rfl (kR.up (c_82 hX hC he hen (p := a) (by omega) hs) (by decide)) ?_
  refine kR.zne (by omega) (by omega) (fun q2 => ?_) (fun q2 => ?_)
  · skip
    show kR 8 81 b81_26 _ _ _ _
    refine kR.s rfl rfl ?_
    refine kR.s rfl rfl ?_
    refine kR.n ?_
    refine kR.up (l_81 hX hC he hen hi (e - a) a rfl (by omega) (fun _ => ?_) (fun z => absurd (show kcol t e i (kst t e i a) = 1 from z) (by omega))) (by decide)
    show kR 7 81 (blk 81 86) [.ref 54, .int (Int32.ofInt d), .int (Int32.ofInt i), .int (Int32.ofInt (a : Int)), .int (Int32.ofInt ((kst t e i a : Nat) : Int))] [] (sz, hp 57 E S) _
    rw [hz]
    show kR 7 81 b81_86 _ _ _ _
    refine kR.s rfl rfl ?_
    refine kR.gr (a := 54) (b := 53) (k := 0) (by omega) rfl rfl rfl (by decide) (by decide) rfl ?_
    refine kR.s rfl rfl ?_
    refine kR.pi (a := 53) (k := 2) (by omega) rfl rfl rfl (by decide) (by decide) rfl rfl ?_
    refine kR.s rfl rfl ?_
    refine kR.s rfl rfl ?_
    refine kR.s rfl rfl ?_
    refine kR.s rfl rfl ?_
    refine kR.cv rfl rfl k83 ?_
    refine kR.ret rfl rfl ?_
    rfl
  · skip
    refine kR.t rfl rfl (Nat.le_of_ble_eq_true rfl) ?_
    exfalso
    omega
theorem c_81t {E : Nat → kC} {S : Nat → Nat → Int} {sz : Nat × Nat} {t : Nat → Int} {n L : Nat} (hX : kTx t n L) (hC : kCt S t n L) {e : Nat} (he : S 53 3 = (e : Int)) (hen : e ≤ n) {a : Nat} (ha : S 53 2 = (a : Int)) (hae : a ≤ e) {i : Int} (hi : i = 0 ∨ i = 1) (hs : kStr E 1000011 [95, 46, 43, 47, 126, 40, 60, 61, 36, 94]) {d : Int} (hpl : kpl t e a = 1) (hcl : kcol t e i (kst t e i a) = 0) {z : Nat} (hz : kst t e i a = z) (k83 : kR 6 83 (blk 83 0) (kent 83 [.ref 54, .int (Int32.ofInt (a : Int)), .int (Int32.ofInt (z : Int)), .int (Int32.ofInt d)]) [] (sz, hp 57 E (ku S 53 2 (z : Int))) (fun r => r = (.inr sz.1, knew (sz, hp 57 E (ku S 53 2 (z : Int))) 30 6 (fun _ => .null)))) : kR 8 81 (blk 81 0) (kent 81 [.ref 54, .int (Int32.ofInt (d)), .int (Int32.ofInt (i))]) [] (sz, hp 57 E S) (fun r => r = (.inr sz.1, knew (sz, hp 57 E (ku S 53 2 (z : Int))) 30 6 (fun _ => .null))) := by
  have hm : 53 ≤ 57 ∧ 57 ≤ 57 := by omega
  have hx1 := hX.1
  show kR 8 81 b81_0 _ _ _ _
  refine kR.s rfl rfl ?_
  refine kR.gr (a := 54) (b := 53) (k := 0) (by omega) rfl rfl rfl (by decide) (by decide) rfl ?_
  refine kR.gi (a := 53) (k := 2) (v := (a : Int)) (by omega) rfl rfl rfl (by decide) (by decide) rfl (by exact ha) ?_
  refine kR.s rfl rfl ?_
  refine kR.s rfl rfl ?_
  refine kR.s rfl rfl ?_
  have f1_0 := kpl_01 t e a
  refine kR.cv (v := .int (Int32.ofInt (kpl t e a))) rfl rfl (kR.up (c_82 hX hC he hen (p := a) (by omega) hs) (by decide)) ?_
  refine kR.zne (by omega) (by omega) (fun q2 => ?_) (fun q2 => ?_)
  · skip
    show kR 8 81 b81_26 _ _ _ _
    refine kR.s rfl rfl ?_
    refine kR.s rfl rfl ?_
    refine kR.n ?_
    refine kR.up (l_81 hX hC he hen hi (e - a) a rfl (by omega) (fun _ => ?_) (fun z => absurd (show kcol t e i (kst t e i a) = 1 from z) (by omega))) (by decide)
    show kR 7 81 (blk 81 86) [.ref 54, .int (Int32.ofInt d), .int (Int32.ofInt i), .int (Int32.ofInt (a : Int)), .int (Int32.ofInt ((kst t e i a : Nat) : Int))] [] (sz, hp 57 E S) _
    rw [hz]
    show kR 7 81 b81_86 _ _ _ _
    refine kR.s rfl rfl ?_
    refine kR.gr (a := 54) (b := 53) (k := 0) (by omega) rfl rfl rfl (by decide) (by decide) rfl ?_
    refine kR.s rfl rfl ?_
    refine kR.pi (a := 53) (k := 2) (by omega) rfl rfl rfl (by decide) (by decide) rfl rfl ?_
    refine kR.s rfl rfl ?_
    refine kR.s rfl rfl ?_
    refine kR.s rfl rfl ?_
    refine kR.s rfl rfl ?_
    exact kR.cT rfl rfl rfl k83 rfl
  · skip
    refine kR.t rfl rfl (Nat.le_of_ble_eq_true rfl) ?_
    exfalso
    omega
theorem c_77n {E : Nat → kC} {S : Nat → Nat → Int} {sz : Nat × Nat} {t : Nat → Int} {n L : Nat} (hX : kTx t n L) (hC : kCt S t n L) {e : Nat} (he : S 53 3 = (e : Int)) (hen : e ≤ n) {a : Nat} (ha : S 53 2 = (a : Int)) (hae : a ≤ e) {d : Int} (hb : kbq t e (kch t e a) (a + 1) = -1) : kR 6 77 (blk 77 0) (kent 77 [.ref 54, .int (Int32.ofInt (d))]) [] (sz, hp 57 E S) (fun r => r = (.inr sz.1, knew (sz, hp 57 E S) 30 6 (fun _ => .null))) := by
  have hm : 53 ≤ 57 ∧ 57 ≤ 57 := by omega
  have hx1 := hX.1
  show kR 6 77 b77_0 _ _ _ _
  refine kR.s rfl rfl ?_
  refine kR.gr (a := 54) (b := 53) (k := 0) (by omega) rfl rfl rfl (by decide) (by decide) rfl ?_
  refine kR.gi (a := 53) (k := 2) (v := (a : Int)) (by omega) rfl rfl rfl (by decide) (by decide) rfl (by exact ha) ?_
  refine kR.s rfl rfl ?_
  refine kR.s rfl rfl ?_
  refine kR.s rfl rfl ?_
  refine kR.cv (v := .int (Int32.ofInt (-1))) rfl rfl (kR.up (hb ▸ c_78 hX hC he hen (p := a) (by omega)) (by decide)) ?_
  refine kR.s rfl rfl ?_
  refine kR.s rfl rfl ?_
  refine kR.s rfl rfl ?_
  refine kR.jne (by decide) (by decide) (by decide) (by decide) (fun q2 => absurd q2 (by decide)) (fun q2 => ?_)
  refine kR.t rfl rfl (Nat.le_of_ble_eq_true rfl) ?_
  rfl
theorem c_77g {E : Nat → kC} {S : Nat → Nat → Int} {sz : Nat × Nat} {t : Nat → Int} {n L : Nat} (hX : kTx t n L) (hC : kCt S t n L) {e : Nat} (he : S 53 3 = (e : Int)) (hen : e ≤ n) {a : Nat} (ha : S 53 2 = (a : Int)) (hae : a ≤ e) {d : Int} {b : Nat} (hb : kbq t e (kch t e a) (a + 1) = (b : Int)) (hbe : b ≤ e) {S1 : Nat → Nat → Int} {v : Int} (k80 : kR 4 80 (blk 80 0) (kent 80 [.ref 54, .int (Int32.ofInt (a : Int)), .int (Int32.ofInt (b : Int)), .int (Int32.ofInt d)]) [] (sz, hp 57 E (ku S 53 2 (b : Int))) (fun r => r = (.inl (some (.int (Int32.ofInt v))), (sz, hp 57 E S1)))) : kR 6 77 (blk 77 0) (kent 77 [.ref 54, .int (Int32.ofInt (d))]) [] (sz, hp 57 E S) (fun r => r = (.inl (some (.int (Int32.ofInt v))), (sz, hp 57 E S1))) := by
  have hm : 53 ≤ 57 ∧ 57 ≤ 57 := by omega
  have hx1 := hX.1
  show kR 6 77 b77_0 _ _ _ _
  refine kR.s rfl rfl ?_
  refine kR.gr (a := 54) (b := 53) (k := 0) (by omega) rfl rfl rfl (by decide) (by decide) rfl ?_
  refine kR.gi (a := 53) (k := 2) (v := (a : Int)) (by omega) rfl rfl rfl (by decide) (by decide) rfl (by exact ha) ?_
  refine kR.s rfl rfl ?_
  refine kR.s rfl rfl ?_
  refine kR.s rfl rfl ?_
  refine kR.cv (v := .int (Int32.ofInt ((b : Int)))) rfl rfl (kR.up (hb ▸ c_78 hX hC he hen (p := a) (by omega)) (by decide)) ?_
  refine kR.s rfl rfl ?_
  refine kR.s rfl rfl ?_
  refine kR.s rfl rfl ?_
  refine kR.jne (by omega) (by omega) (by omega) (by omega) (fun q2 => ?_) (fun q2 => ?_)
  · skip
    show kR 6 77 b77_29 _ _ _ _
    refine kR.s rfl rfl ?_
    refine kR.gr (a := 54) (b := 53) (k := 0) (by omega) rfl rfl rfl (by decide) (by decide) rfl ?_
    refine kR.s rfl rfl ?_
    refine kR.pi (a := 53) (k := 2) (by omega) rfl rfl rfl (by decide) (by decide) rfl rfl ?_
    refine kR.s rfl rfl ?_
    refine kR.s rfl rfl ?_
    refine kR.s rfl rfl ?_
    refine kR.s rfl rfl ?_
    refine kR.cv rfl rfl (kR.up k80 (by decide)) ?_
    refine kR.ret rfl rfl ?_
    rfl
  · skip
    refine kR.t rfl rfl (Nat.le_of_ble_eq_true rfl) ?_
    exfalso
    omega
theorem c_77t {E : Nat → kC} {S : Nat → Nat → Int} {sz : Nat × Nat} {t : Nat → Int} {n L : Nat} (hX : kTx t n L) (hC : kCt S t n L) {e : Nat} (he : S 53 3 = (e : Int)) (hen : e ≤ n) {a : Nat} (ha : S 53 2 = (a : Int)) (hae : a ≤ e) {d : Int} {b : Nat} (hb : kbq t e (kch t e a) (a + 1) = (b : Int)) (hbe : b ≤ e) (k80 : kR 4 80 (blk 80 0) (kent 80 [.ref 54, .int (Int32.ofInt (a : Int)), .int (Int32.ofInt (b : Int)), .int (Int32.ofInt d)]) [] (sz, hp 57 E (ku S 53 2 (b : Int))) (fun r => r = (.inr sz.1, knew (sz, hp 57 E (ku S 53 2 (b : Int))) 30 6 (fun _ => .null)))) : kR 6 77 (blk 77 0) (kent 77 [.ref 54, .int (Int32.ofInt (d))]) [] (sz, hp 57 E S) (fun r => r = (.inr sz.1, knew (sz, hp 57 E (ku S 53 2 (b : Int))) 30 6 (fun _ => .null))) := by
  have hm : 53 ≤ 57 ∧ 57 ≤ 57 := by omega
  have hx1 := hX.1
  show kR 6 77 b77_0 _ _ _ _
  refine kR.s rfl rfl ?_
  refine kR.gr (a := 54) (b := 53) (k := 0) (by omega) rfl rfl rfl (by decide) (by decide) rfl ?_
  refine kR.gi (a := 53) (k := 2) (v := (a : Int)) (by omega) rfl rfl rfl (by decide) (by decide) rfl (by exact ha) ?_
  refine kR.s rfl rfl ?_
  refine kR.s rfl rfl ?_
  refine kR.s rfl rfl ?_
  refine kR.cv (v := .int (Int32.ofInt ((b : Int)))) rfl rfl (kR.up (hb ▸ c_78 hX hC he hen (p := a) (by omega)) (by decide)) ?_
  refine kR.s rfl rfl ?_
  refine kR.s rfl rfl ?_
  refine kR.s rfl rfl ?_
  refine kR.jne (by omega) (by omega) (by omega) (by omega) (fun q2 => ?_) (fun q2 => ?_)
  · skip
    show kR 6 77 b77_29 _ _ _ _
    refine kR.s rfl rfl ?_
    refine kR.gr (a := 54) (b := 53) (k := 0) (by omega) rfl rfl rfl (by decide) (by decide) rfl ?_
    refine kR.s rfl rfl ?_
    refine kR.pi (a := 53) (k := 2) (by omega) rfl rfl rfl (by decide) (by decide) rfl rfl ?_
    refine kR.s rfl rfl ?_
    refine kR.s rfl rfl ?_
    refine kR.s rfl rfl ?_
    refine kR.s rfl rfl ?_
    exact kR.cT rfl rfl rfl (kR.up k80 (by decide)) rfl
  · skip
    refine kR.t rfl rfl (Nat.le_of_ble_eq_true rfl) ?_
    exfalso
    omega
