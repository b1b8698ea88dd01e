/-! The reference: mapKey. By program (wip/gen/gen63.py). -/
theorem c_141_1 {m : Nat} {E : Nat → kC} {S : Nat → Nat → Int} {sz : Nat × Nat} (hm : 53 ≤ m ∧ m ≤ 57) {t : Nat → Int} {n L : Nat} (hX : kTx t n L) (hR : kRt S t n) {e : Nat} (he : S 30 23 = (e : Int)) (hen : e ≤ n) {p : Nat} (hpp : S 30 21 = (p : Int)) (hpe : p ≤ e) (hqu : kqu (kch t e p) = 0) (hpl : kpl t e p = 0) : kR 5 141 (blk 141 0) (kent 141 [.ref 30]) [] (sz, hp m E S) (fun r => r = (.inl none, (sz, hp m E (ku (ku S 30 21 (-1)) 30 19 1)))) := by
  have hx1 := hX.1
  have hq0 := kqu_h t e p
  have hq1 := kqu_01 (kch t e p)
  have hbr := kbq_rng (t := t) (e := e) (q := kch t e p) (e - (p + 1)) (p + 1) rfl
  have hst : p ≤ kst t e 1 p ∧ (p ≤ e → kst t e 1 p ≤ e) := kw_rng
  have hQ : kqu (khr t e p) = 0 := by omega
  show kR 5 141 b141_0 _ _ _ _
  refine kR.s rfl rfl ?_
  refine kR.gi (a := 30) (k := 21) (v := (p : Int)) (by omega) rfl rfl rfl (by decide) (by decide) rfl (by exact hpp) ?_
  refine kR.s rfl rfl ?_
  refine kR.s rfl rfl ?_
  refine kR.s rfl rfl ?_
  refine kR.gi (a := 30) (k := 21) (v := (p : Int)) (by omega) rfl rfl rfl (by decide) (by decide) rfl (by exact hpp) ?_
  have f1_0 := khr_r hX hen p
  refine kR.cv (v := .int (Int32.ofInt (khr t e p))) (kargs_m hm (by decide) rfl) rfl (kR.up (c_108t hm hX hR he hen (k := p) (by omega)) (by decide)) ?_
  refine kR.cv (v := .int (Int32.ofInt (0))) rfl rfl (kR.up (hQ ▸ c_127 (c := khr t e p) (by omega)) (by decide)) ?_
  refine kR.s rfl rfl ?_
  refine kR.s rfl rfl ?_
  refine kR.s rfl rfl ?_
  refine kR.zeq (by decide) (by decide) (fun q3 => ?_) (fun q3 => absurd q3 (by decide))
  show kR 5 141 b141_33 _ _ _ _
  refine kR.s rfl rfl ?_
  refine kR.s rfl rfl ?_
  refine kR.gi (a := 30) (k := 21) (v := (p : Int)) (by omega) rfl rfl rfl (by decide) (by decide) rfl (by exact hpp) ?_
  refine kR.cv (v := .int (Int32.ofInt (0))) (kargs_m hm (by decide) rfl) rfl (kR.up (hpl ▸ c_119 hm hX hR he hen (k := p) (by omega)) (by decide)) ?_
  refine kR.zeq (by decide) (by decide) (fun q5 => ?_) (fun q5 => absurd q5 (by decide))
  show kR 5 141 b141_56 _ _ _ _
  refine kR.s rfl rfl ?_
  refine kR.n ?_
  show kR 5 141 b141_57 _ _ _ _
  refine kR.pi (a := 30) (k := 21) (by omega) rfl rfl rfl (by decide) (by decide) rfl rfl ?_
  refine kR.s rfl rfl ?_
  refine kR.gi (a := 30) (k := 21) (v := -1) (by omega) rfl rfl rfl (by decide) (by decide) rfl (by rfl) ?_
  refine kR.zlt (by decide) (by decide) (fun q6 => ?_) (fun q6 => absurd q6 (by decide))
  show kR 5 141 b141_96 _ _ _ _
  refine kR.s rfl rfl ?_
  refine kR.s rfl rfl ?_
  refine kR.pi (a := 30) (k := 19) (by omega) rfl rfl rfl (by decide) (by decide) rfl (by first | rfl | assumption | simp [kfit, *]) ?_
  refine kR.ret rfl rfl ?_
  first | rfl | (exfalso; omega)
theorem c_141_2 {m : Nat} {E : Nat → kC} {S : Nat → Nat → Int} {sz : Nat × Nat} (hm : 53 ≤ m ∧ m ≤ 57) {t : Nat → Int} {n L : Nat} (hX : kTx t n L) (hR : kRt S t n) {e : Nat} (he : S 30 23 = (e : Int)) (hen : e ≤ n) {p : Nat} (hpp : S 30 21 = (p : Int)) (hpe : p ≤ e) (hqu : kqu (kch t e p) = 1) (hb : kbq t e (kch t e p) (p + 1) = -1) : kR 5 141 (blk 141 0) (kent 141 [.ref 30]) [] (sz, hp m E S) (fun r => r = (.inl none, (sz, hp m E (ku (ku (kqb S (kuq t e (kch t e p) (p + 1))) 30 21 (-1)) 30 19 1)))) := by
  have hx1 := hX.1
  have hq0 := kqu_h t e p
  have hq1 := kqu_01 (kch t e p)
  have hbr := kbq_rng (t := t) (e := e) (q := kch t e p) (e - (p + 1)) (p + 1) rfl
  have hst : p ≤ kst t e 1 p ∧ (p ≤ e → kst t e 1 p ≤ e) := kw_rng
  have hQ : kqu (khr t e p) = 1 := by omega
  rw [← hb]
  show kR 5 141 b141_0 _ _ _ _
  refine kR.s rfl rfl ?_
  refine kR.gi (a := 30) (k := 21) (v := (p : Int)) (by omega) rfl rfl rfl (by decide) (by decide) rfl (by exact hpp) ?_
  refine kR.s rfl rfl ?_
  refine kR.s rfl rfl ?_
  refine kR.s rfl rfl ?_
  refine kR.gi (a := 30) (k := 21) (v := (p : Int)) (by omega) rfl rfl rfl (by decide) (by decide) rfl (by exact hpp) ?_
  have f1_0 := khr_r hX hen p
  refine kR.cv (v := .int (Int32.ofInt (khr t e p))) (kargs_m hm (by decide) rfl) rfl (kR.up (c_108t hm hX hR he hen (k := p) (by omega)) (by decide)) ?_
  refine kR.cv (v := .int (Int32.ofInt (1))) rfl rfl (kR.up (hQ ▸ c_127 (c := khr t e p) (by omega)) (by decide)) ?_
  refine kR.s rfl rfl ?_
  refine kR.s rfl rfl ?_
  refine kR.s rfl rfl ?_
  refine kR.zeq (by decide) (by decide) (fun q3 => absurd q3 (by decide)) (fun q3 => ?_)
  refine kR.s rfl rfl ?_
  refine kR.s rfl rfl ?_
  refine kR.gi (a := 30) (k := 21) (v := (p : Int)) (by omega) rfl rfl rfl (by decide) (by decide) rfl (by exact hpp) ?_
  refine kR.cv (v := .int (Int32.ofInt (kbq t e (kch t e p) (p + 1)))) (kargs_m hm (by decide) rfl) rfl (kR.up (c_126 hm hX hR he hen (f := p) (by omega) hqu) (by decide)) ?_
  refine kR.g rfl ?_
  show kR 5 141 b141_57 _ _ _ _
  refine kR.pi (a := 30) (k := 21) (by omega) rfl rfl rfl (by decide) (by decide) rfl rfl ?_
  refine kR.s rfl rfl ?_
  refine kR.gi (a := 30) (k := 21) (v := kbq t e (kch t e p) (p + 1)) (by omega) rfl rfl rfl (by decide) (by decide) rfl (by rfl) ?_
  refine kR.zlt (by omega) (by omega) (fun q5 => ?_) (fun q5 => ?_)
  · skip
    show kR 5 141 b141_96 _ _ _ _
    refine kR.s rfl rfl ?_
    refine kR.s rfl rfl ?_
    refine kR.pi (a := 30) (k := 19) (by omega) rfl rfl rfl (by decide) (by decide) rfl (by first | rfl | assumption | simp [kfit, *]) ?_
    refine kR.ret rfl rfl ?_
    first | rfl | (exfalso; omega)
  · skip
    exfalso
    omega
theorem c_141_3 {m : Nat} {E : Nat → kC} {S : Nat → Nat → Int} {sz : Nat × Nat} (hm : 53 ≤ m ∧ m ≤ 57) {t : Nat → Int} {n L : Nat} (hX : kTx t n L) (hR : kRt S t n) {e : Nat} (he : S 30 23 = (e : Int)) (hen : e ≤ n) {p : Nat} (hpp : S 30 21 = (p : Int)) (hpe : p ≤ e) (hqu : kqu (kch t e p) = 1) {z : Nat} (hb : kbq t e (kch t e p) (p + 1) = (z : Int)) (hze : z ≤ e) (hz : ¬ kch t e z = 58) : kR 5 141 (blk 141 0) (kent 141 [.ref 30]) [] (sz, hp m E S) (fun r => r = (.inl none, (sz, hp m E (ku (ku (kqb S (kuq t e (kch t e p) (p + 1))) 30 21 (z : Int)) 30 19 1)))) := by
  have hx1 := hX.1
  have hq0 := kqu_h t e p
  have hq1 := kqu_01 (kch t e p)
  have hbr := kbq_rng (t := t) (e := e) (q := kch t e p) (e - (p + 1)) (p + 1) rfl
  have hst : p ≤ kst t e 1 p ∧ (p ≤ e → kst t e 1 p ≤ e) := kw_rng
  have hQ : kqu (khr t e p) = 1 := by omega
  have h58 := khr_c (t := t) (e := e) (p := z) 58 (by decide) (by decide)
  show kR 5 141 b141_0 _ _ _ _
  refine kR.s rfl rfl ?_
  refine kR.gi (a := 30) (k := 21) (v := (p : Int)) (by omega) rfl rfl rfl (by decide) (by decide) rfl (by exact hpp) ?_
  refine kR.s rfl rfl ?_
  refine kR.s rfl rfl ?_
  refine kR.s rfl rfl ?_
  refine kR.gi (a := 30) (k := 21) (v := (p : Int)) (by omega) rfl rfl rfl (by decide) (by decide) rfl (by exact hpp) ?_
  have f1_0 := khr_r hX hen p
  refine kR.cv (v := .int (Int32.ofInt (khr t e p))) (kargs_m hm (by decide) rfl) rfl (kR.up (c_108t hm hX hR he hen (k := p) (by omega)) (by decide)) ?_
  refine kR.cv (v := .int (Int32.ofInt (1))) rfl rfl (kR.up (hQ ▸ c_127 (c := khr t e p) (by omega)) (by decide)) ?_
  refine kR.s rfl rfl ?_
  refine kR.s rfl rfl ?_
  refine kR.s rfl rfl ?_
  refine kR.zeq (by decide) (by decide) (fun q3 => absurd q3 (by decide)) (fun q3 => ?_)
  refine kR.s rfl rfl ?_
  refine kR.s rfl rfl ?_
  refine kR.gi (a := 30) (k := 21) (v := (p : Int)) (by omega) rfl rfl rfl (by decide) (by decide) rfl (by exact hpp) ?_
  refine kR.cv (v := .int (Int32.ofInt ((z : Int)))) (kargs_m hm (by decide) rfl) rfl (kR.up (hb ▸ c_126 hm hX hR he hen (f := p) (by omega) hqu) (by decide)) ?_
  refine kR.g rfl ?_
  show kR 5 141 b141_57 _ _ _ _
  refine kR.pi (a := 30) (k := 21) (by omega) rfl rfl rfl (by decide) (by decide) rfl rfl ?_
  refine kR.s rfl rfl ?_
  refine kR.gi (a := 30) (k := 21) (v := (z : Int)) (by omega) rfl rfl rfl (by decide) (by decide) rfl (by rfl) ?_
  refine kR.zlt (by omega) (by omega) (fun q5 => ?_) (fun q5 => ?_)
  · skip
    show kR 5 141 b141_96 _ _ _ _
    refine kR.s rfl rfl ?_
    refine kR.s rfl rfl ?_
    refine kR.pi (a := 30) (k := 19) (by omega) rfl rfl rfl (by decide) (by decide) rfl (by first | rfl | assumption | simp [kfit, *]) ?_
    refine kR.ret rfl rfl ?_
    first | rfl | (exfalso; omega)
  · skip
    refine kR.s rfl rfl ?_
    refine kR.s rfl rfl ?_
    refine kR.gi (a := 30) (k := 21) (v := (z : Int)) (by omega) rfl rfl rfl (by decide) (by decide) rfl (by rfl) ?_
    have f6_0 := khr_r hX hen z
    refine kR.cv (v := .int (Int32.ofInt (khr t e z))) (kargs_m hm (by decide) rfl) rfl (kR.up (c_108t (S := ku (kqb S (kuq t e (kch t e p) (p + 1))) 30 21 (z : Int)) hm hX hR he hen (k := z) (by omega)) (by decide)) ?_
    refine kR.bi rfl ?_
    refine kR.jne (by omega) (by omega) (by omega) (by omega) (fun q7 => ?_) (fun q7 => ?_)
    · skip
      show kR 5 141 b141_96 _ _ _ _
      refine kR.s rfl rfl ?_
      refine kR.s rfl rfl ?_
      refine kR.pi (a := 30) (k := 19) (by omega) rfl rfl rfl (by decide) (by decide) rfl (by first | rfl | assumption | simp [kfit, *]) ?_
      refine kR.ret rfl rfl ?_
      first | rfl | (exfalso; omega)
    · skip
      exfalso
      omega
theorem c_141_5 {m : Nat} {E : Nat → kC} {S : Nat → Nat → Int} {sz : Nat × Nat} (hm : 53 ≤ m ∧ m ≤ 57) {t : Nat → Int} {n L : Nat} (hX : kTx t n L) (hR : kRt S t n) {e : Nat} (he : S 30 23 = (e : Int)) (hen : e ≤ n) {p : Nat} (hpp : S 30 21 = (p : Int)) (hpe : p ≤ e) (hqu : kqu (kch t e p) = 0) (hpl : kpl t e p = 1) (hz : kcol t e 1 (kst t e 1 p) = 0) : kR 5 141 (blk 141 0) (kent 141 [.ref 30]) [] (sz, hp m E S) (fun r => r = (.inl none, (sz, hp m E (ku (ku S 30 21 ((kst t e 1 p) : Int)) 30 19 1)))) := by
  have hx1 := hX.1
  have hq0 := kqu_h t e p
  have hq1 := kqu_01 (kch t e p)
  have hbr := kbq_rng (t := t) (e := e) (q := kch t e p) (e - (p + 1)) (p + 1) rfl
  have hst : p ≤ kst t e 1 p ∧ (p ≤ e → kst t e 1 p ≤ e) := kw_rng
  have hQ : kqu (khr t e p) = 0 := by omega
  show kR 5 141 b141_0 _ _ _ _
  refine kR.s rfl rfl ?_
  refine kR.gi (a := 30) (k := 21) (v := (p : Int)) (by omega) rfl rfl rfl (by decide) (by decide) rfl (by exact hpp) ?_
  refine kR.s rfl rfl ?_
  refine kR.s rfl rfl ?_
  refine kR.s rfl rfl ?_
  refine kR.gi (a := 30) (k := 21) (v := (p : Int)) (by omega) rfl rfl rfl (by decide) (by decide) rfl (by exact hpp) ?_
  have f1_0 := khr_r hX hen p
  refine kR.cv (v := .int (Int32.ofInt (khr t e p))) (kargs_m hm (by decide) rfl) rfl (kR.up (c_108t hm hX hR he hen (k := p) (by omega)) (by decide)) ?_
  refine kR.cv (v := .int (Int32.ofInt (0))) rfl rfl (kR.up (hQ ▸ c_127 (c := khr t e p) (by omega)) (by decide)) ?_
  refine kR.s rfl rfl ?_
  refine kR.s rfl rfl ?_
  refine kR.s rfl rfl ?_
  refine kR.zeq (by decide) (by decide) (fun q3 => ?_) (fun q3 => absurd q3 (by decide))
  show kR 5 141 b141_33 _ _ _ _
  refine kR.s rfl rfl ?_
  refine kR.s rfl rfl ?_
  refine kR.gi (a := 30) (k := 21) (v := (p : Int)) (by omega) rfl rfl rfl (by decide) (by decide) rfl (by exact hpp) ?_
  refine kR.cv (v := .int (Int32.ofInt (1))) (kargs_m hm (by decide) rfl) rfl (kR.up (hpl ▸ c_119 hm hX hR he hen (k := p) (by omega)) (by decide)) ?_
  refine kR.zeq (by decide) (by decide) (fun q5 => absurd q5 (by decide)) (fun q5 => ?_)
  refine kR.s rfl rfl ?_
  refine kR.s rfl rfl ?_
  refine kR.gi (a := 30) (k := 21) (v := (p : Int)) (by omega) rfl rfl rfl (by decide) (by decide) rfl (by exact hpp) ?_
  refine kR.s rfl rfl ?_
  refine kR.cv (v := .int (Int32.ofInt ((kst t e 1 p : Int)))) (kargs_m hm (by decide) rfl) rfl (kR.up (c_121 hm hX hR he hen (f := p) (by omega) (by omega)) (by decide)) ?_
  refine kR.g rfl ?_
  show kR 5 141 b141_57 _ _ _ _
  refine kR.pi (a := 30) (k := 21) (by omega) rfl rfl rfl (by decide) (by decide) rfl rfl ?_
  refine kR.s rfl rfl ?_
  refine kR.gi (a := 30) (k := 21) (v := (kst t e 1 p : Int)) (by omega) rfl rfl rfl (by decide) (by decide) rfl (by rfl) ?_
  refine kR.zlt (by omega) (by omega) (fun q7 => ?_) (fun q7 => ?_)
  · skip
    show kR 5 141 b141_96 _ _ _ _
    refine kR.s rfl rfl ?_
    refine kR.s rfl rfl ?_
    refine kR.pi (a := 30) (k := 19) (by omega) rfl rfl rfl (by decide) (by decide) rfl (by first | rfl | assumption | simp [kfit, *]) ?_
    refine kR.ret rfl rfl ?_
    first | rfl | (exfalso; omega)
  · skip
    refine kR.s rfl rfl ?_
    refine kR.s rfl rfl ?_
    refine kR.gi (a := 30) (k := 21) (v := (kst t e 1 p : Int)) (by omega) rfl rfl rfl (by decide) (by decide) rfl (by rfl) ?_
    have f8_0 := khr_r hX hen (kst t e 1 p)
    refine kR.cv (v := .int (Int32.ofInt (khr t e (kst t e 1 p)))) (kargs_m hm (by decide) rfl) rfl (kR.up (c_108t (S := ku S 30 21 (kst t e 1 p : Int)) hm hX hR he hen (k := (kst t e 1 p)) (by omega)) (by decide)) ?_
    refine kR.bi rfl ?_
    refine kR.jne (by omega) (by omega) (by omega) (by omega) (fun q9 => ?_) (fun q9 => ?_)
    · skip
      show kR 5 141 b141_96 _ _ _ _
      refine kR.s rfl rfl ?_
      refine kR.s rfl rfl ?_
      refine kR.pi (a := 30) (k := 19) (by omega) rfl rfl rfl (by decide) (by decide) rfl (by first | rfl | assumption | simp [kfit, *]) ?_
      refine kR.ret rfl rfl ?_
      first | rfl | (exfalso; omega)
    · skip
      refine kR.s rfl rfl ?_
      refine kR.zne (by decide) (by decide) (fun q10 => absurd q10 (by decide)) (fun q10 => ?_)
      refine kR.s rfl rfl ?_
      refine kR.s rfl rfl ?_
      refine kR.gi (a := 30) (k := 21) (v := (kst t e 1 p : Int)) (by omega) rfl rfl rfl (by decide) (by decide) rfl (by rfl) ?_
      refine kR.s rfl rfl ?_
      refine kR.cv (v := .int (Int32.ofInt (0))) (kargs_m hm (by decide) rfl) rfl (kR.up (hz ▸ c_120 (S := ku S 30 21 (kst t e 1 p : Int)) hm hX hR he hen (k := (kst t e 1 p)) (by omega) (by omega)) (by decide)) ?_
      refine kR.zne (by decide) (by decide) (fun q12 => absurd q12 (by decide)) (fun q12 => ?_)
      refine kR.n ?_
      show kR 5 141 b141_96 _ _ _ _
      refine kR.s rfl rfl ?_
      refine kR.s rfl rfl ?_
      refine kR.pi (a := 30) (k := 19) (by omega) rfl rfl rfl (by decide) (by decide) rfl (by first | rfl | assumption | simp [kfit, *]) ?_
      refine kR.ret rfl rfl ?_
      first | rfl | (exfalso; omega)
theorem c_141q_w {m : Nat} {E : Nat → kC} {S : Nat → Nat → Int} {sz : Nat × Nat} (hm : 53 ≤ m ∧ m ≤ 57) {t : Nat → Int} {n L : Nat} (hX : kTx t n L) (hR : kRt S t n) {e : Nat} (he : S 30 23 = (e : Int)) (hen : e ≤ n) {p : Nat} (hpp : S 30 21 = (p : Int)) (hpe : p ≤ e) (hqu : kqu (kch t e p) = 1) {z : Nat} (hb : kbq t e (kch t e p) (p + 1) = (z : Int)) (hze : z ≤ e) (hz : kch t e z = 58) {X4 : Nat → Nat → Int} {v : Int} (k128 : kR 2 128 (blk 128 0) (kent 128 [.ref 30]) [] (sz, hp m E (ku (kqb S (kuq t e (kch t e p) (p + 1))) 30 21 (z : Int))) (fun r => r = (.inl (some (.int (Int32.ofInt v))), (sz, hp m E X4)))) (hX4 : X4 30 19 = 1) : kR 5 141 (blk 141 0) (kent 141 [.ref 30]) [] (sz, hp m E S) (fun r => r = (.inl none, (sz, hp m E X4))) := by
  have hx1 := hX.1
  have hq0 := kqu_h t e p
  have hq1 := kqu_01 (kch t e p)
  have hbr := kbq_rng (t := t) (e := e) (q := kch t e p) (e - (p + 1)) (p + 1) rfl
  have hst : p ≤ kst t e 1 p ∧ (p ≤ e → kst t e 1 p ≤ e) := kw_rng
  have hQ : kqu (khr t e p) = 1 := by omega
  have h58 := khr_c (t := t) (e := e) (p := z) 58 (by decide) (by decide)
  have hco := kcol_o t e 1 z
  have hz58 : khr t e z = 58 := by exact h58.mpr hz
  show kR 5 141 b141_0 _ _ _ _
  refine kR.s rfl rfl ?_
  refine kR.gi (a := 30) (k := 21) (v := (p : Int)) (by omega) rfl rfl rfl (by decide) (by decide) rfl (by exact hpp) ?_
  refine kR.s rfl rfl ?_
  refine kR.s rfl rfl ?_
  refine kR.s rfl rfl ?_
  refine kR.gi (a := 30) (k := 21) (v := (p : Int)) (by omega) rfl rfl rfl (by decide) (by decide) rfl (by exact hpp) ?_
  have f1_0 := khr_r hX hen p
  refine kR.cv (v := .int (Int32.ofInt (khr t e p))) (kargs_m hm (by decide) rfl) rfl (kR.up (c_108t hm hX hR he hen (k := p) (by omega)) (by decide)) ?_
  refine kR.cv (v := .int (Int32.ofInt (1))) rfl rfl (kR.up (hQ ▸ c_127 (c := khr t e p) (by omega)) (by decide)) ?_
  refine kR.s rfl rfl ?_
  refine kR.s rfl rfl ?_
  refine kR.s rfl rfl ?_
  refine kR.zeq (by decide) (by decide) (fun q3 => absurd q3 (by decide)) (fun q3 => ?_)
  refine kR.s rfl rfl ?_
  refine kR.s rfl rfl ?_
  refine kR.gi (a := 30) (k := 21) (v := (p : Int)) (by omega) rfl rfl rfl (by decide) (by decide) rfl (by exact hpp) ?_
  refine kR.cv (v := .int (Int32.ofInt ((z : Int)))) (kargs_m hm (by decide) rfl) rfl (kR.up (hb ▸ c_126 hm hX hR he hen (f := p) (by omega) hqu) (by decide)) ?_
  refine kR.g rfl ?_
  show kR 5 141 b141_57 _ _ _ _
  refine kR.pi (a := 30) (k := 21) (by omega) rfl rfl rfl (by decide) (by decide) rfl rfl ?_
  refine kR.s rfl rfl ?_
  refine kR.gi (a := 30) (k := 21) (v := (z : Int)) (by omega) rfl rfl rfl (by decide) (by decide) rfl (by rfl) ?_
  refine kR.zlt (by omega) (by omega) (fun q5 => ?_) (fun q5 => ?_)
  · skip
    exfalso
    omega
  · skip
    refine kR.s rfl rfl ?_
    refine kR.s rfl rfl ?_
    refine kR.gi (a := 30) (k := 21) (v := (z : Int)) (by omega) rfl rfl rfl (by decide) (by decide) rfl (by rfl) ?_
    refine kR.cv (v := .int (Int32.ofInt (58))) (kargs_m hm (by decide) rfl) rfl (kR.up (hz58 ▸ c_108t (S := ku (kqb S (kuq t e (kch t e p) (p + 1))) 30 21 (z : Int)) hm hX hR he hen (k := z) (by omega)) (by decide)) ?_
    refine kR.bi rfl ?_
    refine kR.jne (by decide) (by decide) (by decide) (by decide) (fun q7 => absurd q7 (by decide)) (fun q7 => ?_)
    refine kR.s rfl rfl ?_
    refine kR.zne (by decide) (by decide) (fun q8 => ?_) (fun q8 => absurd q8 (by decide))
    show kR 5 141 b141_102 _ _ _ _
    refine kR.s rfl rfl ?_
    refine kR.zeq (by decide) (by decide) (fun q9 => absurd q9 (by decide)) (fun q9 => ?_)
    refine kR.s rfl rfl ?_
    refine kR.cv (v := .int (Int32.ofInt (v))) (kargs_m hm (by decide) rfl) rfl (kR.up (k128) (by decide)) ?_
    refine kR.g rfl ?_
    show kR 5 141 b141_122 _ _ _ _
    refine kR.s rfl rfl ?_
    refine kR.s rfl rfl ?_
    refine kR.gi (a := 30) (k := 19) (v := 1) (by omega) rfl rfl rfl (by decide) (by decide) rfl (by exact hX4) ?_
    refine kR.zeq (by decide) (by decide) (fun q11 => absurd q11 (by decide)) (fun q11 => ?_)
    refine kR.ret rfl rfl ?_
    first | rfl | (exfalso; omega)
theorem c_141q_e {m : Nat} {E : Nat → kC} {S : Nat → Nat → Int} {sz : Nat × Nat} (hm : 53 ≤ m ∧ m ≤ 57) {t : Nat → Int} {n L : Nat} (hX : kTx t n L) (hR : kRt S t n) {e : Nat} (he : S 30 23 = (e : Int)) (hen : e ≤ n) {p : Nat} (hpp : S 30 21 = (p : Int)) (hpe : p ≤ e) (hqu : kqu (kch t e p) = 1) {z : Nat} (hb : kbq t e (kch t e p) (p + 1) = (z : Int)) (hze : z ≤ e) (hz : kch t e z = 58) {X4 : Nat → Nat → Int} {v : Int} (k128 : kR 2 128 (blk 128 0) (kent 128 [.ref 30]) [] (sz, hp m E (ku (kqb S (kuq t e (kch t e p) (p + 1))) 30 21 (z : Int))) (fun r => r = (.inl (some (.int (Int32.ofInt v))), (sz, hp m E X4)))) (hX4 : X4 30 19 = 0) {X5 : Nat → Nat → Int} (k115 : kR 1 115 (blk 115 0) (kent 115 [.ref 30, .int (Int32.ofInt v)]) [] (sz, hp m E X4) (fun r => r = (.inl none, (sz, hp m E X5)))) (hR5 : kRt X5 t n) (he5 : X5 30 23 = (e : Int)) (h21 : X5 30 21 = (z : Int)) {w5 : Int} (hw5 : X5 30 19 = w5) (hce : (kch t e (kw (fun i => decide (t i = 32)) e (z + 1)) = 44 ∨ kch t e (kw (fun i => decide (t i = 32)) e (z + 1)) = 125)) {X7 : Nat → Nat → Int} {v0 : Int} (hmk : kR 0 110 (blk 110 0) (kent 110 [.ref 30, .int (Int32.ofInt 0)]) [] (sz, hp m E (ku (ku X5 30 21 ((z : Int) + 1)) 30 21 ((kw (fun i => decide (t i = 32)) e (z + 1)) : Nat))) (fun r => r = (.inl (some (.int (Int32.ofInt v0))), (sz, hp m E X7)))) : kR 5 141 (blk 141 0) (kent 141 [.ref 30]) [] (sz, hp m E S) (fun r => r = (.inl none, (sz, hp m E (ku (ku X7 30 27 v0) 30 20 4)))) := by
  have hx1 := hX.1
  have hq0 := kqu_h t e p
  have hq1 := kqu_01 (kch t e p)
  have hbr := kbq_rng (t := t) (e := e) (q := kch t e p) (e - (p + 1)) (p + 1) rfl
  have hst : p ≤ kst t e 1 p ∧ (p ≤ e → kst t e 1 p ≤ e) := kw_rng
  have hQ : kqu (khr t e p) = 1 := by omega
  have h58 := khr_c (t := t) (e := e) (p := z) 58 (by decide) (by decide)
  have hco := kcol_o t e 1 z
  have hkr : z + 1 ≤ (kw (fun i => decide (t i = 32)) e (z + 1)) ∧ (z + 1 ≤ e → (kw (fun i => decide (t i = 32)) e (z + 1)) ≤ e) := kw_rng
  have hko : e ≤ z + 1 → (kw (fun i => decide (t i = 32)) e (z + 1)) = z + 1 := fun y => kw_no (Or.inl y)
  obtain ⟨pb, hpb⟩ : ∃ pb, pb = (kw (fun i => decide (t i = 32)) e (z + 1)) := ⟨_, rfl⟩
  rw [← hpb] at hkr hko hce hmk
  have h44 := khr_c (t := t) (e := e) (p := pb) 44 (by decide) (by decide)
  have h125 := khr_c (t := t) (e := e) (p := pb) 125 (by decide) (by decide)
  have h32 := khr_c (t := t) (e := e) (p := z + 1) 32 (by decide) (by decide)
  have hz58 : khr t e z = 58 := by exact h58.mpr hz
  show kR 5 141 b141_0 _ _ _ _
  refine kR.s rfl rfl ?_
  refine kR.gi (a := 30) (k := 21) (v := (p : Int)) (by omega) rfl rfl rfl (by decide) (by decide) rfl (by exact hpp) ?_
  refine kR.s rfl rfl ?_
  refine kR.s rfl rfl ?_
  refine kR.s rfl rfl ?_
  refine kR.gi (a := 30) (k := 21) (v := (p : Int)) (by omega) rfl rfl rfl (by decide) (by decide) rfl (by exact hpp) ?_
  have f1_0 := khr_r hX hen p
  refine kR.cv (v := .int (Int32.ofInt (khr t e p))) (kargs_m hm (by decide) rfl) rfl (kR.up (c_108t hm hX hR he hen (k := p) (by omega)) (by decide)) ?_
  refine kR.cv (v := .int (Int32.ofInt (1))) rfl rfl (kR.up (hQ ▸ c_127 (c := khr t e p) (by omega)) (by decide)) ?_
  refine kR.s rfl rfl ?_
  refine kR.s rfl rfl ?_
  refine kR.s rfl rfl ?_
  refine kR.zeq (by decide) (by decide) (fun q3 => absurd q3 (by decide)) (fun q3 => ?_)
  refine kR.s rfl rfl ?_
  refine kR.s rfl rfl ?_
  refine kR.gi (a := 30) (k := 21) (v := (p : Int)) (by omega) rfl rfl rfl (by decide) (by decide) rfl (by exact hpp) ?_
  refine kR.cv (v := .int (Int32.ofInt ((z : Int)))) (kargs_m hm (by decide) rfl) rfl (kR.up (hb ▸ c_126 hm hX hR he hen (f := p) (by omega) hqu) (by decide)) ?_
  refine kR.g rfl ?_
  show kR 5 141 b141_57 _ _ _ _
  refine kR.pi (a := 30) (k := 21) (by omega) rfl rfl rfl (by decide) (by decide) rfl rfl ?_
  refine kR.s rfl rfl ?_
  refine kR.gi (a := 30) (k := 21) (v := (z : Int)) (by omega) rfl rfl rfl (by decide) (by decide) rfl (by rfl) ?_
  refine kR.zlt (by omega) (by omega) (fun q5 => ?_) (fun q5 => ?_)
  · skip
    exfalso
    omega
  · skip
    refine kR.s rfl rfl ?_
    refine kR.s rfl rfl ?_
    refine kR.gi (a := 30) (k := 21) (v := (z : Int)) (by omega) rfl rfl rfl (by decide) (by decide) rfl (by rfl) ?_
    refine kR.cv (v := .int (Int32.ofInt (58))) (kargs_m hm (by decide) rfl) rfl (kR.up (hz58 ▸ c_108t (S := ku (kqb S (kuq t e (kch t e p) (p + 1))) 30 21 (z : Int)) hm hX hR he hen (k := z) (by omega)) (by decide)) ?_
    refine kR.bi rfl ?_
    refine kR.jne (by decide) (by decide) (by decide) (by decide) (fun q7 => absurd q7 (by decide)) (fun q7 => ?_)
    refine kR.s rfl rfl ?_
    refine kR.zne (by decide) (by decide) (fun q8 => ?_) (fun q8 => absurd q8 (by decide))
    show kR 5 141 b141_102 _ _ _ _
    refine kR.s rfl rfl ?_
    refine kR.zeq (by decide) (by decide) (fun q9 => absurd q9 (by decide)) (fun q9 => ?_)
    refine kR.s rfl rfl ?_
    refine kR.cv (v := .int (Int32.ofInt (v))) (kargs_m hm (by decide) rfl) rfl (kR.up (k128) (by decide)) ?_
    refine kR.g rfl ?_
    show kR 5 141 b141_122 _ _ _ _
    refine kR.s rfl rfl ?_
    refine kR.s rfl rfl ?_
    refine kR.gi (a := 30) (k := 19) (v := 0) (by omega) rfl rfl rfl (by decide) (by decide) rfl (by exact hX4) ?_
    refine kR.zeq (by decide) (by decide) (fun q11 => ?_) (fun q11 => absurd q11 (by decide))
    show kR 5 141 b141_131 _ _ _ _
    refine kR.s rfl rfl ?_
    refine kR.s rfl rfl ?_
    refine kR.c0 (kargs_m hm (by decide) rfl) rfl (kR.up (k115) (by decide)) ?_
    refine kR.s rfl rfl ?_
    refine kR.s rfl rfl ?_
    refine kR.gi (a := 30) (k := 21) (v := (z : Int)) (by omega) rfl rfl rfl (by decide) (by decide) rfl (by exact h21) ?_
    refine kR.s rfl rfl ?_
    refine kR.add ?_
    refine kR.pi (a := 30) (k := 21) (by omega) rfl rfl rfl (by decide) (by decide) rfl rfl ?_
    refine kR.s rfl rfl ?_
    refine kR.s rfl rfl ?_
    refine kR.gi (a := 30) (k := 21) (v := (z : Int) + 1) (by omega) rfl rfl rfl (by decide) (by decide) rfl (by rfl) ?_
    have f13_0 := khr_r hX hen (z + 1)
    refine kR.cv (v := .int (Int32.ofInt (khr t e (z + 1)))) (kargs_m hm (by decide) rfl) rfl (kR.up (c_108t (S := ku X5 30 21 ((z : Int) + 1)) hm hX hR5 he5 hen (k := (z + 1)) (by omega)) (by decide)) ?_
    refine kR.bi rfl ?_
    refine kR.jne (by omega) (by omega) (by omega) (by omega) (fun q14 => ?_) (fun q14 => ?_)
    · skip
      show kR 5 141 b141_163 _ _ _ _
      refine kR.s rfl rfl ?_
      refine kR.n ?_
      show kR 5 141 b141_164 _ _ _ _
      refine kR.s rfl rfl ?_
      refine kR.s rfl rfl ?_
      refine kR.c0 (kargs_m hm (by decide) rfl) rfl (kR.up (hpb ▸ c_109 (S := ku X5 30 21 ((z : Int) + 1)) hm hX hR5 he5 hen (p := z + 1) rfl (by omega)) (by decide)) ?_
      refine kR.s rfl rfl ?_
      refine kR.s rfl rfl ?_
      refine kR.gi (a := 30) (k := 21) (v := (pb : Int)) (by omega) rfl rfl rfl (by decide) (by decide) rfl (by rfl) ?_
      have f16_0 := khr_r hX hen pb
      refine kR.cv (v := .int (Int32.ofInt (khr t e pb))) (kargs_m hm (by decide) rfl) rfl (kR.up (c_108t (S := ku (ku X5 30 21 ((z : Int) + 1)) 30 21 (pb : Int)) hm hX hR5 he5 hen (k := pb) (by omega)) (by decide)) ?_
      refine kR.bi rfl ?_
      refine kR.jeq (by omega) (by omega) (by omega) (by omega) (fun q17 => ?_) (fun q17 => ?_)
      · skip
        show kR 5 141 b141_196 _ _ _ _
        refine kR.s rfl rfl ?_
        refine kR.s rfl rfl ?_
        refine kR.s rfl rfl ?_
        refine kR.cv (v := .int (Int32.ofInt (v0))) (kargs_m hm (by decide) rfl) rfl (kR.up (hmk) (by decide)) ?_
        refine kR.c0 (kargs_m hm (by decide) rfl) rfl (kR.up (c_113 (S := X7) hm) (by decide)) ?_
        refine kR.g rfl ?_
        show kR 5 141 b141_234 _ _ _ _
        refine kR.ret rfl rfl ?_
        first | rfl | (exfalso; omega)
      · skip
        refine kR.s rfl rfl ?_
        refine kR.s rfl rfl ?_
        refine kR.gi (a := 30) (k := 21) (v := (pb : Int)) (by omega) rfl rfl rfl (by decide) (by decide) rfl (by rfl) ?_
        have f20_0 := khr_r hX hen pb
        refine kR.cv (v := .int (Int32.ofInt (khr t e pb))) (kargs_m hm (by decide) rfl) rfl (kR.up (c_108t (S := ku (ku X5 30 21 ((z : Int) + 1)) 30 21 (pb : Int)) hm hX hR5 he5 hen (k := pb) (by omega)) (by decide)) ?_
        refine kR.bi rfl ?_
        refine kR.jne (by omega) (by omega) (by omega) (by omega) (fun q21 => ?_) (fun q21 => ?_)
        · skip
          exfalso
          omega
        · skip
          refine kR.n ?_
          show kR 5 141 b141_196 _ _ _ _
          refine kR.s rfl rfl ?_
          refine kR.s rfl rfl ?_
          refine kR.s rfl rfl ?_
          refine kR.cv (v := .int (Int32.ofInt (v0))) (kargs_m hm (by decide) rfl) rfl (kR.up (hmk) (by decide)) ?_
          refine kR.c0 (kargs_m hm (by decide) rfl) rfl (kR.up (c_113 (S := X7) hm) (by decide)) ?_
          refine kR.g rfl ?_
          show kR 5 141 b141_234 _ _ _ _
          refine kR.ret rfl rfl ?_
          first | rfl | (exfalso; omega)
    · skip
      refine kR.s rfl rfl ?_
      refine kR.g rfl ?_
      show kR 5 141 b141_164 _ _ _ _
      refine kR.s rfl rfl ?_
      refine kR.s rfl rfl ?_
      refine kR.c0 (kargs_m hm (by decide) rfl) rfl (kR.up (hpb ▸ c_109 (S := ku X5 30 21 ((z : Int) + 1)) hm hX hR5 he5 hen (p := z + 1) rfl (by omega)) (by decide)) ?_
      refine kR.s rfl rfl ?_
      refine kR.s rfl rfl ?_
      refine kR.gi (a := 30) (k := 21) (v := (pb : Int)) (by omega) rfl rfl rfl (by decide) (by decide) rfl (by rfl) ?_
      have f25_0 := khr_r hX hen pb
      refine kR.cv (v := .int (Int32.ofInt (khr t e pb))) (kargs_m hm (by decide) rfl) rfl (kR.up (c_108t (S := ku (ku X5 30 21 ((z : Int) + 1)) 30 21 (pb : Int)) hm hX hR5 he5 hen (k := pb) (by omega)) (by decide)) ?_
      refine kR.bi rfl ?_
      refine kR.jeq (by omega) (by omega) (by omega) (by omega) (fun q26 => ?_) (fun q26 => ?_)
      · skip
        show kR 5 141 b141_196 _ _ _ _
        refine kR.s rfl rfl ?_
        refine kR.s rfl rfl ?_
        refine kR.s rfl rfl ?_
        refine kR.cv (v := .int (Int32.ofInt (v0))) (kargs_m hm (by decide) rfl) rfl (kR.up (hmk) (by decide)) ?_
        refine kR.c0 (kargs_m hm (by decide) rfl) rfl (kR.up (c_113 (S := X7) hm) (by decide)) ?_
        refine kR.g rfl ?_
        show kR 5 141 b141_234 _ _ _ _
        refine kR.ret rfl rfl ?_
        first | rfl | (exfalso; omega)
      · skip
        refine kR.s rfl rfl ?_
        refine kR.s rfl rfl ?_
        refine kR.gi (a := 30) (k := 21) (v := (pb : Int)) (by omega) rfl rfl rfl (by decide) (by decide) rfl (by rfl) ?_
        have f29_0 := khr_r hX hen pb
        refine kR.cv (v := .int (Int32.ofInt (khr t e pb))) (kargs_m hm (by decide) rfl) rfl (kR.up (c_108t (S := ku (ku X5 30 21 ((z : Int) + 1)) 30 21 (pb : Int)) hm hX hR5 he5 hen (k := pb) (by omega)) (by decide)) ?_
        refine kR.bi rfl ?_
        refine kR.jne (by omega) (by omega) (by omega) (by omega) (fun q30 => ?_) (fun q30 => ?_)
        · skip
          exfalso
          omega
        · skip
          refine kR.n ?_
          show kR 5 141 b141_196 _ _ _ _
          refine kR.s rfl rfl ?_
          refine kR.s rfl rfl ?_
          refine kR.s rfl rfl ?_
          refine kR.cv (v := .int (Int32.ofInt (v0))) (kargs_m hm (by decide) rfl) rfl (kR.up (hmk) (by decide)) ?_
          refine kR.c0 (kargs_m hm (by decide) rfl) rfl (kR.up (c_113 (S := X7) hm) (by decide)) ?_
          refine kR.g rfl ?_
          show kR 5 141 b141_234 _ _ _ _
          refine kR.ret rfl rfl ?_
          first | rfl | (exfalso; omega)
theorem c_141q_v0 {m : Nat} {E : Nat → kC} {S : Nat → Nat → Int} {sz : Nat × Nat} (hm : 53 ≤ m ∧ m ≤ 57) {t : Nat → Int} {n L : Nat} (hX : kTx t n L) (hR : kRt S t n) {e : Nat} (he : S 30 23 = (e : Int)) (hen : e ≤ n) {p : Nat} (hpp : S 30 21 = (p : Int)) (hpe : p ≤ e) (hqu : kqu (kch t e p) = 1) {z : Nat} (hb : kbq t e (kch t e p) (p + 1) = (z : Int)) (hze : z ≤ e) (hz : kch t e z = 58) {X4 : Nat → Nat → Int} {v : Int} (k128 : kR 2 128 (blk 128 0) (kent 128 [.ref 30]) [] (sz, hp m E (ku (kqb S (kuq t e (kch t e p) (p + 1))) 30 21 (z : Int))) (fun r => r = (.inl (some (.int (Int32.ofInt v))), (sz, hp m E X4)))) (hX4 : X4 30 19 = 0) {X5 : Nat → Nat → Int} (k115 : kR 1 115 (blk 115 0) (kent 115 [.ref 30, .int (Int32.ofInt v)]) [] (sz, hp m E X4) (fun r => r = (.inl none, (sz, hp m E X5)))) (hR5 : kRt X5 t n) (he5 : X5 30 23 = (e : Int)) (h21 : X5 30 21 = (z : Int)) (hw5 : X5 30 19 = 0) (hce : ¬ (kch t e (kw (fun i => decide (t i = 32)) e (z + 1)) = 44 ∨ kch t e (kw (fun i => decide (t i = 32)) e (z + 1)) = 125)) : kR 5 141 (blk 141 0) (kent 141 [.ref 30]) [] (sz, hp m E S) (fun r => r = (.inl none, (sz, hp m E (ku (ku (ku (ku X5 30 21 ((z : Int) + 1)) 30 21 ((kw (fun i => decide (t i = 32)) e (z + 1)) : Nat)) 30 19 (if (0 : Int) = 1 ∨ ¬ kch t e (z + 1) = 32 then 1 else 0)) 30 20 2)))) := by
  have hx1 := hX.1
  have hq0 := kqu_h t e p
  have hq1 := kqu_01 (kch t e p)
  have hbr := kbq_rng (t := t) (e := e) (q := kch t e p) (e - (p + 1)) (p + 1) rfl
  have hst : p ≤ kst t e 1 p ∧ (p ≤ e → kst t e 1 p ≤ e) := kw_rng
  have hQ : kqu (khr t e p) = 1 := by omega
  have h58 := khr_c (t := t) (e := e) (p := z) 58 (by decide) (by decide)
  have hco := kcol_o t e 1 z
  have hkr : z + 1 ≤ (kw (fun i => decide (t i = 32)) e (z + 1)) ∧ (z + 1 ≤ e → (kw (fun i => decide (t i = 32)) e (z + 1)) ≤ e) := kw_rng
  have hko : e ≤ z + 1 → (kw (fun i => decide (t i = 32)) e (z + 1)) = z + 1 := fun y => kw_no (Or.inl y)
  obtain ⟨pb, hpb⟩ : ∃ pb, pb = (kw (fun i => decide (t i = 32)) e (z + 1)) := ⟨_, rfl⟩
  rw [← hpb] at hkr hko hce ⊢
  have h44 := khr_c (t := t) (e := e) (p := pb) 44 (by decide) (by decide)
  have h125 := khr_c (t := t) (e := e) (p := pb) 125 (by decide) (by decide)
  have h32 := khr_c (t := t) (e := e) (p := z + 1) 32 (by decide) (by decide)
  have hz58 : khr t e z = 58 := by exact h58.mpr hz
  show kR 5 141 b141_0 _ _ _ _
  refine kR.s rfl rfl ?_
  refine kR.gi (a := 30) (k := 21) (v := (p : Int)) (by omega) rfl rfl rfl (by decide) (by decide) rfl (by exact hpp) ?_
  refine kR.s rfl rfl ?_
  refine kR.s rfl rfl ?_
  refine kR.s rfl rfl ?_
  refine kR.gi (a := 30) (k := 21) (v := (p : Int)) (by omega) rfl rfl rfl (by decide) (by decide) rfl (by exact hpp) ?_
  have f1_0 := khr_r hX hen p
  refine kR.cv (v := .int (Int32.ofInt (khr t e p))) (kargs_m hm (by decide) rfl) rfl (kR.up (c_108t hm hX hR he hen (k := p) (by omega)) (by decide)) ?_
  refine kR.cv (v := .int (Int32.ofInt (1))) rfl rfl (kR.up (hQ ▸ c_127 (c := khr t e p) (by omega)) (by decide)) ?_
  refine kR.s rfl rfl ?_
  refine kR.s rfl rfl ?_
  refine kR.s rfl rfl ?_
  refine kR.zeq (by decide) (by decide) (fun q3 => absurd q3 (by decide)) (fun q3 => ?_)
  refine kR.s rfl rfl ?_
  refine kR.s rfl rfl ?_
  refine kR.gi (a := 30) (k := 21) (v := (p : Int)) (by omega) rfl rfl rfl (by decide) (by decide) rfl (by exact hpp) ?_
  refine kR.cv (v := .int (Int32.ofInt ((z : Int)))) (kargs_m hm (by decide) rfl) rfl (kR.up (hb ▸ c_126 hm hX hR he hen (f := p) (by omega) hqu) (by decide)) ?_
  refine kR.g rfl ?_
  show kR 5 141 b141_57 _ _ _ _
  refine kR.pi (a := 30) (k := 21) (by omega) rfl rfl rfl (by decide) (by decide) rfl rfl ?_
  refine kR.s rfl rfl ?_
  refine kR.gi (a := 30) (k := 21) (v := (z : Int)) (by omega) rfl rfl rfl (by decide) (by decide) rfl (by rfl) ?_
  refine kR.zlt (by omega) (by omega) (fun q5 => ?_) (fun q5 => ?_)
  · skip
    exfalso
    omega
  · skip
    refine kR.s rfl rfl ?_
    refine kR.s rfl rfl ?_
    refine kR.gi (a := 30) (k := 21) (v := (z : Int)) (by omega) rfl rfl rfl (by decide) (by decide) rfl (by rfl) ?_
    refine kR.cv (v := .int (Int32.ofInt (58))) (kargs_m hm (by decide) rfl) rfl (kR.up (hz58 ▸ c_108t (S := ku (kqb S (kuq t e (kch t e p) (p + 1))) 30 21 (z : Int)) hm hX hR he hen (k := z) (by omega)) (by decide)) ?_
    refine kR.bi rfl ?_
    refine kR.jne (by decide) (by decide) (by decide) (by decide) (fun q7 => absurd q7 (by decide)) (fun q7 => ?_)
    refine kR.s rfl rfl ?_
    refine kR.zne (by decide) (by decide) (fun q8 => ?_) (fun q8 => absurd q8 (by decide))
    show kR 5 141 b141_102 _ _ _ _
    refine kR.s rfl rfl ?_
    refine kR.zeq (by decide) (by decide) (fun q9 => absurd q9 (by decide)) (fun q9 => ?_)
    refine kR.s rfl rfl ?_
    refine kR.cv (v := .int (Int32.ofInt (v))) (kargs_m hm (by decide) rfl) rfl (kR.up (k128) (by decide)) ?_
    refine kR.g rfl ?_
    show kR 5 141 b141_122 _ _ _ _
    refine kR.s rfl rfl ?_
    refine kR.s rfl rfl ?_
    refine kR.gi (a := 30) (k := 19) (v := 0) (by omega) rfl rfl rfl (by decide) (by decide) rfl (by exact hX4) ?_
    refine kR.zeq (by decide) (by decide) (fun q11 => ?_) (fun q11 => absurd q11 (by decide))
    show kR 5 141 b141_131 _ _ _ _
    refine kR.s rfl rfl ?_
    refine kR.s rfl rfl ?_
    refine kR.c0 (kargs_m hm (by decide) rfl) rfl (kR.up (k115) (by decide)) ?_
    refine kR.s rfl rfl ?_
    refine kR.s rfl rfl ?_
    refine kR.gi (a := 30) (k := 21) (v := (z : Int)) (by omega) rfl rfl rfl (by decide) (by decide) rfl (by exact h21) ?_
    refine kR.s rfl rfl ?_
    refine kR.add ?_
    refine kR.pi (a := 30) (k := 21) (by omega) rfl rfl rfl (by decide) (by decide) rfl rfl ?_
    refine kR.s rfl rfl ?_
    refine kR.s rfl rfl ?_
    refine kR.gi (a := 30) (k := 21) (v := (z : Int) + 1) (by omega) rfl rfl rfl (by decide) (by decide) rfl (by rfl) ?_
    have f13_0 := khr_r hX hen (z + 1)
    refine kR.cv (v := .int (Int32.ofInt (khr t e (z + 1)))) (kargs_m hm (by decide) rfl) rfl (kR.up (c_108t (S := ku X5 30 21 ((z : Int) + 1)) hm hX hR5 he5 hen (k := (z + 1)) (by omega)) (by decide)) ?_
    refine kR.bi rfl ?_
    refine kR.jne (by omega) (by omega) (by omega) (by omega) (fun q14 => ?_) (fun q14 => ?_)
    · skip
      show kR 5 141 b141_163 _ _ _ _
      refine kR.s rfl rfl ?_
      refine kR.n ?_
      show kR 5 141 b141_164 _ _ _ _
      refine kR.s rfl rfl ?_
      refine kR.s rfl rfl ?_
      refine kR.c0 (kargs_m hm (by decide) rfl) rfl (kR.up (hpb ▸ c_109 (S := ku X5 30 21 ((z : Int) + 1)) hm hX hR5 he5 hen (p := z + 1) rfl (by omega)) (by decide)) ?_
      refine kR.s rfl rfl ?_
      refine kR.s rfl rfl ?_
      refine kR.gi (a := 30) (k := 21) (v := (pb : Int)) (by omega) rfl rfl rfl (by decide) (by decide) rfl (by rfl) ?_
      have f16_0 := khr_r hX hen pb
      refine kR.cv (v := .int (Int32.ofInt (khr t e pb))) (kargs_m hm (by decide) rfl) rfl (kR.up (c_108t (S := ku (ku X5 30 21 ((z : Int) + 1)) 30 21 (pb : Int)) hm hX hR5 he5 hen (k := pb) (by omega)) (by decide)) ?_
      refine kR.bi rfl ?_
      refine kR.jeq (by omega) (by omega) (by omega) (by omega) (fun q17 => ?_) (fun q17 => ?_)
      · skip
        exfalso
        omega
      · skip
        refine kR.s rfl rfl ?_
        refine kR.s rfl rfl ?_
        refine kR.gi (a := 30) (k := 21) (v := (pb : Int)) (by omega) rfl rfl rfl (by decide) (by decide) rfl (by rfl) ?_
        have f18_0 := khr_r hX hen pb
        refine kR.cv (v := .int (Int32.ofInt (khr t e pb))) (kargs_m hm (by decide) rfl) rfl (kR.up (c_108t (S := ku (ku X5 30 21 ((z : Int) + 1)) 30 21 (pb : Int)) hm hX hR5 he5 hen (k := pb) (by omega)) (by decide)) ?_
        refine kR.bi rfl ?_
        refine kR.jne (by omega) (by omega) (by omega) (by omega) (fun q19 => ?_) (fun q19 => ?_)
        · skip
          show kR 5 141 b141_208 _ _ _ _
          refine kR.s rfl rfl ?_
          refine kR.s rfl rfl ?_
          refine kR.gi (a := 30) (k := 19) (v := 0) (by omega) rfl rfl rfl (by decide) (by decide) rfl (by exact hw5) ?_
          refine kR.zne (by decide) (by decide) (fun q20 => absurd q20 (by decide)) (fun q20 => ?_)
          refine kR.s rfl rfl ?_
          refine kR.zne (by decide) (by decide) (fun q21 => absurd q21 (by decide)) (fun q21 => ?_)
          refine kR.n ?_
          show kR 5 141 b141_221 _ _ _ _
          refine kR.s rfl rfl ?_
          refine kR.g rfl ?_
          show kR 5 141 b141_226 _ _ _ _
          refine kR.pi (a := 30) (k := 19) (by omega) rfl rfl rfl (by decide) (by decide) rfl (by first | rfl | assumption | simp [kfit, *]) ?_
          refine kR.s rfl rfl ?_
          refine kR.s rfl rfl ?_
          refine kR.pi (a := 30) (k := 20) (by omega) rfl rfl rfl (by decide) (by decide) rfl rfl ?_
          refine kR.n ?_
          show kR 5 141 b141_234 _ _ _ _
          refine kR.ret rfl rfl ?_
          first | (exfalso; omega) | (rw [if_pos (by omega)]; done) | (rw [if_neg (by omega)]; done)
        · skip
          refine kR.n ?_
          exfalso
          omega
    · skip
      refine kR.s rfl rfl ?_
      refine kR.g rfl ?_
      show kR 5 141 b141_164 _ _ _ _
      refine kR.s rfl rfl ?_
      refine kR.s rfl rfl ?_
      refine kR.c0 (kargs_m hm (by decide) rfl) rfl (kR.up (hpb ▸ c_109 (S := ku X5 30 21 ((z : Int) + 1)) hm hX hR5 he5 hen (p := z + 1) rfl (by omega)) (by decide)) ?_
      refine kR.s rfl rfl ?_
      refine kR.s rfl rfl ?_
      refine kR.gi (a := 30) (k := 21) (v := (pb : Int)) (by omega) rfl rfl rfl (by decide) (by decide) rfl (by rfl) ?_
      have f23_0 := khr_r hX hen pb
      refine kR.cv (v := .int (Int32.ofInt (khr t e pb))) (kargs_m hm (by decide) rfl) rfl (kR.up (c_108t (S := ku (ku X5 30 21 ((z : Int) + 1)) 30 21 (pb : Int)) hm hX hR5 he5 hen (k := pb) (by omega)) (by decide)) ?_
      refine kR.bi rfl ?_
      refine kR.jeq (by omega) (by omega) (by omega) (by omega) (fun q24 => ?_) (fun q24 => ?_)
      · skip
        exfalso
        omega
      · skip
        refine kR.s rfl rfl ?_
        refine kR.s rfl rfl ?_
        refine kR.gi (a := 30) (k := 21) (v := (pb : Int)) (by omega) rfl rfl rfl (by decide) (by decide) rfl (by rfl) ?_
        have f25_0 := khr_r hX hen pb
        refine kR.cv (v := .int (Int32.ofInt (khr t e pb))) (kargs_m hm (by decide) rfl) rfl (kR.up (c_108t (S := ku (ku X5 30 21 ((z : Int) + 1)) 30 21 (pb : Int)) hm hX hR5 he5 hen (k := pb) (by omega)) (by decide)) ?_
        refine kR.bi rfl ?_
        refine kR.jne (by omega) (by omega) (by omega) (by omega) (fun q26 => ?_) (fun q26 => ?_)
        · skip
          show kR 5 141 b141_208 _ _ _ _
          refine kR.s rfl rfl ?_
          refine kR.s rfl rfl ?_
          refine kR.gi (a := 30) (k := 19) (v := 0) (by omega) rfl rfl rfl (by decide) (by decide) rfl (by exact hw5) ?_
          refine kR.zne (by decide) (by decide) (fun q27 => absurd q27 (by decide)) (fun q27 => ?_)
          refine kR.s rfl rfl ?_
          refine kR.zne (by decide) (by decide) (fun q28 => ?_) (fun q28 => absurd q28 (by decide))
          show kR 5 141 b141_225 _ _ _ _
          refine kR.s rfl rfl ?_
          refine kR.n ?_
          show kR 5 141 b141_226 _ _ _ _
          refine kR.pi (a := 30) (k := 19) (by omega) rfl rfl rfl (by decide) (by decide) rfl (by first | rfl | assumption | simp [kfit, *]) ?_
          refine kR.s rfl rfl ?_
          refine kR.s rfl rfl ?_
          refine kR.pi (a := 30) (k := 20) (by omega) rfl rfl rfl (by decide) (by decide) rfl rfl ?_
          refine kR.n ?_
          show kR 5 141 b141_234 _ _ _ _
          refine kR.ret rfl rfl ?_
          first | (exfalso; omega) | (rw [if_pos (by omega)]; done) | (rw [if_neg (by omega)]; done)
        · skip
          refine kR.n ?_
          exfalso
          omega
theorem c_141q_v1 {m : Nat} {E : Nat → kC} {S : Nat → Nat → Int} {sz : Nat × Nat} (hm : 53 ≤ m ∧ m ≤ 57) {t : Nat → Int} {n L : Nat} (hX : kTx t n L) (hR : kRt S t n) {e : Nat} (he : S 30 23 = (e : Int)) (hen : e ≤ n) {p : Nat} (hpp : S 30 21 = (p : Int)) (hpe : p ≤ e) (hqu : kqu (kch t e p) = 1) {z : Nat} (hb : kbq t e (kch t e p) (p + 1) = (z : Int)) (hze : z ≤ e) (hz : kch t e z = 58) {X4 : Nat → Nat → Int} {v : Int} (k128 : kR 2 128 (blk 128 0) (kent 128 [.ref 30]) [] (sz, hp m E (ku (kqb S (kuq t e (kch t e p) (p + 1))) 30 21 (z : Int))) (fun r => r = (.inl (some (.int (Int32.ofInt v))), (sz, hp m E X4)))) (hX4 : X4 30 19 = 0) {X5 : Nat → Nat → Int} (k115 : kR 1 115 (blk 115 0) (kent 115 [.ref 30, .int (Int32.ofInt v)]) [] (sz, hp m E X4) (fun r => r = (.inl none, (sz, hp m E X5)))) (hR5 : kRt X5 t n) (he5 : X5 30 23 = (e : Int)) (h21 : X5 30 21 = (z : Int)) (hw5 : X5 30 19 = 1) (hce : ¬ (kch t e (kw (fun i => decide (t i = 32)) e (z + 1)) = 44 ∨ kch t e (kw (fun i => decide (t i = 32)) e (z + 1)) = 125)) : kR 5 141 (blk 141 0) (kent 141 [.ref 30]) [] (sz, hp m E S) (fun r => r = (.inl none, (sz, hp m E (ku (ku (ku (ku X5 30 21 ((z : Int) + 1)) 30 21 ((kw (fun i => decide (t i = 32)) e (z + 1)) : Nat)) 30 19 (if (1 : Int) = 1 ∨ ¬ kch t e (z + 1) = 32 then 1 else 0)) 30 20 2)))) := by
  have hx1 := hX.1
  have hq0 := kqu_h t e p
  have hq1 := kqu_01 (kch t e p)
  have hbr := kbq_rng (t := t) (e := e) (q := kch t e p) (e - (p + 1)) (p + 1) rfl
  have hst : p ≤ kst t e 1 p ∧ (p ≤ e → kst t e 1 p ≤ e) := kw_rng
  have hQ : kqu (khr t e p) = 1 := by omega
  have h58 := khr_c (t := t) (e := e) (p := z) 58 (by decide) (by decide)
  have hco := kcol_o t e 1 z
  have hkr : z + 1 ≤ (kw (fun i => decide (t i = 32)) e (z + 1)) ∧ (z + 1 ≤ e → (kw (fun i => decide (t i = 32)) e (z + 1)) ≤ e) := kw_rng
  have hko : e ≤ z + 1 → (kw (fun i => decide (t i = 32)) e (z + 1)) = z + 1 := fun y => kw_no (Or.inl y)
  obtain ⟨pb, hpb⟩ : ∃ pb, pb = (kw (fun i => decide (t i = 32)) e (z + 1)) := ⟨_, rfl⟩
  rw [← hpb] at hkr hko hce ⊢
  have h44 := khr_c (t := t) (e := e) (p := pb) 44 (by decide) (by decide)
  have h125 := khr_c (t := t) (e := e) (p := pb) 125 (by decide) (by decide)
  have h32 := khr_c (t := t) (e := e) (p := z + 1) 32 (by decide) (by decide)
  have hz58 : khr t e z = 58 := by exact h58.mpr hz
  show kR 5 141 b141_0 _ _ _ _
  refine kR.s rfl rfl ?_
  refine kR.gi (a := 30) (k := 21) (v := (p : Int)) (by omega) rfl rfl rfl (by decide) (by decide) rfl (by exact hpp) ?_
  refine kR.s rfl rfl ?_
  refine kR.s rfl rfl ?_
  refine kR.s rfl rfl ?_
  refine kR.gi (a := 30) (k := 21) (v := (p : Int)) (by omega) rfl rfl rfl (by decide) (by decide) rfl (by exact hpp) ?_
  have f1_0 := khr_r hX hen p
  refine kR.cv (v := .int (Int32.ofInt (khr t e p))) (kargs_m hm (by decide) rfl) rfl (kR.up (c_108t hm hX hR he hen (k := p) (by omega)) (by decide)) ?_
  refine kR.cv (v := .int (Int32.ofInt (1))) rfl rfl (kR.up (hQ ▸ c_127 (c := khr t e p) (by omega)) (by decide)) ?_
  refine kR.s rfl rfl ?_
  refine kR.s rfl rfl ?_
  refine kR.s rfl rfl ?_
  refine kR.zeq (by decide) (by decide) (fun q3 => absurd q3 (by decide)) (fun q3 => ?_)
  refine kR.s rfl rfl ?_
  refine kR.s rfl rfl ?_
  refine kR.gi (a := 30) (k := 21) (v := (p : Int)) (by omega) rfl rfl rfl (by decide) (by decide) rfl (by exact hpp) ?_
  refine kR.cv (v := .int (Int32.ofInt ((z : Int)))) (kargs_m hm (by decide) rfl) rfl (kR.up (hb ▸ c_126 hm hX hR he hen (f := p) (by omega) hqu) (by decide)) ?_
  refine kR.g rfl ?_
  show kR 5 141 b141_57 _ _ _ _
  refine kR.pi (a := 30) (k := 21) (by omega) rfl rfl rfl (by decide) (by decide) rfl rfl ?_
  refine kR.s rfl rfl ?_
  refine kR.gi (a := 30) (k := 21) (v := (z : Int)) (by omega) rfl rfl rfl (by decide) (by decide) rfl (by rfl) ?_
  refine kR.zlt (by omega) (by omega) (fun q5 => ?_) (fun q5 => ?_)
  · skip
    exfalso
    omega
  · skip
    refine kR.s rfl rfl ?_
    refine kR.s rfl rfl ?_
    refine kR.gi (a := 30) (k := 21) (v := (z : Int)) (by omega) rfl rfl rfl (by decide) (by decide) rfl (by rfl) ?_
    refine kR.cv (v := .int (Int32.ofInt (58))) (kargs_m hm (by decide) rfl) rfl (kR.up (hz58 ▸ c_108t (S := ku (kqb S (kuq t e (kch t e p) (p + 1))) 30 21 (z : Int)) hm hX hR he hen (k := z) (by omega)) (by decide)) ?_
    refine kR.bi rfl ?_
    refine kR.jne (by decide) (by decide) (by decide) (by decide) (fun q7 => absurd q7 (by decide)) (fun q7 => ?_)
    refine kR.s rfl rfl ?_
    refine kR.zne (by decide) (by decide) (fun q8 => ?_) (fun q8 => absurd q8 (by decide))
    show kR 5 141 b141_102 _ _ _ _
    refine kR.s rfl rfl ?_
    refine kR.zeq (by decide) (by decide) (fun q9 => absurd q9 (by decide)) (fun q9 => ?_)
    refine kR.s rfl rfl ?_
    refine kR.cv (v := .int (Int32.ofInt (v))) (kargs_m hm (by decide) rfl) rfl (kR.up (k128) (by decide)) ?_
    refine kR.g rfl ?_
    show kR 5 141 b141_122 _ _ _ _
    refine kR.s rfl rfl ?_
    refine kR.s rfl rfl ?_
    refine kR.gi (a := 30) (k := 19) (v := 0) (by omega) rfl rfl rfl (by decide) (by decide) rfl (by exact hX4) ?_
    refine kR.zeq (by decide) (by decide) (fun q11 => ?_) (fun q11 => absurd q11 (by decide))
    show kR 5 141 b141_131 _ _ _ _
    refine kR.s rfl rfl ?_
    refine kR.s rfl rfl ?_
    refine kR.c0 (kargs_m hm (by decide) rfl) rfl (kR.up (k115) (by decide)) ?_
    refine kR.s rfl rfl ?_
    refine kR.s rfl rfl ?_
    refine kR.gi (a := 30) (k := 21) (v := (z : Int)) (by omega) rfl rfl rfl (by decide) (by decide) rfl (by exact h21) ?_
    refine kR.s rfl rfl ?_
    refine kR.add ?_
    refine kR.pi (a := 30) (k := 21) (by omega) rfl rfl rfl (by decide) (by decide) rfl rfl ?_
    refine kR.s rfl rfl ?_
    refine kR.s rfl rfl ?_
    refine kR.gi (a := 30) (k := 21) (v := (z : Int) + 1) (by omega) rfl rfl rfl (by decide) (by decide) rfl (by rfl) ?_
    have f13_0 := khr_r hX hen (z + 1)
    refine kR.cv (v := .int (Int32.ofInt (khr t e (z + 1)))) (kargs_m hm (by decide) rfl) rfl (kR.up (c_108t (S := ku X5 30 21 ((z : Int) + 1)) hm hX hR5 he5 hen (k := (z + 1)) (by omega)) (by decide)) ?_
    refine kR.bi rfl ?_
    refine kR.jne (by omega) (by omega) (by omega) (by omega) (fun q14 => ?_) (fun q14 => ?_)
    · skip
      show kR 5 141 b141_163 _ _ _ _
      refine kR.s rfl rfl ?_
      refine kR.n ?_
      show kR 5 141 b141_164 _ _ _ _
      refine kR.s rfl rfl ?_
      refine kR.s rfl rfl ?_
      refine kR.c0 (kargs_m hm (by decide) rfl) rfl (kR.up (hpb ▸ c_109 (S := ku X5 30 21 ((z : Int) + 1)) hm hX hR5 he5 hen (p := z + 1) rfl (by omega)) (by decide)) ?_
      refine kR.s rfl rfl ?_
      refine kR.s rfl rfl ?_
      refine kR.gi (a := 30) (k := 21) (v := (pb : Int)) (by omega) rfl rfl rfl (by decide) (by decide) rfl (by rfl) ?_
      have f16_0 := khr_r hX hen pb
      refine kR.cv (v := .int (Int32.ofInt (khr t e pb))) (kargs_m hm (by decide) rfl) rfl (kR.up (c_108t (S := ku (ku X5 30 21 ((z : Int) + 1)) 30 21 (pb : Int)) hm hX hR5 he5 hen (k := pb) (by omega)) (by decide)) ?_
      refine kR.bi rfl ?_
      refine kR.jeq (by omega) (by omega) (by omega) (by omega) (fun q17 => ?_) (fun q17 => ?_)
      · skip
        exfalso
        omega
      · skip
        refine kR.s rfl rfl ?_
        refine kR.s rfl rfl ?_
        refine kR.gi (a := 30) (k := 21) (v := (pb : Int)) (by omega) rfl rfl rfl (by decide) (by decide) rfl (by rfl) ?_
        have f18_0 := khr_r hX hen pb
        refine kR.cv (v := .int (Int32.ofInt (khr t e pb))) (kargs_m hm (by decide) rfl) rfl (kR.up (c_108t (S := ku (ku X5 30 21 ((z : Int) + 1)) 30 21 (pb : Int)) hm hX hR5 he5 hen (k := pb) (by omega)) (by decide)) ?_
        refine kR.bi rfl ?_
        refine kR.jne (by omega) (by omega) (by omega) (by omega) (fun q19 => ?_) (fun q19 => ?_)
        · skip
          show kR 5 141 b141_208 _ _ _ _
          refine kR.s rfl rfl ?_
          refine kR.s rfl rfl ?_
          refine kR.gi (a := 30) (k := 19) (v := 1) (by omega) rfl rfl rfl (by decide) (by decide) rfl (by exact hw5) ?_
          refine kR.zne (by decide) (by decide) (fun q20 => ?_) (fun q20 => absurd q20 (by decide))
          show kR 5 141 b141_221 _ _ _ _
          refine kR.s rfl rfl ?_
          refine kR.g rfl ?_
          show kR 5 141 b141_226 _ _ _ _
          refine kR.pi (a := 30) (k := 19) (by omega) rfl rfl rfl (by decide) (by decide) rfl (by first | rfl | assumption | simp [kfit, *]) ?_
          refine kR.s rfl rfl ?_
          refine kR.s rfl rfl ?_
          refine kR.pi (a := 30) (k := 20) (by omega) rfl rfl rfl (by decide) (by decide) rfl rfl ?_
          refine kR.n ?_
          show kR 5 141 b141_234 _ _ _ _
          refine kR.ret rfl rfl ?_
          first | (exfalso; omega) | (rw [if_pos (by omega)]; done) | (rw [if_neg (by omega)]; done)
        · skip
          refine kR.n ?_
          exfalso
          omega
    · skip
      refine kR.s rfl rfl ?_
      refine kR.g rfl ?_
      show kR 5 141 b141_164 _ _ _ _
      refine kR.s rfl rfl ?_
      refine kR.s rfl rfl ?_
      refine kR.c0 (kargs_m hm (by decide) rfl) rfl (kR.up (hpb ▸ c_109 (S := ku X5 30 21 ((z : Int) + 1)) hm hX hR5 he5 hen (p := z + 1) rfl (by omega)) (by decide)) ?_
      refine kR.s rfl rfl ?_
      refine kR.s rfl rfl ?_
      refine kR.gi (a := 30) (k := 21) (v := (pb : Int)) (by omega) rfl rfl rfl (by decide) (by decide) rfl (by rfl) ?_
      have f22_0 := khr_r hX hen pb
      refine kR.cv (v := .int (Int32.ofInt (khr t e pb))) (kargs_m hm (by decide) rfl) rfl (kR.up (c_108t (S := ku (ku X5 30 21 ((z : Int) + 1)) 30 21 (pb : Int)) hm hX hR5 he5 hen (k := pb) (by omega)) (by decide)) ?_
      refine kR.bi rfl ?_
      refine kR.jeq (by omega) (by omega) (by omega) (by omega) (fun q23 => ?_) (fun q23 => ?_)
      · skip
        exfalso
        omega
      · skip
        refine kR.s rfl rfl ?_
        refine kR.s rfl rfl ?_
        refine kR.gi (a := 30) (k := 21) (v := (pb : Int)) (by omega) rfl rfl rfl (by decide) (by decide) rfl (by rfl) ?_
        have f24_0 := khr_r hX hen pb
        refine kR.cv (v := .int (Int32.ofInt (khr t e pb))) (kargs_m hm (by decide) rfl) rfl (kR.up (c_108t (S := ku (ku X5 30 21 ((z : Int) + 1)) 30 21 (pb : Int)) hm hX hR5 he5 hen (k := pb) (by omega)) (by decide)) ?_
        refine kR.bi rfl ?_
        refine kR.jne (by omega) (by omega) (by omega) (by omega) (fun q25 => ?_) (fun q25 => ?_)
        · skip
          show kR 5 141 b141_208 _ _ _ _
          refine kR.s rfl rfl ?_
          refine kR.s rfl rfl ?_
          refine kR.gi (a := 30) (k := 19) (v := 1) (by omega) rfl rfl rfl (by decide) (by decide) rfl (by exact hw5) ?_
          refine kR.zne (by decide) (by decide) (fun q26 => ?_) (fun q26 => absurd q26 (by decide))
          show kR 5 141 b141_221 _ _ _ _
          refine kR.s rfl rfl ?_
          refine kR.g rfl ?_
          show kR 5 141 b141_226 _ _ _ _
          refine kR.pi (a := 30) (k := 19) (by omega) rfl rfl rfl (by decide) (by decide) rfl (by first | rfl | assumption | simp [kfit, *]) ?_
          refine kR.s rfl rfl ?_
          refine kR.s rfl rfl ?_
          refine kR.pi (a := 30) (k := 20) (by omega) rfl rfl rfl (by decide) (by decide) rfl rfl ?_
          refine kR.n ?_
          show kR 5 141 b141_234 _ _ _ _
          refine kR.ret rfl rfl ?_
          first | (exfalso; omega) | (rw [if_pos (by omega)]; done) | (rw [if_neg (by omega)]; done)
        · skip
          refine kR.n ?_
          exfalso
          omega
theorem c_141p_w {m : Nat} {E : Nat → kC} {S : Nat → Nat → Int} {sz : Nat × Nat} (hm : 53 ≤ m ∧ m ≤ 57) {t : Nat → Int} {n L : Nat} (hX : kTx t n L) (hR : kRt S t n) {e : Nat} (he : S 30 23 = (e : Int)) (hen : e ≤ n) {p : Nat} (hpp : S 30 21 = (p : Int)) (hpe : p ≤ e) (hqu : kqu (kch t e p) = 0) (hpl : kpl t e p = 1) {z : Nat} (hzk : kst t e 1 p = z) (hze : z ≤ e) (hz : kcol t e 1 z = 1) {X4 : Nat → Nat → Int} {v : Int} (k125 : kR 3 125 (blk 125 0) (kent 125 [.ref 30, .int (Int32.ofInt (p : Int)), .int (Int32.ofInt (z : Int))]) [] (sz, hp m E (ku S 30 21 (z : Int))) (fun r => r = (.inl (some (.int (Int32.ofInt v))), (sz, hp m E X4)))) (hX4 : X4 30 19 = 1) : kR 5 141 (blk 141 0) (kent 141 [.ref 30]) [] (sz, hp m E S) (fun r => r = (.inl none, (sz, hp m E X4))) := by
  have hx1 := hX.1
  have hq0 := kqu_h t e p
  have hq1 := kqu_01 (kch t e p)
  have hbr := kbq_rng (t := t) (e := e) (q := kch t e p) (e - (p + 1)) (p + 1) rfl
  have hst : p ≤ kst t e 1 p ∧ (p ≤ e → kst t e 1 p ≤ e) := kw_rng
  have hQ : kqu (khr t e p) = 0 := by omega
  have h58 := khr_c (t := t) (e := e) (p := z) 58 (by decide) (by decide)
  have hco := kcol_o t e 1 z
  have hz58 : khr t e z = 58 := by exact h58.mpr (by omega)
  show kR 5 141 b141_0 _ _ _ _
  refine kR.s rfl rfl ?_
  refine kR.gi (a := 30) (k := 21) (v := (p : Int)) (by omega) rfl rfl rfl (by decide) (by decide) rfl (by exact hpp) ?_
  refine kR.s rfl rfl ?_
  refine kR.s rfl rfl ?_
  refine kR.s rfl rfl ?_
  refine kR.gi (a := 30) (k := 21) (v := (p : Int)) (by omega) rfl rfl rfl (by decide) (by decide) rfl (by exact hpp) ?_
  have f1_0 := khr_r hX hen p
  refine kR.cv (v := .int (Int32.ofInt (khr t e p))) (kargs_m hm (by decide) rfl) rfl (kR.up (c_108t hm hX hR he hen (k := p) (by omega)) (by decide)) ?_
  refine kR.cv (v := .int (Int32.ofInt (0))) rfl rfl (kR.up (hQ ▸ c_127 (c := khr t e p) (by omega)) (by decide)) ?_
  refine kR.s rfl rfl ?_
  refine kR.s rfl rfl ?_
  refine kR.s rfl rfl ?_
  refine kR.zeq (by decide) (by decide) (fun q3 => ?_) (fun q3 => absurd q3 (by decide))
  show kR 5 141 b141_33 _ _ _ _
  refine kR.s rfl rfl ?_
  refine kR.s rfl rfl ?_
  refine kR.gi (a := 30) (k := 21) (v := (p : Int)) (by omega) rfl rfl rfl (by decide) (by decide) rfl (by exact hpp) ?_
  refine kR.cv (v := .int (Int32.ofInt (1))) (kargs_m hm (by decide) rfl) rfl (kR.up (hpl ▸ c_119 hm hX hR he hen (k := p) (by omega)) (by decide)) ?_
  refine kR.zeq (by decide) (by decide) (fun q5 => absurd q5 (by decide)) (fun q5 => ?_)
  refine kR.s rfl rfl ?_
  refine kR.s rfl rfl ?_
  refine kR.gi (a := 30) (k := 21) (v := (p : Int)) (by omega) rfl rfl rfl (by decide) (by decide) rfl (by exact hpp) ?_
  refine kR.s rfl rfl ?_
  refine kR.cv (v := .int (Int32.ofInt ((z : Int)))) (kargs_m hm (by decide) rfl) rfl (kR.up (hzk ▸ c_121 hm hX hR he hen (f := p) (by omega) (by omega)) (by decide)) ?_
  refine kR.g rfl ?_
  show kR 5 141 b141_57 _ _ _ _
  refine kR.pi (a := 30) (k := 21) (by omega) rfl rfl rfl (by decide) (by decide) rfl rfl ?_
  refine kR.s rfl rfl ?_
  refine kR.gi (a := 30) (k := 21) (v := (z : Int)) (by omega) rfl rfl rfl (by decide) (by decide) rfl (by rfl) ?_
  refine kR.zlt (by omega) (by omega) (fun q7 => ?_) (fun q7 => ?_)
  · skip
    exfalso
    omega
  · skip
    refine kR.s rfl rfl ?_
    refine kR.s rfl rfl ?_
    refine kR.gi (a := 30) (k := 21) (v := (z : Int)) (by omega) rfl rfl rfl (by decide) (by decide) rfl (by rfl) ?_
    refine kR.cv (v := .int (Int32.ofInt (58))) (kargs_m hm (by decide) rfl) rfl (kR.up (hz58 ▸ c_108t (S := ku S 30 21 (z : Int)) hm hX hR he hen (k := z) (by omega)) (by decide)) ?_
    refine kR.bi rfl ?_
    refine kR.jne (by decide) (by decide) (by decide) (by decide) (fun q9 => absurd q9 (by decide)) (fun q9 => ?_)
    refine kR.s rfl rfl ?_
    refine kR.zne (by decide) (by decide) (fun q10 => absurd q10 (by decide)) (fun q10 => ?_)
    refine kR.s rfl rfl ?_
    refine kR.s rfl rfl ?_
    refine kR.gi (a := 30) (k := 21) (v := (z : Int)) (by omega) rfl rfl rfl (by decide) (by decide) rfl (by rfl) ?_
    refine kR.s rfl rfl ?_
    refine kR.cv (v := .int (Int32.ofInt (1))) (kargs_m hm (by decide) rfl) rfl (kR.up (hz ▸ c_120 (S := ku S 30 21 (z : Int)) hm hX hR he hen (k := z) (by omega) (by omega)) (by decide)) ?_
    refine kR.zne (by decide) (by decide) (fun q12 => ?_) (fun q12 => absurd q12 (by decide))
    show kR 5 141 b141_102 _ _ _ _
    refine kR.s rfl rfl ?_
    refine kR.zeq (by decide) (by decide) (fun q13 => ?_) (fun q13 => absurd q13 (by decide))
    show kR 5 141 b141_113 _ _ _ _
    refine kR.s rfl rfl ?_
    refine kR.s rfl rfl ?_
    refine kR.s rfl rfl ?_
    refine kR.gi (a := 30) (k := 21) (v := (z : Int)) (by omega) rfl rfl rfl (by decide) (by decide) rfl (by rfl) ?_
    refine kR.cv (v := .int (Int32.ofInt (v))) (kargs_m hm (by decide) rfl) rfl (kR.up (k125) (by decide)) ?_
    refine kR.n ?_
    show kR 5 141 b141_122 _ _ _ _
    refine kR.s rfl rfl ?_
    refine kR.s rfl rfl ?_
    refine kR.gi (a := 30) (k := 19) (v := 1) (by omega) rfl rfl rfl (by decide) (by decide) rfl (by exact hX4) ?_
    refine kR.zeq (by decide) (by decide) (fun q15 => absurd q15 (by decide)) (fun q15 => ?_)
    refine kR.ret rfl rfl ?_
    first | rfl | (exfalso; omega)
theorem c_141p_e {m : Nat} {E : Nat → kC} {S : Nat → Nat → Int} {sz : Nat × Nat} (hm : 53 ≤ m ∧ m ≤ 57) {t : Nat → Int} {n L : Nat} (hX : kTx t n L) (hR : kRt S t n) {e : Nat} (he : S 30 23 = (e : Int)) (hen : e ≤ n) {p : Nat} (hpp : S 30 21 = (p : Int)) (hpe : p ≤ e) (hqu : kqu (kch t e p) = 0) (hpl : kpl t e p = 1) {z : Nat} (hzk : kst t e 1 p = z) (hze : z ≤ e) (hz : kcol t e 1 z = 1) {X4 : Nat → Nat → Int} {v : Int} (k125 : kR 3 125 (blk 125 0) (kent 125 [.ref 30, .int (Int32.ofInt (p : Int)), .int (Int32.ofInt (z : Int))]) [] (sz, hp m E (ku S 30 21 (z : Int))) (fun r => r = (.inl (some (.int (Int32.ofInt v))), (sz, hp m E X4)))) (hX4 : X4 30 19 = 0) {X5 : Nat → Nat → Int} (k115 : kR 1 115 (blk 115 0) (kent 115 [.ref 30, .int (Int32.ofInt v)]) [] (sz, hp m E X4) (fun r => r = (.inl none, (sz, hp m E X5)))) (hR5 : kRt X5 t n) (he5 : X5 30 23 = (e : Int)) (h21 : X5 30 21 = (z : Int)) {w5 : Int} (hw5 : X5 30 19 = w5) (hce : (kch t e (kw (fun i => decide (t i = 32)) e (z + 1)) = 44 ∨ kch t e (kw (fun i => decide (t i = 32)) e (z + 1)) = 125)) {X7 : Nat → Nat → Int} {v0 : Int} (hmk : kR 0 110 (blk 110 0) (kent 110 [.ref 30, .int (Int32.ofInt 0)]) [] (sz, hp m E (ku (ku X5 30 21 ((z : Int) + 1)) 30 21 ((kw (fun i => decide (t i = 32)) e (z + 1)) : Nat))) (fun r => r = (.inl (some (.int (Int32.ofInt v0))), (sz, hp m E X7)))) : kR 5 141 (blk 141 0) (kent 141 [.ref 30]) [] (sz, hp m E S) (fun r => r = (.inl none, (sz, hp m E (ku (ku X7 30 27 v0) 30 20 4)))) := by
  have hx1 := hX.1
  have hq0 := kqu_h t e p
  have hq1 := kqu_01 (kch t e p)
  have hbr := kbq_rng (t := t) (e := e) (q := kch t e p) (e - (p + 1)) (p + 1) rfl
  have hst : p ≤ kst t e 1 p ∧ (p ≤ e → kst t e 1 p ≤ e) := kw_rng
  have hQ : kqu (khr t e p) = 0 := by omega
  have h58 := khr_c (t := t) (e := e) (p := z) 58 (by decide) (by decide)
  have hco := kcol_o t e 1 z
  have hkr : z + 1 ≤ (kw (fun i => decide (t i = 32)) e (z + 1)) ∧ (z + 1 ≤ e → (kw (fun i => decide (t i = 32)) e (z + 1)) ≤ e) := kw_rng
  have hko : e ≤ z + 1 → (kw (fun i => decide (t i = 32)) e (z + 1)) = z + 1 := fun y => kw_no (Or.inl y)
  obtain ⟨pb, hpb⟩ : ∃ pb, pb = (kw (fun i => decide (t i = 32)) e (z + 1)) := ⟨_, rfl⟩
  rw [← hpb] at hkr hko hce hmk
  have h44 := khr_c (t := t) (e := e) (p := pb) 44 (by decide) (by decide)
  have h125 := khr_c (t := t) (e := e) (p := pb) 125 (by decide) (by decide)
  have h32 := khr_c (t := t) (e := e) (p := z + 1) 32 (by decide) (by decide)
  have hz58 : khr t e z = 58 := by exact h58.mpr (by omega)
  show kR 5 141 b141_0 _ _ _ _
  refine kR.s rfl rfl ?_
  refine kR.gi (a := 30) (k := 21) (v := (p : Int)) (by omega) rfl rfl rfl (by decide) (by decide) rfl (by exact hpp) ?_
  refine kR.s rfl rfl ?_
  refine kR.s rfl rfl ?_
  refine kR.s rfl rfl ?_
  refine kR.gi (a := 30) (k := 21) (v := (p : Int)) (by omega) rfl rfl rfl (by decide) (by decide) rfl (by exact hpp) ?_
  have f1_0 := khr_r hX hen p
  refine kR.cv (v := .int (Int32.ofInt (khr t e p))) (kargs_m hm (by decide) rfl) rfl (kR.up (c_108t hm hX hR he hen (k := p) (by omega)) (by decide)) ?_
  refine kR.cv (v := .int (Int32.ofInt (0))) rfl rfl (kR.up (hQ ▸ c_127 (c := khr t e p) (by omega)) (by decide)) ?_
  refine kR.s rfl rfl ?_
  refine kR.s rfl rfl ?_
  refine kR.s rfl rfl ?_
  refine kR.zeq (by decide) (by decide) (fun q3 => ?_) (fun q3 => absurd q3 (by decide))
  show kR 5 141 b141_33 _ _ _ _
  refine kR.s rfl rfl ?_
  refine kR.s rfl rfl ?_
  refine kR.gi (a := 30) (k := 21) (v := (p : Int)) (by omega) rfl rfl rfl (by decide) (by decide) rfl (by exact hpp) ?_
  refine kR.cv (v := .int (Int32.ofInt (1))) (kargs_m hm (by decide) rfl) rfl (kR.up (hpl ▸ c_119 hm hX hR he hen (k := p) (by omega)) (by decide)) ?_
  refine kR.zeq (by decide) (by decide) (fun q5 => absurd q5 (by decide)) (fun q5 => ?_)
  refine kR.s rfl rfl ?_
  refine kR.s rfl rfl ?_
  refine kR.gi (a := 30) (k := 21) (v := (p : Int)) (by omega) rfl rfl rfl (by decide) (by decide) rfl (by exact hpp) ?_
  refine kR.s rfl rfl ?_
  refine kR.cv (v := .int (Int32.ofInt ((z : Int)))) (kargs_m hm (by decide) rfl) rfl (kR.up (hzk ▸ c_121 hm hX hR he hen (f := p) (by omega) (by omega)) (by decide)) ?_
  refine kR.g rfl ?_
  show kR 5 141 b141_57 _ _ _ _
  refine kR.pi (a := 30) (k := 21) (by omega) rfl rfl rfl (by decide) (by decide) rfl rfl ?_
  refine kR.s rfl rfl ?_
  refine kR.gi (a := 30) (k := 21) (v := (z : Int)) (by omega) rfl rfl rfl (by decide) (by decide) rfl (by rfl) ?_
  refine kR.zlt (by omega) (by omega) (fun q7 => ?_) (fun q7 => ?_)
  · skip
    exfalso
    omega
  · skip
    refine kR.s rfl rfl ?_
    refine kR.s rfl rfl ?_
    refine kR.gi (a := 30) (k := 21) (v := (z : Int)) (by omega) rfl rfl rfl (by decide) (by decide) rfl (by rfl) ?_
    refine kR.cv (v := .int (Int32.ofInt (58))) (kargs_m hm (by decide) rfl) rfl (kR.up (hz58 ▸ c_108t (S := ku S 30 21 (z : Int)) hm hX hR he hen (k := z) (by omega)) (by decide)) ?_
    refine kR.bi rfl ?_
    refine kR.jne (by decide) (by decide) (by decide) (by decide) (fun q9 => absurd q9 (by decide)) (fun q9 => ?_)
    refine kR.s rfl rfl ?_
    refine kR.zne (by decide) (by decide) (fun q10 => absurd q10 (by decide)) (fun q10 => ?_)
    refine kR.s rfl rfl ?_
    refine kR.s rfl rfl ?_
    refine kR.gi (a := 30) (k := 21) (v := (z : Int)) (by omega) rfl rfl rfl (by decide) (by decide) rfl (by rfl) ?_
    refine kR.s rfl rfl ?_
    refine kR.cv (v := .int (Int32.ofInt (1))) (kargs_m hm (by decide) rfl) rfl (kR.up (hz ▸ c_120 (S := ku S 30 21 (z : Int)) hm hX hR he hen (k := z) (by omega) (by omega)) (by decide)) ?_
    refine kR.zne (by decide) (by decide) (fun q12 => ?_) (fun q12 => absurd q12 (by decide))
    show kR 5 141 b141_102 _ _ _ _
    refine kR.s rfl rfl ?_
    refine kR.zeq (by decide) (by decide) (fun q13 => ?_) (fun q13 => absurd q13 (by decide))
    show kR 5 141 b141_113 _ _ _ _
    refine kR.s rfl rfl ?_
    refine kR.s rfl rfl ?_
    refine kR.s rfl rfl ?_
    refine kR.gi (a := 30) (k := 21) (v := (z : Int)) (by omega) rfl rfl rfl (by decide) (by decide) rfl (by rfl) ?_
    refine kR.cv (v := .int (Int32.ofInt (v))) (kargs_m hm (by decide) rfl) rfl (kR.up (k125) (by decide)) ?_
    refine kR.n ?_
    show kR 5 141 b141_122 _ _ _ _
    refine kR.s rfl rfl ?_
    refine kR.s rfl rfl ?_
    refine kR.gi (a := 30) (k := 19) (v := 0) (by omega) rfl rfl rfl (by decide) (by decide) rfl (by exact hX4) ?_
    refine kR.zeq (by decide) (by decide) (fun q15 => ?_) (fun q15 => absurd q15 (by decide))
    show kR 5 141 b141_131 _ _ _ _
    refine kR.s rfl rfl ?_
    refine kR.s rfl rfl ?_
    refine kR.c0 (kargs_m hm (by decide) rfl) rfl (kR.up (k115) (by decide)) ?_
    refine kR.s rfl rfl ?_
    refine kR.s rfl rfl ?_
    refine kR.gi (a := 30) (k := 21) (v := (z : Int)) (by omega) rfl rfl rfl (by decide) (by decide) rfl (by exact h21) ?_
    refine kR.s rfl rfl ?_
    refine kR.add ?_
    refine kR.pi (a := 30) (k := 21) (by omega) rfl rfl rfl (by decide) (by decide) rfl rfl ?_
    refine kR.s rfl rfl ?_
    refine kR.s rfl rfl ?_
    refine kR.gi (a := 30) (k := 21) (v := (z : Int) + 1) (by omega) rfl rfl rfl (by decide) (by decide) rfl (by rfl) ?_
    have f17_0 := khr_r hX hen (z + 1)
    refine kR.cv (v := .int (Int32.ofInt (khr t e (z + 1)))) (kargs_m hm (by decide) rfl) rfl (kR.up (c_108t (S := ku X5 30 21 ((z : Int) + 1)) hm hX hR5 he5 hen (k := (z + 1)) (by omega)) (by decide)) ?_
    refine kR.bi rfl ?_
    refine kR.jne (by omega) (by omega) (by omega) (by omega) (fun q18 => ?_) (fun q18 => ?_)
    · skip
      show kR 5 141 b141_163 _ _ _ _
      refine kR.s rfl rfl ?_
      refine kR.n ?_
      show kR 5 141 b141_164 _ _ _ _
      refine kR.s rfl rfl ?_
      refine kR.s rfl rfl ?_
      refine kR.c0 (kargs_m hm (by decide) rfl) rfl (kR.up (hpb ▸ c_109 (S := ku X5 30 21 ((z : Int) + 1)) hm hX hR5 he5 hen (p := z + 1) rfl (by omega)) (by decide)) ?_
      refine kR.s rfl rfl ?_
      refine kR.s rfl rfl ?_
      refine kR.gi (a := 30) (k := 21) (v := (pb : Int)) (by omega) rfl rfl rfl (by decide) (by decide) rfl (by rfl) ?_
      have f20_0 := khr_r hX hen pb
      refine kR.cv (v := .int (Int32.ofInt (khr t e pb))) (kargs_m hm (by decide) rfl) rfl (kR.up (c_108t (S := ku (ku X5 30 21 ((z : Int) + 1)) 30 21 (pb : Int)) hm hX hR5 he5 hen (k := pb) (by omega)) (by decide)) ?_
      refine kR.bi rfl ?_
      refine kR.jeq (by omega) (by omega) (by omega) (by omega) (fun q21 => ?_) (fun q21 => ?_)
      · skip
        show kR 5 141 b141_196 _ _ _ _
        refine kR.s rfl rfl ?_
        refine kR.s rfl rfl ?_
        refine kR.s rfl rfl ?_
        refine kR.cv (v := .int (Int32.ofInt (v0))) (kargs_m hm (by decide) rfl) rfl (kR.up (hmk) (by decide)) ?_
        refine kR.c0 (kargs_m hm (by decide) rfl) rfl (kR.up (c_113 (S := X7) hm) (by decide)) ?_
        refine kR.g rfl ?_
        show kR 5 141 b141_234 _ _ _ _
        refine kR.ret rfl rfl ?_
        first | rfl | (exfalso; omega)
      · skip
        refine kR.s rfl rfl ?_
        refine kR.s rfl rfl ?_
        refine kR.gi (a := 30) (k := 21) (v := (pb : Int)) (by omega) rfl rfl rfl (by decide) (by decide) rfl (by rfl) ?_
        have f24_0 := khr_r hX hen pb
        refine kR.cv (v := .int (Int32.ofInt (khr t e pb))) (kargs_m hm (by decide) rfl) rfl (kR.up (c_108t (S := ku (ku X5 30 21 ((z : Int) + 1)) 30 21 (pb : Int)) hm hX hR5 he5 hen (k := pb) (by omega)) (by decide)) ?_
        refine kR.bi rfl ?_
        refine kR.jne (by omega) (by omega) (by omega) (by omega) (fun q25 => ?_) (fun q25 => ?_)
        · skip
          exfalso
          omega
        · skip
          refine kR.n ?_
          show kR 5 141 b141_196 _ _ _ _
          refine kR.s rfl rfl ?_
          refine kR.s rfl rfl ?_
          refine kR.s rfl rfl ?_
          refine kR.cv (v := .int (Int32.ofInt (v0))) (kargs_m hm (by decide) rfl) rfl (kR.up (hmk) (by decide)) ?_
          refine kR.c0 (kargs_m hm (by decide) rfl) rfl (kR.up (c_113 (S := X7) hm) (by decide)) ?_
          refine kR.g rfl ?_
          show kR 5 141 b141_234 _ _ _ _
          refine kR.ret rfl rfl ?_
          first | rfl | (exfalso; omega)
    · skip
      refine kR.s rfl rfl ?_
      refine kR.g rfl ?_
      show kR 5 141 b141_164 _ _ _ _
      refine kR.s rfl rfl ?_
      refine kR.s rfl rfl ?_
      refine kR.c0 (kargs_m hm (by decide) rfl) rfl (kR.up (hpb ▸ c_109 (S := ku X5 30 21 ((z : Int) + 1)) hm hX hR5 he5 hen (p := z + 1) rfl (by omega)) (by decide)) ?_
      refine kR.s rfl rfl ?_
      refine kR.s rfl rfl ?_
      refine kR.gi (a := 30) (k := 21) (v := (pb : Int)) (by omega) rfl rfl rfl (by decide) (by decide) rfl (by rfl) ?_
      have f29_0 := khr_r hX hen pb
      refine kR.cv (v := .int (Int32.ofInt (khr t e pb))) (kargs_m hm (by decide) rfl) rfl (kR.up (c_108t (S := ku (ku X5 30 21 ((z : Int) + 1)) 30 21 (pb : Int)) hm hX hR5 he5 hen (k := pb) (by omega)) (by decide)) ?_
      refine kR.bi rfl ?_
      refine kR.jeq (by omega) (by omega) (by omega) (by omega) (fun q30 => ?_) (fun q30 => ?_)
      · skip
        show kR 5 141 b141_196 _ _ _ _
        refine kR.s rfl rfl ?_
        refine kR.s rfl rfl ?_
        refine kR.s rfl rfl ?_
        refine kR.cv (v := .int (Int32.ofInt (v0))) (kargs_m hm (by decide) rfl) rfl (kR.up (hmk) (by decide)) ?_
        refine kR.c0 (kargs_m hm (by decide) rfl) rfl (kR.up (c_113 (S := X7) hm) (by decide)) ?_
        refine kR.g rfl ?_
        show kR 5 141 b141_234 _ _ _ _
        refine kR.ret rfl rfl ?_
        first | rfl | (exfalso; omega)
      · skip
        refine kR.s rfl rfl ?_
        refine kR.s rfl rfl ?_
        refine kR.gi (a := 30) (k := 21) (v := (pb : Int)) (by omega) rfl rfl rfl (by decide) (by decide) rfl (by rfl) ?_
        have f33_0 := khr_r hX hen pb
        refine kR.cv (v := .int (Int32.ofInt (khr t e pb))) (kargs_m hm (by decide) rfl) rfl (kR.up (c_108t (S := ku (ku X5 30 21 ((z : Int) + 1)) 30 21 (pb : Int)) hm hX hR5 he5 hen (k := pb) (by omega)) (by decide)) ?_
        refine kR.bi rfl ?_
        refine kR.jne (by omega) (by omega) (by omega) (by omega) (fun q34 => ?_) (fun q34 => ?_)
        · skip
          exfalso
          omega
        · skip
          refine kR.n ?_
          show kR 5 141 b141_196 _ _ _ _
          refine kR.s rfl rfl ?_
          refine kR.s rfl rfl ?_
          refine kR.s rfl rfl ?_
          refine kR.cv (v := .int (Int32.ofInt (v0))) (kargs_m hm (by decide) rfl) rfl (kR.up (hmk) (by decide)) ?_
          refine kR.c0 (kargs_m hm (by decide) rfl) rfl (kR.up (c_113 (S := X7) hm) (by decide)) ?_
          refine kR.g rfl ?_
          show kR 5 141 b141_234 _ _ _ _
          refine kR.ret rfl rfl ?_
          first | rfl | (exfalso; omega)
theorem c_141p_v0 {m : Nat} {E : Nat → kC} {S : Nat → Nat → Int} {sz : Nat × Nat} (hm : 53 ≤ m ∧ m ≤ 57) {t : Nat → Int} {n L : Nat} (hX : kTx t n L) (hR : kRt S t n) {e : Nat} (he : S 30 23 = (e : Int)) (hen : e ≤ n) {p : Nat} (hpp : S 30 21 = (p : Int)) (hpe : p ≤ e) (hqu : kqu (kch t e p) = 0) (hpl : kpl t e p = 1) {z : Nat} (hzk : kst t e 1 p = z) (hze : z ≤ e) (hz : kcol t e 1 z = 1) {X4 : Nat → Nat → Int} {v : Int} (k125 : kR 3 125 (blk 125 0) (kent 125 [.ref 30, .int (Int32.ofInt (p : Int)), .int (Int32.ofInt (z : Int))]) [] (sz, hp m E (ku S 30 21 (z : Int))) (fun r => r = (.inl (some (.int (Int32.ofInt v))), (sz, hp m E X4)))) (hX4 : X4 30 19 = 0) {X5 : Nat → Nat → Int} (k115 : kR 1 115 (blk 115 0) (kent 115 [.ref 30, .int (Int32.ofInt v)]) [] (sz, hp m E X4) (fun r => r = (.inl none, (sz, hp m E X5)))) (hR5 : kRt X5 t n) (he5 : X5 30 23 = (e : Int)) (h21 : X5 30 21 = (z : Int)) (hw5 : X5 30 19 = 0) (hce : ¬ (kch t e (kw (fun i => decide (t i = 32)) e (z + 1)) = 44 ∨ kch t e (kw (fun i => decide (t i = 32)) e (z + 1)) = 125)) : kR 5 141 (blk 141 0) (kent 141 [.ref 30]) [] (sz, hp m E S) (fun r => r = (.inl none, (sz, hp m E (ku (ku (ku (ku X5 30 21 ((z : Int) + 1)) 30 21 ((kw (fun i => decide (t i = 32)) e (z + 1)) : Nat)) 30 19 (if (0 : Int) = 1 ∨ ¬ kch t e (z + 1) = 32 then 1 else 0)) 30 20 2)))) := by
  have hx1 := hX.1
  have hq0 := kqu_h t e p
  have hq1 := kqu_01 (kch t e p)
  have hbr := kbq_rng (t := t) (e := e) (q := kch t e p) (e - (p + 1)) (p + 1) rfl
  have hst : p ≤ kst t e 1 p ∧ (p ≤ e → kst t e 1 p ≤ e) := kw_rng
  have hQ : kqu (khr t e p) = 0 := by omega
  have h58 := khr_c (t := t) (e := e) (p := z) 58 (by decide) (by decide)
  have hco := kcol_o t e 1 z
  have hkr : z + 1 ≤ (kw (fun i => decide (t i = 32)) e (z + 1)) ∧ (z + 1 ≤ e → (kw (fun i => decide (t i = 32)) e (z + 1)) ≤ e) := kw_rng
  have hko : e ≤ z + 1 → (kw (fun i => decide (t i = 32)) e (z + 1)) = z + 1 := fun y => kw_no (Or.inl y)
  obtain ⟨pb, hpb⟩ : ∃ pb, pb = (kw (fun i => decide (t i = 32)) e (z + 1)) := ⟨_, rfl⟩
  rw [← hpb] at hkr hko hce ⊢
  have h44 := khr_c (t := t) (e := e) (p := pb) 44 (by decide) (by decide)
  have h125 := khr_c (t := t) (e := e) (p := pb) 125 (by decide) (by decide)
  have h32 := khr_c (t := t) (e := e) (p := z + 1) 32 (by decide) (by decide)
  have hz58 : khr t e z = 58 := by exact h58.mpr (by omega)
  show kR 5 141 b141_0 _ _ _ _
  refine kR.s rfl rfl ?_
  refine kR.gi (a := 30) (k := 21) (v := (p : Int)) (by omega) rfl rfl rfl (by decide) (by decide) rfl (by exact hpp) ?_
  refine kR.s rfl rfl ?_
  refine kR.s rfl rfl ?_
  refine kR.s rfl rfl ?_
  refine kR.gi (a := 30) (k := 21) (v := (p : Int)) (by omega) rfl rfl rfl (by decide) (by decide) rfl (by exact hpp) ?_
  have f1_0 := khr_r hX hen p
  refine kR.cv (v := .int (Int32.ofInt (khr t e p))) (kargs_m hm (by decide) rfl) rfl (kR.up (c_108t hm hX hR he hen (k := p) (by omega)) (by decide)) ?_
  refine kR.cv (v := .int (Int32.ofInt (0))) rfl rfl (kR.up (hQ ▸ c_127 (c := khr t e p) (by omega)) (by decide)) ?_
  refine kR.s rfl rfl ?_
  refine kR.s rfl rfl ?_
  refine kR.s rfl rfl ?_
  refine kR.zeq (by decide) (by decide) (fun q3 => ?_) (fun q3 => absurd q3 (by decide))
  show kR 5 141 b141_33 _ _ _ _
  refine kR.s rfl rfl ?_
  refine kR.s rfl rfl ?_
  refine kR.gi (a := 30) (k := 21) (v := (p : Int)) (by omega) rfl rfl rfl (by decide) (by decide) rfl (by exact hpp) ?_
  refine kR.cv (v := .int (Int32.ofInt (1))) (kargs_m hm (by decide) rfl) rfl (kR.up (hpl ▸ c_119 hm hX hR he hen (k := p) (by omega)) (by decide)) ?_
  refine kR.zeq (by decide) (by decide) (fun q5 => absurd q5 (by decide)) (fun q5 => ?_)
  refine kR.s rfl rfl ?_
  refine kR.s rfl rfl ?_
  refine kR.gi (a := 30) (k := 21) (v := (p : Int)) (by omega) rfl rfl rfl (by decide) (by decide) rfl (by exact hpp) ?_
  refine kR.s rfl rfl ?_
  refine kR.cv (v := .int (Int32.ofInt ((z : Int)))) (kargs_m hm (by decide) rfl) rfl (kR.up (hzk ▸ c_121 hm hX hR he hen (f := p) (by omega) (by omega)) (by decide)) ?_
  refine kR.g rfl ?_
  show kR 5 141 b141_57 _ _ _ _
  refine kR.pi (a := 30) (k := 21) (by omega) rfl rfl rfl (by decide) (by decide) rfl rfl ?_
  refine kR.s rfl rfl ?_
  refine kR.gi (a := 30) (k := 21) (v := (z : Int)) (by omega) rfl rfl rfl (by decide) (by decide) rfl (by rfl) ?_
  refine kR.zlt (by omega) (by omega) (fun q7 => ?_) (fun q7 => ?_)
  · skip
    exfalso
    omega
  · skip
    refine kR.s rfl rfl ?_
    refine kR.s rfl rfl ?_
    refine kR.gi (a := 30) (k := 21) (v := (z : Int)) (by omega) rfl rfl rfl (by decide) (by decide) rfl (by rfl) ?_
    refine kR.cv (v := .int (Int32.ofInt (58))) (kargs_m hm (by decide) rfl) rfl (kR.up (hz58 ▸ c_108t (S := ku S 30 21 (z : Int)) hm hX hR he hen (k := z) (by omega)) (by decide)) ?_
    refine kR.bi rfl ?_
    refine kR.jne (by decide) (by decide) (by decide) (by decide) (fun q9 => absurd q9 (by decide)) (fun q9 => ?_)
    refine kR.s rfl rfl ?_
    refine kR.zne (by decide) (by decide) (fun q10 => absurd q10 (by decide)) (fun q10 => ?_)
    refine kR.s rfl rfl ?_
    refine kR.s rfl rfl ?_
    refine kR.gi (a := 30) (k := 21) (v := (z : Int)) (by omega) rfl rfl rfl (by decide) (by decide) rfl (by rfl) ?_
    refine kR.s rfl rfl ?_
    refine kR.cv (v := .int (Int32.ofInt (1))) (kargs_m hm (by decide) rfl) rfl (kR.up (hz ▸ c_120 (S := ku S 30 21 (z : Int)) hm hX hR he hen (k := z) (by omega) (by omega)) (by decide)) ?_
    refine kR.zne (by decide) (by decide) (fun q12 => ?_) (fun q12 => absurd q12 (by decide))
    show kR 5 141 b141_102 _ _ _ _
    refine kR.s rfl rfl ?_
    refine kR.zeq (by decide) (by decide) (fun q13 => ?_) (fun q13 => absurd q13 (by decide))
    show kR 5 141 b141_113 _ _ _ _
    refine kR.s rfl rfl ?_
    refine kR.s rfl rfl ?_
    refine kR.s rfl rfl ?_
    refine kR.gi (a := 30) (k := 21) (v := (z : Int)) (by omega) rfl rfl rfl (by decide) (by decide) rfl (by rfl) ?_
    refine kR.cv (v := .int (Int32.ofInt (v))) (kargs_m hm (by decide) rfl) rfl (kR.up (k125) (by decide)) ?_
    refine kR.n ?_
    show kR 5 141 b141_122 _ _ _ _
    refine kR.s rfl rfl ?_
    refine kR.s rfl rfl ?_
    refine kR.gi (a := 30) (k := 19) (v := 0) (by omega) rfl rfl rfl (by decide) (by decide) rfl (by exact hX4) ?_
    refine kR.zeq (by decide) (by decide) (fun q15 => ?_) (fun q15 => absurd q15 (by decide))
    show kR 5 141 b141_131 _ _ _ _
    refine kR.s rfl rfl ?_
    refine kR.s rfl rfl ?_
    refine kR.c0 (kargs_m hm (by decide) rfl) rfl (kR.up (k115) (by decide)) ?_
    refine kR.s rfl rfl ?_
    refine kR.s rfl rfl ?_
    refine kR.gi (a := 30) (k := 21) (v := (z : Int)) (by omega) rfl rfl rfl (by decide) (by decide) rfl (by exact h21) ?_
    refine kR.s rfl rfl ?_
    refine kR.add ?_
    refine kR.pi (a := 30) (k := 21) (by omega) rfl rfl rfl (by decide) (by decide) rfl rfl ?_
    refine kR.s rfl rfl ?_
    refine kR.s rfl rfl ?_
    refine kR.gi (a := 30) (k := 21) (v := (z : Int) + 1) (by omega) rfl rfl rfl (by decide) (by decide) rfl (by rfl) ?_
    have f17_0 := khr_r hX hen (z + 1)
    refine kR.cv (v := .int (Int32.ofInt (khr t e (z + 1)))) (kargs_m hm (by decide) rfl) rfl (kR.up (c_108t (S := ku X5 30 21 ((z : Int) + 1)) hm hX hR5 he5 hen (k := (z + 1)) (by omega)) (by decide)) ?_
    refine kR.bi rfl ?_
    refine kR.jne (by omega) (by omega) (by omega) (by omega) (fun q18 => ?_) (fun q18 => ?_)
    · skip
      show kR 5 141 b141_163 _ _ _ _
      refine kR.s rfl rfl ?_
      refine kR.n ?_
      show kR 5 141 b141_164 _ _ _ _
      refine kR.s rfl rfl ?_
      refine kR.s rfl rfl ?_
      refine kR.c0 (kargs_m hm (by decide) rfl) rfl (kR.up (hpb ▸ c_109 (S := ku X5 30 21 ((z : Int) + 1)) hm hX hR5 he5 hen (p := z + 1) rfl (by omega)) (by decide)) ?_
      refine kR.s rfl rfl ?_
      refine kR.s rfl rfl ?_
      refine kR.gi (a := 30) (k := 21) (v := (pb : Int)) (by omega) rfl rfl rfl (by decide) (by decide) rfl (by rfl) ?_
      have f20_0 := khr_r hX hen pb
      refine kR.cv (v := .int (Int32.ofInt (khr t e pb))) (kargs_m hm (by decide) rfl) rfl (kR.up (c_108t (S := ku (ku X5 30 21 ((z : Int) + 1)) 30 21 (pb : Int)) hm hX hR5 he5 hen (k := pb) (by omega)) (by decide)) ?_
      refine kR.bi rfl ?_
      refine kR.jeq (by omega) (by omega) (by omega) (by omega) (fun q21 => ?_) (fun q21 => ?_)
      · skip
        exfalso
        omega
      · skip
        refine kR.s rfl rfl ?_
        refine kR.s rfl rfl ?_
        refine kR.gi (a := 30) (k := 21) (v := (pb : Int)) (by omega) rfl rfl rfl (by decide) (by decide) rfl (by rfl) ?_
        have f22_0 := khr_r hX hen pb
        refine kR.cv (v := .int (Int32.ofInt (khr t e pb))) (kargs_m hm (by decide) rfl) rfl (kR.up (c_108t (S := ku (ku X5 30 21 ((z : Int) + 1)) 30 21 (pb : Int)) hm hX hR5 he5 hen (k := pb) (by omega)) (by decide)) ?_
        refine kR.bi rfl ?_
        refine kR.jne (by omega) (by omega) (by omega) (by omega) (fun q23 => ?_) (fun q23 => ?_)
        · skip
          show kR 5 141 b141_208 _ _ _ _
          refine kR.s rfl rfl ?_
          refine kR.s rfl rfl ?_
          refine kR.gi (a := 30) (k := 19) (v := 0) (by omega) rfl rfl rfl (by decide) (by decide) rfl (by exact hw5) ?_
          refine kR.zne (by decide) (by decide) (fun q24 => absurd q24 (by decide)) (fun q24 => ?_)
          refine kR.s rfl rfl ?_
          refine kR.zne (by decide) (by decide) (fun q25 => absurd q25 (by decide)) (fun q25 => ?_)
          refine kR.n ?_
          show kR 5 141 b141_221 _ _ _ _
          refine kR.s rfl rfl ?_
          refine kR.g rfl ?_
          show kR 5 141 b141_226 _ _ _ _
          refine kR.pi (a := 30) (k := 19) (by omega) rfl rfl rfl (by decide) (by decide) rfl (by first | rfl | assumption | simp [kfit, *]) ?_
          refine kR.s rfl rfl ?_
          refine kR.s rfl rfl ?_
          refine kR.pi (a := 30) (k := 20) (by omega) rfl rfl rfl (by decide) (by decide) rfl rfl ?_
          refine kR.n ?_
          show kR 5 141 b141_234 _ _ _ _
          refine kR.ret rfl rfl ?_
          first | (exfalso; omega) | (rw [if_pos (by omega)]; done) | (rw [if_neg (by omega)]; done)
        · skip
          refine kR.n ?_
          exfalso
          omega
    · skip
      refine kR.s rfl rfl ?_
      refine kR.g rfl ?_
      show kR 5 141 b141_164 _ _ _ _
      refine kR.s rfl rfl ?_
      refine kR.s rfl rfl ?_
      refine kR.c0 (kargs_m hm (by decide) rfl) rfl (kR.up (hpb ▸ c_109 (S := ku X5 30 21 ((z : Int) + 1)) hm hX hR5 he5 hen (p := z + 1) rfl (by omega)) (by decide)) ?_
      refine kR.s rfl rfl ?_
      refine kR.s rfl rfl ?_
      refine kR.gi (a := 30) (k := 21) (v := (pb : Int)) (by omega) rfl rfl rfl (by decide) (by decide) rfl (by rfl) ?_
      have f27_0 := khr_r hX hen pb
      refine kR.cv (v := .int (Int32.ofInt (khr t e pb))) (kargs_m hm (by decide) rfl) rfl (kR.up (c_108t (S := ku (ku X5 30 21 ((z : Int) + 1)) 30 21 (pb : Int)) hm hX hR5 he5 hen (k := pb) (by omega)) (by decide)) ?_
      refine kR.bi rfl ?_
      refine kR.jeq (by omega) (by omega) (by omega) (by omega) (fun q28 => ?_) (fun q28 => ?_)
      · skip
        exfalso
        omega
      · skip
        refine kR.s rfl rfl ?_
        refine kR.s rfl rfl ?_
        refine kR.gi (a := 30) (k := 21) (v := (pb : Int)) (by omega) rfl rfl rfl (by decide) (by decide) rfl (by rfl) ?_
        have f29_0 := khr_r hX hen pb
        refine kR.cv (v := .int (Int32.ofInt (khr t e pb))) (kargs_m hm (by decide) rfl) rfl (kR.up (c_108t (S := ku (ku X5 30 21 ((z : Int) + 1)) 30 21 (pb : Int)) hm hX hR5 he5 hen (k := pb) (by omega)) (by decide)) ?_
        refine kR.bi rfl ?_
        refine kR.jne (by omega) (by omega) (by omega) (by omega) (fun q30 => ?_) (fun q30 => ?_)
        · skip
          show kR 5 141 b141_208 _ _ _ _
          refine kR.s rfl rfl ?_
          refine kR.s rfl rfl ?_
          refine kR.gi (a := 30) (k := 19) (v := 0) (by omega) rfl rfl rfl (by decide) (by decide) rfl (by exact hw5) ?_
          refine kR.zne (by decide) (by decide) (fun q31 => absurd q31 (by decide)) (fun q31 => ?_)
          refine kR.s rfl rfl ?_
          refine kR.zne (by decide) (by decide) (fun q32 => ?_) (fun q32 => absurd q32 (by decide))
          show kR 5 141 b141_225 _ _ _ _
          refine kR.s rfl rfl ?_
          refine kR.n ?_
          show kR 5 141 b141_226 _ _ _ _
          refine kR.pi (a := 30) (k := 19) (by omega) rfl rfl rfl (by decide) (by decide) rfl (by first | rfl | assumption | simp [kfit, *]) ?_
          refine kR.s rfl rfl ?_
          refine kR.s rfl rfl ?_
          refine kR.pi (a := 30) (k := 20) (by omega) rfl rfl rfl (by decide) (by decide) rfl rfl ?_
          refine kR.n ?_
          show kR 5 141 b141_234 _ _ _ _
          refine kR.ret rfl rfl ?_
          first | (exfalso; omega) | (rw [if_pos (by omega)]; done) | (rw [if_neg (by omega)]; done)
        · skip
          refine kR.n ?_
          exfalso
          omega
theorem c_141p_v1 {m : Nat} {E : Nat → kC} {S : Nat → Nat → Int} {sz : Nat × Nat} (hm : 53 ≤ m ∧ m ≤ 57) {t : Nat → Int} {n L : Nat} (hX : kTx t n L) (hR : kRt S t n) {e : Nat} (he : S 30 23 = (e : Int)) (hen : e ≤ n) {p : Nat} (hpp : S 30 21 = (p : Int)) (hpe : p ≤ e) (hqu : kqu (kch t e p) = 0) (hpl : kpl t e p = 1) {z : Nat} (hzk : kst t e 1 p = z) (hze : z ≤ e) (hz : kcol t e 1 z = 1) {X4 : Nat → Nat → Int} {v : Int} (k125 : kR 3 125 (blk 125 0) (kent 125 [.ref 30, .int (Int32.ofInt (p : Int)), .int (Int32.ofInt (z : Int))]) [] (sz, hp m E (ku S 30 21 (z : Int))) (fun r => r = (.inl (some (.int (Int32.ofInt v))), (sz, hp m E X4)))) (hX4 : X4 30 19 = 0) {X5 : Nat → Nat → Int} (k115 : kR 1 115 (blk 115 0) (kent 115 [.ref 30, .int (Int32.ofInt v)]) [] (sz, hp m E X4) (fun r => r = (.inl none, (sz, hp m E X5)))) (hR5 : kRt X5 t n) (he5 : X5 30 23 = (e : Int)) (h21 : X5 30 21 = (z : Int)) (hw5 : X5 30 19 = 1) (hce : ¬ (kch t e (kw (fun i => decide (t i = 32)) e (z + 1)) = 44 ∨ kch t e (kw (fun i => decide (t i = 32)) e (z + 1)) = 125)) : kR 5 141 (blk 141 0) (kent 141 [.ref 30]) [] (sz, hp m E S) (fun r => r = (.inl none, (sz, hp m E (ku (ku (ku (ku X5 30 21 ((z : Int) + 1)) 30 21 ((kw (fun i => decide (t i = 32)) e (z + 1)) : Nat)) 30 19 (if (1 : Int) = 1 ∨ ¬ kch t e (z + 1) = 32 then 1 else 0)) 30 20 2)))) := by
  have hx1 := hX.1
  have hq0 := kqu_h t e p
  have hq1 := kqu_01 (kch t e p)
  have hbr := kbq_rng (t := t) (e := e) (q := kch t e p) (e - (p + 1)) (p + 1) rfl
  have hst : p ≤ kst t e 1 p ∧ (p ≤ e → kst t e 1 p ≤ e) := kw_rng
  have hQ : kqu (khr t e p) = 0 := by omega
  have h58 := khr_c (t := t) (e := e) (p := z) 58 (by decide) (by decide)
  have hco := kcol_o t e 1 z
  have hkr : z + 1 ≤ (kw (fun i => decide (t i = 32)) e (z + 1)) ∧ (z + 1 ≤ e → (kw (fun i => decide (t i = 32)) e (z + 1)) ≤ e) := kw_rng
  have hko : e ≤ z + 1 → (kw (fun i => decide (t i = 32)) e (z + 1)) = z + 1 := fun y => kw_no (Or.inl y)
  obtain ⟨pb, hpb⟩ : ∃ pb, pb = (kw (fun i => decide (t i = 32)) e (z + 1)) := ⟨_, rfl⟩
  rw [← hpb] at hkr hko hce ⊢
  have h44 := khr_c (t := t) (e := e) (p := pb) 44 (by decide) (by decide)
  have h125 := khr_c (t := t) (e := e) (p := pb) 125 (by decide) (by decide)
  have h32 := khr_c (t := t) (e := e) (p := z + 1) 32 (by decide) (by decide)
  have hz58 : khr t e z = 58 := by exact h58.mpr (by omega)
  show kR 5 141 b141_0 _ _ _ _
  refine kR.s rfl rfl ?_
  refine kR.gi (a := 30) (k := 21) (v := (p : Int)) (by omega) rfl rfl rfl (by decide) (by decide) rfl (by exact hpp) ?_
  refine kR.s rfl rfl ?_
  refine kR.s rfl rfl ?_
  refine kR.s rfl rfl ?_
  refine kR.gi (a := 30) (k := 21) (v := (p : Int)) (by omega) rfl rfl rfl (by decide) (by decide) rfl (by exact hpp) ?_
  have f1_0 := khr_r hX hen p
  refine kR.cv (v := .int (Int32.ofInt (khr t e p))) (kargs_m hm (by decide) rfl) rfl (kR.up (c_108t hm hX hR he hen (k := p) (by omega)) (by decide)) ?_
  refine kR.cv (v := .int (Int32.ofInt (0))) rfl rfl (kR.up (hQ ▸ c_127 (c := khr t e p) (by omega)) (by decide)) ?_
  refine kR.s rfl rfl ?_
  refine kR.s rfl rfl ?_
  refine kR.s rfl rfl ?_
  refine kR.zeq (by decide) (by decide) (fun q3 => ?_) (fun q3 => absurd q3 (by decide))
  show kR 5 141 b141_33 _ _ _ _
  refine kR.s rfl rfl ?_
  refine kR.s rfl rfl ?_
  refine kR.gi (a := 30) (k := 21) (v := (p : Int)) (by omega) rfl rfl rfl (by decide) (by decide) rfl (by exact hpp) ?_
  refine kR.cv (v := .int (Int32.ofInt (1))) (kargs_m hm (by decide) rfl) rfl (kR.up (hpl ▸ c_119 hm hX hR he hen (k := p) (by omega)) (by decide)) ?_
  refine kR.zeq (by decide) (by decide) (fun q5 => absurd q5 (by decide)) (fun q5 => ?_)
  refine kR.s rfl rfl ?_
  refine kR.s rfl rfl ?_
  refine kR.gi (a := 30) (k := 21) (v := (p : Int)) (by omega) rfl rfl rfl (by decide) (by decide) rfl (by exact hpp) ?_
  refine kR.s rfl rfl ?_
  refine kR.cv (v := .int (Int32.ofInt ((z : Int)))) (kargs_m hm (by decide) rfl) rfl (kR.up (hzk ▸ c_121 hm hX hR he hen (f := p) (by omega) (by omega)) (by decide)) ?_
  refine kR.g rfl ?_
  show kR 5 141 b141_57 _ _ _ _
  refine kR.pi (a := 30) (k := 21) (by omega) rfl rfl rfl (by decide) (by decide) rfl rfl ?_
  refine kR.s rfl rfl ?_
  refine kR.gi (a := 30) (k := 21) (v := (z : Int)) (by omega) rfl rfl rfl (by decide) (by decide) rfl (by rfl) ?_
  refine kR.zlt (by omega) (by omega) (fun q7 => ?_) (fun q7 => ?_)
  · skip
    exfalso
    omega
  · skip
    refine kR.s rfl rfl ?_
    refine kR.s rfl rfl ?_
    refine kR.gi (a := 30) (k := 21) (v := (z : Int)) (by omega) rfl rfl rfl (by decide) (by decide) rfl (by rfl) ?_
    refine kR.cv (v := .int (Int32.ofInt (58))) (kargs_m hm (by decide) rfl) rfl (kR.up (hz58 ▸ c_108t (S := ku S 30 21 (z : Int)) hm hX hR he hen (k := z) (by omega)) (by decide)) ?_
    refine kR.bi rfl ?_
    refine kR.jne (by decide) (by decide) (by decide) (by decide) (fun q9 => absurd q9 (by decide)) (fun q9 => ?_)
    refine kR.s rfl rfl ?_
    refine kR.zne (by decide) (by decide) (fun q10 => absurd q10 (by decide)) (fun q10 => ?_)
    refine kR.s rfl rfl ?_
    refine kR.s rfl rfl ?_
    refine kR.gi (a := 30) (k := 21) (v := (z : Int)) (by omega) rfl rfl rfl (by decide) (by decide) rfl (by rfl) ?_
    refine kR.s rfl rfl ?_
    refine kR.cv (v := .int (Int32.ofInt (1))) (kargs_m hm (by decide) rfl) rfl (kR.up (hz ▸ c_120 (S := ku S 30 21 (z : Int)) hm hX hR he hen (k := z) (by omega) (by omega)) (by decide)) ?_
    refine kR.zne (by decide) (by decide) (fun q12 => ?_) (fun q12 => absurd q12 (by decide))
    show kR 5 141 b141_102 _ _ _ _
    refine kR.s rfl rfl ?_
    refine kR.zeq (by decide) (by decide) (fun q13 => ?_) (fun q13 => absurd q13 (by decide))
    show kR 5 141 b141_113 _ _ _ _
    refine kR.s rfl rfl ?_
    refine kR.s rfl rfl ?_
    refine kR.s rfl rfl ?_
    refine kR.gi (a := 30) (k := 21) (v := (z : Int)) (by omega) rfl rfl rfl (by decide) (by decide) rfl (by rfl) ?_
    refine kR.cv (v := .int (Int32.ofInt (v))) (kargs_m hm (by decide) rfl) rfl (kR.up (k125) (by decide)) ?_
    refine kR.n ?_
    show kR 5 141 b141_122 _ _ _ _
    refine kR.s rfl rfl ?_
    refine kR.s rfl rfl ?_
    refine kR.gi (a := 30) (k := 19) (v := 0) (by omega) rfl rfl rfl (by decide) (by decide) rfl (by exact hX4) ?_
    refine kR.zeq (by decide) (by decide) (fun q15 => ?_) (fun q15 => absurd q15 (by decide))
    show kR 5 141 b141_131 _ _ _ _
    refine kR.s rfl rfl ?_
    refine kR.s rfl rfl ?_
    refine kR.c0 (kargs_m hm (by decide) rfl) rfl (kR.up (k115) (by decide)) ?_
    refine kR.s rfl rfl ?_
    refine kR.s rfl rfl ?_
    refine kR.gi (a := 30) (k := 21) (v := (z : Int)) (by omega) rfl rfl rfl (by decide) (by decide) rfl (by exact h21) ?_
    refine kR.s rfl rfl ?_
    refine kR.add ?_
    refine kR.pi (a := 30) (k := 21) (by omega) rfl rfl rfl (by decide) (by decide) rfl rfl ?_
    refine kR.s rfl rfl ?_
    refine kR.s rfl rfl ?_
    refine kR.gi (a := 30) (k := 21) (v := (z : Int) + 1) (by omega) rfl rfl rfl (by decide) (by decide) rfl (by rfl) ?_
    have f17_0 := khr_r hX hen (z + 1)
    refine kR.cv (v := .int (Int32.ofInt (khr t e (z + 1)))) (kargs_m hm (by decide) rfl) rfl (kR.up (c_108t (S := ku X5 30 21 ((z : Int) + 1)) hm hX hR5 he5 hen (k := (z + 1)) (by omega)) (by decide)) ?_
    refine kR.bi rfl ?_
    refine kR.jne (by omega) (by omega) (by omega) (by omega) (fun q18 => ?_) (fun q18 => ?_)
    · skip
      show kR 5 141 b141_163 _ _ _ _
      refine kR.s rfl rfl ?_
      refine kR.n ?_
      show kR 5 141 b141_164 _ _ _ _
      refine kR.s rfl rfl ?_
      refine kR.s rfl rfl ?_
      refine kR.c0 (kargs_m hm (by decide) rfl) rfl (kR.up (hpb ▸ c_109 (S := ku X5 30 21 ((z : Int) + 1)) hm hX hR5 he5 hen (p := z + 1) rfl (by omega)) (by decide)) ?_
      refine kR.s rfl rfl ?_
      refine kR.s rfl rfl ?_
      refine kR.gi (a := 30) (k := 21) (v := (pb : Int)) (by omega) rfl rfl rfl (by decide) (by decide) rfl (by rfl) ?_
      have f20_0 := khr_r hX hen pb
      refine kR.cv (v := .int (Int32.ofInt (khr t e pb))) (kargs_m hm (by decide) rfl) rfl (kR.up (c_108t (S := ku (ku X5 30 21 ((z : Int) + 1)) 30 21 (pb : Int)) hm hX hR5 he5 hen (k := pb) (by omega)) (by decide)) ?_
      refine kR.bi rfl ?_
      refine kR.jeq (by omega) (by omega) (by omega) (by omega) (fun q21 => ?_) (fun q21 => ?_)
      · skip
        exfalso
        omega
      · skip
        refine kR.s rfl rfl ?_
        refine kR.s rfl rfl ?_
        refine kR.gi (a := 30) (k := 21) (v := (pb : Int)) (by omega) rfl rfl rfl (by decide) (by decide) rfl (by rfl) ?_
        have f22_0 := khr_r hX hen pb
        refine kR.cv (v := .int (Int32.ofInt (khr t e pb))) (kargs_m hm (by decide) rfl) rfl (kR.up (c_108t (S := ku (ku X5 30 21 ((z : Int) + 1)) 30 21 (pb : Int)) hm hX hR5 he5 hen (k := pb) (by omega)) (by decide)) ?_
        refine kR.bi rfl ?_
        refine kR.jne (by omega) (by omega) (by omega) (by omega) (fun q23 => ?_) (fun q23 => ?_)
        · skip
          show kR 5 141 b141_208 _ _ _ _
          refine kR.s rfl rfl ?_
          refine kR.s rfl rfl ?_
          refine kR.gi (a := 30) (k := 19) (v := 1) (by omega) rfl rfl rfl (by decide) (by decide) rfl (by exact hw5) ?_
          refine kR.zne (by decide) (by decide) (fun q24 => ?_) (fun q24 => absurd q24 (by decide))
          show kR 5 141 b141_221 _ _ _ _
          refine kR.s rfl rfl ?_
          refine kR.g rfl ?_
          show kR 5 141 b141_226 _ _ _ _
          refine kR.pi (a := 30) (k := 19) (by omega) rfl rfl rfl (by decide) (by decide) rfl (by first | rfl | assumption | simp [kfit, *]) ?_
          refine kR.s rfl rfl ?_
          refine kR.s rfl rfl ?_
          refine kR.pi (a := 30) (k := 20) (by omega) rfl rfl rfl (by decide) (by decide) rfl rfl ?_
          refine kR.n ?_
          show kR 5 141 b141_234 _ _ _ _
          refine kR.ret rfl rfl ?_
          first | (exfalso; omega) | (rw [if_pos (by omega)]; done) | (rw [if_neg (by omega)]; done)
        · skip
          refine kR.n ?_
          exfalso
          omega
    · skip
      refine kR.s rfl rfl ?_
      refine kR.g rfl ?_
      show kR 5 141 b141_164 _ _ _ _
      refine kR.s rfl rfl ?_
      refine kR.s rfl rfl ?_
      refine kR.c0 (kargs_m hm (by decide) rfl) rfl (kR.up (hpb ▸ c_109 (S := ku X5 30 21 ((z : Int) + 1)) hm hX hR5 he5 hen (p := z + 1) rfl (by omega)) (by decide)) ?_
      refine kR.s rfl rfl ?_
      refine kR.s rfl rfl ?_
      refine kR.gi (a := 30) (k := 21) (v := (pb : Int)) (by omega) rfl rfl rfl (by decide) (by decide) rfl (by rfl) ?_
      have f26_0 := khr_r hX hen pb
      refine kR.cv (v := .int (Int32.ofInt (khr t e pb))) (kargs_m hm (by decide) rfl) rfl (kR.up (c_108t (S := ku (ku X5 30 21 ((z : Int) + 1)) 30 21 (pb : Int)) hm hX hR5 he5 hen (k := pb) (by omega)) (by decide)) ?_
      refine kR.bi rfl ?_
      refine kR.jeq (by omega) (by omega) (by omega) (by omega) (fun q27 => ?_) (fun q27 => ?_)
      · skip
        exfalso
        omega
      · skip
        refine kR.s rfl rfl ?_
        refine kR.s rfl rfl ?_
        refine kR.gi (a := 30) (k := 21) (v := (pb : Int)) (by omega) rfl rfl rfl (by decide) (by decide) rfl (by rfl) ?_
        have f28_0 := khr_r hX hen pb
        refine kR.cv (v := .int (Int32.ofInt (khr t e pb))) (kargs_m hm (by decide) rfl) rfl (kR.up (c_108t (S := ku (ku X5 30 21 ((z : Int) + 1)) 30 21 (pb : Int)) hm hX hR5 he5 hen (k := pb) (by omega)) (by decide)) ?_
        refine kR.bi rfl ?_
        refine kR.jne (by omega) (by omega) (by omega) (by omega) (fun q29 => ?_) (fun q29 => ?_)
        · skip
          show kR 5 141 b141_208 _ _ _ _
          refine kR.s rfl rfl ?_
          refine kR.s rfl rfl ?_
          refine kR.gi (a := 30) (k := 19) (v := 1) (by omega) rfl rfl rfl (by decide) (by decide) rfl (by exact hw5) ?_
          refine kR.zne (by decide) (by decide) (fun q30 => ?_) (fun q30 => absurd q30 (by decide))
          show kR 5 141 b141_221 _ _ _ _
          refine kR.s rfl rfl ?_
          refine kR.g rfl ?_
          show kR 5 141 b141_226 _ _ _ _
          refine kR.pi (a := 30) (k := 19) (by omega) rfl rfl rfl (by decide) (by decide) rfl (by first | rfl | assumption | simp [kfit, *]) ?_
          refine kR.s rfl rfl ?_
          refine kR.s rfl rfl ?_
          refine kR.pi (a := 30) (k := 20) (by omega) rfl rfl rfl (by decide) (by decide) rfl rfl ?_
          refine kR.n ?_
          show kR 5 141 b141_234 _ _ _ _
          refine kR.ret rfl rfl ?_
          first | (exfalso; omega) | (rw [if_pos (by omega)]; done) | (rw [if_neg (by omega)]; done)
        · skip
          refine kR.n ?_
          exfalso
          omega
