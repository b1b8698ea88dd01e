/-! The reference: block and part. By program (wip/gen/gen64.py). -/
theorem c_134_row0 {m : Nat} {E : Nat → kC} {S : Nat → Nat → Int} {sz : Nat × Nat} (hm : 53 ≤ m ∧ m ≤ 57) {t : Nat → Int} {n L : Nat} (hX : kTx t n L) (hR : kRt S t n) {e : Nat} (he : S 30 23 = (e : Int)) (hen : e ≤ n) {p : Nat} (hpp : S 30 21 = (p : Int)) (hpe : p ≤ e) {q : Nat} (hls : S 30 22 = (q : Int)) (hqp : q ≤ p) (hda : kdash t e p = 1) {S1 : Nat → Nat → Int} {v o : Nat} (hmk : kR 0 110 (blk 110 0) (kent 110 [.ref 30, .int (Int32.ofInt 4)]) [] (sz, hp m E S) (fun r => r = (.inl (some (.int (Int32.ofInt (v : Int)))), (sz, hp m E S1)))) (hR1 : kRt S1 t n) (h21 : S1 30 21 = (p : Int)) (h23 : S1 30 23 = (e : Int)) (h29 : S1 30 29 = (o : Int)) (hol : o ≤ 8) (h19 : S1 30 19 = 0) : kR 6 134 (blk 134 0) (kent 134 [.ref 30]) [] (sz, hp m E S) (fun r => r = (.inl none, (sz, hp m E (ku (ku (kbgm S1 1 v ((p : Int) - (q : Int)) o) 30 21 ((kw (fun i => decide (t i = 32)) e (p + 1)) : Nat)) 30 20 1)))) := by
  have hx1 := hX.1
  show kR 6 134 b134_0 _ _ _ _
  refine kR.s rfl rfl ?_
  refine kR.gi (a := 30) (k := 21) (v := (p : Int)) (by omega) rfl rfl rfl (by decide) (by decide) rfl (by exact hpp) ?_
  refine kR.s rfl rfl ?_
  refine kR.gi (a := 30) (k := 22) (v := (q : Int)) (by omega) rfl rfl rfl (by decide) (by decide) rfl (by exact hls) ?_
  refine kR.sub ?_
  refine kR.s rfl rfl ?_
  refine kR.s rfl rfl ?_
  refine kR.cv (v := .int (Int32.ofInt (1))) (kargs_m hm (by decide) rfl) rfl (kR.up (hda ▸ c_130 hm hX hR he hen hpp (by omega)) (by decide)) ?_
  refine kR.zeq (by decide) (by decide) (fun q2 => absurd q2 (by decide)) (fun q2 => ?_)
  refine kR.s rfl rfl ?_
  refine kR.s rfl rfl ?_
  refine kR.s rfl rfl ?_
  refine kR.s rfl rfl ?_
  refine kR.cv (v := .int (Int32.ofInt ((v : Int)))) (kargs_m hm (by decide) rfl) rfl (kR.up (hmk) (by decide)) ?_
  refine kR.s rfl rfl ?_
  refine kR.c0 (kargs_m hm (by decide) rfl) rfl (kR.up (c_112 (S := S1) hm (w := 1) (v := v) (z := (p : Int) - (q : Int)) h29 (by omega) hol h19) (by decide)) ?_
  refine kR.s rfl rfl ?_
  refine kR.c0 (kargs_m hm (by decide) rfl) rfl (kR.up (c_132 (S := (kbgm S1 1 v ((p : Int) - (q : Int)) o)) hm hX hR1 h23 hen h21 (by omega)) (by decide)) ?_
  refine kR.ret rfl rfl ?_
  rfl
theorem c_134_tab0 {m : Nat} {E : Nat → kC} {S : Nat → Nat → Int} {sz : Nat × Nat} (hm : 53 ≤ m ∧ m ≤ 57) {t : Nat → Int} {n L : Nat} (hX : kTx t n L) (hR : kRt S t n) {e : Nat} (he : S 30 23 = (e : Int)) (hen : e ≤ n) {p : Nat} (hpp : S 30 21 = (p : Int)) (hpe : p ≤ e) {q : Nat} (hls : S 30 22 = (q : Int)) (hqp : q ≤ p) (hda : kdash t e p = 0) {z : Nat} (hck : kck t e 0 p = (z : Int)) {S1 : Nat → Nat → Int} {v o : Nat} (hmk : kR 0 110 (blk 110 0) (kent 110 [.ref 30, .int (Int32.ofInt 5)]) [] (sz, hp m E (if kqu (kch t e p) = 1 then kqb S (kuq t e (kch t e p) (p + 1)) else S)) (fun r => r = (.inl (some (.int (Int32.ofInt (v : Int)))), (sz, hp m E S1)))) (hR1 : kRt S1 t n) (h21 : S1 30 21 = (p : Int)) (h23 : S1 30 23 = (e : Int)) (h29 : S1 30 29 = (o : Int)) (hol : o ≤ 8) (h19 : S1 30 19 = 0) {X3 : Nat → Nat → Int} (k133 : kR 4 133 (blk 133 0) (kent 133 [.ref 30, .int (Int32.ofInt (z : Int))]) [] (sz, hp m E (kbgm S1 2 v ((p : Int) - (q : Int)) o)) (fun r => r = (.inl none, (sz, hp m E X3)))) (hzn : z ≤ e) : kR 6 134 (blk 134 0) (kent 134 [.ref 30]) [] (sz, hp m E S) (fun r => r = (.inl none, (sz, hp m E X3))) := by
  have hx1 := hX.1
  show kR 6 134 b134_0 _ _ _ _
  refine kR.s rfl rfl ?_
  refine kR.gi (a := 30) (k := 21) (v := (p : Int)) (by omega) rfl rfl rfl (by decide) (by decide) rfl (by exact hpp) ?_
  refine kR.s rfl rfl ?_
  refine kR.gi (a := 30) (k := 22) (v := (q : Int)) (by omega) rfl rfl rfl (by decide) (by decide) rfl (by exact hls) ?_
  refine kR.sub ?_
  refine kR.s rfl rfl ?_
  refine kR.s rfl rfl ?_
  refine kR.cv (v := .int (Int32.ofInt (0))) (kargs_m hm (by decide) rfl) rfl (kR.up (hda ▸ c_130 hm hX hR he hen hpp (by omega)) (by decide)) ?_
  refine kR.zeq (by decide) (by decide) (fun q2 => ?_) (fun q2 => absurd q2 (by decide))
  show kR 6 134 b134_33 _ _ _ _
  refine kR.s rfl rfl ?_
  refine kR.cv (v := .int (Int32.ofInt ((z : Int)))) (kargs_m hm (by decide) rfl) rfl (kR.up (hck ▸ c_131 hm hX hR he hen hpp hpe) (by decide)) ?_
  refine kR.s rfl rfl ?_
  refine kR.s rfl rfl ?_
  refine kR.zlt (by omega) (by omega) (fun q4 => ?_) (fun q4 => ?_)
  · skip
    exfalso
    omega
  · skip
    refine kR.s rfl rfl ?_
    refine kR.s rfl rfl ?_
    refine kR.s rfl rfl ?_
    refine kR.s rfl rfl ?_
    refine kR.cv (v := .int (Int32.ofInt ((v : Int)))) (kargs_m hm (by decide) rfl) rfl (kR.up (hmk) (by decide)) ?_
    refine kR.s rfl rfl ?_
    refine kR.c0 (kargs_m hm (by decide) rfl) rfl (kR.up (c_112 (S := S1) hm (w := 2) (v := v) (z := (p : Int) - (q : Int)) h29 (by omega) hol h19) (by decide)) ?_
    refine kR.s rfl rfl ?_
    refine kR.gi (a := 30) (k := 19) (v := 0) (by omega) rfl rfl rfl (by decide) (by decide) rfl (by exact h19) ?_
    refine kR.zne (by decide) (by decide) (fun q7 => absurd q7 (by decide)) (fun q7 => ?_)
    refine kR.s rfl rfl ?_
    refine kR.s rfl rfl ?_
    refine kR.c0 (kargs_m hm (by decide) rfl) rfl (kR.up (k133) (by decide)) ?_
    refine kR.n ?_
    show kR 6 134 b134_65 _ _ _ _
    refine kR.ret rfl rfl ?_
    rfl
theorem c_134_row1 {m : Nat} {E : Nat → kC} {S : Nat → Nat → Int} {sz : Nat × Nat} (hm : 53 ≤ m ∧ m ≤ 57) {t : Nat → Int} {n L : Nat} (hX : kTx t n L) (hR : kRt S t n) {e : Nat} (he : S 30 23 = (e : Int)) (hen : e ≤ n) {p : Nat} (hpp : S 30 21 = (p : Int)) (hpe : p ≤ e) {q : Nat} (hls : S 30 22 = (q : Int)) (hqp : q ≤ p) (hda : kdash t e p = 1) {S1 : Nat → Nat → Int} {v o : Nat} (hmk : kR 0 110 (blk 110 0) (kent 110 [.ref 30, .int (Int32.ofInt 4)]) [] (sz, hp m E S) (fun r => r = (.inl (some (.int (Int32.ofInt (v : Int)))), (sz, hp m E S1)))) (hR1 : kRt S1 t n) (h21 : S1 30 21 = (p : Int)) (h23 : S1 30 23 = (e : Int)) (h29 : S1 30 29 = (o : Int)) (hol : o ≤ 8) (h19 : S1 30 19 = 1) : kR 6 134 (blk 134 0) (kent 134 [.ref 30]) [] (sz, hp m E S) (fun r => r = (.inl none, (sz, hp m E (ku (ku S1 30 21 ((kw (fun i => decide (t i = 32)) e (p + 1)) : Nat)) 30 20 1)))) := by
  have hx1 := hX.1
  show kR 6 134 b134_0 _ _ _ _
  refine kR.s rfl rfl ?_
  refine kR.gi (a := 30) (k := 21) (v := (p : Int)) (by omega) rfl rfl rfl (by decide) (by decide) rfl (by exact hpp) ?_
  refine kR.s rfl rfl ?_
  refine kR.gi (a := 30) (k := 22) (v := (q : Int)) (by omega) rfl rfl rfl (by decide) (by decide) rfl (by exact hls) ?_
  refine kR.sub ?_
  refine kR.s rfl rfl ?_
  refine kR.s rfl rfl ?_
  refine kR.cv (v := .int (Int32.ofInt (1))) (kargs_m hm (by decide) rfl) rfl (kR.up (hda ▸ c_130 hm hX hR he hen hpp (by omega)) (by decide)) ?_
  refine kR.zeq (by decide) (by decide) (fun q2 => absurd q2 (by decide)) (fun q2 => ?_)
  refine kR.s rfl rfl ?_
  refine kR.s rfl rfl ?_
  refine kR.s rfl rfl ?_
  refine kR.s rfl rfl ?_
  refine kR.cv (v := .int (Int32.ofInt ((v : Int)))) (kargs_m hm (by decide) rfl) rfl (kR.up (hmk) (by decide)) ?_
  refine kR.s rfl rfl ?_
  refine kR.c0 (kargs_m hm (by decide) rfl) rfl (kR.up (c_112b (S := S1) hm h19) (by decide)) ?_
  refine kR.s rfl rfl ?_
  refine kR.c0 (kargs_m hm (by decide) rfl) rfl (kR.up (c_132 (S := S1) hm hX hR1 h23 hen h21 (by omega)) (by decide)) ?_
  refine kR.ret rfl rfl ?_
  rfl
theorem c_134_tab1 {m : Nat} {E : Nat → kC} {S : Nat → Nat → Int} {sz : Nat × Nat} (hm : 53 ≤ m ∧ m ≤ 57) {t : Nat → Int} {n L : Nat} (hX : kTx t n L) (hR : kRt S t n) {e : Nat} (he : S 30 23 = (e : Int)) (hen : e ≤ n) {p : Nat} (hpp : S 30 21 = (p : Int)) (hpe : p ≤ e) {q : Nat} (hls : S 30 22 = (q : Int)) (hqp : q ≤ p) (hda : kdash t e p = 0) {z : Nat} (hck : kck t e 0 p = (z : Int)) {S1 : Nat → Nat → Int} {v o : Nat} (hmk : kR 0 110 (blk 110 0) (kent 110 [.ref 30, .int (Int32.ofInt 5)]) [] (sz, hp m E (if kqu (kch t e p) = 1 then kqb S (kuq t e (kch t e p) (p + 1)) else S)) (fun r => r = (.inl (some (.int (Int32.ofInt (v : Int)))), (sz, hp m E S1)))) (hR1 : kRt S1 t n) (h21 : S1 30 21 = (p : Int)) (h23 : S1 30 23 = (e : Int)) (h29 : S1 30 29 = (o : Int)) (hol : o ≤ 8) (h19 : S1 30 19 = 1) (hzn : z ≤ e) : kR 6 134 (blk 134 0) (kent 134 [.ref 30]) [] (sz, hp m E S) (fun r => r = (.inl none, (sz, hp m E S1))) := by
  have hx1 := hX.1
  show kR 6 134 b134_0 _ _ _ _
  refine kR.s rfl rfl ?_
  refine kR.gi (a := 30) (k := 21) (v := (p : Int)) (by omega) rfl rfl rfl (by decide) (by decide) rfl (by exact hpp) ?_
  refine kR.s rfl rfl ?_
  refine kR.gi (a := 30) (k := 22) (v := (q : Int)) (by omega) rfl rfl rfl (by decide) (by decide) rfl (by exact hls) ?_
  refine kR.sub ?_
  refine kR.s rfl rfl ?_
  refine kR.s rfl rfl ?_
  refine kR.cv (v := .int (Int32.ofInt (0))) (kargs_m hm (by decide) rfl) rfl (kR.up (hda ▸ c_130 hm hX hR he hen hpp (by omega)) (by decide)) ?_
  refine kR.zeq (by decide) (by decide) (fun q2 => ?_) (fun q2 => absurd q2 (by decide))
  show kR 6 134 b134_33 _ _ _ _
  refine kR.s rfl rfl ?_
  refine kR.cv (v := .int (Int32.ofInt ((z : Int)))) (kargs_m hm (by decide) rfl) rfl (kR.up (hck ▸ c_131 hm hX hR he hen hpp hpe) (by decide)) ?_
  refine kR.s rfl rfl ?_
  refine kR.s rfl rfl ?_
  refine kR.zlt (by omega) (by omega) (fun q4 => ?_) (fun q4 => ?_)
  · skip
    exfalso
    omega
  · skip
    refine kR.s rfl rfl ?_
    refine kR.s rfl rfl ?_
    refine kR.s rfl rfl ?_
    refine kR.s rfl rfl ?_
    refine kR.cv (v := .int (Int32.ofInt ((v : Int)))) (kargs_m hm (by decide) rfl) rfl (kR.up (hmk) (by decide)) ?_
    refine kR.s rfl rfl ?_
    refine kR.c0 (kargs_m hm (by decide) rfl) rfl (kR.up (c_112b (S := S1) hm h19) (by decide)) ?_
    refine kR.s rfl rfl ?_
    refine kR.gi (a := 30) (k := 19) (v := 1) (by omega) rfl rfl rfl (by decide) (by decide) rfl (by exact h19) ?_
    refine kR.zne (by decide) (by decide) (fun q7 => ?_) (fun q7 => absurd q7 (by decide))
    show kR 6 134 b134_65 _ _ _ _
    refine kR.ret rfl rfl ?_
    rfl
theorem c_134_val {m : Nat} {E : Nat → kC} {S : Nat → Nat → Int} {sz : Nat × Nat} (hm : 53 ≤ m ∧ m ≤ 57) {t : Nat → Int} {n L : Nat} (hX : kTx t n L) (hR : kRt S t n) {e : Nat} (he : S 30 23 = (e : Int)) (hen : e ≤ n) {p : Nat} (hpp : S 30 21 = (p : Int)) (hpe : p ≤ e) {q : Nat} (hls : S 30 22 = (q : Int)) (hqp : q ≤ p) (hda : kdash t e p = 0) (hck : kck t e 0 p = -1) : kR 6 134 (blk 134 0) (kent 134 [.ref 30]) [] (sz, hp m E S) (fun r => r = (.inl none, (sz, hp m E (ku (ku (if kqu (kch t e p) = 1 then kqb S (kuq t e (kch t e p) (p + 1)) else S) 30 28 1) 30 20 2)))) := by
  have hx1 := hX.1
  show kR 6 134 b134_0 _ _ _ _
  refine kR.s rfl rfl ?_
  refine kR.gi (a := 30) (k := 21) (v := (p : Int)) (by omega) rfl rfl rfl (by decide) (by decide) rfl (by exact hpp) ?_
  refine kR.s rfl rfl ?_
  refine kR.gi (a := 30) (k := 22) (v := (q : Int)) (by omega) rfl rfl rfl (by decide) (by decide) rfl (by exact hls) ?_
  refine kR.sub ?_
  refine kR.s rfl rfl ?_
  refine kR.s rfl rfl ?_
  refine kR.cv (v := .int (Int32.ofInt (0))) (kargs_m hm (by decide) rfl) rfl (kR.up (hda ▸ c_130 hm hX hR he hen hpp (by omega)) (by decide)) ?_
  refine kR.zeq (by decide) (by decide) (fun q2 => ?_) (fun q2 => absurd q2 (by decide))
  show kR 6 134 b134_33 _ _ _ _
  refine kR.s rfl rfl ?_
  refine kR.cv (v := .int (Int32.ofInt (-1))) (kargs_m hm (by decide) rfl) rfl (kR.up (hck ▸ c_131 hm hX hR he hen hpp hpe) (by decide)) ?_
  refine kR.s rfl rfl ?_
  refine kR.s rfl rfl ?_
  refine kR.zlt (by decide) (by decide) (fun q4 => ?_) (fun q4 => absurd q4 (by decide))
  show kR 6 134 b134_66 _ _ _ _
  refine kR.s rfl rfl ?_
  refine kR.s rfl rfl ?_
  refine kR.pi (a := 30) (k := 28) (by omega) rfl rfl rfl (by decide) (by decide) rfl (by first | rfl | assumption | simp [kfit, *]) ?_
  refine kR.s rfl rfl ?_
  refine kR.s rfl rfl ?_
  refine kR.pi (a := 30) (k := 20) (by omega) rfl rfl rfl (by decide) (by decide) rfl rfl ?_
  refine kR.ret rfl rfl ?_
  rfl
theorem l_136_next {m : Nat} {E : Nat → kC} {S : Nat → Nat → Int} {sz : Nat × Nat} (hm : 53 ≤ m ∧ m ≤ 57) {t : Nat → Int} {n L : Nat} (hX : kTx t n L) (hR : kRt S t n) {e : Nat} (he : S 30 23 = (e : Int)) (hen : e ≤ n) {p : Nat} (hpp : S 30 21 = (p : Int)) (hpe : p ≤ e) {cc : Int} (hcc : 0 ≤ cc ∧ cc ≤ 200) {v2 : Value} (hep : e ≤ p) {l : Nat} (hl : l ≤ L) (hle : S 30 24 + 1 = (klb t n l : Int)) {k : Nat} (hk : k = (kw (fun i => decide (¬ krb t n i < kre t n i ∨ t (krb t n i) = 35)) L l)) (hkL : k < L) (hdp : cc < (krb t n k : Int) - (klb t n k : Int)) : kR 5 136 (b136_0.drop 11) [.ref 30, .int (Int32.ofInt cc), v2] [] (sz, hp m E S) (fun r => r = (.inl none, (sz, hp m E (ku (kgom S t n k) 30 20 0)))) := by
  have hx1 := hX.1
  have hx4 := hX.2.2.2.2.1 k hkL
  have hx7 := hX.ln hkL
  show kR 5 136 [(17, 0, .aload_n 0), (18, 821, .getfield 106), (21, 0, .aload_n 0), (22, 823, .getfield 109), (25, 74, .if_icmp .lt (49)), (28, 0, .aload_n 0), (29, 106, .invokevirtual 232), (32, 0, .istore_n 2), (33, 0, .iload_n 2), (34, 64, .ifCond .lt (30)), (37, 0, .aload_n 0), (38, 0, .iload_n 2), (39, 0, .aload_n 0), (40, 0, .iload_n 2), (41, 105, .invokevirtual 95), (44, 104, .invokevirtual 99), (47, 0, .iload_n 1), (48, 64, .if_icmp .le (16)), (51, 0, .aload_n 0), (52, 0, .iload_n 2), (53, 107, .invokevirtual 235), (56, 0, .aload_n 0), (57, 0, .iconst 0), (58, 820, .putfield 134), (61, 73, .goto (12))] _ _ _ _
  refine kR.s rfl rfl ?_
  refine kR.gi (a := 30) (k := 21) (v := (p : Int)) (by omega) rfl rfl rfl (by decide) (by decide) rfl (by exact hpp) ?_
  refine kR.s rfl rfl ?_
  refine kR.gi (a := 30) (k := 23) (v := (e : Int)) (by omega) rfl rfl rfl (by decide) (by decide) rfl (by exact he) ?_
  refine kR.jlt (by omega) (by omega) (by omega) (by omega) (fun q1 => ?_) (fun q1 => ?_)
  · skip
    exfalso
    omega
  · skip
    refine kR.s rfl rfl ?_
    refine kR.cv (v := .int (Int32.ofInt ((klb t n k : Int)))) (kargs_m hm (by decide) rfl) rfl (kR.up ((by have z := c_106 (E := E) (sz := sz) hm hX hR hl hle; rw [← hk, if_pos hkL] at z; exact z)) (by decide)) ?_
    refine kR.s rfl rfl ?_
    refine kR.s rfl rfl ?_
    refine kR.zlt (by omega) (by omega) (fun q3 => ?_) (fun q3 => ?_)
    · skip
      exfalso
      omega
    · skip
      refine kR.s rfl rfl ?_
      refine kR.s rfl rfl ?_
      refine kR.s rfl rfl ?_
      refine kR.s rfl rfl ?_
      refine kR.cv (v := .int (Int32.ofInt ((kle t n k : Int)))) (kargs_m hm (by decide) rfl) rfl (kR.up (c_105t hm hX hR (a := klb t n k) (by omega)) (by decide)) ?_
      refine kR.cv (v := .int (Int32.ofInt ((krb t n k : Int) - (klb t n k : Int)))) (kargs_m hm (by decide) rfl) rfl (kR.up (c_104t hm hX hR (a := klb t n k) (g := kle t n k) (by omega) (by omega)) (by decide)) ?_
      refine kR.s rfl rfl ?_
      refine kR.jle (by omega) (by omega) (by omega) (by omega) (fun q6 => ?_) (fun q6 => ?_)
      · skip
        exfalso
        omega
      · skip
        refine kR.s rfl rfl ?_
        refine kR.s rfl rfl ?_
        refine kR.c0 (kargs_m hm (by decide) rfl) rfl (kR.up (c_107 hm hX hR hkL) (by decide)) ?_
        refine kR.s rfl rfl ?_
        refine kR.s rfl rfl ?_
        refine kR.pi (a := 30) (k := 20) (by omega) rfl rfl rfl (by decide) (by decide) rfl rfl ?_
        refine kR.g rfl ?_
        show kR 5 136 b136_73 _ _ _ _
        refine kR.ret rfl rfl ?_
        rfl
theorem l_136_not {m : Nat} {E : Nat → kC} {S : Nat → Nat → Int} {sz : Nat × Nat} (hm : 53 ≤ m ∧ m ≤ 57) {t : Nat → Int} {n L : Nat} (hX : kTx t n L) (hR : kRt S t n) {e : Nat} (he : S 30 23 = (e : Int)) (hen : e ≤ n) {p : Nat} (hpp : S 30 21 = (p : Int)) (hpe : p ≤ e) {cc : Int} (hcc : 0 ≤ cc ∧ cc ≤ 200) {v2 : Value} (hep : e ≤ p) {l : Nat} (hl : l ≤ L) (hle : S 30 24 + 1 = (klb t n l : Int)) {k : Nat} (hk : k = (kw (fun i => decide (¬ krb t n i < kre t n i ∨ t (krb t n i) = 35)) L l)) (hkL : k < L) (hdp : (krb t n k : Int) - (klb t n k : Int) ≤ cc) {S1 : Nat → Nat → Int} {v : Nat} (hmk : kR 0 110 (blk 110 0) (kent 110 [.ref 30, .int (Int32.ofInt 0)]) [] (sz, hp m E S) (fun r => r = (.inl (some (.int (Int32.ofInt (v : Int)))), (sz, hp m E S1)))) : kR 5 136 (b136_0.drop 11) [.ref 30, .int (Int32.ofInt cc), v2] [] (sz, hp m E S) (fun r => r = (.inl none, (sz, hp m E (ku (ku S1 30 27 (v : Int)) 30 20 4)))) := by
  have hx1 := hX.1
  have hx4 := hX.2.2.2.2.1 k hkL
  have hx7 := hX.ln hkL
  show kR 5 136 [(17, 0, .aload_n 0), (18, 821, .getfield 106), (21, 0, .aload_n 0), (22, 823, .getfield 109), (25, 74, .if_icmp .lt (49)), (28, 0, .aload_n 0), (29, 106, .invokevirtual 232), (32, 0, .istore_n 2), (33, 0, .iload_n 2), (34, 64, .ifCond .lt (30)), (37, 0, .aload_n 0), (38, 0, .iload_n 2), (39, 0, .aload_n 0), (40, 0, .iload_n 2), (41, 105, .invokevirtual 95), (44, 104, .invokevirtual 99), (47, 0, .iload_n 1), (48, 64, .if_icmp .le (16)), (51, 0, .aload_n 0), (52, 0, .iload_n 2), (53, 107, .invokevirtual 235), (56, 0, .aload_n 0), (57, 0, .iconst 0), (58, 820, .putfield 134), (61, 73, .goto (12))] _ _ _ _
  refine kR.s rfl rfl ?_
  refine kR.gi (a := 30) (k := 21) (v := (p : Int)) (by omega) rfl rfl rfl (by decide) (by decide) rfl (by exact hpp) ?_
  refine kR.s rfl rfl ?_
  refine kR.gi (a := 30) (k := 23) (v := (e : Int)) (by omega) rfl rfl rfl (by decide) (by decide) rfl (by exact he) ?_
  refine kR.jlt (by omega) (by omega) (by omega) (by omega) (fun q1 => ?_) (fun q1 => ?_)
  · skip
    exfalso
    omega
  · skip
    refine kR.s rfl rfl ?_
    refine kR.cv (v := .int (Int32.ofInt ((klb t n k : Int)))) (kargs_m hm (by decide) rfl) rfl (kR.up ((by have z := c_106 (E := E) (sz := sz) hm hX hR hl hle; rw [← hk, if_pos hkL] at z; exact z)) (by decide)) ?_
    refine kR.s rfl rfl ?_
    refine kR.s rfl rfl ?_
    refine kR.zlt (by omega) (by omega) (fun q3 => ?_) (fun q3 => ?_)
    · skip
      show kR 5 136 b136_64 _ _ _ _
      refine kR.s rfl rfl ?_
      refine kR.s rfl rfl ?_
      refine kR.s rfl rfl ?_
      refine kR.cv (v := .int (Int32.ofInt ((v : Int)))) (kargs_m hm (by decide) rfl) rfl (kR.up (hmk) (by decide)) ?_
      refine kR.c0 (kargs_m hm (by decide) rfl) rfl (kR.up (c_113 (S := S1) hm) (by decide)) ?_
      refine kR.n ?_
      show kR 5 136 b136_73 _ _ _ _
      refine kR.ret rfl rfl ?_
      rfl
    · skip
      refine kR.s rfl rfl ?_
      refine kR.s rfl rfl ?_
      refine kR.s rfl rfl ?_
      refine kR.s rfl rfl ?_
      refine kR.cv (v := .int (Int32.ofInt ((kle t n k : Int)))) (kargs_m hm (by decide) rfl) rfl (kR.up (c_105t hm hX hR (a := klb t n k) (by omega)) (by decide)) ?_
      refine kR.cv (v := .int (Int32.ofInt ((krb t n k : Int) - (klb t n k : Int)))) (kargs_m hm (by decide) rfl) rfl (kR.up (c_104t hm hX hR (a := klb t n k) (g := kle t n k) (by omega) (by omega)) (by decide)) ?_
      refine kR.s rfl rfl ?_
      refine kR.jle (by omega) (by omega) (by omega) (by omega) (fun q8 => ?_) (fun q8 => ?_)
      · skip
        show kR 5 136 b136_64 _ _ _ _
        refine kR.s rfl rfl ?_
        refine kR.s rfl rfl ?_
        refine kR.s rfl rfl ?_
        refine kR.cv (v := .int (Int32.ofInt ((v : Int)))) (kargs_m hm (by decide) rfl) rfl (kR.up (hmk) (by decide)) ?_
        refine kR.c0 (kargs_m hm (by decide) rfl) rfl (kR.up (c_113 (S := S1) hm) (by decide)) ?_
        refine kR.n ?_
        show kR 5 136 b136_73 _ _ _ _
        refine kR.ret rfl rfl ?_
        rfl
      · skip
        exfalso
        omega
theorem l_136_end {m : Nat} {E : Nat → kC} {S : Nat → Nat → Int} {sz : Nat × Nat} (hm : 53 ≤ m ∧ m ≤ 57) {t : Nat → Int} {n L : Nat} (hX : kTx t n L) (hR : kRt S t n) {e : Nat} (he : S 30 23 = (e : Int)) (hen : e ≤ n) {p : Nat} (hpp : S 30 21 = (p : Int)) (hpe : p ≤ e) {cc : Int} (hcc : 0 ≤ cc ∧ cc ≤ 200) {v2 : Value} (hep : e ≤ p) {l : Nat} (hl : l ≤ L) (hle : S 30 24 + 1 = (klb t n l : Int)) {k : Nat} (hk : k = (kw (fun i => decide (¬ krb t n i < kre t n i ∨ t (krb t n i) = 35)) L l)) (hkL : L ≤ k) {S1 : Nat → Nat → Int} {v : Nat} (hmk : kR 0 110 (blk 110 0) (kent 110 [.ref 30, .int (Int32.ofInt 0)]) [] (sz, hp m E S) (fun r => r = (.inl (some (.int (Int32.ofInt (v : Int)))), (sz, hp m E S1)))) : kR 5 136 (b136_0.drop 11) [.ref 30, .int (Int32.ofInt cc), v2] [] (sz, hp m E S) (fun r => r = (.inl none, (sz, hp m E (ku (ku S1 30 27 (v : Int)) 30 20 4)))) := by
  have hx1 := hX.1
  show kR 5 136 [(17, 0, .aload_n 0), (18, 821, .getfield 106), (21, 0, .aload_n 0), (22, 823, .getfield 109), (25, 74, .if_icmp .lt (49)), (28, 0, .aload_n 0), (29, 106, .invokevirtual 232), (32, 0, .istore_n 2), (33, 0, .iload_n 2), (34, 64, .ifCond .lt (30)), (37, 0, .aload_n 0), (38, 0, .iload_n 2), (39, 0, .aload_n 0), (40, 0, .iload_n 2), (41, 105, .invokevirtual 95), (44, 104, .invokevirtual 99), (47, 0, .iload_n 1), (48, 64, .if_icmp .le (16)), (51, 0, .aload_n 0), (52, 0, .iload_n 2), (53, 107, .invokevirtual 235), (56, 0, .aload_n 0), (57, 0, .iconst 0), (58, 820, .putfield 134), (61, 73, .goto (12))] _ _ _ _
  refine kR.s rfl rfl ?_
  refine kR.gi (a := 30) (k := 21) (v := (p : Int)) (by omega) rfl rfl rfl (by decide) (by decide) rfl (by exact hpp) ?_
  refine kR.s rfl rfl ?_
  refine kR.gi (a := 30) (k := 23) (v := (e : Int)) (by omega) rfl rfl rfl (by decide) (by decide) rfl (by exact he) ?_
  refine kR.jlt (by omega) (by omega) (by omega) (by omega) (fun q1 => ?_) (fun q1 => ?_)
  · skip
    exfalso
    omega
  · skip
    refine kR.s rfl rfl ?_
    refine kR.cv (v := .int (Int32.ofInt (-1))) (kargs_m hm (by decide) rfl) rfl (kR.up ((by have z := c_106 (E := E) (sz := sz) hm hX hR hl hle; rw [← hk, if_neg (by omega)] at z; exact z)) (by decide)) ?_
    refine kR.s rfl rfl ?_
    refine kR.s rfl rfl ?_
    refine kR.zlt (by decide) (by decide) (fun q3 => ?_) (fun q3 => absurd q3 (by decide))
    show kR 5 136 b136_64 _ _ _ _
    refine kR.s rfl rfl ?_
    refine kR.s rfl rfl ?_
    refine kR.s rfl rfl ?_
    refine kR.cv (v := .int (Int32.ofInt ((v : Int)))) (kargs_m hm (by decide) rfl) rfl (kR.up (hmk) (by decide)) ?_
    refine kR.c0 (kargs_m hm (by decide) rfl) rfl (kR.up (c_113 (S := S1) hm) (by decide)) ?_
    refine kR.n ?_
    show kR 5 136 b136_73 _ _ _ _
    refine kR.ret rfl rfl ?_
    rfl
theorem l_136_bar1 {m : Nat} {E : Nat → kC} {S : Nat → Nat → Int} {sz : Nat × Nat} (hm : 53 ≤ m ∧ m ≤ 57) {t : Nat → Int} {n L : Nat} (hX : kTx t n L) (hR : kRt S t n) {e : Nat} (he : S 30 23 = (e : Int)) (hen : e ≤ n) {p : Nat} (hpp : S 30 21 = (p : Int)) (hpe : p ≤ e) {cc : Int} (hcc : 0 ≤ cc ∧ cc ≤ 200) {v2 : Value} (hep : p < e) (hbar : kch t e p = 124) (hbr : p + 1 = e) {X3 : Nat → Nat → Int} (k135 : kR 4 135 (blk 135 0) (kent 135 [.ref 30, .int (Int32.ofInt 1)]) [] (sz, hp m E S) (fun r => r = (.inl none, (sz, hp m E X3)))) : kR 5 136 (b136_0.drop 11) [.ref 30, .int (Int32.ofInt cc), v2] [] (sz, hp m E S) (fun r => r = (.inl none, (sz, hp m E X3))) := by
  have hx1 := hX.1
  have hb1 := khr_c (t := t) (e := e) (p := p) 124 (by decide) (by decide)
  have hb2 := khr_c (t := t) (e := e) (p := p + 1) 45 (by decide) (by decide)
  show kR 5 136 [(17, 0, .aload_n 0), (18, 821, .getfield 106), (21, 0, .aload_n 0), (22, 823, .getfield 109), (25, 74, .if_icmp .lt (49)), (28, 0, .aload_n 0), (29, 106, .invokevirtual 232), (32, 0, .istore_n 2), (33, 0, .iload_n 2), (34, 64, .ifCond .lt (30)), (37, 0, .aload_n 0), (38, 0, .iload_n 2), (39, 0, .aload_n 0), (40, 0, .iload_n 2), (41, 105, .invokevirtual 95), (44, 104, .invokevirtual 99), (47, 0, .iload_n 1), (48, 64, .if_icmp .le (16)), (51, 0, .aload_n 0), (52, 0, .iload_n 2), (53, 107, .invokevirtual 235), (56, 0, .aload_n 0), (57, 0, .iconst 0), (58, 820, .putfield 134), (61, 73, .goto (12))] _ _ _ _
  refine kR.s rfl rfl ?_
  refine kR.gi (a := 30) (k := 21) (v := (p : Int)) (by omega) rfl rfl rfl (by decide) (by decide) rfl (by exact hpp) ?_
  refine kR.s rfl rfl ?_
  refine kR.gi (a := 30) (k := 23) (v := (e : Int)) (by omega) rfl rfl rfl (by decide) (by decide) rfl (by exact he) ?_
  refine kR.jlt (by omega) (by omega) (by omega) (by omega) (fun q1 => ?_) (fun q1 => ?_)
  · skip
    show kR 5 136 b136_74 _ _ _ _
    refine kR.s rfl rfl ?_
    refine kR.s rfl rfl ?_
    refine kR.gi (a := 30) (k := 21) (v := (p : Int)) (by omega) rfl rfl rfl (by decide) (by decide) rfl (by exact hpp) ?_
    have f2_0 := khr_r hX hen p
    refine kR.cv (v := .int (Int32.ofInt (khr t e p))) (kargs_m hm (by decide) rfl) rfl (kR.up (c_108t hm hX hR he hen (k := p) (by omega)) (by decide)) ?_
    refine kR.bi rfl ?_
    refine kR.jne (by omega) (by omega) (by omega) (by omega) (fun q3 => ?_) (fun q3 => ?_)
    · skip
      show kR 5 136 b136_91 _ _ _ _
      refine kR.s rfl rfl ?_
      refine kR.n ?_
      show kR 5 136 b136_92 _ _ _ _
      refine kR.s rfl rfl ?_
      refine kR.s rfl rfl ?_
      refine kR.zeq (by decide) (by decide) (fun q4 => ?_) (fun q4 => absurd q4 (by decide))
      exfalso
      omega
    · skip
      refine kR.s rfl rfl ?_
      refine kR.g rfl ?_
      show kR 5 136 b136_92 _ _ _ _
      refine kR.s rfl rfl ?_
      refine kR.s rfl rfl ?_
      refine kR.zeq (by decide) (by decide) (fun q5 => absurd q5 (by decide)) (fun q5 => ?_)
      refine kR.s rfl rfl ?_
      refine kR.gi (a := 30) (k := 21) (v := (p : Int)) (by omega) rfl rfl rfl (by decide) (by decide) rfl (by exact hpp) ?_
      refine kR.s rfl rfl ?_
      refine kR.add ?_
      refine kR.s rfl rfl ?_
      refine kR.gi (a := 30) (k := 23) (v := (e : Int)) (by omega) rfl rfl rfl (by decide) (by decide) rfl (by exact he) ?_
      refine kR.jeq (by omega) (by omega) (by omega) (by omega) (fun q6 => ?_) (fun q6 => ?_)
      · skip
        show kR 5 136 b136_138 _ _ _ _
        refine kR.s rfl rfl ?_
        refine kR.s rfl rfl ?_
        refine kR.gi (a := 30) (k := 21) (v := (p : Int)) (by omega) rfl rfl rfl (by decide) (by decide) rfl (by exact hpp) ?_
        refine kR.s rfl rfl ?_
        refine kR.add ?_
        refine kR.s rfl rfl ?_
        refine kR.gi (a := 30) (k := 23) (v := (e : Int)) (by omega) rfl rfl rfl (by decide) (by decide) rfl (by exact he) ?_
        refine kR.jne (by omega) (by omega) (by omega) (by omega) (fun q7 => ?_) (fun q7 => ?_)
        · skip
          exfalso
          omega
        · skip
          refine kR.s rfl rfl ?_
          refine kR.g rfl ?_
          show kR 5 136 b136_157 _ _ _ _
          refine kR.c0 (kargs_m hm (by decide) rfl) rfl (kR.up (k135) (by decide)) ?_
          refine kR.ret rfl rfl ?_
          first | rfl | (exfalso; omega)
      · skip
        refine kR.s rfl rfl ?_
        refine kR.s rfl rfl ?_
        refine kR.gi (a := 30) (k := 21) (v := (p : Int)) (by omega) rfl rfl rfl (by decide) (by decide) rfl (by exact hpp) ?_
        refine kR.s rfl rfl ?_
        refine kR.add ?_
        have f9_0 := khr_r hX hen (p + 1)
        refine kR.cv (v := .int (Int32.ofInt (khr t e (p + 1)))) (kargs_m hm (by decide) rfl) rfl (kR.up (c_108t hm hX hR he hen (k := (p + 1)) (by omega)) (by decide)) ?_
        refine kR.bi rfl ?_
        refine kR.jne (by omega) (by omega) (by omega) (by omega) (fun q10 => ?_) (fun q10 => ?_)
        · skip
          exfalso
          omega
        · skip
          refine kR.s rfl rfl ?_
          refine kR.gi (a := 30) (k := 21) (v := (p : Int)) (by omega) rfl rfl rfl (by decide) (by decide) rfl (by exact hpp) ?_
          refine kR.s rfl rfl ?_
          refine kR.add ?_
          refine kR.s rfl rfl ?_
          refine kR.gi (a := 30) (k := 23) (v := (e : Int)) (by omega) rfl rfl rfl (by decide) (by decide) rfl (by exact he) ?_
          refine kR.jne (by omega) (by omega) (by omega) (by omega) (fun q11 => ?_) (fun q11 => ?_)
          · skip
            exfalso
            omega
          · skip
            refine kR.n ?_
            show kR 5 136 b136_138 _ _ _ _
            refine kR.s rfl rfl ?_
            refine kR.s rfl rfl ?_
            refine kR.gi (a := 30) (k := 21) (v := (p : Int)) (by omega) rfl rfl rfl (by decide) (by decide) rfl (by exact hpp) ?_
            refine kR.s rfl rfl ?_
            refine kR.add ?_
            refine kR.s rfl rfl ?_
            refine kR.gi (a := 30) (k := 23) (v := (e : Int)) (by omega) rfl rfl rfl (by decide) (by decide) rfl (by exact he) ?_
            refine kR.jne (by omega) (by omega) (by omega) (by omega) (fun q12 => ?_) (fun q12 => ?_)
            · skip
              exfalso
              omega
            · skip
              refine kR.s rfl rfl ?_
              refine kR.g rfl ?_
              show kR 5 136 b136_157 _ _ _ _
              refine kR.c0 (kargs_m hm (by decide) rfl) rfl (kR.up (k135) (by decide)) ?_
              refine kR.ret rfl rfl ?_
              first | rfl | (exfalso; omega)
  · skip
    exfalso
    omega
theorem l_136_bar0 {m : Nat} {E : Nat → kC} {S : Nat → Nat → Int} {sz : Nat × Nat} (hm : 53 ≤ m ∧ m ≤ 57) {t : Nat → Int} {n L : Nat} (hX : kTx t n L) (hR : kRt S t n) {e : Nat} (he : S 30 23 = (e : Int)) (hen : e ≤ n) {p : Nat} (hpp : S 30 21 = (p : Int)) (hpe : p ≤ e) {cc : Int} (hcc : 0 ≤ cc ∧ cc ≤ 200) {v2 : Value} (hep : p < e) (hbar : kch t e p = 124) (hbr : ¬ p + 1 = e ∧ kch t e (p + 1) = 45 ∧ p + 2 = e) {X3 : Nat → Nat → Int} (k135 : kR 4 135 (blk 135 0) (kent 135 [.ref 30, .int (Int32.ofInt 0)]) [] (sz, hp m E S) (fun r => r = (.inl none, (sz, hp m E X3)))) : kR 5 136 (b136_0.drop 11) [.ref 30, .int (Int32.ofInt cc), v2] [] (sz, hp m E S) (fun r => r = (.inl none, (sz, hp m E X3))) := by
  have hx1 := hX.1
  have hb1 := khr_c (t := t) (e := e) (p := p) 124 (by decide) (by decide)
  have hb2 := khr_c (t := t) (e := e) (p := p + 1) 45 (by decide) (by decide)
  show kR 5 136 [(17, 0, .aload_n 0), (18, 821, .getfield 106), (21, 0, .aload_n 0), (22, 823, .getfield 109), (25, 74, .if_icmp .lt (49)), (28, 0, .aload_n 0), (29, 106, .invokevirtual 232), (32, 0, .istore_n 2), (33, 0, .iload_n 2), (34, 64, .ifCond .lt (30)), (37, 0, .aload_n 0), (38, 0, .iload_n 2), (39, 0, .aload_n 0), (40, 0, .iload_n 2), (41, 105, .invokevirtual 95), (44, 104, .invokevirtual 99), (47, 0, .iload_n 1), (48, 64, .if_icmp .le (16)), (51, 0, .aload_n 0), (52, 0, .iload_n 2), (53, 107, .invokevirtual 235), (56, 0, .aload_n 0), (57, 0, .iconst 0), (58, 820, .putfield 134), (61, 73, .goto (12))] _ _ _ _
  refine kR.s rfl rfl ?_
  refine kR.gi (a := 30) (k := 21) (v := (p : Int)) (by omega) rfl rfl rfl (by decide) (by decide) rfl (by exact hpp) ?_
  refine kR.s rfl rfl ?_
  refine kR.gi (a := 30) (k := 23) (v := (e : Int)) (by omega) rfl rfl rfl (by decide) (by decide) rfl (by exact he) ?_
  refine kR.jlt (by omega) (by omega) (by omega) (by omega) (fun q1 => ?_) (fun q1 => ?_)
  · skip
    show kR 5 136 b136_74 _ _ _ _
    refine kR.s rfl rfl ?_
    refine kR.s rfl rfl ?_
    refine kR.gi (a := 30) (k := 21) (v := (p : Int)) (by omega) rfl rfl rfl (by decide) (by decide) rfl (by exact hpp) ?_
    have f2_0 := khr_r hX hen p
    refine kR.cv (v := .int (Int32.ofInt (khr t e p))) (kargs_m hm (by decide) rfl) rfl (kR.up (c_108t hm hX hR he hen (k := p) (by omega)) (by decide)) ?_
    refine kR.bi rfl ?_
    refine kR.jne (by omega) (by omega) (by omega) (by omega) (fun q3 => ?_) (fun q3 => ?_)
    · skip
      show kR 5 136 b136_91 _ _ _ _
      refine kR.s rfl rfl ?_
      refine kR.n ?_
      show kR 5 136 b136_92 _ _ _ _
      refine kR.s rfl rfl ?_
      refine kR.s rfl rfl ?_
      refine kR.zeq (by decide) (by decide) (fun q4 => ?_) (fun q4 => absurd q4 (by decide))
      exfalso
      omega
    · skip
      refine kR.s rfl rfl ?_
      refine kR.g rfl ?_
      show kR 5 136 b136_92 _ _ _ _
      refine kR.s rfl rfl ?_
      refine kR.s rfl rfl ?_
      refine kR.zeq (by decide) (by decide) (fun q5 => absurd q5 (by decide)) (fun q5 => ?_)
      refine kR.s rfl rfl ?_
      refine kR.gi (a := 30) (k := 21) (v := (p : Int)) (by omega) rfl rfl rfl (by decide) (by decide) rfl (by exact hpp) ?_
      refine kR.s rfl rfl ?_
      refine kR.add ?_
      refine kR.s rfl rfl ?_
      refine kR.gi (a := 30) (k := 23) (v := (e : Int)) (by omega) rfl rfl rfl (by decide) (by decide) rfl (by exact he) ?_
      refine kR.jeq (by omega) (by omega) (by omega) (by omega) (fun q6 => ?_) (fun q6 => ?_)
      · skip
        show kR 5 136 b136_138 _ _ _ _
        refine kR.s rfl rfl ?_
        refine kR.s rfl rfl ?_
        refine kR.gi (a := 30) (k := 21) (v := (p : Int)) (by omega) rfl rfl rfl (by decide) (by decide) rfl (by exact hpp) ?_
        refine kR.s rfl rfl ?_
        refine kR.add ?_
        refine kR.s rfl rfl ?_
        refine kR.gi (a := 30) (k := 23) (v := (e : Int)) (by omega) rfl rfl rfl (by decide) (by decide) rfl (by exact he) ?_
        refine kR.jne (by omega) (by omega) (by omega) (by omega) (fun q7 => ?_) (fun q7 => ?_)
        · skip
          show kR 5 136 b136_156 _ _ _ _
          refine kR.s rfl rfl ?_
          refine kR.n ?_
          show kR 5 136 b136_157 _ _ _ _
          refine kR.c0 (kargs_m hm (by decide) rfl) rfl (kR.up (k135) (by decide)) ?_
          refine kR.ret rfl rfl ?_
          first | rfl | (exfalso; omega)
        · skip
          exfalso
          omega
      · skip
        refine kR.s rfl rfl ?_
        refine kR.s rfl rfl ?_
        refine kR.gi (a := 30) (k := 21) (v := (p : Int)) (by omega) rfl rfl rfl (by decide) (by decide) rfl (by exact hpp) ?_
        refine kR.s rfl rfl ?_
        refine kR.add ?_
        have f9_0 := khr_r hX hen (p + 1)
        refine kR.cv (v := .int (Int32.ofInt (khr t e (p + 1)))) (kargs_m hm (by decide) rfl) rfl (kR.up (c_108t hm hX hR he hen (k := (p + 1)) (by omega)) (by decide)) ?_
        refine kR.bi rfl ?_
        refine kR.jne (by omega) (by omega) (by omega) (by omega) (fun q10 => ?_) (fun q10 => ?_)
        · skip
          exfalso
          omega
        · skip
          refine kR.s rfl rfl ?_
          refine kR.gi (a := 30) (k := 21) (v := (p : Int)) (by omega) rfl rfl rfl (by decide) (by decide) rfl (by exact hpp) ?_
          refine kR.s rfl rfl ?_
          refine kR.add ?_
          refine kR.s rfl rfl ?_
          refine kR.gi (a := 30) (k := 23) (v := (e : Int)) (by omega) rfl rfl rfl (by decide) (by decide) rfl (by exact he) ?_
          refine kR.jne (by omega) (by omega) (by omega) (by omega) (fun q11 => ?_) (fun q11 => ?_)
          · skip
            exfalso
            omega
          · skip
            refine kR.n ?_
            show kR 5 136 b136_138 _ _ _ _
            refine kR.s rfl rfl ?_
            refine kR.s rfl rfl ?_
            refine kR.gi (a := 30) (k := 21) (v := (p : Int)) (by omega) rfl rfl rfl (by decide) (by decide) rfl (by exact hpp) ?_
            refine kR.s rfl rfl ?_
            refine kR.add ?_
            refine kR.s rfl rfl ?_
            refine kR.gi (a := 30) (k := 23) (v := (e : Int)) (by omega) rfl rfl rfl (by decide) (by decide) rfl (by exact he) ?_
            refine kR.jne (by omega) (by omega) (by omega) (by omega) (fun q12 => ?_) (fun q12 => ?_)
            · skip
              show kR 5 136 b136_156 _ _ _ _
              refine kR.s rfl rfl ?_
              refine kR.n ?_
              show kR 5 136 b136_157 _ _ _ _
              refine kR.c0 (kargs_m hm (by decide) rfl) rfl (kR.up (k135) (by decide)) ?_
              refine kR.ret rfl rfl ?_
              first | rfl | (exfalso; omega)
            · skip
              exfalso
              omega
  · skip
    exfalso
    omega
theorem l_136_valt {m : Nat} {E : Nat → kC} {S : Nat → Nat → Int} {sz : Nat × Nat} (hm : 53 ≤ m ∧ m ≤ 57) {t : Nat → Int} {n L : Nat} (hX : kTx t n L) (hR : kRt S t n) {e : Nat} (he : S 30 23 = (e : Int)) (hen : e ≤ n) {p : Nat} (hpp : S 30 21 = (p : Int)) (hpe : p ≤ e) {cc : Int} (hcc : 0 ≤ cc ∧ cc ≤ 200) {v2 : Value} (hep : p < e) (hnb : ¬ (kch t e p = 124 ∧ (p + 1 = e ∨ kch t e (p + 1) = 45 ∧ p + 2 = e))) {o : Nat} (ho : S 30 29 = (o : Int)) (hol : 1 ≤ o ∧ o ≤ 8) (hwh : S 43 (o - 1) = 2) : kR 5 136 (b136_0.drop 11) [.ref 30, .int (Int32.ofInt cc), v2] [] (sz, hp m E S) (fun r => r = (.inl none, (sz, hp m E (ku (ku S 30 28 1) 30 20 2)))) := by
  have hx1 := hX.1
  have hb1 := khr_c (t := t) (e := e) (p := p) 124 (by decide) (by decide)
  have hb2 := khr_c (t := t) (e := e) (p := p + 1) 45 (by decide) (by decide)
  have ho1 : (o : Int) - 1 = ((o - 1 : Nat) : Int) := by omega
  show kR 5 136 [(17, 0, .aload_n 0), (18, 821, .getfield 106), (21, 0, .aload_n 0), (22, 823, .getfield 109), (25, 74, .if_icmp .lt (49)), (28, 0, .aload_n 0), (29, 106, .invokevirtual 232), (32, 0, .istore_n 2), (33, 0, .iload_n 2), (34, 64, .ifCond .lt (30)), (37, 0, .aload_n 0), (38, 0, .iload_n 2), (39, 0, .aload_n 0), (40, 0, .iload_n 2), (41, 105, .invokevirtual 95), (44, 104, .invokevirtual 99), (47, 0, .iload_n 1), (48, 64, .if_icmp .le (16)), (51, 0, .aload_n 0), (52, 0, .iload_n 2), (53, 107, .invokevirtual 235), (56, 0, .aload_n 0), (57, 0, .iconst 0), (58, 820, .putfield 134), (61, 73, .goto (12))] _ _ _ _
  refine kR.s rfl rfl ?_
  refine kR.gi (a := 30) (k := 21) (v := (p : Int)) (by omega) rfl rfl rfl (by decide) (by decide) rfl (by exact hpp) ?_
  refine kR.s rfl rfl ?_
  refine kR.gi (a := 30) (k := 23) (v := (e : Int)) (by omega) rfl rfl rfl (by decide) (by decide) rfl (by exact he) ?_
  refine kR.jlt (by omega) (by omega) (by omega) (by omega) (fun q1 => ?_) (fun q1 => ?_)
  · skip
    show kR 5 136 b136_74 _ _ _ _
    refine kR.s rfl rfl ?_
    refine kR.s rfl rfl ?_
    refine kR.gi (a := 30) (k := 21) (v := (p : Int)) (by omega) rfl rfl rfl (by decide) (by decide) rfl (by exact hpp) ?_
    have f2_0 := khr_r hX hen p
    refine kR.cv (v := .int (Int32.ofInt (khr t e p))) (kargs_m hm (by decide) rfl) rfl (kR.up (c_108t hm hX hR he hen (k := p) (by omega)) (by decide)) ?_
    refine kR.bi rfl ?_
    refine kR.jne (by omega) (by omega) (by omega) (by omega) (fun q3 => ?_) (fun q3 => ?_)
    · skip
      show kR 5 136 b136_91 _ _ _ _
      refine kR.s rfl rfl ?_
      refine kR.n ?_
      show kR 5 136 b136_92 _ _ _ _
      refine kR.s rfl rfl ?_
      refine kR.s rfl rfl ?_
      refine kR.zeq (by decide) (by decide) (fun q4 => ?_) (fun q4 => absurd q4 (by decide))
      show kR 5 136 b136_161 _ _ _ _
      refine kR.s rfl rfl ?_
      refine kR.s rfl rfl ?_
      refine kR.gr (a := 30) (b := 43) (k := 30) (by omega) rfl rfl rfl (by decide) (by decide) rfl ?_
      refine kR.s rfl rfl ?_
      refine kR.gi (a := 30) (k := 29) (v := (o : Int)) (by omega) rfl rfl rfl (by decide) (by decide) rfl (by exact ho) ?_
      refine kR.s rfl rfl ?_
      refine kR.sub ?_
      rw [ho1]
      refine kR.ia (a := 43) (v := 2) (by omega) rfl (by decide) (by omega) (by omega) (by exact hwh) ?_
      refine kR.s rfl rfl ?_
      refine kR.jne (by decide) (by decide) (by decide) (by decide) (fun q5 => absurd q5 (by decide)) (fun q5 => ?_)
      refine kR.s rfl rfl ?_
      refine kR.g rfl ?_
      show kR 5 136 b136_182 _ _ _ _
      refine kR.pi (a := 30) (k := 28) (by omega) rfl rfl rfl (by decide) (by decide) rfl (by first | rfl | assumption | simp [kfit, *]) ?_
      refine kR.s rfl rfl ?_
      refine kR.s rfl rfl ?_
      refine kR.gi (a := 30) (k := 28) (v := 1) (by omega) rfl rfl rfl (by decide) (by decide) rfl (by rfl) ?_
      refine kR.zeq (by decide) (by decide) (fun q6 => absurd q6 (by decide)) (fun q6 => ?_)
      refine kR.s rfl rfl ?_
      refine kR.g rfl ?_
      show kR 5 136 b136_198 _ _ _ _
      refine kR.pi (a := 30) (k := 20) (by omega) rfl rfl rfl (by decide) (by decide) rfl rfl ?_
      refine kR.ret rfl rfl ?_
      first | rfl | (exfalso; omega)
    · skip
      refine kR.s rfl rfl ?_
      refine kR.g rfl ?_
      show kR 5 136 b136_92 _ _ _ _
      refine kR.s rfl rfl ?_
      refine kR.s rfl rfl ?_
      refine kR.zeq (by decide) (by decide) (fun q7 => absurd q7 (by decide)) (fun q7 => ?_)
      refine kR.s rfl rfl ?_
      refine kR.gi (a := 30) (k := 21) (v := (p : Int)) (by omega) rfl rfl rfl (by decide) (by decide) rfl (by exact hpp) ?_
      refine kR.s rfl rfl ?_
      refine kR.add ?_
      refine kR.s rfl rfl ?_
      refine kR.gi (a := 30) (k := 23) (v := (e : Int)) (by omega) rfl rfl rfl (by decide) (by decide) rfl (by exact he) ?_
      refine kR.jeq (by omega) (by omega) (by omega) (by omega) (fun q8 => ?_) (fun q8 => ?_)
      · skip
        exfalso
        omega
      · skip
        refine kR.s rfl rfl ?_
        refine kR.s rfl rfl ?_
        refine kR.gi (a := 30) (k := 21) (v := (p : Int)) (by omega) rfl rfl rfl (by decide) (by decide) rfl (by exact hpp) ?_
        refine kR.s rfl rfl ?_
        refine kR.add ?_
        have f9_0 := khr_r hX hen (p + 1)
        refine kR.cv (v := .int (Int32.ofInt (khr t e (p + 1)))) (kargs_m hm (by decide) rfl) rfl (kR.up (c_108t hm hX hR he hen (k := (p + 1)) (by omega)) (by decide)) ?_
        refine kR.bi rfl ?_
        refine kR.jne (by omega) (by omega) (by omega) (by omega) (fun q10 => ?_) (fun q10 => ?_)
        · skip
          show kR 5 136 b136_161 _ _ _ _
          refine kR.s rfl rfl ?_
          refine kR.s rfl rfl ?_
          refine kR.gr (a := 30) (b := 43) (k := 30) (by omega) rfl rfl rfl (by decide) (by decide) rfl ?_
          refine kR.s rfl rfl ?_
          refine kR.gi (a := 30) (k := 29) (v := (o : Int)) (by omega) rfl rfl rfl (by decide) (by decide) rfl (by exact ho) ?_
          refine kR.s rfl rfl ?_
          refine kR.sub ?_
          rw [ho1]
          refine kR.ia (a := 43) (v := 2) (by omega) rfl (by decide) (by omega) (by omega) (by exact hwh) ?_
          refine kR.s rfl rfl ?_
          refine kR.jne (by decide) (by decide) (by decide) (by decide) (fun q11 => absurd q11 (by decide)) (fun q11 => ?_)
          refine kR.s rfl rfl ?_
          refine kR.g rfl ?_
          show kR 5 136 b136_182 _ _ _ _
          refine kR.pi (a := 30) (k := 28) (by omega) rfl rfl rfl (by decide) (by decide) rfl (by first | rfl | assumption | simp [kfit, *]) ?_
          refine kR.s rfl rfl ?_
          refine kR.s rfl rfl ?_
          refine kR.gi (a := 30) (k := 28) (v := 1) (by omega) rfl rfl rfl (by decide) (by decide) rfl (by rfl) ?_
          refine kR.zeq (by decide) (by decide) (fun q12 => absurd q12 (by decide)) (fun q12 => ?_)
          refine kR.s rfl rfl ?_
          refine kR.g rfl ?_
          show kR 5 136 b136_198 _ _ _ _
          refine kR.pi (a := 30) (k := 20) (by omega) rfl rfl rfl (by decide) (by decide) rfl rfl ?_
          refine kR.ret rfl rfl ?_
          first | rfl | (exfalso; omega)
        · skip
          refine kR.s rfl rfl ?_
          refine kR.gi (a := 30) (k := 21) (v := (p : Int)) (by omega) rfl rfl rfl (by decide) (by decide) rfl (by exact hpp) ?_
          refine kR.s rfl rfl ?_
          refine kR.add ?_
          refine kR.s rfl rfl ?_
          refine kR.gi (a := 30) (k := 23) (v := (e : Int)) (by omega) rfl rfl rfl (by decide) (by decide) rfl (by exact he) ?_
          refine kR.jne (by omega) (by omega) (by omega) (by omega) (fun q13 => ?_) (fun q13 => ?_)
          · skip
            show kR 5 136 b136_161 _ _ _ _
            refine kR.s rfl rfl ?_
            refine kR.s rfl rfl ?_
            refine kR.gr (a := 30) (b := 43) (k := 30) (by omega) rfl rfl rfl (by decide) (by decide) rfl ?_
            refine kR.s rfl rfl ?_
            refine kR.gi (a := 30) (k := 29) (v := (o : Int)) (by omega) rfl rfl rfl (by decide) (by decide) rfl (by exact ho) ?_
            refine kR.s rfl rfl ?_
            refine kR.sub ?_
            rw [ho1]
            refine kR.ia (a := 43) (v := 2) (by omega) rfl (by decide) (by omega) (by omega) (by exact hwh) ?_
            refine kR.s rfl rfl ?_
            refine kR.jne (by decide) (by decide) (by decide) (by decide) (fun q14 => absurd q14 (by decide)) (fun q14 => ?_)
            refine kR.s rfl rfl ?_
            refine kR.g rfl ?_
            show kR 5 136 b136_182 _ _ _ _
            refine kR.pi (a := 30) (k := 28) (by omega) rfl rfl rfl (by decide) (by decide) rfl (by first | rfl | assumption | simp [kfit, *]) ?_
            refine kR.s rfl rfl ?_
            refine kR.s rfl rfl ?_
            refine kR.gi (a := 30) (k := 28) (v := 1) (by omega) rfl rfl rfl (by decide) (by decide) rfl (by rfl) ?_
            refine kR.zeq (by decide) (by decide) (fun q15 => absurd q15 (by decide)) (fun q15 => ?_)
            refine kR.s rfl rfl ?_
            refine kR.g rfl ?_
            show kR 5 136 b136_198 _ _ _ _
            refine kR.pi (a := 30) (k := 20) (by omega) rfl rfl rfl (by decide) (by decide) rfl rfl ?_
            refine kR.ret rfl rfl ?_
            first | rfl | (exfalso; omega)
          · skip
            refine kR.n ?_
            exfalso
            omega
  · skip
    exfalso
    omega
theorem l_136_valr {m : Nat} {E : Nat → kC} {S : Nat → Nat → Int} {sz : Nat × Nat} (hm : 53 ≤ m ∧ m ≤ 57) {t : Nat → Int} {n L : Nat} (hX : kTx t n L) (hR : kRt S t n) {e : Nat} (he : S 30 23 = (e : Int)) (hen : e ≤ n) {p : Nat} (hpp : S 30 21 = (p : Int)) (hpe : p ≤ e) {cc : Int} (hcc : 0 ≤ cc ∧ cc ≤ 200) {v2 : Value} (hep : p < e) (hnb : ¬ (kch t e p = 124 ∧ (p + 1 = e ∨ kch t e (p + 1) = 45 ∧ p + 2 = e))) {o : Nat} (ho : S 30 29 = (o : Int)) (hol : 1 ≤ o ∧ o ≤ 8) (hwh : S 43 (o - 1) = 1) : kR 5 136 (b136_0.drop 11) [.ref 30, .int (Int32.ofInt cc), v2] [] (sz, hp m E S) (fun r => r = (.inl none, (sz, hp m E (ku (ku S 30 28 0) 30 20 0)))) := by
  have hx1 := hX.1
  have hb1 := khr_c (t := t) (e := e) (p := p) 124 (by decide) (by decide)
  have hb2 := khr_c (t := t) (e := e) (p := p + 1) 45 (by decide) (by decide)
  have ho1 : (o : Int) - 1 = ((o - 1 : Nat) : Int) := by omega
  show kR 5 136 [(17, 0, .aload_n 0), (18, 821, .getfield 106), (21, 0, .aload_n 0), (22, 823, .getfield 109), (25, 74, .if_icmp .lt (49)), (28, 0, .aload_n 0), (29, 106, .invokevirtual 232), (32, 0, .istore_n 2), (33, 0, .iload_n 2), (34, 64, .ifCond .lt (30)), (37, 0, .aload_n 0), (38, 0, .iload_n 2), (39, 0, .aload_n 0), (40, 0, .iload_n 2), (41, 105, .invokevirtual 95), (44, 104, .invokevirtual 99), (47, 0, .iload_n 1), (48, 64, .if_icmp .le (16)), (51, 0, .aload_n 0), (52, 0, .iload_n 2), (53, 107, .invokevirtual 235), (56, 0, .aload_n 0), (57, 0, .iconst 0), (58, 820, .putfield 134), (61, 73, .goto (12))] _ _ _ _
  refine kR.s rfl rfl ?_
  refine kR.gi (a := 30) (k := 21) (v := (p : Int)) (by omega) rfl rfl rfl (by decide) (by decide) rfl (by exact hpp) ?_
  refine kR.s rfl rfl ?_
  refine kR.gi (a := 30) (k := 23) (v := (e : Int)) (by omega) rfl rfl rfl (by decide) (by decide) rfl (by exact he) ?_
  refine kR.jlt (by omega) (by omega) (by omega) (by omega) (fun q1 => ?_) (fun q1 => ?_)
  · skip
    show kR 5 136 b136_74 _ _ _ _
    refine kR.s rfl rfl ?_
    refine kR.s rfl rfl ?_
    refine kR.gi (a := 30) (k := 21) (v := (p : Int)) (by omega) rfl rfl rfl (by decide) (by decide) rfl (by exact hpp) ?_
    have f2_0 := khr_r hX hen p
    refine kR.cv (v := .int (Int32.ofInt (khr t e p))) (kargs_m hm (by decide) rfl) rfl (kR.up (c_108t hm hX hR he hen (k := p) (by omega)) (by decide)) ?_
    refine kR.bi rfl ?_
    refine kR.jne (by omega) (by omega) (by omega) (by omega) (fun q3 => ?_) (fun q3 => ?_)
    · skip
      show kR 5 136 b136_91 _ _ _ _
      refine kR.s rfl rfl ?_
      refine kR.n ?_
      show kR 5 136 b136_92 _ _ _ _
      refine kR.s rfl rfl ?_
      refine kR.s rfl rfl ?_
      refine kR.zeq (by decide) (by decide) (fun q4 => ?_) (fun q4 => absurd q4 (by decide))
      show kR 5 136 b136_161 _ _ _ _
      refine kR.s rfl rfl ?_
      refine kR.s rfl rfl ?_
      refine kR.gr (a := 30) (b := 43) (k := 30) (by omega) rfl rfl rfl (by decide) (by decide) rfl ?_
      refine kR.s rfl rfl ?_
      refine kR.gi (a := 30) (k := 29) (v := (o : Int)) (by omega) rfl rfl rfl (by decide) (by decide) rfl (by exact ho) ?_
      refine kR.s rfl rfl ?_
      refine kR.sub ?_
      rw [ho1]
      refine kR.ia (a := 43) (v := 1) (by omega) rfl (by decide) (by omega) (by omega) (by exact hwh) ?_
      refine kR.s rfl rfl ?_
      refine kR.jne (by decide) (by decide) (by decide) (by decide) (fun q5 => ?_) (fun q5 => absurd q5 (by decide))
      show kR 5 136 b136_181 _ _ _ _
      refine kR.s rfl rfl ?_
      refine kR.n ?_
      show kR 5 136 b136_182 _ _ _ _
      refine kR.pi (a := 30) (k := 28) (by omega) rfl rfl rfl (by decide) (by decide) rfl (by first | rfl | assumption | simp [kfit, *]) ?_
      refine kR.s rfl rfl ?_
      refine kR.s rfl rfl ?_
      refine kR.gi (a := 30) (k := 28) (v := 0) (by omega) rfl rfl rfl (by decide) (by decide) rfl (by rfl) ?_
      refine kR.zeq (by decide) (by decide) (fun q6 => ?_) (fun q6 => absurd q6 (by decide))
      show kR 5 136 b136_197 _ _ _ _
      refine kR.s rfl rfl ?_
      refine kR.n ?_
      show kR 5 136 b136_198 _ _ _ _
      refine kR.pi (a := 30) (k := 20) (by omega) rfl rfl rfl (by decide) (by decide) rfl rfl ?_
      refine kR.ret rfl rfl ?_
      first | rfl | (exfalso; omega)
    · skip
      refine kR.s rfl rfl ?_
      refine kR.g rfl ?_
      show kR 5 136 b136_92 _ _ _ _
      refine kR.s rfl rfl ?_
      refine kR.s rfl rfl ?_
      refine kR.zeq (by decide) (by decide) (fun q7 => absurd q7 (by decide)) (fun q7 => ?_)
      refine kR.s rfl rfl ?_
      refine kR.gi (a := 30) (k := 21) (v := (p : Int)) (by omega) rfl rfl rfl (by decide) (by decide) rfl (by exact hpp) ?_
      refine kR.s rfl rfl ?_
      refine kR.add ?_
      refine kR.s rfl rfl ?_
      refine kR.gi (a := 30) (k := 23) (v := (e : Int)) (by omega) rfl rfl rfl (by decide) (by decide) rfl (by exact he) ?_
      refine kR.jeq (by omega) (by omega) (by omega) (by omega) (fun q8 => ?_) (fun q8 => ?_)
      · skip
        exfalso
        omega
      · skip
        refine kR.s rfl rfl ?_
        refine kR.s rfl rfl ?_
        refine kR.gi (a := 30) (k := 21) (v := (p : Int)) (by omega) rfl rfl rfl (by decide) (by decide) rfl (by exact hpp) ?_
        refine kR.s rfl rfl ?_
        refine kR.add ?_
        have f9_0 := khr_r hX hen (p + 1)
        refine kR.cv (v := .int (Int32.ofInt (khr t e (p + 1)))) (kargs_m hm (by decide) rfl) rfl (kR.up (c_108t hm hX hR he hen (k := (p + 1)) (by omega)) (by decide)) ?_
        refine kR.bi rfl ?_
        refine kR.jne (by omega) (by omega) (by omega) (by omega) (fun q10 => ?_) (fun q10 => ?_)
        · skip
          show kR 5 136 b136_161 _ _ _ _
          refine kR.s rfl rfl ?_
          refine kR.s rfl rfl ?_
          refine kR.gr (a := 30) (b := 43) (k := 30) (by omega) rfl rfl rfl (by decide) (by decide) rfl ?_
          refine kR.s rfl rfl ?_
          refine kR.gi (a := 30) (k := 29) (v := (o : Int)) (by omega) rfl rfl rfl (by decide) (by decide) rfl (by exact ho) ?_
          refine kR.s rfl rfl ?_
          refine kR.sub ?_
          rw [ho1]
          refine kR.ia (a := 43) (v := 1) (by omega) rfl (by decide) (by omega) (by omega) (by exact hwh) ?_
          refine kR.s rfl rfl ?_
          refine kR.jne (by decide) (by decide) (by decide) (by decide) (fun q11 => ?_) (fun q11 => absurd q11 (by decide))
          show kR 5 136 b136_181 _ _ _ _
          refine kR.s rfl rfl ?_
          refine kR.n ?_
          show kR 5 136 b136_182 _ _ _ _
          refine kR.pi (a := 30) (k := 28) (by omega) rfl rfl rfl (by decide) (by decide) rfl (by first | rfl | assumption | simp [kfit, *]) ?_
          refine kR.s rfl rfl ?_
          refine kR.s rfl rfl ?_
          refine kR.gi (a := 30) (k := 28) (v := 0) (by omega) rfl rfl rfl (by decide) (by decide) rfl (by rfl) ?_
          refine kR.zeq (by decide) (by decide) (fun q12 => ?_) (fun q12 => absurd q12 (by decide))
          show kR 5 136 b136_197 _ _ _ _
          refine kR.s rfl rfl ?_
          refine kR.n ?_
          show kR 5 136 b136_198 _ _ _ _
          refine kR.pi (a := 30) (k := 20) (by omega) rfl rfl rfl (by decide) (by decide) rfl rfl ?_
          refine kR.ret rfl rfl ?_
          first | rfl | (exfalso; omega)
        · skip
          refine kR.s rfl rfl ?_
          refine kR.gi (a := 30) (k := 21) (v := (p : Int)) (by omega) rfl rfl rfl (by decide) (by decide) rfl (by exact hpp) ?_
          refine kR.s rfl rfl ?_
          refine kR.add ?_
          refine kR.s rfl rfl ?_
          refine kR.gi (a := 30) (k := 23) (v := (e : Int)) (by omega) rfl rfl rfl (by decide) (by decide) rfl (by exact he) ?_
          refine kR.jne (by omega) (by omega) (by omega) (by omega) (fun q13 => ?_) (fun q13 => ?_)
          · skip
            show kR 5 136 b136_161 _ _ _ _
            refine kR.s rfl rfl ?_
            refine kR.s rfl rfl ?_
            refine kR.gr (a := 30) (b := 43) (k := 30) (by omega) rfl rfl rfl (by decide) (by decide) rfl ?_
            refine kR.s rfl rfl ?_
            refine kR.gi (a := 30) (k := 29) (v := (o : Int)) (by omega) rfl rfl rfl (by decide) (by decide) rfl (by exact ho) ?_
            refine kR.s rfl rfl ?_
            refine kR.sub ?_
            rw [ho1]
            refine kR.ia (a := 43) (v := 1) (by omega) rfl (by decide) (by omega) (by omega) (by exact hwh) ?_
            refine kR.s rfl rfl ?_
            refine kR.jne (by decide) (by decide) (by decide) (by decide) (fun q14 => ?_) (fun q14 => absurd q14 (by decide))
            show kR 5 136 b136_181 _ _ _ _
            refine kR.s rfl rfl ?_
            refine kR.n ?_
            show kR 5 136 b136_182 _ _ _ _
            refine kR.pi (a := 30) (k := 28) (by omega) rfl rfl rfl (by decide) (by decide) rfl (by first | rfl | assumption | simp [kfit, *]) ?_
            refine kR.s rfl rfl ?_
            refine kR.s rfl rfl ?_
            refine kR.gi (a := 30) (k := 28) (v := 0) (by omega) rfl rfl rfl (by decide) (by decide) rfl (by rfl) ?_
            refine kR.zeq (by decide) (by decide) (fun q15 => ?_) (fun q15 => absurd q15 (by decide))
            show kR 5 136 b136_197 _ _ _ _
            refine kR.s rfl rfl ?_
            refine kR.n ?_
            show kR 5 136 b136_198 _ _ _ _
            refine kR.pi (a := 30) (k := 20) (by omega) rfl rfl rfl (by decide) (by decide) rfl rfl ?_
            refine kR.ret rfl rfl ?_
            first | rfl | (exfalso; omega)
          · skip
            refine kR.n ?_
            exfalso
            omega
  · skip
    exfalso
    omega
