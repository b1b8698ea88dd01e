/-! The reference: behind. By program (wip/gen/gen66.py). -/
theorem x_143_finmore0 {m : Nat} {E : Nat → kC} {S : Nat → Nat → Int} {sz : Nat × Nat} (hm : 53 ≤ m ∧ m ≤ 57) {t : Nat → Int} {n L : Nat} (hX : kTx t n L) (hR : kRt S t n) {p e : Nat} (hpp : S 30 21 = (p : Int)) (he : S 30 23 = (e : Int)) (hpe : p ≤ 200 ∧ e ≤ 200) {iv : Int} (hiv : S 30 28 = iv) (hi01 : iv = 0 ∨ iv = 1) (hwr : S 30 19 = 0) {l : Nat} (hl : l ≤ L) (hle : S 30 24 + 1 = (klb t n l : Int)) {k : Nat} (hk : k = (kw (fun i => decide (¬ krb t n i < kre t n i ∨ t (krb t n i) = 35)) L l)) (ho : S 30 29 = 0) (hin : iv = 0 ∨ p = e) (hkL : k < L) {v1 v2 v3 v4 v5 v6 : Value} : kR 6 143 (blk 143 31) [.ref 30, v1, v2, v3, v4, v5, v6] [.int (Int32.ofInt 0), .ref 30] (sz, hp m E S) (fun r => r = (.inl none, (sz, hp m E (ku (ku (ku (ku S 30 19 0) 30 28 0) 30 19 1) 30 20 5)))) := by
  have hx1 := hX.1
  have hx4 := hX.2.2.2.2.1 k hkL
  show kR 6 143 b143_31 _ _ _ _
  refine kR.pi (a := 30) (k := 19) (by omega) rfl rfl rfl (by decide) (by decide) rfl (by first | rfl | assumption | simp [kfit, *]) ?_
  refine kR.s rfl rfl ?_
  refine kR.s rfl rfl ?_
  refine kR.pi (a := 30) (k := 28) (by omega) rfl rfl rfl (by decide) (by decide) rfl (by first | rfl | assumption | simp [kfit, *]) ?_
  refine kR.s rfl rfl ?_
  refine kR.cv (v := .int (Int32.ofInt ((klb t n k : Int)))) (kargs_m hm (by decide) rfl) rfl (kR.up ((by have z := c_106 (S := (ku (ku S 30 19 0) 30 28 0)) (E := E) (sz := sz) hm hX hR hl hle; rw [← hk, if_pos hkL] at z; exact z)) (by decide)) ?_
  refine kR.s rfl rfl ?_
  refine kR.s rfl rfl ?_
  refine kR.gi (a := 30) (k := 29) (v := 0) (by omega) rfl rfl rfl (by decide) (by decide) rfl (by exact ho) ?_
  refine kR.zne (by decide) (by decide) (fun q2 => absurd q2 (by decide)) (fun q2 => ?_)
  refine kR.s rfl rfl ?_
  refine kR.s rfl rfl ?_
  refine kR.gi (a := 30) (k := 19) (v := 0) (by omega) rfl rfl rfl (by decide) (by decide) rfl (by rfl) ?_
  refine kR.zne (by decide) (by decide) (fun q3 => absurd q3 (by decide)) (fun q3 => ?_)
  refine kR.s rfl rfl ?_
  refine kR.zlt (by omega) (by omega) (fun q4 => ?_) (fun q4 => ?_)
  · skip
    show kR 6 143 b143_67 _ _ _ _
    refine kR.s rfl rfl ?_
    refine kR.n ?_
    show kR 6 143 b143_68 _ _ _ _
    refine kR.pi (a := 30) (k := 19) (by omega) rfl rfl rfl (by decide) (by decide) rfl (by first | rfl | assumption | simp [kfit, *]) ?_
    refine kR.s rfl rfl ?_
    refine kR.s rfl rfl ?_
    refine kR.pi (a := 30) (k := 20) (by omega) rfl rfl rfl (by decide) (by decide) rfl rfl ?_
    refine kR.ret rfl rfl ?_
    first | rfl | (exfalso; omega)
  · skip
    refine kR.n ?_
    show kR 6 143 b143_63 _ _ _ _
    refine kR.s rfl rfl ?_
    refine kR.g rfl ?_
    show kR 6 143 b143_68 _ _ _ _
    refine kR.pi (a := 30) (k := 19) (by omega) rfl rfl rfl (by decide) (by decide) rfl (by first | rfl | assumption | simp [kfit, *]) ?_
    refine kR.s rfl rfl ?_
    refine kR.s rfl rfl ?_
    refine kR.pi (a := 30) (k := 20) (by omega) rfl rfl rfl (by decide) (by decide) rfl rfl ?_
    refine kR.ret rfl rfl ?_
    first | rfl | (exfalso; omega)
theorem c_143_finmore0 {m : Nat} {E : Nat → kC} {S : Nat → Nat → Int} {sz : Nat × Nat} (hm : 53 ≤ m ∧ m ≤ 57) {t : Nat → Int} {n L : Nat} (hX : kTx t n L) (hR : kRt S t n) {p e : Nat} (hpp : S 30 21 = (p : Int)) (he : S 30 23 = (e : Int)) (hpe : p ≤ 200 ∧ e ≤ 200) {iv : Int} (hiv : S 30 28 = iv) (hi01 : iv = 0 ∨ iv = 1) (hwr : S 30 19 = 0) {l : Nat} (hl : l ≤ L) (hle : S 30 24 + 1 = (klb t n l : Int)) {k : Nat} (hk : k = (kw (fun i => decide (¬ krb t n i < kre t n i ∨ t (krb t n i) = 35)) L l)) (ho : S 30 29 = 0) (hin : iv = 0 ∨ p = e) (hkL : k < L) : kR 6 143 (blk 143 0) (kent 143 [.ref 30]) [] (sz, hp m E S) (fun r => r = (.inl none, (sz, hp m E (ku (ku (ku (ku S 30 19 0) 30 28 0) 30 19 1) 30 20 5)))) := by
  show kR 6 143 b143_0 _ _ _ _
  refine kR.s rfl rfl ?_
  refine kR.s rfl rfl ?_
  refine kR.gi (a := 30) (k := 19) (v := 0) (by omega) rfl rfl rfl (by decide) (by decide) rfl (by exact hwr) ?_
  refine kR.zne (by decide) (by decide) (fun q1 => absurd q1 (by decide)) (fun q1 => ?_)
  refine kR.s rfl rfl ?_
  refine kR.gi (a := 30) (k := 28) (v := iv) (by omega) rfl rfl rfl (by decide) (by decide) rfl (by exact hiv) ?_
  refine kR.zeq (by omega) (by omega) (fun q2 => ?_) (fun q2 => ?_)
  · skip
    show kR 6 143 b143_30 _ _ _ _
    refine kR.s rfl rfl ?_
    refine kR.n ?_
    exact x_143_finmore0 hm hX hR hpp he hpe hiv hi01 hwr hl hle hk ho hin hkL
  · skip
    refine kR.s rfl rfl ?_
    refine kR.gi (a := 30) (k := 21) (v := (p : Int)) (by omega) rfl rfl rfl (by decide) (by decide) rfl (by exact hpp) ?_
    refine kR.s rfl rfl ?_
    refine kR.gi (a := 30) (k := 23) (v := (e : Int)) (by omega) rfl rfl rfl (by decide) (by decide) rfl (by exact he) ?_
    refine kR.jeq (by omega) (by omega) (by omega) (by omega) (fun q3 => ?_) (fun q3 => ?_)
    · skip
      show kR 6 143 b143_30 _ _ _ _
      refine kR.s rfl rfl ?_
      refine kR.n ?_
      exact x_143_finmore0 hm hX hR hpp he hpe hiv hi01 hwr hl hle hk ho hin hkL
    · skip
      refine kR.n ?_
      exfalso
      omega
theorem x_143_finnone0 {m : Nat} {E : Nat → kC} {S : Nat → Nat → Int} {sz : Nat × Nat} (hm : 53 ≤ m ∧ m ≤ 57) {t : Nat → Int} {n L : Nat} (hX : kTx t n L) (hR : kRt S t n) {p e : Nat} (hpp : S 30 21 = (p : Int)) (he : S 30 23 = (e : Int)) (hpe : p ≤ 200 ∧ e ≤ 200) {iv : Int} (hiv : S 30 28 = iv) (hi01 : iv = 0 ∨ iv = 1) (hwr : S 30 19 = 0) {l : Nat} (hl : l ≤ L) (hle : S 30 24 + 1 = (klb t n l : Int)) {k : Nat} (hk : k = (kw (fun i => decide (¬ krb t n i < kre t n i ∨ t (krb t n i) = 35)) L l)) (ho : S 30 29 = 0) (hin : iv = 0 ∨ p = e) (hkL : L ≤ k) {v1 v2 v3 v4 v5 v6 : Value} : kR 6 143 (blk 143 31) [.ref 30, v1, v2, v3, v4, v5, v6] [.int (Int32.ofInt 0), .ref 30] (sz, hp m E S) (fun r => r = (.inl none, (sz, hp m E (ku (ku (ku (ku S 30 19 0) 30 28 0) 30 19 0) 30 20 5)))) := by
  have hx1 := hX.1
  show kR 6 143 b143_31 _ _ _ _
  refine kR.pi (a := 30) (k := 19) (by omega) rfl rfl rfl (by decide) (by decide) rfl (by first | rfl | assumption | simp [kfit, *]) ?_
  refine kR.s rfl rfl ?_
  refine kR.s rfl rfl ?_
  refine kR.pi (a := 30) (k := 28) (by omega) rfl rfl rfl (by decide) (by decide) rfl (by first | rfl | assumption | simp [kfit, *]) ?_
  refine kR.s rfl rfl ?_
  refine kR.cv (v := .int (Int32.ofInt (-1))) (kargs_m hm (by decide) rfl) rfl (kR.up ((by have z := c_106 (S := (ku (ku S 30 19 0) 30 28 0)) (E := E) (sz := sz) hm hX hR hl hle; rw [← hk, if_neg (by omega)] at z; exact z)) (by decide)) ?_
  refine kR.s rfl rfl ?_
  refine kR.s rfl rfl ?_
  refine kR.gi (a := 30) (k := 29) (v := 0) (by omega) rfl rfl rfl (by decide) (by decide) rfl (by exact ho) ?_
  refine kR.zne (by decide) (by decide) (fun q2 => absurd q2 (by decide)) (fun q2 => ?_)
  refine kR.s rfl rfl ?_
  refine kR.s rfl rfl ?_
  refine kR.gi (a := 30) (k := 19) (v := 0) (by omega) rfl rfl rfl (by decide) (by decide) rfl (by rfl) ?_
  refine kR.zne (by decide) (by decide) (fun q3 => absurd q3 (by decide)) (fun q3 => ?_)
  refine kR.s rfl rfl ?_
  refine kR.zlt (by decide) (by decide) (fun q4 => ?_) (fun q4 => absurd q4 (by decide))
  show kR 6 143 b143_67 _ _ _ _
  refine kR.s rfl rfl ?_
  refine kR.n ?_
  show kR 6 143 b143_68 _ _ _ _
  refine kR.pi (a := 30) (k := 19) (by omega) rfl rfl rfl (by decide) (by decide) rfl (by first | rfl | assumption | simp [kfit, *]) ?_
  refine kR.s rfl rfl ?_
  refine kR.s rfl rfl ?_
  refine kR.pi (a := 30) (k := 20) (by omega) rfl rfl rfl (by decide) (by decide) rfl rfl ?_
  refine kR.ret rfl rfl ?_
  first | rfl | (exfalso; omega)
theorem c_143_finnone0 {m : Nat} {E : Nat → kC} {S : Nat → Nat → Int} {sz : Nat × Nat} (hm : 53 ≤ m ∧ m ≤ 57) {t : Nat → Int} {n L : Nat} (hX : kTx t n L) (hR : kRt S t n) {p e : Nat} (hpp : S 30 21 = (p : Int)) (he : S 30 23 = (e : Int)) (hpe : p ≤ 200 ∧ e ≤ 200) {iv : Int} (hiv : S 30 28 = iv) (hi01 : iv = 0 ∨ iv = 1) (hwr : S 30 19 = 0) {l : Nat} (hl : l ≤ L) (hle : S 30 24 + 1 = (klb t n l : Int)) {k : Nat} (hk : k = (kw (fun i => decide (¬ krb t n i < kre t n i ∨ t (krb t n i) = 35)) L l)) (ho : S 30 29 = 0) (hin : iv = 0 ∨ p = e) (hkL : L ≤ k) : kR 6 143 (blk 143 0) (kent 143 [.ref 30]) [] (sz, hp m E S) (fun r => r = (.inl none, (sz, hp m E (ku (ku (ku (ku S 30 19 0) 30 28 0) 30 19 0) 30 20 5)))) := by
  show kR 6 143 b143_0 _ _ _ _
  refine kR.s rfl rfl ?_
  refine kR.s rfl rfl ?_
  refine kR.gi (a := 30) (k := 19) (v := 0) (by omega) rfl rfl rfl (by decide) (by decide) rfl (by exact hwr) ?_
  refine kR.zne (by decide) (by decide) (fun q1 => absurd q1 (by decide)) (fun q1 => ?_)
  refine kR.s rfl rfl ?_
  refine kR.gi (a := 30) (k := 28) (v := iv) (by omega) rfl rfl rfl (by decide) (by decide) rfl (by exact hiv) ?_
  refine kR.zeq (by omega) (by omega) (fun q2 => ?_) (fun q2 => ?_)
  · skip
    show kR 6 143 b143_30 _ _ _ _
    refine kR.s rfl rfl ?_
    refine kR.n ?_
    exact x_143_finnone0 hm hX hR hpp he hpe hiv hi01 hwr hl hle hk ho hin hkL
  · skip
    refine kR.s rfl rfl ?_
    refine kR.gi (a := 30) (k := 21) (v := (p : Int)) (by omega) rfl rfl rfl (by decide) (by decide) rfl (by exact hpp) ?_
    refine kR.s rfl rfl ?_
    refine kR.gi (a := 30) (k := 23) (v := (e : Int)) (by omega) rfl rfl rfl (by decide) (by decide) rfl (by exact he) ?_
    refine kR.jeq (by omega) (by omega) (by omega) (by omega) (fun q3 => ?_) (fun q3 => ?_)
    · skip
      show kR 6 143 b143_30 _ _ _ _
      refine kR.s rfl rfl ?_
      refine kR.n ?_
      exact x_143_finnone0 hm hX hR hpp he hpe hiv hi01 hwr hl hle hk ho hin hkL
    · skip
      refine kR.n ?_
      exfalso
      omega
theorem x_143_end0_1 {m : Nat} {E : Nat → kC} {S : Nat → Nat → Int} {sz : Nat × Nat} (hm : 53 ≤ m ∧ m ≤ 57) {t : Nat → Int} {n L : Nat} (hX : kTx t n L) (hR : kRt S t n) {p e : Nat} (hpp : S 30 21 = (p : Int)) (he : S 30 23 = (e : Int)) (hpe : p ≤ 200 ∧ e ≤ 200) {iv : Int} (hiv : S 30 28 = iv) (hi01 : iv = 0 ∨ iv = 1) (hwr : S 30 19 = 0) {l : Nat} (hl : l ≤ L) (hle : S 30 24 + 1 = (klb t n l : Int)) {k : Nat} (hk : k = (kw (fun i => decide (¬ krb t n i < kre t n i ∨ t (krb t n i) = 35)) L l)) {v n2 d o : Nat} (hdn : S 30 27 = (v : Int)) (hn : S 30 15 = (n2 : Int)) (hnl : n2 < 200) (ho : S 30 29 = (o : Int)) (hol : 1 ≤ o ∧ o ≤ 8) (hd : S 44 (o - 1) = (d : Int)) (hdl : d < 60) (hwh : S 43 (o - 1) = 1) {cc : Int} (hcc : S 45 (o - 1) = cc) (hcr : 0 ≤ cc ∧ cc ≤ 200) (hin : iv = 0 ∨ p = e) (hkL : L ≤ k) {v1 v2 v3 v4 v5 v6 : Value} : kR 6 143 (blk 143 31) [.ref 30, v1, v2, v3, v4, v5, v6] [.int (Int32.ofInt 0), .ref 30] (sz, hp m E S) (fun r => r = (.inl none, (sz, hp m E (ku (ku (ku (kapm2 (ku (ku S 30 19 0) 30 28 0) o n2 v d) 30 29 ((o - 1 : Nat) : Int)) 30 27 (d : Int)) 30 20 4)))) := by
  have hx1 := hX.1
  have hwq : -2147483648 ≤ S 43 (o - 1) ∧ S 43 (o - 1) < 2147483648 := by omega
  have ho1 : (o : Int) - 1 = ((o - 1 : Nat) : Int) := by omega
  show kR 6 143 b143_31 _ _ _ _
  refine kR.pi (a := 30) (k := 19) (by omega) rfl rfl rfl (by decide) (by decide) rfl (by first | rfl | assumption | simp [kfit, *]) ?_
  refine kR.s rfl rfl ?_
  refine kR.s rfl rfl ?_
  refine kR.pi (a := 30) (k := 28) (by omega) rfl rfl rfl (by decide) (by decide) rfl (by first | rfl | assumption | simp [kfit, *]) ?_
  refine kR.s rfl rfl ?_
  refine kR.cv (v := .int (Int32.ofInt (-1))) (kargs_m hm (by decide) rfl) rfl (kR.up ((by have z := c_106 (S := (ku (ku S 30 19 0) 30 28 0)) (E := E) (sz := sz) hm hX hR hl hle; rw [← hk, if_neg (by omega)] at z; exact z)) (by decide)) ?_
  refine kR.s rfl rfl ?_
  refine kR.s rfl rfl ?_
  refine kR.gi (a := 30) (k := 29) (v := (o : Int)) (by omega) rfl rfl rfl (by decide) (by decide) rfl (by exact ho) ?_
  refine kR.zne (by omega) (by omega) (fun q2 => ?_) (fun q2 => ?_)
  · skip
    show kR 6 143 b143_77 _ _ _ _
    refine kR.s rfl rfl ?_
    refine kR.s rfl rfl ?_
    refine kR.gi (a := 30) (k := 27) (v := (v : Int)) (by omega) rfl rfl rfl (by decide) (by decide) rfl (by exact hdn) ?_
    refine kR.c0 (kargs_m hm (by decide) rfl) rfl (kR.up (c_116 (S := ku (ku S 30 19 0) 30 28 0) hm (v := v) hn hnl ho (by omega) (by omega) hd hdl hwq) (by decide)) ?_
    refine kR.s rfl rfl ?_
    refine kR.zge (by decide) (by decide) (fun q4 => absurd q4 (by decide)) (fun q4 => ?_)
    refine kR.s rfl rfl ?_
    refine kR.g rfl ?_
    show kR 6 143 b143_103 _ _ _ _
    refine kR.s rfl rfl ?_
    refine kR.s rfl rfl ?_
    refine kR.gr (a := 30) (b := 45) (k := 32) (by omega) rfl rfl rfl (by decide) (by decide) rfl ?_
    refine kR.s rfl rfl ?_
    refine kR.gi (a := 30) (k := 29) (v := (o : Int)) (by omega) rfl rfl rfl (by decide) (by decide) rfl (by exact ho) ?_
    refine kR.s rfl rfl ?_
    refine kR.sub ?_
    rw [ho1]
    refine kR.ia (a := 45) (v := cc) (by omega) rfl (by decide) (by omega) (by omega) (by exact hcc) ?_
    refine kR.s rfl rfl ?_
    refine kR.s rfl rfl ?_
    refine kR.s rfl rfl ?_
    refine kR.jge (by omega) (by omega) (by omega) (by omega) (fun q5 => ?_) (fun q5 => ?_)
    · skip
      exfalso
      omega
    · skip
      refine kR.s rfl rfl ?_
      refine kR.s rfl rfl ?_
      refine kR.gi (a := 30) (k := 29) (v := (o : Int)) (by omega) rfl rfl rfl (by decide) (by decide) rfl (by exact ho) ?_
      refine kR.s rfl rfl ?_
      refine kR.sub ?_
      rw [ho1]
      refine kR.pi (a := 30) (k := 29) (by omega) rfl rfl rfl (by decide) (by decide) rfl rfl ?_
      refine kR.s rfl rfl ?_
      refine kR.s rfl rfl ?_
      refine kR.gr (a := 30) (b := 44) (k := 31) (by omega) rfl rfl rfl (by decide) (by decide) rfl ?_
      refine kR.s rfl rfl ?_
      refine kR.gi (a := 30) (k := 29) (v := ((o - 1 : Nat) : Int)) (by omega) rfl rfl rfl (by decide) (by decide) rfl (by rfl) ?_
      refine kR.ia (a := 44) (v := (d : Int)) (by omega) rfl (by decide) (by omega) (by omega) (by exact hd) ?_
      refine kR.c0 (kargs_m hm (by decide) rfl) rfl (kR.up (c_113 (S := ku (kapm2 (ku (ku S 30 19 0) 30 28 0) o n2 v d) 30 29 ((o - 1 : Nat) : Int)) hm) (by decide)) ?_
      refine kR.ret rfl rfl ?_
      first | rfl | (exfalso; omega)
  · skip
    refine kR.s rfl rfl ?_
    refine kR.s rfl rfl ?_
    refine kR.gi (a := 30) (k := 19) (v := 0) (by omega) rfl rfl rfl (by decide) (by decide) rfl (by rfl) ?_
    refine kR.zne (by decide) (by decide) (fun q7 => absurd q7 (by decide)) (fun q7 => ?_)
    refine kR.s rfl rfl ?_
    refine kR.zlt (by decide) (by decide) (fun q8 => ?_) (fun q8 => absurd q8 (by decide))
    show kR 6 143 b143_67 _ _ _ _
    refine kR.s rfl rfl ?_
    refine kR.n ?_
    show kR 6 143 b143_68 _ _ _ _
    refine kR.pi (a := 30) (k := 19) (by omega) rfl rfl rfl (by decide) (by decide) rfl (by first | rfl | assumption | simp [kfit, *]) ?_
    refine kR.s rfl rfl ?_
    refine kR.s rfl rfl ?_
    refine kR.pi (a := 30) (k := 20) (by omega) rfl rfl rfl (by decide) (by decide) rfl rfl ?_
    refine kR.ret rfl rfl ?_
    first | rfl | (exfalso; omega)
theorem c_143_end0_1 {m : Nat} {E : Nat → kC} {S : Nat → Nat → Int} {sz : Nat × Nat} (hm : 53 ≤ m ∧ m ≤ 57) {t : Nat → Int} {n L : Nat} (hX : kTx t n L) (hR : kRt S t n) {p e : Nat} (hpp : S 30 21 = (p : Int)) (he : S 30 23 = (e : Int)) (hpe : p ≤ 200 ∧ e ≤ 200) {iv : Int} (hiv : S 30 28 = iv) (hi01 : iv = 0 ∨ iv = 1) (hwr : S 30 19 = 0) {l : Nat} (hl : l ≤ L) (hle : S 30 24 + 1 = (klb t n l : Int)) {k : Nat} (hk : k = (kw (fun i => decide (¬ krb t n i < kre t n i ∨ t (krb t n i) = 35)) L l)) {v n2 d o : Nat} (hdn : S 30 27 = (v : Int)) (hn : S 30 15 = (n2 : Int)) (hnl : n2 < 200) (ho : S 30 29 = (o : Int)) (hol : 1 ≤ o ∧ o ≤ 8) (hd : S 44 (o - 1) = (d : Int)) (hdl : d < 60) (hwh : S 43 (o - 1) = 1) {cc : Int} (hcc : S 45 (o - 1) = cc) (hcr : 0 ≤ cc ∧ cc ≤ 200) (hin : iv = 0 ∨ p = e) (hkL : L ≤ k) : kR 6 143 (blk 143 0) (kent 143 [.ref 30]) [] (sz, hp m E S) (fun r => r = (.inl none, (sz, hp m E (ku (ku (ku (kapm2 (ku (ku S 30 19 0) 30 28 0) o n2 v d) 30 29 ((o - 1 : Nat) : Int)) 30 27 (d : Int)) 30 20 4)))) := by
  show kR 6 143 b143_0 _ _ _ _
  refine kR.s rfl rfl ?_
  refine kR.s rfl rfl ?_
  refine kR.gi (a := 30) (k := 19) (v := 0) (by omega) rfl rfl rfl (by decide) (by decide) rfl (by exact hwr) ?_
  refine kR.zne (by decide) (by decide) (fun q1 => absurd q1 (by decide)) (fun q1 => ?_)
  refine kR.s rfl rfl ?_
  refine kR.gi (a := 30) (k := 28) (v := iv) (by omega) rfl rfl rfl (by decide) (by decide) rfl (by exact hiv) ?_
  refine kR.zeq (by omega) (by omega) (fun q2 => ?_) (fun q2 => ?_)
  · skip
    show kR 6 143 b143_30 _ _ _ _
    refine kR.s rfl rfl ?_
    refine kR.n ?_
    exact x_143_end0_1 hm hX hR hpp he hpe hiv hi01 hwr hl hle hk hdn hn hnl ho hol hd hdl hwh hcc hcr hin hkL
  · skip
    refine kR.s rfl rfl ?_
    refine kR.gi (a := 30) (k := 21) (v := (p : Int)) (by omega) rfl rfl rfl (by decide) (by decide) rfl (by exact hpp) ?_
    refine kR.s rfl rfl ?_
    refine kR.gi (a := 30) (k := 23) (v := (e : Int)) (by omega) rfl rfl rfl (by decide) (by decide) rfl (by exact he) ?_
    refine kR.jeq (by omega) (by omega) (by omega) (by omega) (fun q3 => ?_) (fun q3 => ?_)
    · skip
      show kR 6 143 b143_30 _ _ _ _
      refine kR.s rfl rfl ?_
      refine kR.n ?_
      exact x_143_end0_1 hm hX hR hpp he hpe hiv hi01 hwr hl hle hk hdn hn hnl ho hol hd hdl hwh hcc hcr hin hkL
    · skip
      refine kR.n ?_
      exfalso
      omega
theorem x_143_cl0_1 {m : Nat} {E : Nat → kC} {S : Nat → Nat → Int} {sz : Nat × Nat} (hm : 53 ≤ m ∧ m ≤ 57) {t : Nat → Int} {n L : Nat} (hX : kTx t n L) (hR : kRt S t n) {p e : Nat} (hpp : S 30 21 = (p : Int)) (he : S 30 23 = (e : Int)) (hpe : p ≤ 200 ∧ e ≤ 200) {iv : Int} (hiv : S 30 28 = iv) (hi01 : iv = 0 ∨ iv = 1) (hwr : S 30 19 = 0) {l : Nat} (hl : l ≤ L) (hle : S 30 24 + 1 = (klb t n l : Int)) {k : Nat} (hk : k = (kw (fun i => decide (¬ krb t n i < kre t n i ∨ t (krb t n i) = 35)) L l)) {v n2 d o : Nat} (hdn : S 30 27 = (v : Int)) (hn : S 30 15 = (n2 : Int)) (hnl : n2 < 200) (ho : S 30 29 = (o : Int)) (hol : 1 ≤ o ∧ o ≤ 8) (hd : S 44 (o - 1) = (d : Int)) (hdl : d < 60) (hwh : S 43 (o - 1) = 1) {cc : Int} (hcc : S 45 (o - 1) = cc) (hcr : 0 ≤ cc ∧ cc ≤ 200) (hin : iv = 0 ∨ p = e) (hkL : k < L) (hdp : (krb t n k : Int) - (klb t n k : Int) < cc) {v1 v2 v3 v4 v5 v6 : Value} : kR 6 143 (blk 143 31) [.ref 30, v1, v2, v3, v4, v5, v6] [.int (Int32.ofInt 0), .ref 30] (sz, hp m E S) (fun r => r = (.inl none, (sz, hp m E (ku (ku (ku (kapm2 (ku (ku S 30 19 0) 30 28 0) o n2 v d) 30 29 ((o - 1 : Nat) : Int)) 30 27 (d : Int)) 30 20 4)))) := by
  have hx1 := hX.1
  have hwq : -2147483648 ≤ S 43 (o - 1) ∧ S 43 (o - 1) < 2147483648 := by omega
  have ho1 : (o : Int) - 1 = ((o - 1 : Nat) : Int) := by omega
  have hx4 := hX.2.2.2.2.1 k hkL
  have hx7 := hX.ln hkL
  show kR 6 143 b143_31 _ _ _ _
  refine kR.pi (a := 30) (k := 19) (by omega) rfl rfl rfl (by decide) (by decide) rfl (by first | rfl | assumption | simp [kfit, *]) ?_
  refine kR.s rfl rfl ?_
  refine kR.s rfl rfl ?_
  refine kR.pi (a := 30) (k := 28) (by omega) rfl rfl rfl (by decide) (by decide) rfl (by first | rfl | assumption | simp [kfit, *]) ?_
  refine kR.s rfl rfl ?_
  refine kR.cv (v := .int (Int32.ofInt ((klb t n k : Int)))) (kargs_m hm (by decide) rfl) rfl (kR.up ((by have z := c_106 (S := (ku (ku S 30 19 0) 30 28 0)) (E := E) (sz := sz) hm hX hR hl hle; rw [← hk, if_pos hkL] at z; exact z)) (by decide)) ?_
  refine kR.s rfl rfl ?_
  refine kR.s rfl rfl ?_
  refine kR.gi (a := 30) (k := 29) (v := (o : Int)) (by omega) rfl rfl rfl (by decide) (by decide) rfl (by exact ho) ?_
  refine kR.zne (by omega) (by omega) (fun q2 => ?_) (fun q2 => ?_)
  · skip
    show kR 6 143 b143_77 _ _ _ _
    refine kR.s rfl rfl ?_
    refine kR.s rfl rfl ?_
    refine kR.gi (a := 30) (k := 27) (v := (v : Int)) (by omega) rfl rfl rfl (by decide) (by decide) rfl (by exact hdn) ?_
    refine kR.c0 (kargs_m hm (by decide) rfl) rfl (kR.up (c_116 (S := ku (ku S 30 19 0) 30 28 0) hm (v := v) hn hnl ho (by omega) (by omega) hd hdl hwq) (by decide)) ?_
    refine kR.s rfl rfl ?_
    refine kR.zge (by omega) (by omega) (fun q4 => ?_) (fun q4 => ?_)
    · skip
      show kR 6 143 b143_93 _ _ _ _
      refine kR.s rfl rfl ?_
      refine kR.s rfl rfl ?_
      refine kR.s rfl rfl ?_
      refine kR.s rfl rfl ?_
      refine kR.cv (v := .int (Int32.ofInt ((kle t n k : Int)))) (kargs_m hm (by decide) rfl) rfl (kR.up (c_105t (S := (kapm2 (ku (ku S 30 19 0) 30 28 0) o n2 v d)) hm hX hR (a := klb t n k) (by omega)) (by decide)) ?_
      refine kR.cv (v := .int (Int32.ofInt ((krb t n k : Int) - (klb t n k : Int)))) (kargs_m hm (by decide) rfl) rfl (kR.up (c_104t (S := (kapm2 (ku (ku S 30 19 0) 30 28 0) o n2 v d)) hm hX hR (a := klb t n k) (g := kle t n k) (by omega) (by omega)) (by decide)) ?_
      refine kR.n ?_
      show kR 6 143 b143_103 _ _ _ _
      refine kR.s rfl rfl ?_
      refine kR.s rfl rfl ?_
      refine kR.gr (a := 30) (b := 45) (k := 32) (by omega) rfl rfl rfl (by decide) (by decide) rfl ?_
      refine kR.s rfl rfl ?_
      refine kR.gi (a := 30) (k := 29) (v := (o : Int)) (by omega) rfl rfl rfl (by decide) (by decide) rfl (by exact ho) ?_
      refine kR.s rfl rfl ?_
      refine kR.sub ?_
      rw [ho1]
      refine kR.ia (a := 45) (v := cc) (by omega) rfl (by decide) (by omega) (by omega) (by exact hcc) ?_
      refine kR.s rfl rfl ?_
      refine kR.s rfl rfl ?_
      refine kR.s rfl rfl ?_
      refine kR.jge (by omega) (by omega) (by omega) (by omega) (fun q7 => ?_) (fun q7 => ?_)
      · skip
        exfalso
        omega
      · skip
        refine kR.s rfl rfl ?_
        refine kR.s rfl rfl ?_
        refine kR.gi (a := 30) (k := 29) (v := (o : Int)) (by omega) rfl rfl rfl (by decide) (by decide) rfl (by exact ho) ?_
        refine kR.s rfl rfl ?_
        refine kR.sub ?_
        rw [ho1]
        refine kR.pi (a := 30) (k := 29) (by omega) rfl rfl rfl (by decide) (by decide) rfl rfl ?_
        refine kR.s rfl rfl ?_
        refine kR.s rfl rfl ?_
        refine kR.gr (a := 30) (b := 44) (k := 31) (by omega) rfl rfl rfl (by decide) (by decide) rfl ?_
        refine kR.s rfl rfl ?_
        refine kR.gi (a := 30) (k := 29) (v := ((o - 1 : Nat) : Int)) (by omega) rfl rfl rfl (by decide) (by decide) rfl (by rfl) ?_
        refine kR.ia (a := 44) (v := (d : Int)) (by omega) rfl (by decide) (by omega) (by omega) (by exact hd) ?_
        refine kR.c0 (kargs_m hm (by decide) rfl) rfl (kR.up (c_113 (S := ku (kapm2 (ku (ku S 30 19 0) 30 28 0) o n2 v d) 30 29 ((o - 1 : Nat) : Int)) hm) (by decide)) ?_
        refine kR.ret rfl rfl ?_
        first | rfl | (exfalso; omega)
    · skip
      refine kR.s rfl rfl ?_
      refine kR.g rfl ?_
      show kR 6 143 b143_103 _ _ _ _
      refine kR.s rfl rfl ?_
      refine kR.s rfl rfl ?_
      refine kR.gr (a := 30) (b := 45) (k := 32) (by omega) rfl rfl rfl (by decide) (by decide) rfl ?_
      refine kR.s rfl rfl ?_
      refine kR.gi (a := 30) (k := 29) (v := (o : Int)) (by omega) rfl rfl rfl (by decide) (by decide) rfl (by exact ho) ?_
      refine kR.s rfl rfl ?_
      refine kR.sub ?_
      rw [ho1]
      refine kR.ia (a := 45) (v := cc) (by omega) rfl (by decide) (by omega) (by omega) (by exact hcc) ?_
      refine kR.s rfl rfl ?_
      refine kR.s rfl rfl ?_
      refine kR.s rfl rfl ?_
      refine kR.jge (by omega) (by omega) (by omega) (by omega) (fun q9 => ?_) (fun q9 => ?_)
      · skip
        exfalso
        omega
      · skip
        refine kR.s rfl rfl ?_
        refine kR.s rfl rfl ?_
        refine kR.gi (a := 30) (k := 29) (v := (o : Int)) (by omega) rfl rfl rfl (by decide) (by decide) rfl (by exact ho) ?_
        refine kR.s rfl rfl ?_
        refine kR.sub ?_
        rw [ho1]
        refine kR.pi (a := 30) (k := 29) (by omega) rfl rfl rfl (by decide) (by decide) rfl rfl ?_
        refine kR.s rfl rfl ?_
        refine kR.s rfl rfl ?_
        refine kR.gr (a := 30) (b := 44) (k := 31) (by omega) rfl rfl rfl (by decide) (by decide) rfl ?_
        refine kR.s rfl rfl ?_
        refine kR.gi (a := 30) (k := 29) (v := ((o - 1 : Nat) : Int)) (by omega) rfl rfl rfl (by decide) (by decide) rfl (by rfl) ?_
        refine kR.ia (a := 44) (v := (d : Int)) (by omega) rfl (by decide) (by omega) (by omega) (by exact hd) ?_
        refine kR.c0 (kargs_m hm (by decide) rfl) rfl (kR.up (c_113 (S := ku (kapm2 (ku (ku S 30 19 0) 30 28 0) o n2 v d) 30 29 ((o - 1 : Nat) : Int)) hm) (by decide)) ?_
        refine kR.ret rfl rfl ?_
        first | rfl | (exfalso; omega)
  · skip
    refine kR.s rfl rfl ?_
    refine kR.s rfl rfl ?_
    refine kR.gi (a := 30) (k := 19) (v := 0) (by omega) rfl rfl rfl (by decide) (by decide) rfl (by rfl) ?_
    refine kR.zne (by decide) (by decide) (fun q11 => absurd q11 (by decide)) (fun q11 => ?_)
    refine kR.s rfl rfl ?_
    refine kR.zlt (by omega) (by omega) (fun q12 => ?_) (fun q12 => ?_)
    · skip
      show kR 6 143 b143_67 _ _ _ _
      refine kR.s rfl rfl ?_
      refine kR.n ?_
      show kR 6 143 b143_68 _ _ _ _
      refine kR.pi (a := 30) (k := 19) (by omega) rfl rfl rfl (by decide) (by decide) rfl (by first | rfl | assumption | simp [kfit, *]) ?_
      refine kR.s rfl rfl ?_
      refine kR.s rfl rfl ?_
      refine kR.pi (a := 30) (k := 20) (by omega) rfl rfl rfl (by decide) (by decide) rfl rfl ?_
      refine kR.ret rfl rfl ?_
      first | rfl | (exfalso; omega)
    · skip
      refine kR.n ?_
      show kR 6 143 b143_63 _ _ _ _
      refine kR.s rfl rfl ?_
      refine kR.g rfl ?_
      show kR 6 143 b143_68 _ _ _ _
      refine kR.pi (a := 30) (k := 19) (by omega) rfl rfl rfl (by decide) (by decide) rfl (by first | rfl | assumption | simp [kfit, *]) ?_
      refine kR.s rfl rfl ?_
      refine kR.s rfl rfl ?_
      refine kR.pi (a := 30) (k := 20) (by omega) rfl rfl rfl (by decide) (by decide) rfl rfl ?_
      refine kR.ret rfl rfl ?_
      first | rfl | (exfalso; omega)
theorem c_143_cl0_1 {m : Nat} {E : Nat → kC} {S : Nat → Nat → Int} {sz : Nat × Nat} (hm : 53 ≤ m ∧ m ≤ 57) {t : Nat → Int} {n L : Nat} (hX : kTx t n L) (hR : kRt S t n) {p e : Nat} (hpp : S 30 21 = (p : Int)) (he : S 30 23 = (e : Int)) (hpe : p ≤ 200 ∧ e ≤ 200) {iv : Int} (hiv : S 30 28 = iv) (hi01 : iv = 0 ∨ iv = 1) (hwr : S 30 19 = 0) {l : Nat} (hl : l ≤ L) (hle : S 30 24 + 1 = (klb t n l : Int)) {k : Nat} (hk : k = (kw (fun i => decide (¬ krb t n i < kre t n i ∨ t (krb t n i) = 35)) L l)) {v n2 d o : Nat} (hdn : S 30 27 = (v : Int)) (hn : S 30 15 = (n2 : Int)) (hnl : n2 < 200) (ho : S 30 29 = (o : Int)) (hol : 1 ≤ o ∧ o ≤ 8) (hd : S 44 (o - 1) = (d : Int)) (hdl : d < 60) (hwh : S 43 (o - 1) = 1) {cc : Int} (hcc : S 45 (o - 1) = cc) (hcr : 0 ≤ cc ∧ cc ≤ 200) (hin : iv = 0 ∨ p = e) (hkL : k < L) (hdp : (krb t n k : Int) - (klb t n k : Int) < cc) : kR 6 143 (blk 143 0) (kent 143 [.ref 30]) [] (sz, hp m E S) (fun r => r = (.inl none, (sz, hp m E (ku (ku (ku (kapm2 (ku (ku S 30 19 0) 30 28 0) o n2 v d) 30 29 ((o - 1 : Nat) : Int)) 30 27 (d : Int)) 30 20 4)))) := by
  show kR 6 143 b143_0 _ _ _ _
  refine kR.s rfl rfl ?_
  refine kR.s rfl rfl ?_
  refine kR.gi (a := 30) (k := 19) (v := 0) (by omega) rfl rfl rfl (by decide) (by decide) rfl (by exact hwr) ?_
  refine kR.zne (by decide) (by decide) (fun q1 => absurd q1 (by decide)) (fun q1 => ?_)
  refine kR.s rfl rfl ?_
  refine kR.gi (a := 30) (k := 28) (v := iv) (by omega) rfl rfl rfl (by decide) (by decide) rfl (by exact hiv) ?_
  refine kR.zeq (by omega) (by omega) (fun q2 => ?_) (fun q2 => ?_)
  · skip
    show kR 6 143 b143_30 _ _ _ _
    refine kR.s rfl rfl ?_
    refine kR.n ?_
    exact x_143_cl0_1 hm hX hR hpp he hpe hiv hi01 hwr hl hle hk hdn hn hnl ho hol hd hdl hwh hcc hcr hin hkL hdp
  · skip
    refine kR.s rfl rfl ?_
    refine kR.gi (a := 30) (k := 21) (v := (p : Int)) (by omega) rfl rfl rfl (by decide) (by decide) rfl (by exact hpp) ?_
    refine kR.s rfl rfl ?_
    refine kR.gi (a := 30) (k := 23) (v := (e : Int)) (by omega) rfl rfl rfl (by decide) (by decide) rfl (by exact he) ?_
    refine kR.jeq (by omega) (by omega) (by omega) (by omega) (fun q3 => ?_) (fun q3 => ?_)
    · skip
      show kR 6 143 b143_30 _ _ _ _
      refine kR.s rfl rfl ?_
      refine kR.n ?_
      exact x_143_cl0_1 hm hX hR hpp he hpe hiv hi01 hwr hl hle hk hdn hn hnl ho hol hd hdl hwh hcc hcr hin hkL hdp
    · skip
      refine kR.n ?_
      exfalso
      omega
theorem x_143_end0_2 {m : Nat} {E : Nat → kC} {S : Nat → Nat → Int} {sz : Nat × Nat} (hm : 53 ≤ m ∧ m ≤ 57) {t : Nat → Int} {n L : Nat} (hX : kTx t n L) (hR : kRt S t n) {p e : Nat} (hpp : S 30 21 = (p : Int)) (he : S 30 23 = (e : Int)) (hpe : p ≤ 200 ∧ e ≤ 200) {iv : Int} (hiv : S 30 28 = iv) (hi01 : iv = 0 ∨ iv = 1) (hwr : S 30 19 = 0) {l : Nat} (hl : l ≤ L) (hle : S 30 24 + 1 = (klb t n l : Int)) {k : Nat} (hk : k = (kw (fun i => decide (¬ krb t n i < kre t n i ∨ t (krb t n i) = 35)) L l)) {v n2 d o : Nat} (hdn : S 30 27 = (v : Int)) (hn : S 30 15 = (n2 : Int)) (hnl : n2 < 200) (ho : S 30 29 = (o : Int)) (hol : 1 ≤ o ∧ o ≤ 8) (hd : S 44 (o - 1) = (d : Int)) (hdl : d < 60) (hwh : S 43 (o - 1) = 2) {cc : Int} (hcc : S 45 (o - 1) = cc) (hcr : 0 ≤ cc ∧ cc ≤ 200) (hin : iv = 0 ∨ p = e) (hkL : L ≤ k) {v1 v2 v3 v4 v5 v6 : Value} : kR 6 143 (blk 143 31) [.ref 30, v1, v2, v3, v4, v5, v6] [.int (Int32.ofInt 0), .ref 30] (sz, hp m E S) (fun r => r = (.inl none, (sz, hp m E (ku (ku (ku (kapm2 (ku (ku S 30 19 0) 30 28 0) o n2 v d) 30 29 ((o - 1 : Nat) : Int)) 30 27 (d : Int)) 30 20 4)))) := by
  have hx1 := hX.1
  have hwq : -2147483648 ≤ S 43 (o - 1) ∧ S 43 (o - 1) < 2147483648 := by omega
  have ho1 : (o : Int) - 1 = ((o - 1 : Nat) : Int) := by omega
  show kR 6 143 b143_31 _ _ _ _
  refine kR.pi (a := 30) (k := 19) (by omega) rfl rfl rfl (by decide) (by decide) rfl (by first | rfl | assumption | simp [kfit, *]) ?_
  refine kR.s rfl rfl ?_
  refine kR.s rfl rfl ?_
  refine kR.pi (a := 30) (k := 28) (by omega) rfl rfl rfl (by decide) (by decide) rfl (by first | rfl | assumption | simp [kfit, *]) ?_
  refine kR.s rfl rfl ?_
  refine kR.cv (v := .int (Int32.ofInt (-1))) (kargs_m hm (by decide) rfl) rfl (kR.up ((by have z := c_106 (S := (ku (ku S 30 19 0) 30 28 0)) (E := E) (sz := sz) hm hX hR hl hle; rw [← hk, if_neg (by omega)] at z; exact z)) (by decide)) ?_
  refine kR.s rfl rfl ?_
  refine kR.s rfl rfl ?_
  refine kR.gi (a := 30) (k := 29) (v := (o : Int)) (by omega) rfl rfl rfl (by decide) (by decide) rfl (by exact ho) ?_
  refine kR.zne (by omega) (by omega) (fun q2 => ?_) (fun q2 => ?_)
  · skip
    show kR 6 143 b143_77 _ _ _ _
    refine kR.s rfl rfl ?_
    refine kR.s rfl rfl ?_
    refine kR.gi (a := 30) (k := 27) (v := (v : Int)) (by omega) rfl rfl rfl (by decide) (by decide) rfl (by exact hdn) ?_
    refine kR.c0 (kargs_m hm (by decide) rfl) rfl (kR.up (c_116 (S := ku (ku S 30 19 0) 30 28 0) hm (v := v) hn hnl ho (by omega) (by omega) hd hdl hwq) (by decide)) ?_
    refine kR.s rfl rfl ?_
    refine kR.zge (by decide) (by decide) (fun q4 => absurd q4 (by decide)) (fun q4 => ?_)
    refine kR.s rfl rfl ?_
    refine kR.g rfl ?_
    show kR 6 143 b143_103 _ _ _ _
    refine kR.s rfl rfl ?_
    refine kR.s rfl rfl ?_
    refine kR.gr (a := 30) (b := 45) (k := 32) (by omega) rfl rfl rfl (by decide) (by decide) rfl ?_
    refine kR.s rfl rfl ?_
    refine kR.gi (a := 30) (k := 29) (v := (o : Int)) (by omega) rfl rfl rfl (by decide) (by decide) rfl (by exact ho) ?_
    refine kR.s rfl rfl ?_
    refine kR.sub ?_
    rw [ho1]
    refine kR.ia (a := 45) (v := cc) (by omega) rfl (by decide) (by omega) (by omega) (by exact hcc) ?_
    refine kR.s rfl rfl ?_
    refine kR.s rfl rfl ?_
    refine kR.s rfl rfl ?_
    refine kR.jge (by omega) (by omega) (by omega) (by omega) (fun q5 => ?_) (fun q5 => ?_)
    · skip
      exfalso
      omega
    · skip
      refine kR.s rfl rfl ?_
      refine kR.s rfl rfl ?_
      refine kR.gi (a := 30) (k := 29) (v := (o : Int)) (by omega) rfl rfl rfl (by decide) (by decide) rfl (by exact ho) ?_
      refine kR.s rfl rfl ?_
      refine kR.sub ?_
      rw [ho1]
      refine kR.pi (a := 30) (k := 29) (by omega) rfl rfl rfl (by decide) (by decide) rfl rfl ?_
      refine kR.s rfl rfl ?_
      refine kR.s rfl rfl ?_
      refine kR.gr (a := 30) (b := 44) (k := 31) (by omega) rfl rfl rfl (by decide) (by decide) rfl ?_
      refine kR.s rfl rfl ?_
      refine kR.gi (a := 30) (k := 29) (v := ((o - 1 : Nat) : Int)) (by omega) rfl rfl rfl (by decide) (by decide) rfl (by rfl) ?_
      refine kR.ia (a := 44) (v := (d : Int)) (by omega) rfl (by decide) (by omega) (by omega) (by exact hd) ?_
      refine kR.c0 (kargs_m hm (by decide) rfl) rfl (kR.up (c_113 (S := ku (kapm2 (ku (ku S 30 19 0) 30 28 0) o n2 v d) 30 29 ((o - 1 : Nat) : Int)) hm) (by decide)) ?_
      refine kR.ret rfl rfl ?_
      first | rfl | (exfalso; omega)
  · skip
    refine kR.s rfl rfl ?_
    refine kR.s rfl rfl ?_
    refine kR.gi (a := 30) (k := 19) (v := 0) (by omega) rfl rfl rfl (by decide) (by decide) rfl (by rfl) ?_
    refine kR.zne (by decide) (by decide) (fun q7 => absurd q7 (by decide)) (fun q7 => ?_)
    refine kR.s rfl rfl ?_
    refine kR.zlt (by decide) (by decide) (fun q8 => ?_) (fun q8 => absurd q8 (by decide))
    show kR 6 143 b143_67 _ _ _ _
    refine kR.s rfl rfl ?_
    refine kR.n ?_
    show kR 6 143 b143_68 _ _ _ _
    refine kR.pi (a := 30) (k := 19) (by omega) rfl rfl rfl (by decide) (by decide) rfl (by first | rfl | assumption | simp [kfit, *]) ?_
    refine kR.s rfl rfl ?_
    refine kR.s rfl rfl ?_
    refine kR.pi (a := 30) (k := 20) (by omega) rfl rfl rfl (by decide) (by decide) rfl rfl ?_
    refine kR.ret rfl rfl ?_
    first | rfl | (exfalso; omega)
theorem c_143_end0_2 {m : Nat} {E : Nat → kC} {S : Nat → Nat → Int} {sz : Nat × Nat} (hm : 53 ≤ m ∧ m ≤ 57) {t : Nat → Int} {n L : Nat} (hX : kTx t n L) (hR : kRt S t n) {p e : Nat} (hpp : S 30 21 = (p : Int)) (he : S 30 23 = (e : Int)) (hpe : p ≤ 200 ∧ e ≤ 200) {iv : Int} (hiv : S 30 28 = iv) (hi01 : iv = 0 ∨ iv = 1) (hwr : S 30 19 = 0) {l : Nat} (hl : l ≤ L) (hle : S 30 24 + 1 = (klb t n l : Int)) {k : Nat} (hk : k = (kw (fun i => decide (¬ krb t n i < kre t n i ∨ t (krb t n i) = 35)) L l)) {v n2 d o : Nat} (hdn : S 30 27 = (v : Int)) (hn : S 30 15 = (n2 : Int)) (hnl : n2 < 200) (ho : S 30 29 = (o : Int)) (hol : 1 ≤ o ∧ o ≤ 8) (hd : S 44 (o - 1) = (d : Int)) (hdl : d < 60) (hwh : S 43 (o - 1) = 2) {cc : Int} (hcc : S 45 (o - 1) = cc) (hcr : 0 ≤ cc ∧ cc ≤ 200) (hin : iv = 0 ∨ p = e) (hkL : L ≤ k) : kR 6 143 (blk 143 0) (kent 143 [.ref 30]) [] (sz, hp m E S) (fun r => r = (.inl none, (sz, hp m E (ku (ku (ku (kapm2 (ku (ku S 30 19 0) 30 28 0) o n2 v d) 30 29 ((o - 1 : Nat) : Int)) 30 27 (d : Int)) 30 20 4)))) := by
  show kR 6 143 b143_0 _ _ _ _
  refine kR.s rfl rfl ?_
  refine kR.s rfl rfl ?_
  refine kR.gi (a := 30) (k := 19) (v := 0) (by omega) rfl rfl rfl (by decide) (by decide) rfl (by exact hwr) ?_
  refine kR.zne (by decide) (by decide) (fun q1 => absurd q1 (by decide)) (fun q1 => ?_)
  refine kR.s rfl rfl ?_
  refine kR.gi (a := 30) (k := 28) (v := iv) (by omega) rfl rfl rfl (by decide) (by decide) rfl (by exact hiv) ?_
  refine kR.zeq (by omega) (by omega) (fun q2 => ?_) (fun q2 => ?_)
  · skip
    show kR 6 143 b143_30 _ _ _ _
    refine kR.s rfl rfl ?_
    refine kR.n ?_
    exact x_143_end0_2 hm hX hR hpp he hpe hiv hi01 hwr hl hle hk hdn hn hnl ho hol hd hdl hwh hcc hcr hin hkL
  · skip
    refine kR.s rfl rfl ?_
    refine kR.gi (a := 30) (k := 21) (v := (p : Int)) (by omega) rfl rfl rfl (by decide) (by decide) rfl (by exact hpp) ?_
    refine kR.s rfl rfl ?_
    refine kR.gi (a := 30) (k := 23) (v := (e : Int)) (by omega) rfl rfl rfl (by decide) (by decide) rfl (by exact he) ?_
    refine kR.jeq (by omega) (by omega) (by omega) (by omega) (fun q3 => ?_) (fun q3 => ?_)
    · skip
      show kR 6 143 b143_30 _ _ _ _
      refine kR.s rfl rfl ?_
      refine kR.n ?_
      exact x_143_end0_2 hm hX hR hpp he hpe hiv hi01 hwr hl hle hk hdn hn hnl ho hol hd hdl hwh hcc hcr hin hkL
    · skip
      refine kR.n ?_
      exfalso
      omega
theorem x_143_cl0_2 {m : Nat} {E : Nat → kC} {S : Nat → Nat → Int} {sz : Nat × Nat} (hm : 53 ≤ m ∧ m ≤ 57) {t : Nat → Int} {n L : Nat} (hX : kTx t n L) (hR : kRt S t n) {p e : Nat} (hpp : S 30 21 = (p : Int)) (he : S 30 23 = (e : Int)) (hpe : p ≤ 200 ∧ e ≤ 200) {iv : Int} (hiv : S 30 28 = iv) (hi01 : iv = 0 ∨ iv = 1) (hwr : S 30 19 = 0) {l : Nat} (hl : l ≤ L) (hle : S 30 24 + 1 = (klb t n l : Int)) {k : Nat} (hk : k = (kw (fun i => decide (¬ krb t n i < kre t n i ∨ t (krb t n i) = 35)) L l)) {v n2 d o : Nat} (hdn : S 30 27 = (v : Int)) (hn : S 30 15 = (n2 : Int)) (hnl : n2 < 200) (ho : S 30 29 = (o : Int)) (hol : 1 ≤ o ∧ o ≤ 8) (hd : S 44 (o - 1) = (d : Int)) (hdl : d < 60) (hwh : S 43 (o - 1) = 2) {cc : Int} (hcc : S 45 (o - 1) = cc) (hcr : 0 ≤ cc ∧ cc ≤ 200) (hin : iv = 0 ∨ p = e) (hkL : k < L) (hdp : (krb t n k : Int) - (klb t n k : Int) < cc) {v1 v2 v3 v4 v5 v6 : Value} : kR 6 143 (blk 143 31) [.ref 30, v1, v2, v3, v4, v5, v6] [.int (Int32.ofInt 0), .ref 30] (sz, hp m E S) (fun r => r = (.inl none, (sz, hp m E (ku (ku (ku (kapm2 (ku (ku S 30 19 0) 30 28 0) o n2 v d) 30 29 ((o - 1 : Nat) : Int)) 30 27 (d : Int)) 30 20 4)))) := by
  have hx1 := hX.1
  have hwq : -2147483648 ≤ S 43 (o - 1) ∧ S 43 (o - 1) < 2147483648 := by omega
  have ho1 : (o : Int) - 1 = ((o - 1 : Nat) : Int) := by omega
  have hx4 := hX.2.2.2.2.1 k hkL
  have hx7 := hX.ln hkL
  show kR 6 143 b143_31 _ _ _ _
  refine kR.pi (a := 30) (k := 19) (by omega) rfl rfl rfl (by decide) (by decide) rfl (by first | rfl | assumption | simp [kfit, *]) ?_
  refine kR.s rfl rfl ?_
  refine kR.s rfl rfl ?_
  refine kR.pi (a := 30) (k := 28) (by omega) rfl rfl rfl (by decide) (by decide) rfl (by first | rfl | assumption | simp [kfit, *]) ?_
  refine kR.s rfl rfl ?_
  refine kR.cv (v := .int (Int32.ofInt ((klb t n k : Int)))) (kargs_m hm (by decide) rfl) rfl (kR.up ((by have z := c_106 (S := (ku (ku S 30 19 0) 30 28 0)) (E := E) (sz := sz) hm hX hR hl hle; rw [← hk, if_pos hkL] at z; exact z)) (by decide)) ?_
  refine kR.s rfl rfl ?_
  refine kR.s rfl rfl ?_
  refine kR.gi (a := 30) (k := 29) (v := (o : Int)) (by omega) rfl rfl rfl (by decide) (by decide) rfl (by exact ho) ?_
  refine kR.zne (by omega) (by omega) (fun q2 => ?_) (fun q2 => ?_)
  · skip
    show kR 6 143 b143_77 _ _ _ _
    refine kR.s rfl rfl ?_
    refine kR.s rfl rfl ?_
    refine kR.gi (a := 30) (k := 27) (v := (v : Int)) (by omega) rfl rfl rfl (by decide) (by decide) rfl (by exact hdn) ?_
    refine kR.c0 (kargs_m hm (by decide) rfl) rfl (kR.up (c_116 (S := ku (ku S 30 19 0) 30 28 0) hm (v := v) hn hnl ho (by omega) (by omega) hd hdl hwq) (by decide)) ?_
    refine kR.s rfl rfl ?_
    refine kR.zge (by omega) (by omega) (fun q4 => ?_) (fun q4 => ?_)
    · skip
      show kR 6 143 b143_93 _ _ _ _
      refine kR.s rfl rfl ?_
      refine kR.s rfl rfl ?_
      refine kR.s rfl rfl ?_
      refine kR.s rfl rfl ?_
      refine kR.cv (v := .int (Int32.ofInt ((kle t n k : Int)))) (kargs_m hm (by decide) rfl) rfl (kR.up (c_105t (S := (kapm2 (ku (ku S 30 19 0) 30 28 0) o n2 v d)) hm hX hR (a := klb t n k) (by omega)) (by decide)) ?_
      refine kR.cv (v := .int (Int32.ofInt ((krb t n k : Int) - (klb t n k : Int)))) (kargs_m hm (by decide) rfl) rfl (kR.up (c_104t (S := (kapm2 (ku (ku S 30 19 0) 30 28 0) o n2 v d)) hm hX hR (a := klb t n k) (g := kle t n k) (by omega) (by omega)) (by decide)) ?_
      refine kR.n ?_
      show kR 6 143 b143_103 _ _ _ _
      refine kR.s rfl rfl ?_
      refine kR.s rfl rfl ?_
      refine kR.gr (a := 30) (b := 45) (k := 32) (by omega) rfl rfl rfl (by decide) (by decide) rfl ?_
      refine kR.s rfl rfl ?_
      refine kR.gi (a := 30) (k := 29) (v := (o : Int)) (by omega) rfl rfl rfl (by decide) (by decide) rfl (by exact ho) ?_
      refine kR.s rfl rfl ?_
      refine kR.sub ?_
      rw [ho1]
      refine kR.ia (a := 45) (v := cc) (by omega) rfl (by decide) (by omega) (by omega) (by exact hcc) ?_
      refine kR.s rfl rfl ?_
      refine kR.s rfl rfl ?_
      refine kR.s rfl rfl ?_
      refine kR.jge (by omega) (by omega) (by omega) (by omega) (fun q7 => ?_) (fun q7 => ?_)
      · skip
        exfalso
        omega
      · skip
        refine kR.s rfl rfl ?_
        refine kR.s rfl rfl ?_
        refine kR.gi (a := 30) (k := 29) (v := (o : Int)) (by omega) rfl rfl rfl (by decide) (by decide) rfl (by exact ho) ?_
        refine kR.s rfl rfl ?_
        refine kR.sub ?_
        rw [ho1]
        refine kR.pi (a := 30) (k := 29) (by omega) rfl rfl rfl (by decide) (by decide) rfl rfl ?_
        refine kR.s rfl rfl ?_
        refine kR.s rfl rfl ?_
        refine kR.gr (a := 30) (b := 44) (k := 31) (by omega) rfl rfl rfl (by decide) (by decide) rfl ?_
        refine kR.s rfl rfl ?_
        refine kR.gi (a := 30) (k := 29) (v := ((o - 1 : Nat) : Int)) (by omega) rfl rfl rfl (by decide) (by decide) rfl (by rfl) ?_
        refine kR.ia (a := 44) (v := (d : Int)) (by omega) rfl (by decide) (by omega) (by omega) (by exact hd) ?_
        refine kR.c0 (kargs_m hm (by decide) rfl) rfl (kR.up (c_113 (S := ku (kapm2 (ku (ku S 30 19 0) 30 28 0) o n2 v d) 30 29 ((o - 1 : Nat) : Int)) hm) (by decide)) ?_
        refine kR.ret rfl rfl ?_
        first | rfl | (exfalso; omega)
    · skip
      refine kR.s rfl rfl ?_
      refine kR.g rfl ?_
      show kR 6 143 b143_103 _ _ _ _
      refine kR.s rfl rfl ?_
      refine kR.s rfl rfl ?_
      refine kR.gr (a := 30) (b := 45) (k := 32) (by omega) rfl rfl rfl (by decide) (by decide) rfl ?_
      refine kR.s rfl rfl ?_
      refine kR.gi (a := 30) (k := 29) (v := (o : Int)) (by omega) rfl rfl rfl (by decide) (by decide) rfl (by exact ho) ?_
      refine kR.s rfl rfl ?_
      refine kR.sub ?_
      rw [ho1]
      refine kR.ia (a := 45) (v := cc) (by omega) rfl (by decide) (by omega) (by omega) (by exact hcc) ?_
      refine kR.s rfl rfl ?_
      refine kR.s rfl rfl ?_
      refine kR.s rfl rfl ?_
      refine kR.jge (by omega) (by omega) (by omega) (by omega) (fun q9 => ?_) (fun q9 => ?_)
      · skip
        exfalso
        omega
      · skip
        refine kR.s rfl rfl ?_
        refine kR.s rfl rfl ?_
        refine kR.gi (a := 30) (k := 29) (v := (o : Int)) (by omega) rfl rfl rfl (by decide) (by decide) rfl (by exact ho) ?_
        refine kR.s rfl rfl ?_
        refine kR.sub ?_
        rw [ho1]
        refine kR.pi (a := 30) (k := 29) (by omega) rfl rfl rfl (by decide) (by decide) rfl rfl ?_
        refine kR.s rfl rfl ?_
        refine kR.s rfl rfl ?_
        refine kR.gr (a := 30) (b := 44) (k := 31) (by omega) rfl rfl rfl (by decide) (by decide) rfl ?_
        refine kR.s rfl rfl ?_
        refine kR.gi (a := 30) (k := 29) (v := ((o - 1 : Nat) : Int)) (by omega) rfl rfl rfl (by decide) (by decide) rfl (by rfl) ?_
        refine kR.ia (a := 44) (v := (d : Int)) (by omega) rfl (by decide) (by omega) (by omega) (by exact hd) ?_
        refine kR.c0 (kargs_m hm (by decide) rfl) rfl (kR.up (c_113 (S := ku (kapm2 (ku (ku S 30 19 0) 30 28 0) o n2 v d) 30 29 ((o - 1 : Nat) : Int)) hm) (by decide)) ?_
        refine kR.ret rfl rfl ?_
        first | rfl | (exfalso; omega)
  · skip
    refine kR.s rfl rfl ?_
    refine kR.s rfl rfl ?_
    refine kR.gi (a := 30) (k := 19) (v := 0) (by omega) rfl rfl rfl (by decide) (by decide) rfl (by rfl) ?_
    refine kR.zne (by decide) (by decide) (fun q11 => absurd q11 (by decide)) (fun q11 => ?_)
    refine kR.s rfl rfl ?_
    refine kR.zlt (by omega) (by omega) (fun q12 => ?_) (fun q12 => ?_)
    · skip
      show kR 6 143 b143_67 _ _ _ _
      refine kR.s rfl rfl ?_
      refine kR.n ?_
      show kR 6 143 b143_68 _ _ _ _
      refine kR.pi (a := 30) (k := 19) (by omega) rfl rfl rfl (by decide) (by decide) rfl (by first | rfl | assumption | simp [kfit, *]) ?_
      refine kR.s rfl rfl ?_
      refine kR.s rfl rfl ?_
      refine kR.pi (a := 30) (k := 20) (by omega) rfl rfl rfl (by decide) (by decide) rfl rfl ?_
      refine kR.ret rfl rfl ?_
      first | rfl | (exfalso; omega)
    · skip
      refine kR.n ?_
      show kR 6 143 b143_63 _ _ _ _
      refine kR.s rfl rfl ?_
      refine kR.g rfl ?_
      show kR 6 143 b143_68 _ _ _ _
      refine kR.pi (a := 30) (k := 19) (by omega) rfl rfl rfl (by decide) (by decide) rfl (by first | rfl | assumption | simp [kfit, *]) ?_
      refine kR.s rfl rfl ?_
      refine kR.s rfl rfl ?_
      refine kR.pi (a := 30) (k := 20) (by omega) rfl rfl rfl (by decide) (by decide) rfl rfl ?_
      refine kR.ret rfl rfl ?_
      first | rfl | (exfalso; omega)
theorem c_143_cl0_2 {m : Nat} {E : Nat → kC} {S : Nat → Nat → Int} {sz : Nat × Nat} (hm : 53 ≤ m ∧ m ≤ 57) {t : Nat → Int} {n L : Nat} (hX : kTx t n L) (hR : kRt S t n) {p e : Nat} (hpp : S 30 21 = (p : Int)) (he : S 30 23 = (e : Int)) (hpe : p ≤ 200 ∧ e ≤ 200) {iv : Int} (hiv : S 30 28 = iv) (hi01 : iv = 0 ∨ iv = 1) (hwr : S 30 19 = 0) {l : Nat} (hl : l ≤ L) (hle : S 30 24 + 1 = (klb t n l : Int)) {k : Nat} (hk : k = (kw (fun i => decide (¬ krb t n i < kre t n i ∨ t (krb t n i) = 35)) L l)) {v n2 d o : Nat} (hdn : S 30 27 = (v : Int)) (hn : S 30 15 = (n2 : Int)) (hnl : n2 < 200) (ho : S 30 29 = (o : Int)) (hol : 1 ≤ o ∧ o ≤ 8) (hd : S 44 (o - 1) = (d : Int)) (hdl : d < 60) (hwh : S 43 (o - 1) = 2) {cc : Int} (hcc : S 45 (o - 1) = cc) (hcr : 0 ≤ cc ∧ cc ≤ 200) (hin : iv = 0 ∨ p = e) (hkL : k < L) (hdp : (krb t n k : Int) - (klb t n k : Int) < cc) : kR 6 143 (blk 143 0) (kent 143 [.ref 30]) [] (sz, hp m E S) (fun r => r = (.inl none, (sz, hp m E (ku (ku (ku (kapm2 (ku (ku S 30 19 0) 30 28 0) o n2 v d) 30 29 ((o - 1 : Nat) : Int)) 30 27 (d : Int)) 30 20 4)))) := by
  show kR 6 143 b143_0 _ _ _ _
  refine kR.s rfl rfl ?_
  refine kR.s rfl rfl ?_
  refine kR.gi (a := 30) (k := 19) (v := 0) (by omega) rfl rfl rfl (by decide) (by decide) rfl (by exact hwr) ?_
  refine kR.zne (by decide) (by decide) (fun q1 => absurd q1 (by decide)) (fun q1 => ?_)
  refine kR.s rfl rfl ?_
  refine kR.gi (a := 30) (k := 28) (v := iv) (by omega) rfl rfl rfl (by decide) (by decide) rfl (by exact hiv) ?_
  refine kR.zeq (by omega) (by omega) (fun q2 => ?_) (fun q2 => ?_)
  · skip
    show kR 6 143 b143_30 _ _ _ _
    refine kR.s rfl rfl ?_
    refine kR.n ?_
    exact x_143_cl0_2 hm hX hR hpp he hpe hiv hi01 hwr hl hle hk hdn hn hnl ho hol hd hdl hwh hcc hcr hin hkL hdp
  · skip
    refine kR.s rfl rfl ?_
    refine kR.gi (a := 30) (k := 21) (v := (p : Int)) (by omega) rfl rfl rfl (by decide) (by decide) rfl (by exact hpp) ?_
    refine kR.s rfl rfl ?_
    refine kR.gi (a := 30) (k := 23) (v := (e : Int)) (by omega) rfl rfl rfl (by decide) (by decide) rfl (by exact he) ?_
    refine kR.jeq (by omega) (by omega) (by omega) (by omega) (fun q3 => ?_) (fun q3 => ?_)
    · skip
      show kR 6 143 b143_30 _ _ _ _
      refine kR.s rfl rfl ?_
      refine kR.n ?_
      exact x_143_cl0_2 hm hX hR hpp he hpe hiv hi01 hwr hl hle hk hdn hn hnl ho hol hd hdl hwh hcc hcr hin hkL hdp
    · skip
      refine kR.n ?_
      exfalso
      omega
theorem x_143_row0 {m : Nat} {E : Nat → kC} {S : Nat → Nat → Int} {sz : Nat × Nat} (hm : 53 ≤ m ∧ m ≤ 57) {t : Nat → Int} {n L : Nat} (hX : kTx t n L) (hR : kRt S t n) {p e : Nat} (hpp : S 30 21 = (p : Int)) (he : S 30 23 = (e : Int)) (hpe : p ≤ 200 ∧ e ≤ 200) {iv : Int} (hiv : S 30 28 = iv) (hi01 : iv = 0 ∨ iv = 1) (hwr : S 30 19 = 0) {l : Nat} (hl : l ≤ L) (hle : S 30 24 + 1 = (klb t n l : Int)) {k : Nat} (hk : k = (kw (fun i => decide (¬ krb t n i < kre t n i ∨ t (krb t n i) = 35)) L l)) {v n2 d o : Nat} (hdn : S 30 27 = (v : Int)) (hn : S 30 15 = (n2 : Int)) (hnl : n2 < 200) (ho : S 30 29 = (o : Int)) (hol : 1 ≤ o ∧ o ≤ 8) (hd : S 44 (o - 1) = (d : Int)) (hdl : d < 60) (hwh : S 43 (o - 1) = 1) {cc : Int} (hcc : S 45 (o - 1) = cc) (hcr : 0 ≤ cc ∧ cc ≤ 200) (hin : iv = 0 ∨ p = e) (hkL : k < L) (hdp : (krb t n k : Int) - (klb t n k : Int) = cc) (hda : kdash t (kre t n k) (krb t n k) = 1) {v1 v2 v3 v4 v5 v6 : Value} : kR 6 143 (blk 143 31) [.ref 30, v1, v2, v3, v4, v5, v6] [.int (Int32.ofInt 0), .ref 30] (sz, hp m E S) (fun r => r = (.inl none, (sz, hp m E (ku (ku (kgom (kapm2 (ku (ku S 30 19 0) 30 28 0) o n2 v d) t n k) 30 21 ((kw (fun i => decide (t i = 32)) (kre t n k) (krb t n k + 1)) : Nat)) 30 20 1)))) := by
  have hx1 := hX.1
  have hwq : -2147483648 ≤ S 43 (o - 1) ∧ S 43 (o - 1) < 2147483648 := by omega
  have ho1 : (o : Int) - 1 = ((o - 1 : Nat) : Int) := by omega
  have hx4 := hX.2.2.2.2.1 k hkL
  have hx7 := hX.ln hkL
  show kR 6 143 b143_31 _ _ _ _
  refine kR.pi (a := 30) (k := 19) (by omega) rfl rfl rfl (by decide) (by decide) rfl (by first | rfl | assumption | simp [kfit, *]) ?_
  refine kR.s rfl rfl ?_
  refine kR.s rfl rfl ?_
  refine kR.pi (a := 30) (k := 28) (by omega) rfl rfl rfl (by decide) (by decide) rfl (by first | rfl | assumption | simp [kfit, *]) ?_
  refine kR.s rfl rfl ?_
  refine kR.cv (v := .int (Int32.ofInt ((klb t n k : Int)))) (kargs_m hm (by decide) rfl) rfl (kR.up ((by have z := c_106 (S := (ku (ku S 30 19 0) 30 28 0)) (E := E) (sz := sz) hm hX hR hl hle; rw [← hk, if_pos hkL] at z; exact z)) (by decide)) ?_
  refine kR.s rfl rfl ?_
  refine kR.s rfl rfl ?_
  refine kR.gi (a := 30) (k := 29) (v := (o : Int)) (by omega) rfl rfl rfl (by decide) (by decide) rfl (by exact ho) ?_
  refine kR.zne (by omega) (by omega) (fun q2 => ?_) (fun q2 => ?_)
  · skip
    show kR 6 143 b143_77 _ _ _ _
    refine kR.s rfl rfl ?_
    refine kR.s rfl rfl ?_
    refine kR.gi (a := 30) (k := 27) (v := (v : Int)) (by omega) rfl rfl rfl (by decide) (by decide) rfl (by exact hdn) ?_
    refine kR.c0 (kargs_m hm (by decide) rfl) rfl (kR.up (c_116 (S := ku (ku S 30 19 0) 30 28 0) hm (v := v) hn hnl ho (by omega) (by omega) hd hdl hwq) (by decide)) ?_
    refine kR.s rfl rfl ?_
    refine kR.zge (by omega) (by omega) (fun q4 => ?_) (fun q4 => ?_)
    · skip
      show kR 6 143 b143_93 _ _ _ _
      refine kR.s rfl rfl ?_
      refine kR.s rfl rfl ?_
      refine kR.s rfl rfl ?_
      refine kR.s rfl rfl ?_
      refine kR.cv (v := .int (Int32.ofInt ((kle t n k : Int)))) (kargs_m hm (by decide) rfl) rfl (kR.up (c_105t (S := (kapm2 (ku (ku S 30 19 0) 30 28 0) o n2 v d)) hm hX hR (a := klb t n k) (by omega)) (by decide)) ?_
      refine kR.cv (v := .int (Int32.ofInt ((krb t n k : Int) - (klb t n k : Int)))) (kargs_m hm (by decide) rfl) rfl (kR.up (c_104t (S := (kapm2 (ku (ku S 30 19 0) 30 28 0) o n2 v d)) hm hX hR (a := klb t n k) (g := kle t n k) (by omega) (by omega)) (by decide)) ?_
      refine kR.n ?_
      show kR 6 143 b143_103 _ _ _ _
      refine kR.s rfl rfl ?_
      refine kR.s rfl rfl ?_
      refine kR.gr (a := 30) (b := 45) (k := 32) (by omega) rfl rfl rfl (by decide) (by decide) rfl ?_
      refine kR.s rfl rfl ?_
      refine kR.gi (a := 30) (k := 29) (v := (o : Int)) (by omega) rfl rfl rfl (by decide) (by decide) rfl (by exact ho) ?_
      refine kR.s rfl rfl ?_
      refine kR.sub ?_
      rw [ho1]
      refine kR.ia (a := 45) (v := cc) (by omega) rfl (by decide) (by omega) (by omega) (by exact hcc) ?_
      refine kR.s rfl rfl ?_
      refine kR.s rfl rfl ?_
      refine kR.s rfl rfl ?_
      refine kR.jge (by omega) (by omega) (by omega) (by omega) (fun q7 => ?_) (fun q7 => ?_)
      · skip
        show kR 6 143 b143_145 _ _ _ _
        refine kR.s rfl rfl ?_
        refine kR.s rfl rfl ?_
        refine kR.c0 (kargs_m hm (by decide) rfl) rfl (kR.up (c_107 (S := (kapm2 (ku (ku S 30 19 0) 30 28 0) o n2 v d)) hm hX hR hkL) (by decide)) ?_
        refine kR.s rfl rfl ?_
        refine kR.cv (v := .int (Int32.ofInt (1))) (kargs_m hm (by decide) rfl) rfl (kR.up (hda ▸ c_130 (S := (kgom (kapm2 (ku (ku S 30 19 0) 30 28 0) o n2 v d) t n k)) hm hX hR (e := kre t n k) rfl (by omega) (p := krb t n k) rfl (by omega)) (by decide)) ?_
        refine kR.s rfl rfl ?_
        refine kR.s rfl rfl ?_
        refine kR.gr (a := 30) (b := 43) (k := 30) (by omega) rfl rfl rfl (by decide) (by decide) rfl ?_
        refine kR.s rfl rfl ?_
        refine kR.gi (a := 30) (k := 29) (v := (o : Int)) (by omega) rfl rfl rfl (by decide) (by decide) rfl (by exact ho) ?_
        refine kR.s rfl rfl ?_
        refine kR.sub ?_
        rw [ho1]
        refine kR.ia (a := 43) (v := 1) (by omega) rfl (by decide) (by omega) (by omega) (by exact hwh) ?_
        refine kR.s rfl rfl ?_
        refine kR.jne (by decide) (by decide) (by decide) (by decide) (fun q10 => absurd q10 (by decide)) (fun q10 => ?_)
        refine kR.s rfl rfl ?_
        refine kR.g rfl ?_
        show kR 6 143 b143_176 _ _ _ _
        refine kR.s rfl rfl ?_
        refine kR.s rfl rfl ?_
        refine kR.zeq (by decide) (by decide) (fun q11 => absurd q11 (by decide)) (fun q11 => ?_)
        refine kR.s rfl rfl ?_
        refine kR.g rfl ?_
        show kR 6 143 b143_191 _ _ _ _
        refine kR.s rfl rfl ?_
        refine kR.s rfl rfl ?_
        refine kR.s rfl rfl ?_
        refine kR.jgt (by omega) (by omega) (by omega) (by omega) (fun q12 => ?_) (fun q12 => ?_)
        · skip
          exfalso
          omega
        · skip
          refine kR.s rfl rfl ?_
          refine kR.s rfl rfl ?_
          refine kR.jne (by decide) (by decide) (by decide) (by decide) (fun q13 => absurd q13 (by decide)) (fun q13 => ?_)
          refine kR.s rfl rfl ?_
          refine kR.zge (by decide) (by decide) (fun q14 => ?_) (fun q14 => absurd q14 (by decide))
          show kR 6 143 b143_218 _ _ _ _
          refine kR.s rfl rfl ?_
          refine kR.zeq (by decide) (by decide) (fun q15 => absurd q15 (by decide)) (fun q15 => ?_)
          refine kR.s rfl rfl ?_
          refine kR.c0 (kargs_m hm (by decide) rfl) rfl (kR.up (c_132 (S := (kgom (kapm2 (ku (ku S 30 19 0) 30 28 0) o n2 v d) t n k)) hm hX hR (e := kre t n k) rfl (by omega) (p := krb t n k) rfl (by omega)) (by decide)) ?_
          refine kR.g rfl ?_
          show kR 6 143 b143_236 _ _ _ _
          refine kR.ret rfl rfl ?_
          first | rfl | (exfalso; omega)
      · skip
        exfalso
        omega
    · skip
      refine kR.s rfl rfl ?_
      refine kR.g rfl ?_
      show kR 6 143 b143_103 _ _ _ _
      refine kR.s rfl rfl ?_
      refine kR.s rfl rfl ?_
      refine kR.gr (a := 30) (b := 45) (k := 32) (by omega) rfl rfl rfl (by decide) (by decide) rfl ?_
      refine kR.s rfl rfl ?_
      refine kR.gi (a := 30) (k := 29) (v := (o : Int)) (by omega) rfl rfl rfl (by decide) (by decide) rfl (by exact ho) ?_
      refine kR.s rfl rfl ?_
      refine kR.sub ?_
      rw [ho1]
      refine kR.ia (a := 45) (v := cc) (by omega) rfl (by decide) (by omega) (by omega) (by exact hcc) ?_
      refine kR.s rfl rfl ?_
      refine kR.s rfl rfl ?_
      refine kR.s rfl rfl ?_
      refine kR.jge (by omega) (by omega) (by omega) (by omega) (fun q17 => ?_) (fun q17 => ?_)
      · skip
        show kR 6 143 b143_145 _ _ _ _
        refine kR.s rfl rfl ?_
        refine kR.s rfl rfl ?_
        refine kR.c0 (kargs_m hm (by decide) rfl) rfl (kR.up (c_107 (S := (kapm2 (ku (ku S 30 19 0) 30 28 0) o n2 v d)) hm hX hR hkL) (by decide)) ?_
        refine kR.s rfl rfl ?_
        refine kR.cv (v := .int (Int32.ofInt (1))) (kargs_m hm (by decide) rfl) rfl (kR.up (hda ▸ c_130 (S := (kgom (kapm2 (ku (ku S 30 19 0) 30 28 0) o n2 v d) t n k)) hm hX hR (e := kre t n k) rfl (by omega) (p := krb t n k) rfl (by omega)) (by decide)) ?_
        refine kR.s rfl rfl ?_
        refine kR.s rfl rfl ?_
        refine kR.gr (a := 30) (b := 43) (k := 30) (by omega) rfl rfl rfl (by decide) (by decide) rfl ?_
        refine kR.s rfl rfl ?_
        refine kR.gi (a := 30) (k := 29) (v := (o : Int)) (by omega) rfl rfl rfl (by decide) (by decide) rfl (by exact ho) ?_
        refine kR.s rfl rfl ?_
        refine kR.sub ?_
        rw [ho1]
        refine kR.ia (a := 43) (v := 1) (by omega) rfl (by decide) (by omega) (by omega) (by exact hwh) ?_
        refine kR.s rfl rfl ?_
        refine kR.jne (by decide) (by decide) (by decide) (by decide) (fun q20 => absurd q20 (by decide)) (fun q20 => ?_)
        refine kR.s rfl rfl ?_
        refine kR.g rfl ?_
        show kR 6 143 b143_176 _ _ _ _
        refine kR.s rfl rfl ?_
        refine kR.s rfl rfl ?_
        refine kR.zeq (by decide) (by decide) (fun q21 => absurd q21 (by decide)) (fun q21 => ?_)
        refine kR.s rfl rfl ?_
        refine kR.g rfl ?_
        show kR 6 143 b143_191 _ _ _ _
        refine kR.s rfl rfl ?_
        refine kR.s rfl rfl ?_
        refine kR.s rfl rfl ?_
        refine kR.jgt (by omega) (by omega) (by omega) (by omega) (fun q22 => ?_) (fun q22 => ?_)
        · skip
          exfalso
          omega
        · skip
          refine kR.s rfl rfl ?_
          refine kR.s rfl rfl ?_
          refine kR.jne (by decide) (by decide) (by decide) (by decide) (fun q23 => absurd q23 (by decide)) (fun q23 => ?_)
          refine kR.s rfl rfl ?_
          refine kR.zge (by decide) (by decide) (fun q24 => ?_) (fun q24 => absurd q24 (by decide))
          show kR 6 143 b143_218 _ _ _ _
          refine kR.s rfl rfl ?_
          refine kR.zeq (by decide) (by decide) (fun q25 => absurd q25 (by decide)) (fun q25 => ?_)
          refine kR.s rfl rfl ?_
          refine kR.c0 (kargs_m hm (by decide) rfl) rfl (kR.up (c_132 (S := (kgom (kapm2 (ku (ku S 30 19 0) 30 28 0) o n2 v d) t n k)) hm hX hR (e := kre t n k) rfl (by omega) (p := krb t n k) rfl (by omega)) (by decide)) ?_
          refine kR.g rfl ?_
          show kR 6 143 b143_236 _ _ _ _
          refine kR.ret rfl rfl ?_
          first | rfl | (exfalso; omega)
      · skip
        exfalso
        omega
  · skip
    refine kR.s rfl rfl ?_
    refine kR.s rfl rfl ?_
    refine kR.gi (a := 30) (k := 19) (v := 0) (by omega) rfl rfl rfl (by decide) (by decide) rfl (by rfl) ?_
    refine kR.zne (by decide) (by decide) (fun q27 => absurd q27 (by decide)) (fun q27 => ?_)
    refine kR.s rfl rfl ?_
    refine kR.zlt (by omega) (by omega) (fun q28 => ?_) (fun q28 => ?_)
    · skip
      show kR 6 143 b143_67 _ _ _ _
      refine kR.s rfl rfl ?_
      refine kR.n ?_
      show kR 6 143 b143_68 _ _ _ _
      refine kR.pi (a := 30) (k := 19) (by omega) rfl rfl rfl (by decide) (by decide) rfl (by first | rfl | assumption | simp [kfit, *]) ?_
      refine kR.s rfl rfl ?_
      refine kR.s rfl rfl ?_
      refine kR.pi (a := 30) (k := 20) (by omega) rfl rfl rfl (by decide) (by decide) rfl rfl ?_
      refine kR.ret rfl rfl ?_
      first | rfl | (exfalso; omega)
    · skip
      refine kR.n ?_
      show kR 6 143 b143_63 _ _ _ _
      refine kR.s rfl rfl ?_
      refine kR.g rfl ?_
      show kR 6 143 b143_68 _ _ _ _
      refine kR.pi (a := 30) (k := 19) (by omega) rfl rfl rfl (by decide) (by decide) rfl (by first | rfl | assumption | simp [kfit, *]) ?_
      refine kR.s rfl rfl ?_
      refine kR.s rfl rfl ?_
      refine kR.pi (a := 30) (k := 20) (by omega) rfl rfl rfl (by decide) (by decide) rfl rfl ?_
      refine kR.ret rfl rfl ?_
      first | rfl | (exfalso; omega)
theorem c_143_row0 {m : Nat} {E : Nat → kC} {S : Nat → Nat → Int} {sz : Nat × Nat} (hm : 53 ≤ m ∧ m ≤ 57) {t : Nat → Int} {n L : Nat} (hX : kTx t n L) (hR : kRt S t n) {p e : Nat} (hpp : S 30 21 = (p : Int)) (he : S 30 23 = (e : Int)) (hpe : p ≤ 200 ∧ e ≤ 200) {iv : Int} (hiv : S 30 28 = iv) (hi01 : iv = 0 ∨ iv = 1) (hwr : S 30 19 = 0) {l : Nat} (hl : l ≤ L) (hle : S 30 24 + 1 = (klb t n l : Int)) {k : Nat} (hk : k = (kw (fun i => decide (¬ krb t n i < kre t n i ∨ t (krb t n i) = 35)) L l)) {v n2 d o : Nat} (hdn : S 30 27 = (v : Int)) (hn : S 30 15 = (n2 : Int)) (hnl : n2 < 200) (ho : S 30 29 = (o : Int)) (hol : 1 ≤ o ∧ o ≤ 8) (hd : S 44 (o - 1) = (d : Int)) (hdl : d < 60) (hwh : S 43 (o - 1) = 1) {cc : Int} (hcc : S 45 (o - 1) = cc) (hcr : 0 ≤ cc ∧ cc ≤ 200) (hin : iv = 0 ∨ p = e) (hkL : k < L) (hdp : (krb t n k : Int) - (klb t n k : Int) = cc) (hda : kdash t (kre t n k) (krb t n k) = 1) : kR 6 143 (blk 143 0) (kent 143 [.ref 30]) [] (sz, hp m E S) (fun r => r = (.inl none, (sz, hp m E (ku (ku (kgom (kapm2 (ku (ku S 30 19 0) 30 28 0) o n2 v d) t n k) 30 21 ((kw (fun i => decide (t i = 32)) (kre t n k) (krb t n k + 1)) : Nat)) 30 20 1)))) := by
  show kR 6 143 b143_0 _ _ _ _
  refine kR.s rfl rfl ?_
  refine kR.s rfl rfl ?_
  refine kR.gi (a := 30) (k := 19) (v := 0) (by omega) rfl rfl rfl (by decide) (by decide) rfl (by exact hwr) ?_
  refine kR.zne (by decide) (by decide) (fun q1 => absurd q1 (by decide)) (fun q1 => ?_)
  refine kR.s rfl rfl ?_
  refine kR.gi (a := 30) (k := 28) (v := iv) (by omega) rfl rfl rfl (by decide) (by decide) rfl (by exact hiv) ?_
  refine kR.zeq (by omega) (by omega) (fun q2 => ?_) (fun q2 => ?_)
  · skip
    show kR 6 143 b143_30 _ _ _ _
    refine kR.s rfl rfl ?_
    refine kR.n ?_
    exact x_143_row0 hm hX hR hpp he hpe hiv hi01 hwr hl hle hk hdn hn hnl ho hol hd hdl hwh hcc hcr hin hkL hdp hda
  · skip
    refine kR.s rfl rfl ?_
    refine kR.gi (a := 30) (k := 21) (v := (p : Int)) (by omega) rfl rfl rfl (by decide) (by decide) rfl (by exact hpp) ?_
    refine kR.s rfl rfl ?_
    refine kR.gi (a := 30) (k := 23) (v := (e : Int)) (by omega) rfl rfl rfl (by decide) (by decide) rfl (by exact he) ?_
    refine kR.jeq (by omega) (by omega) (by omega) (by omega) (fun q3 => ?_) (fun q3 => ?_)
    · skip
      show kR 6 143 b143_30 _ _ _ _
      refine kR.s rfl rfl ?_
      refine kR.n ?_
      exact x_143_row0 hm hX hR hpp he hpe hiv hi01 hwr hl hle hk hdn hn hnl ho hol hd hdl hwh hcc hcr hin hkL hdp hda
    · skip
      refine kR.n ?_
      exfalso
      omega
theorem x_143_rowbad0 {m : Nat} {E : Nat → kC} {S : Nat → Nat → Int} {sz : Nat × Nat} (hm : 53 ≤ m ∧ m ≤ 57) {t : Nat → Int} {n L : Nat} (hX : kTx t n L) (hR : kRt S t n) {p e : Nat} (hpp : S 30 21 = (p : Int)) (he : S 30 23 = (e : Int)) (hpe : p ≤ 200 ∧ e ≤ 200) {iv : Int} (hiv : S 30 28 = iv) (hi01 : iv = 0 ∨ iv = 1) (hwr : S 30 19 = 0) {l : Nat} (hl : l ≤ L) (hle : S 30 24 + 1 = (klb t n l : Int)) {k : Nat} (hk : k = (kw (fun i => decide (¬ krb t n i < kre t n i ∨ t (krb t n i) = 35)) L l)) {v n2 d o : Nat} (hdn : S 30 27 = (v : Int)) (hn : S 30 15 = (n2 : Int)) (hnl : n2 < 200) (ho : S 30 29 = (o : Int)) (hol : 1 ≤ o ∧ o ≤ 8) (hd : S 44 (o - 1) = (d : Int)) (hdl : d < 60) (hwh : S 43 (o - 1) = 1) {cc : Int} (hcc : S 45 (o - 1) = cc) (hcr : 0 ≤ cc ∧ cc ≤ 200) (hin : iv = 0 ∨ p = e) (hkL : k < L) (hdp : cc ≤ (krb t n k : Int) - (klb t n k : Int)) (hda : cc < (krb t n k : Int) - (klb t n k : Int) ∨ kdash t (kre t n k) (krb t n k) = 0) {v1 v2 v3 v4 v5 v6 : Value} : kR 6 143 (blk 143 31) [.ref 30, v1, v2, v3, v4, v5, v6] [.int (Int32.ofInt 0), .ref 30] (sz, hp m E S) (fun r => r = (.inl none, (sz, hp m E (ku (kgom (kapm2 (ku (ku S 30 19 0) 30 28 0) o n2 v d) t n k) 30 19 1)))) := by
  have hx1 := hX.1
  have hwq : -2147483648 ≤ S 43 (o - 1) ∧ S 43 (o - 1) < 2147483648 := by omega
  have ho1 : (o : Int) - 1 = ((o - 1 : Nat) : Int) := by omega
  have hx4 := hX.2.2.2.2.1 k hkL
  have hx7 := hX.ln hkL
  show kR 6 143 b143_31 _ _ _ _
  refine kR.pi (a := 30) (k := 19) (by omega) rfl rfl rfl (by decide) (by decide) rfl (by first | rfl | assumption | simp [kfit, *]) ?_
  refine kR.s rfl rfl ?_
  refine kR.s rfl rfl ?_
  refine kR.pi (a := 30) (k := 28) (by omega) rfl rfl rfl (by decide) (by decide) rfl (by first | rfl | assumption | simp [kfit, *]) ?_
  refine kR.s rfl rfl ?_
  refine kR.cv (v := .int (Int32.ofInt ((klb t n k : Int)))) (kargs_m hm (by decide) rfl) rfl (kR.up ((by have z := c_106 (S := (ku (ku S 30 19 0) 30 28 0)) (E := E) (sz := sz) hm hX hR hl hle; rw [← hk, if_pos hkL] at z; exact z)) (by decide)) ?_
  refine kR.s rfl rfl ?_
  refine kR.s rfl rfl ?_
  refine kR.gi (a := 30) (k := 29) (v := (o : Int)) (by omega) rfl rfl rfl (by decide) (by decide) rfl (by exact ho) ?_
  refine kR.zne (by omega) (by omega) (fun q2 => ?_) (fun q2 => ?_)
  · skip
    show kR 6 143 b143_77 _ _ _ _
    refine kR.s rfl rfl ?_
    refine kR.s rfl rfl ?_
    refine kR.gi (a := 30) (k := 27) (v := (v : Int)) (by omega) rfl rfl rfl (by decide) (by decide) rfl (by exact hdn) ?_
    refine kR.c0 (kargs_m hm (by decide) rfl) rfl (kR.up (c_116 (S := ku (ku S 30 19 0) 30 28 0) hm (v := v) hn hnl ho (by omega) (by omega) hd hdl hwq) (by decide)) ?_
    refine kR.s rfl rfl ?_
    refine kR.zge (by omega) (by omega) (fun q4 => ?_) (fun q4 => ?_)
    · skip
      show kR 6 143 b143_93 _ _ _ _
      refine kR.s rfl rfl ?_
      refine kR.s rfl rfl ?_
      refine kR.s rfl rfl ?_
      refine kR.s rfl rfl ?_
      refine kR.cv (v := .int (Int32.ofInt ((kle t n k : Int)))) (kargs_m hm (by decide) rfl) rfl (kR.up (c_105t (S := (kapm2 (ku (ku S 30 19 0) 30 28 0) o n2 v d)) hm hX hR (a := klb t n k) (by omega)) (by decide)) ?_
      refine kR.cv (v := .int (Int32.ofInt ((krb t n k : Int) - (klb t n k : Int)))) (kargs_m hm (by decide) rfl) rfl (kR.up (c_104t (S := (kapm2 (ku (ku S 30 19 0) 30 28 0) o n2 v d)) hm hX hR (a := klb t n k) (g := kle t n k) (by omega) (by omega)) (by decide)) ?_
      refine kR.n ?_
      show kR 6 143 b143_103 _ _ _ _
      refine kR.s rfl rfl ?_
      refine kR.s rfl rfl ?_
      refine kR.gr (a := 30) (b := 45) (k := 32) (by omega) rfl rfl rfl (by decide) (by decide) rfl ?_
      refine kR.s rfl rfl ?_
      refine kR.gi (a := 30) (k := 29) (v := (o : Int)) (by omega) rfl rfl rfl (by decide) (by decide) rfl (by exact ho) ?_
      refine kR.s rfl rfl ?_
      refine kR.sub ?_
      rw [ho1]
      refine kR.ia (a := 45) (v := cc) (by omega) rfl (by decide) (by omega) (by omega) (by exact hcc) ?_
      refine kR.s rfl rfl ?_
      refine kR.s rfl rfl ?_
      refine kR.s rfl rfl ?_
      refine kR.jge (by omega) (by omega) (by omega) (by omega) (fun q7 => ?_) (fun q7 => ?_)
      · skip
        show kR 6 143 b143_145 _ _ _ _
        refine kR.s rfl rfl ?_
        refine kR.s rfl rfl ?_
        refine kR.c0 (kargs_m hm (by decide) rfl) rfl (kR.up (c_107 (S := (kapm2 (ku (ku S 30 19 0) 30 28 0) o n2 v d)) hm hX hR hkL) (by decide)) ?_
        refine kR.s rfl rfl ?_
        have f9_0 := kdash_01 t (kre t n k) (krb t n k)
        refine kR.cv (v := .int (Int32.ofInt (kdash t (kre t n k) (krb t n k)))) (kargs_m hm (by decide) rfl) rfl (kR.up (c_130 (S := (kgom (kapm2 (ku (ku S 30 19 0) 30 28 0) o n2 v d) t n k)) hm hX hR (e := kre t n k) rfl (by omega) (p := krb t n k) rfl (by omega)) (by decide)) ?_
        refine kR.s rfl rfl ?_
        refine kR.s rfl rfl ?_
        refine kR.gr (a := 30) (b := 43) (k := 30) (by omega) rfl rfl rfl (by decide) (by decide) rfl ?_
        refine kR.s rfl rfl ?_
        refine kR.gi (a := 30) (k := 29) (v := (o : Int)) (by omega) rfl rfl rfl (by decide) (by decide) rfl (by exact ho) ?_
        refine kR.s rfl rfl ?_
        refine kR.sub ?_
        rw [ho1]
        refine kR.ia (a := 43) (v := 1) (by omega) rfl (by decide) (by omega) (by omega) (by exact hwh) ?_
        refine kR.s rfl rfl ?_
        refine kR.jne (by decide) (by decide) (by decide) (by decide) (fun q10 => absurd q10 (by decide)) (fun q10 => ?_)
        refine kR.s rfl rfl ?_
        refine kR.g rfl ?_
        show kR 6 143 b143_176 _ _ _ _
        refine kR.s rfl rfl ?_
        refine kR.s rfl rfl ?_
        refine kR.zeq (by decide) (by decide) (fun q11 => absurd q11 (by decide)) (fun q11 => ?_)
        refine kR.s rfl rfl ?_
        refine kR.g rfl ?_
        show kR 6 143 b143_191 _ _ _ _
        refine kR.s rfl rfl ?_
        refine kR.s rfl rfl ?_
        refine kR.s rfl rfl ?_
        refine kR.jgt (by omega) (by omega) (by omega) (by omega) (fun q12 => ?_) (fun q12 => ?_)
        · skip
          show kR 6 143 b143_210 _ _ _ _
          refine kR.s rfl rfl ?_
          refine kR.s rfl rfl ?_
          refine kR.pi (a := 30) (k := 19) (by omega) rfl rfl rfl (by decide) (by decide) rfl (by first | rfl | assumption | simp [kfit, *]) ?_
          refine kR.g rfl ?_
          show kR 6 143 b143_236 _ _ _ _
          refine kR.ret rfl rfl ?_
          first | rfl | (exfalso; omega)
        · skip
          refine kR.s rfl rfl ?_
          refine kR.s rfl rfl ?_
          refine kR.jne (by omega) (by omega) (by omega) (by omega) (fun q13 => ?_) (fun q13 => ?_)
          · skip
            show kR 6 143 b143_210 _ _ _ _
            refine kR.s rfl rfl ?_
            refine kR.s rfl rfl ?_
            refine kR.pi (a := 30) (k := 19) (by omega) rfl rfl rfl (by decide) (by decide) rfl (by first | rfl | assumption | simp [kfit, *]) ?_
            refine kR.g rfl ?_
            show kR 6 143 b143_236 _ _ _ _
            refine kR.ret rfl rfl ?_
            first | rfl | (exfalso; omega)
          · skip
            refine kR.s rfl rfl ?_
            refine kR.zge (by decide) (by decide) (fun q14 => ?_) (fun q14 => absurd q14 (by decide))
            exfalso
            omega
      · skip
        exfalso
        omega
    · skip
      refine kR.s rfl rfl ?_
      refine kR.g rfl ?_
      show kR 6 143 b143_103 _ _ _ _
      refine kR.s rfl rfl ?_
      refine kR.s rfl rfl ?_
      refine kR.gr (a := 30) (b := 45) (k := 32) (by omega) rfl rfl rfl (by decide) (by decide) rfl ?_
      refine kR.s rfl rfl ?_
      refine kR.gi (a := 30) (k := 29) (v := (o : Int)) (by omega) rfl rfl rfl (by decide) (by decide) rfl (by exact ho) ?_
      refine kR.s rfl rfl ?_
      refine kR.sub ?_
      rw [ho1]
      refine kR.ia (a := 45) (v := cc) (by omega) rfl (by decide) (by omega) (by omega) (by exact hcc) ?_
      refine kR.s rfl rfl ?_
      refine kR.s rfl rfl ?_
      refine kR.s rfl rfl ?_
      refine kR.jge (by omega) (by omega) (by omega) (by omega) (fun q15 => ?_) (fun q15 => ?_)
      · skip
        show kR 6 143 b143_145 _ _ _ _
        refine kR.s rfl rfl ?_
        refine kR.s rfl rfl ?_
        refine kR.c0 (kargs_m hm (by decide) rfl) rfl (kR.up (c_107 (S := (kapm2 (ku (ku S 30 19 0) 30 28 0) o n2 v d)) hm hX hR hkL) (by decide)) ?_
        refine kR.s rfl rfl ?_
        have f17_0 := kdash_01 t (kre t n k) (krb t n k)
        refine kR.cv (v := .int (Int32.ofInt (kdash t (kre t n k) (krb t n k)))) (kargs_m hm (by decide) rfl) rfl (kR.up (c_130 (S := (kgom (kapm2 (ku (ku S 30 19 0) 30 28 0) o n2 v d) t n k)) hm hX hR (e := kre t n k) rfl (by omega) (p := krb t n k) rfl (by omega)) (by decide)) ?_
        refine kR.s rfl rfl ?_
        refine kR.s rfl rfl ?_
        refine kR.gr (a := 30) (b := 43) (k := 30) (by omega) rfl rfl rfl (by decide) (by decide) rfl ?_
        refine kR.s rfl rfl ?_
        refine kR.gi (a := 30) (k := 29) (v := (o : Int)) (by omega) rfl rfl rfl (by decide) (by decide) rfl (by exact ho) ?_
        refine kR.s rfl rfl ?_
        refine kR.sub ?_
        rw [ho1]
        refine kR.ia (a := 43) (v := 1) (by omega) rfl (by decide) (by omega) (by omega) (by exact hwh) ?_
        refine kR.s rfl rfl ?_
        refine kR.jne (by decide) (by decide) (by decide) (by decide) (fun q18 => absurd q18 (by decide)) (fun q18 => ?_)
        refine kR.s rfl rfl ?_
        refine kR.g rfl ?_
        show kR 6 143 b143_176 _ _ _ _
        refine kR.s rfl rfl ?_
        refine kR.s rfl rfl ?_
        refine kR.zeq (by decide) (by decide) (fun q19 => absurd q19 (by decide)) (fun q19 => ?_)
        refine kR.s rfl rfl ?_
        refine kR.g rfl ?_
        show kR 6 143 b143_191 _ _ _ _
        refine kR.s rfl rfl ?_
        refine kR.s rfl rfl ?_
        refine kR.s rfl rfl ?_
        refine kR.jgt (by omega) (by omega) (by omega) (by omega) (fun q20 => ?_) (fun q20 => ?_)
        · skip
          show kR 6 143 b143_210 _ _ _ _
          refine kR.s rfl rfl ?_
          refine kR.s rfl rfl ?_
          refine kR.pi (a := 30) (k := 19) (by omega) rfl rfl rfl (by decide) (by decide) rfl (by first | rfl | assumption | simp [kfit, *]) ?_
          refine kR.g rfl ?_
          show kR 6 143 b143_236 _ _ _ _
          refine kR.ret rfl rfl ?_
          first | rfl | (exfalso; omega)
        · skip
          refine kR.s rfl rfl ?_
          refine kR.s rfl rfl ?_
          refine kR.jne (by omega) (by omega) (by omega) (by omega) (fun q21 => ?_) (fun q21 => ?_)
          · skip
            show kR 6 143 b143_210 _ _ _ _
            refine kR.s rfl rfl ?_
            refine kR.s rfl rfl ?_
            refine kR.pi (a := 30) (k := 19) (by omega) rfl rfl rfl (by decide) (by decide) rfl (by first | rfl | assumption | simp [kfit, *]) ?_
            refine kR.g rfl ?_
            show kR 6 143 b143_236 _ _ _ _
            refine kR.ret rfl rfl ?_
            first | rfl | (exfalso; omega)
          · skip
            refine kR.s rfl rfl ?_
            refine kR.zge (by decide) (by decide) (fun q22 => ?_) (fun q22 => absurd q22 (by decide))
            exfalso
            omega
      · skip
        exfalso
        omega
  · skip
    refine kR.s rfl rfl ?_
    refine kR.s rfl rfl ?_
    refine kR.gi (a := 30) (k := 19) (v := 0) (by omega) rfl rfl rfl (by decide) (by decide) rfl (by rfl) ?_
    refine kR.zne (by decide) (by decide) (fun q23 => absurd q23 (by decide)) (fun q23 => ?_)
    refine kR.s rfl rfl ?_
    refine kR.zlt (by omega) (by omega) (fun q24 => ?_) (fun q24 => ?_)
    · skip
      show kR 6 143 b143_67 _ _ _ _
      refine kR.s rfl rfl ?_
      refine kR.n ?_
      show kR 6 143 b143_68 _ _ _ _
      refine kR.pi (a := 30) (k := 19) (by omega) rfl rfl rfl (by decide) (by decide) rfl (by first | rfl | assumption | simp [kfit, *]) ?_
      refine kR.s rfl rfl ?_
      refine kR.s rfl rfl ?_
      refine kR.pi (a := 30) (k := 20) (by omega) rfl rfl rfl (by decide) (by decide) rfl rfl ?_
      refine kR.ret rfl rfl ?_
      first | rfl | (exfalso; omega)
    · skip
      refine kR.n ?_
      show kR 6 143 b143_63 _ _ _ _
      refine kR.s rfl rfl ?_
      refine kR.g rfl ?_
      show kR 6 143 b143_68 _ _ _ _
      refine kR.pi (a := 30) (k := 19) (by omega) rfl rfl rfl (by decide) (by decide) rfl (by first | rfl | assumption | simp [kfit, *]) ?_
      refine kR.s rfl rfl ?_
      refine kR.s rfl rfl ?_
      refine kR.pi (a := 30) (k := 20) (by omega) rfl rfl rfl (by decide) (by decide) rfl rfl ?_
      refine kR.ret rfl rfl ?_
      first | rfl | (exfalso; omega)
theorem c_143_rowbad0 {m : Nat} {E : Nat → kC} {S : Nat → Nat → Int} {sz : Nat × Nat} (hm : 53 ≤ m ∧ m ≤ 57) {t : Nat → Int} {n L : Nat} (hX : kTx t n L) (hR : kRt S t n) {p e : Nat} (hpp : S 30 21 = (p : Int)) (he : S 30 23 = (e : Int)) (hpe : p ≤ 200 ∧ e ≤ 200) {iv : Int} (hiv : S 30 28 = iv) (hi01 : iv = 0 ∨ iv = 1) (hwr : S 30 19 = 0) {l : Nat} (hl : l ≤ L) (hle : S 30 24 + 1 = (klb t n l : Int)) {k : Nat} (hk : k = (kw (fun i => decide (¬ krb t n i < kre t n i ∨ t (krb t n i) = 35)) L l)) {v n2 d o : Nat} (hdn : S 30 27 = (v : Int)) (hn : S 30 15 = (n2 : Int)) (hnl : n2 < 200) (ho : S 30 29 = (o : Int)) (hol : 1 ≤ o ∧ o ≤ 8) (hd : S 44 (o - 1) = (d : Int)) (hdl : d < 60) (hwh : S 43 (o - 1) = 1) {cc : Int} (hcc : S 45 (o - 1) = cc) (hcr : 0 ≤ cc ∧ cc ≤ 200) (hin : iv = 0 ∨ p = e) (hkL : k < L) (hdp : cc ≤ (krb t n k : Int) - (klb t n k : Int)) (hda : cc < (krb t n k : Int) - (klb t n k : Int) ∨ kdash t (kre t n k) (krb t n k) = 0) : kR 6 143 (blk 143 0) (kent 143 [.ref 30]) [] (sz, hp m E S) (fun r => r = (.inl none, (sz, hp m E (ku (kgom (kapm2 (ku (ku S 30 19 0) 30 28 0) o n2 v d) t n k) 30 19 1)))) := by
  show kR 6 143 b143_0 _ _ _ _
  refine kR.s rfl rfl ?_
  refine kR.s rfl rfl ?_
  refine kR.gi (a := 30) (k := 19) (v := 0) (by omega) rfl rfl rfl (by decide) (by decide) rfl (by exact hwr) ?_
  refine kR.zne (by decide) (by decide) (fun q1 => absurd q1 (by decide)) (fun q1 => ?_)
  refine kR.s rfl rfl ?_
  refine kR.gi (a := 30) (k := 28) (v := iv) (by omega) rfl rfl rfl (by decide) (by decide) rfl (by exact hiv) ?_
  refine kR.zeq (by omega) (by omega) (fun q2 => ?_) (fun q2 => ?_)
  · skip
    show kR 6 143 b143_30 _ _ _ _
    refine kR.s rfl rfl ?_
    refine kR.n ?_
    exact x_143_rowbad0 hm hX hR hpp he hpe hiv hi01 hwr hl hle hk hdn hn hnl ho hol hd hdl hwh hcc hcr hin hkL hdp hda
  · skip
    refine kR.s rfl rfl ?_
    refine kR.gi (a := 30) (k := 21) (v := (p : Int)) (by omega) rfl rfl rfl (by decide) (by decide) rfl (by exact hpp) ?_
    refine kR.s rfl rfl ?_
    refine kR.gi (a := 30) (k := 23) (v := (e : Int)) (by omega) rfl rfl rfl (by decide) (by decide) rfl (by exact he) ?_
    refine kR.jeq (by omega) (by omega) (by omega) (by omega) (fun q3 => ?_) (fun q3 => ?_)
    · skip
      show kR 6 143 b143_30 _ _ _ _
      refine kR.s rfl rfl ?_
      refine kR.n ?_
      exact x_143_rowbad0 hm hX hR hpp he hpe hiv hi01 hwr hl hle hk hdn hn hnl ho hol hd hdl hwh hcc hcr hin hkL hdp hda
    · skip
      refine kR.n ?_
      exfalso
      omega
theorem x_143_tab0 {m : Nat} {E : Nat → kC} {S : Nat → Nat → Int} {sz : Nat × Nat} (hm : 53 ≤ m ∧ m ≤ 57) {t : Nat → Int} {n L : Nat} (hX : kTx t n L) (hR : kRt S t n) {p e : Nat} (hpp : S 30 21 = (p : Int)) (he : S 30 23 = (e : Int)) (hpe : p ≤ 200 ∧ e ≤ 200) {iv : Int} (hiv : S 30 28 = iv) (hi01 : iv = 0 ∨ iv = 1) (hwr : S 30 19 = 0) {l : Nat} (hl : l ≤ L) (hle : S 30 24 + 1 = (klb t n l : Int)) {k : Nat} (hk : k = (kw (fun i => decide (¬ krb t n i < kre t n i ∨ t (krb t n i) = 35)) L l)) {v n2 d o : Nat} (hdn : S 30 27 = (v : Int)) (hn : S 30 15 = (n2 : Int)) (hnl : n2 < 200) (ho : S 30 29 = (o : Int)) (hol : 1 ≤ o ∧ o ≤ 8) (hd : S 44 (o - 1) = (d : Int)) (hdl : d < 60) (hwh : S 43 (o - 1) = 2) {cc : Int} (hcc : S 45 (o - 1) = cc) (hcr : 0 ≤ cc ∧ cc ≤ 200) (hin : iv = 0 ∨ p = e) (hkL : k < L) (hdp : (krb t n k : Int) - (klb t n k : Int) = cc) (hda : kdash t (kre t n k) (krb t n k) = 0) {z : Nat} (hck : kck t (kre t n k) 0 (krb t n k) = (z : Int)) (hzn : z ≤ 200) {X5 : Nat → Nat → Int} (k133 : kR 4 133 (blk 133 0) (kent 133 [.ref 30, .int (Int32.ofInt (z : Int))]) [] (sz, hp m E (if kqu (kch t (kre t n k) (krb t n k)) = 1 then kqb (kgom (kapm2 (ku (ku S 30 19 0) 30 28 0) o n2 v d) t n k) (kuq t (kre t n k) (kch t (kre t n k) (krb t n k)) (krb t n k + 1)) else (kgom (kapm2 (ku (ku S 30 19 0) 30 28 0) o n2 v d) t n k))) (fun r => r = (.inl none, (sz, hp m E X5)))) {v1 v2 v3 v4 v5 v6 : Value} : kR 6 143 (blk 143 31) [.ref 30, v1, v2, v3, v4, v5, v6] [.int (Int32.ofInt 0), .ref 30] (sz, hp m E S) (fun r => r = (.inl none, (sz, hp m E X5))) := by
  have hx1 := hX.1
  have hwq : -2147483648 ≤ S 43 (o - 1) ∧ S 43 (o - 1) < 2147483648 := by omega
  have ho1 : (o : Int) - 1 = ((o - 1 : Nat) : Int) := by omega
  have hx4 := hX.2.2.2.2.1 k hkL
  have hx7 := hX.ln hkL
  show kR 6 143 b143_31 _ _ _ _
  refine kR.pi (a := 30) (k := 19) (by omega) rfl rfl rfl (by decide) (by decide) rfl (by first | rfl | assumption | simp [kfit, *]) ?_
  refine kR.s rfl rfl ?_
  refine kR.s rfl rfl ?_
  refine kR.pi (a := 30) (k := 28) (by omega) rfl rfl rfl (by decide) (by decide) rfl (by first | rfl | assumption | simp [kfit, *]) ?_
  refine kR.s rfl rfl ?_
  refine kR.cv (v := .int (Int32.ofInt ((klb t n k : Int)))) (kargs_m hm (by decide) rfl) rfl (kR.up ((by have z := c_106 (S := (ku (ku S 30 19 0) 30 28 0)) (E := E) (sz := sz) hm hX hR hl hle; rw [← hk, if_pos hkL] at z; exact z)) (by decide)) ?_
  refine kR.s rfl rfl ?_
  refine kR.s rfl rfl ?_
  refine kR.gi (a := 30) (k := 29) (v := (o : Int)) (by omega) rfl rfl rfl (by decide) (by decide) rfl (by exact ho) ?_
  refine kR.zne (by omega) (by omega) (fun q2 => ?_) (fun q2 => ?_)
  · skip
    show kR 6 143 b143_77 _ _ _ _
    refine kR.s rfl rfl ?_
    refine kR.s rfl rfl ?_
    refine kR.gi (a := 30) (k := 27) (v := (v : Int)) (by omega) rfl rfl rfl (by decide) (by decide) rfl (by exact hdn) ?_
    refine kR.c0 (kargs_m hm (by decide) rfl) rfl (kR.up (c_116 (S := ku (ku S 30 19 0) 30 28 0) hm (v := v) hn hnl ho (by omega) (by omega) hd hdl hwq) (by decide)) ?_
    refine kR.s rfl rfl ?_
    refine kR.zge (by omega) (by omega) (fun q4 => ?_) (fun q4 => ?_)
    · skip
      show kR 6 143 b143_93 _ _ _ _
      refine kR.s rfl rfl ?_
      refine kR.s rfl rfl ?_
      refine kR.s rfl rfl ?_
      refine kR.s rfl rfl ?_
      refine kR.cv (v := .int (Int32.ofInt ((kle t n k : Int)))) (kargs_m hm (by decide) rfl) rfl (kR.up (c_105t (S := (kapm2 (ku (ku S 30 19 0) 30 28 0) o n2 v d)) hm hX hR (a := klb t n k) (by omega)) (by decide)) ?_
      refine kR.cv (v := .int (Int32.ofInt ((krb t n k : Int) - (klb t n k : Int)))) (kargs_m hm (by decide) rfl) rfl (kR.up (c_104t (S := (kapm2 (ku (ku S 30 19 0) 30 28 0) o n2 v d)) hm hX hR (a := klb t n k) (g := kle t n k) (by omega) (by omega)) (by decide)) ?_
      refine kR.n ?_
      show kR 6 143 b143_103 _ _ _ _
      refine kR.s rfl rfl ?_
      refine kR.s rfl rfl ?_
      refine kR.gr (a := 30) (b := 45) (k := 32) (by omega) rfl rfl rfl (by decide) (by decide) rfl ?_
      refine kR.s rfl rfl ?_
      refine kR.gi (a := 30) (k := 29) (v := (o : Int)) (by omega) rfl rfl rfl (by decide) (by decide) rfl (by exact ho) ?_
      refine kR.s rfl rfl ?_
      refine kR.sub ?_
      rw [ho1]
      refine kR.ia (a := 45) (v := cc) (by omega) rfl (by decide) (by omega) (by omega) (by exact hcc) ?_
      refine kR.s rfl rfl ?_
      refine kR.s rfl rfl ?_
      refine kR.s rfl rfl ?_
      refine kR.jge (by omega) (by omega) (by omega) (by omega) (fun q7 => ?_) (fun q7 => ?_)
      · skip
        show kR 6 143 b143_145 _ _ _ _
        refine kR.s rfl rfl ?_
        refine kR.s rfl rfl ?_
        refine kR.c0 (kargs_m hm (by decide) rfl) rfl (kR.up (c_107 (S := (kapm2 (ku (ku S 30 19 0) 30 28 0) o n2 v d)) hm hX hR hkL) (by decide)) ?_
        refine kR.s rfl rfl ?_
        refine kR.cv (v := .int (Int32.ofInt (0))) (kargs_m hm (by decide) rfl) rfl (kR.up (hda ▸ c_130 (S := (kgom (kapm2 (ku (ku S 30 19 0) 30 28 0) o n2 v d) t n k)) hm hX hR (e := kre t n k) rfl (by omega) (p := krb t n k) rfl (by omega)) (by decide)) ?_
        refine kR.s rfl rfl ?_
        refine kR.s rfl rfl ?_
        refine kR.gr (a := 30) (b := 43) (k := 30) (by omega) rfl rfl rfl (by decide) (by decide) rfl ?_
        refine kR.s rfl rfl ?_
        refine kR.gi (a := 30) (k := 29) (v := (o : Int)) (by omega) rfl rfl rfl (by decide) (by decide) rfl (by exact ho) ?_
        refine kR.s rfl rfl ?_
        refine kR.sub ?_
        rw [ho1]
        refine kR.ia (a := 43) (v := 2) (by omega) rfl (by decide) (by omega) (by omega) (by exact hwh) ?_
        refine kR.s rfl rfl ?_
        refine kR.jne (by decide) (by decide) (by decide) (by decide) (fun q10 => ?_) (fun q10 => absurd q10 (by decide))
        show kR 6 143 b143_175 _ _ _ _
        refine kR.s rfl rfl ?_
        refine kR.n ?_
        show kR 6 143 b143_176 _ _ _ _
        refine kR.s rfl rfl ?_
        refine kR.s rfl rfl ?_
        refine kR.zeq (by decide) (by decide) (fun q11 => ?_) (fun q11 => absurd q11 (by decide))
        show kR 6 143 b143_187 _ _ _ _
        refine kR.s rfl rfl ?_
        refine kR.cv (v := .int (Int32.ofInt ((z : Int)))) (kargs_m hm (by decide) rfl) rfl (kR.up (hck ▸ c_131 (S := (kgom (kapm2 (ku (ku S 30 19 0) 30 28 0) o n2 v d) t n k)) hm hX hR (e := kre t n k) rfl (by omega) (p := krb t n k) rfl (by omega)) (by decide)) ?_
        refine kR.n ?_
        show kR 6 143 b143_191 _ _ _ _
        refine kR.s rfl rfl ?_
        refine kR.s rfl rfl ?_
        refine kR.s rfl rfl ?_
        refine kR.jgt (by omega) (by omega) (by omega) (by omega) (fun q13 => ?_) (fun q13 => ?_)
        · skip
          exfalso
          omega
        · skip
          refine kR.s rfl rfl ?_
          refine kR.s rfl rfl ?_
          refine kR.jne (by decide) (by decide) (by decide) (by decide) (fun q14 => absurd q14 (by decide)) (fun q14 => ?_)
          refine kR.s rfl rfl ?_
          refine kR.zge (by omega) (by omega) (fun q15 => ?_) (fun q15 => ?_)
          · skip
            show kR 6 143 b143_218 _ _ _ _
            refine kR.s rfl rfl ?_
            refine kR.zeq (by decide) (by decide) (fun q16 => ?_) (fun q16 => absurd q16 (by decide))
            show kR 6 143 b143_230 _ _ _ _
            refine kR.s rfl rfl ?_
            refine kR.s rfl rfl ?_
            refine kR.c0 (kargs_m hm (by decide) rfl) rfl (kR.up (k133) (by decide)) ?_
            refine kR.n ?_
            show kR 6 143 b143_236 _ _ _ _
            refine kR.ret rfl rfl ?_
            first | rfl | (exfalso; omega)
          · skip
            refine kR.n ?_
            exfalso
            omega
      · skip
        exfalso
        omega
    · skip
      refine kR.s rfl rfl ?_
      refine kR.g rfl ?_
      show kR 6 143 b143_103 _ _ _ _
      refine kR.s rfl rfl ?_
      refine kR.s rfl rfl ?_
      refine kR.gr (a := 30) (b := 45) (k := 32) (by omega) rfl rfl rfl (by decide) (by decide) rfl ?_
      refine kR.s rfl rfl ?_
      refine kR.gi (a := 30) (k := 29) (v := (o : Int)) (by omega) rfl rfl rfl (by decide) (by decide) rfl (by exact ho) ?_
      refine kR.s rfl rfl ?_
      refine kR.sub ?_
      rw [ho1]
      refine kR.ia (a := 45) (v := cc) (by omega) rfl (by decide) (by omega) (by omega) (by exact hcc) ?_
      refine kR.s rfl rfl ?_
      refine kR.s rfl rfl ?_
      refine kR.s rfl rfl ?_
      refine kR.jge (by omega) (by omega) (by omega) (by omega) (fun q18 => ?_) (fun q18 => ?_)
      · skip
        show kR 6 143 b143_145 _ _ _ _
        refine kR.s rfl rfl ?_
        refine kR.s rfl rfl ?_
        refine kR.c0 (kargs_m hm (by decide) rfl) rfl (kR.up (c_107 (S := (kapm2 (ku (ku S 30 19 0) 30 28 0) o n2 v d)) hm hX hR hkL) (by decide)) ?_
        refine kR.s rfl rfl ?_
        refine kR.cv (v := .int (Int32.ofInt (0))) (kargs_m hm (by decide) rfl) rfl (kR.up (hda ▸ c_130 (S := (kgom (kapm2 (ku (ku S 30 19 0) 30 28 0) o n2 v d) t n k)) hm hX hR (e := kre t n k) rfl (by omega) (p := krb t n k) rfl (by omega)) (by decide)) ?_
        refine kR.s rfl rfl ?_
        refine kR.s rfl rfl ?_
        refine kR.gr (a := 30) (b := 43) (k := 30) (by omega) rfl rfl rfl (by decide) (by decide) rfl ?_
        refine kR.s rfl rfl ?_
        refine kR.gi (a := 30) (k := 29) (v := (o : Int)) (by omega) rfl rfl rfl (by decide) (by decide) rfl (by exact ho) ?_
        refine kR.s rfl rfl ?_
        refine kR.sub ?_
        rw [ho1]
        refine kR.ia (a := 43) (v := 2) (by omega) rfl (by decide) (by omega) (by omega) (by exact hwh) ?_
        refine kR.s rfl rfl ?_
        refine kR.jne (by decide) (by decide) (by decide) (by decide) (fun q21 => ?_) (fun q21 => absurd q21 (by decide))
        show kR 6 143 b143_175 _ _ _ _
        refine kR.s rfl rfl ?_
        refine kR.n ?_
        show kR 6 143 b143_176 _ _ _ _
        refine kR.s rfl rfl ?_
        refine kR.s rfl rfl ?_
        refine kR.zeq (by decide) (by decide) (fun q22 => ?_) (fun q22 => absurd q22 (by decide))
        show kR 6 143 b143_187 _ _ _ _
        refine kR.s rfl rfl ?_
        refine kR.cv (v := .int (Int32.ofInt ((z : Int)))) (kargs_m hm (by decide) rfl) rfl (kR.up (hck ▸ c_131 (S := (kgom (kapm2 (ku (ku S 30 19 0) 30 28 0) o n2 v d) t n k)) hm hX hR (e := kre t n k) rfl (by omega) (p := krb t n k) rfl (by omega)) (by decide)) ?_
        refine kR.n ?_
        show kR 6 143 b143_191 _ _ _ _
        refine kR.s rfl rfl ?_
        refine kR.s rfl rfl ?_
        refine kR.s rfl rfl ?_
        refine kR.jgt (by omega) (by omega) (by omega) (by omega) (fun q24 => ?_) (fun q24 => ?_)
        · skip
          exfalso
          omega
        · skip
          refine kR.s rfl rfl ?_
          refine kR.s rfl rfl ?_
          refine kR.jne (by decide) (by decide) (by decide) (by decide) (fun q25 => absurd q25 (by decide)) (fun q25 => ?_)
          refine kR.s rfl rfl ?_
          refine kR.zge (by omega) (by omega) (fun q26 => ?_) (fun q26 => ?_)
          · skip
            show kR 6 143 b143_218 _ _ _ _
            refine kR.s rfl rfl ?_
            refine kR.zeq (by decide) (by decide) (fun q27 => ?_) (fun q27 => absurd q27 (by decide))
            show kR 6 143 b143_230 _ _ _ _
            refine kR.s rfl rfl ?_
            refine kR.s rfl rfl ?_
            refine kR.c0 (kargs_m hm (by decide) rfl) rfl (kR.up (k133) (by decide)) ?_
            refine kR.n ?_
            show kR 6 143 b143_236 _ _ _ _
            refine kR.ret rfl rfl ?_
            first | rfl | (exfalso; omega)
          · skip
            refine kR.n ?_
            exfalso
            omega
      · skip
        exfalso
        omega
  · skip
    refine kR.s rfl rfl ?_
    refine kR.s rfl rfl ?_
    refine kR.gi (a := 30) (k := 19) (v := 0) (by omega) rfl rfl rfl (by decide) (by decide) rfl (by rfl) ?_
    refine kR.zne (by decide) (by decide) (fun q29 => absurd q29 (by decide)) (fun q29 => ?_)
    refine kR.s rfl rfl ?_
    refine kR.zlt (by omega) (by omega) (fun q30 => ?_) (fun q30 => ?_)
    · skip
      show kR 6 143 b143_67 _ _ _ _
      refine kR.s rfl rfl ?_
      refine kR.n ?_
      show kR 6 143 b143_68 _ _ _ _
      refine kR.pi (a := 30) (k := 19) (by omega) rfl rfl rfl (by decide) (by decide) rfl (by first | rfl | assumption | simp [kfit, *]) ?_
      refine kR.s rfl rfl ?_
      refine kR.s rfl rfl ?_
      refine kR.pi (a := 30) (k := 20) (by omega) rfl rfl rfl (by decide) (by decide) rfl rfl ?_
      refine kR.ret rfl rfl ?_
      first | rfl | (exfalso; omega)
    · skip
      refine kR.n ?_
      show kR 6 143 b143_63 _ _ _ _
      refine kR.s rfl rfl ?_
      refine kR.g rfl ?_
      show kR 6 143 b143_68 _ _ _ _
      refine kR.pi (a := 30) (k := 19) (by omega) rfl rfl rfl (by decide) (by decide) rfl (by first | rfl | assumption | simp [kfit, *]) ?_
      refine kR.s rfl rfl ?_
      refine kR.s rfl rfl ?_
      refine kR.pi (a := 30) (k := 20) (by omega) rfl rfl rfl (by decide) (by decide) rfl rfl ?_
      refine kR.ret rfl rfl ?_
      first | rfl | (exfalso; omega)
theorem c_143_tab0 {m : Nat} {E : Nat → kC} {S : Nat → Nat → Int} {sz : Nat × Nat} (hm : 53 ≤ m ∧ m ≤ 57) {t : Nat → Int} {n L : Nat} (hX : kTx t n L) (hR : kRt S t n) {p e : Nat} (hpp : S 30 21 = (p : Int)) (he : S 30 23 = (e : Int)) (hpe : p ≤ 200 ∧ e ≤ 200) {iv : Int} (hiv : S 30 28 = iv) (hi01 : iv = 0 ∨ iv = 1) (hwr : S 30 19 = 0) {l : Nat} (hl : l ≤ L) (hle : S 30 24 + 1 = (klb t n l : Int)) {k : Nat} (hk : k = (kw (fun i => decide (¬ krb t n i < kre t n i ∨ t (krb t n i) = 35)) L l)) {v n2 d o : Nat} (hdn : S 30 27 = (v : Int)) (hn : S 30 15 = (n2 : Int)) (hnl : n2 < 200) (ho : S 30 29 = (o : Int)) (hol : 1 ≤ o ∧ o ≤ 8) (hd : S 44 (o - 1) = (d : Int)) (hdl : d < 60) (hwh : S 43 (o - 1) = 2) {cc : Int} (hcc : S 45 (o - 1) = cc) (hcr : 0 ≤ cc ∧ cc ≤ 200) (hin : iv = 0 ∨ p = e) (hkL : k < L) (hdp : (krb t n k : Int) - (klb t n k : Int) = cc) (hda : kdash t (kre t n k) (krb t n k) = 0) {z : Nat} (hck : kck t (kre t n k) 0 (krb t n k) = (z : Int)) (hzn : z ≤ 200) {X5 : Nat → Nat → Int} (k133 : kR 4 133 (blk 133 0) (kent 133 [.ref 30, .int (Int32.ofInt (z : Int))]) [] (sz, hp m E (if kqu (kch t (kre t n k) (krb t n k)) = 1 then kqb (kgom (kapm2 (ku (ku S 30 19 0) 30 28 0) o n2 v d) t n k) (kuq t (kre t n k) (kch t (kre t n k) (krb t n k)) (krb t n k + 1)) else (kgom (kapm2 (ku (ku S 30 19 0) 30 28 0) o n2 v d) t n k))) (fun r => r = (.inl none, (sz, hp m E X5)))) : kR 6 143 (blk 143 0) (kent 143 [.ref 30]) [] (sz, hp m E S) (fun r => r = (.inl none, (sz, hp m E X5))) := by
  show kR 6 143 b143_0 _ _ _ _
  refine kR.s rfl rfl ?_
  refine kR.s rfl rfl ?_
  refine kR.gi (a := 30) (k := 19) (v := 0) (by omega) rfl rfl rfl (by decide) (by decide) rfl (by exact hwr) ?_
  refine kR.zne (by decide) (by decide) (fun q1 => absurd q1 (by decide)) (fun q1 => ?_)
  refine kR.s rfl rfl ?_
  refine kR.gi (a := 30) (k := 28) (v := iv) (by omega) rfl rfl rfl (by decide) (by decide) rfl (by exact hiv) ?_
  refine kR.zeq (by omega) (by omega) (fun q2 => ?_) (fun q2 => ?_)
  · skip
    show kR 6 143 b143_30 _ _ _ _
    refine kR.s rfl rfl ?_
    refine kR.n ?_
    exact x_143_tab0 hm hX hR hpp he hpe hiv hi01 hwr hl hle hk hdn hn hnl ho hol hd hdl hwh hcc hcr hin hkL hdp hda hck hzn k133
  · skip
    refine kR.s rfl rfl ?_
    refine kR.gi (a := 30) (k := 21) (v := (p : Int)) (by omega) rfl rfl rfl (by decide) (by decide) rfl (by exact hpp) ?_
    refine kR.s rfl rfl ?_
    refine kR.gi (a := 30) (k := 23) (v := (e : Int)) (by omega) rfl rfl rfl (by decide) (by decide) rfl (by exact he) ?_
    refine kR.jeq (by omega) (by omega) (by omega) (by omega) (fun q3 => ?_) (fun q3 => ?_)
    · skip
      show kR 6 143 b143_30 _ _ _ _
      refine kR.s rfl rfl ?_
      refine kR.n ?_
      exact x_143_tab0 hm hX hR hpp he hpe hiv hi01 hwr hl hle hk hdn hn hnl ho hol hd hdl hwh hcc hcr hin hkL hdp hda hck hzn k133
    · skip
      refine kR.n ?_
      exfalso
      omega
theorem x_143_tabbad0 {m : Nat} {E : Nat → kC} {S : Nat → Nat → Int} {sz : Nat × Nat} (hm : 53 ≤ m ∧ m ≤ 57) {t : Nat → Int} {n L : Nat} (hX : kTx t n L) (hR : kRt S t n) {p e : Nat} (hpp : S 30 21 = (p : Int)) (he : S 30 23 = (e : Int)) (hpe : p ≤ 200 ∧ e ≤ 200) {iv : Int} (hiv : S 30 28 = iv) (hi01 : iv = 0 ∨ iv = 1) (hwr : S 30 19 = 0) {l : Nat} (hl : l ≤ L) (hle : S 30 24 + 1 = (klb t n l : Int)) {k : Nat} (hk : k = (kw (fun i => decide (¬ krb t n i < kre t n i ∨ t (krb t n i) = 35)) L l)) {v n2 d o : Nat} (hdn : S 30 27 = (v : Int)) (hn : S 30 15 = (n2 : Int)) (hnl : n2 < 200) (ho : S 30 29 = (o : Int)) (hol : 1 ≤ o ∧ o ≤ 8) (hd : S 44 (o - 1) = (d : Int)) (hdl : d < 60) (hwh : S 43 (o - 1) = 2) {cc : Int} (hcc : S 45 (o - 1) = cc) (hcr : 0 ≤ cc ∧ cc ≤ 200) (hin : iv = 0 ∨ p = e) (hkL : k < L) (hdp : cc ≤ (krb t n k : Int) - (klb t n k : Int)) (hckr : -1 ≤ kck t (kre t n k) 0 (krb t n k) ∧ kck t (kre t n k) 0 (krb t n k) ≤ 200) (hda : cc < (krb t n k : Int) - (klb t n k : Int) ∨ kdash t (kre t n k) (krb t n k) = 1 ∨ kck t (kre t n k) 0 (krb t n k) = -1) {v1 v2 v3 v4 v5 v6 : Value} : kR 6 143 (blk 143 31) [.ref 30, v1, v2, v3, v4, v5, v6] [.int (Int32.ofInt 0), .ref 30] (sz, hp m E S) (fun r => r = (.inl none, (sz, hp m E (ku (if kqu (kch t (kre t n k) (krb t n k)) = 1 then kqb (kgom (kapm2 (ku (ku S 30 19 0) 30 28 0) o n2 v d) t n k) (kuq t (kre t n k) (kch t (kre t n k) (krb t n k)) (krb t n k + 1)) else (kgom (kapm2 (ku (ku S 30 19 0) 30 28 0) o n2 v d) t n k)) 30 19 1)))) := by
  have hx1 := hX.1
  have hwq : -2147483648 ≤ S 43 (o - 1) ∧ S 43 (o - 1) < 2147483648 := by omega
  have ho1 : (o : Int) - 1 = ((o - 1 : Nat) : Int) := by omega
  have hx4 := hX.2.2.2.2.1 k hkL
  have hx7 := hX.ln hkL
  show kR 6 143 b143_31 _ _ _ _
  refine kR.pi (a := 30) (k := 19) (by omega) rfl rfl rfl (by decide) (by decide) rfl (by first | rfl | assumption | simp [kfit, *]) ?_
  refine kR.s rfl rfl ?_
  refine kR.s rfl rfl ?_
  refine kR.pi (a := 30) (k := 28) (by omega) rfl rfl rfl (by decide) (by decide) rfl (by first | rfl | assumption | simp [kfit, *]) ?_
  refine kR.s rfl rfl ?_
  refine kR.cv (v := .int (Int32.ofInt ((klb t n k : Int)))) (kargs_m hm (by decide) rfl) rfl (kR.up ((by have z := c_106 (S := (ku (ku S 30 19 0) 30 28 0)) (E := E) (sz := sz) hm hX hR hl hle; rw [← hk, if_pos hkL] at z; exact z)) (by decide)) ?_
  refine kR.s rfl rfl ?_
  refine kR.s rfl rfl ?_
  refine kR.gi (a := 30) (k := 29) (v := (o : Int)) (by omega) rfl rfl rfl (by decide) (by decide) rfl (by exact ho) ?_
  refine kR.zne (by omega) (by omega) (fun q2 => ?_) (fun q2 => ?_)
  · skip
    show kR 6 143 b143_77 _ _ _ _
    refine kR.s rfl rfl ?_
    refine kR.s rfl rfl ?_
    refine kR.gi (a := 30) (k := 27) (v := (v : Int)) (by omega) rfl rfl rfl (by decide) (by decide) rfl (by exact hdn) ?_
    refine kR.c0 (kargs_m hm (by decide) rfl) rfl (kR.up (c_116 (S := ku (ku S 30 19 0) 30 28 0) hm (v := v) hn hnl ho (by omega) (by omega) hd hdl hwq) (by decide)) ?_
    refine kR.s rfl rfl ?_
    refine kR.zge (by omega) (by omega) (fun q4 => ?_) (fun q4 => ?_)
    · skip
      show kR 6 143 b143_93 _ _ _ _
      refine kR.s rfl rfl ?_
      refine kR.s rfl rfl ?_
      refine kR.s rfl rfl ?_
      refine kR.s rfl rfl ?_
      refine kR.cv (v := .int (Int32.ofInt ((kle t n k : Int)))) (kargs_m hm (by decide) rfl) rfl (kR.up (c_105t (S := (kapm2 (ku (ku S 30 19 0) 30 28 0) o n2 v d)) hm hX hR (a := klb t n k) (by omega)) (by decide)) ?_
      refine kR.cv (v := .int (Int32.ofInt ((krb t n k : Int) - (klb t n k : Int)))) (kargs_m hm (by decide) rfl) rfl (kR.up (c_104t (S := (kapm2 (ku (ku S 30 19 0) 30 28 0) o n2 v d)) hm hX hR (a := klb t n k) (g := kle t n k) (by omega) (by omega)) (by decide)) ?_
      refine kR.n ?_
      show kR 6 143 b143_103 _ _ _ _
      refine kR.s rfl rfl ?_
      refine kR.s rfl rfl ?_
      refine kR.gr (a := 30) (b := 45) (k := 32) (by omega) rfl rfl rfl (by decide) (by decide) rfl ?_
      refine kR.s rfl rfl ?_
      refine kR.gi (a := 30) (k := 29) (v := (o : Int)) (by omega) rfl rfl rfl (by decide) (by decide) rfl (by exact ho) ?_
      refine kR.s rfl rfl ?_
      refine kR.sub ?_
      rw [ho1]
      refine kR.ia (a := 45) (v := cc) (by omega) rfl (by decide) (by omega) (by omega) (by exact hcc) ?_
      refine kR.s rfl rfl ?_
      refine kR.s rfl rfl ?_
      refine kR.s rfl rfl ?_
      refine kR.jge (by omega) (by omega) (by omega) (by omega) (fun q7 => ?_) (fun q7 => ?_)
      · skip
        show kR 6 143 b143_145 _ _ _ _
        refine kR.s rfl rfl ?_
        refine kR.s rfl rfl ?_
        refine kR.c0 (kargs_m hm (by decide) rfl) rfl (kR.up (c_107 (S := (kapm2 (ku (ku S 30 19 0) 30 28 0) o n2 v d)) hm hX hR hkL) (by decide)) ?_
        refine kR.s rfl rfl ?_
        have f9_0 := kdash_01 t (kre t n k) (krb t n k)
        refine kR.cv (v := .int (Int32.ofInt (kdash t (kre t n k) (krb t n k)))) (kargs_m hm (by decide) rfl) rfl (kR.up (c_130 (S := (kgom (kapm2 (ku (ku S 30 19 0) 30 28 0) o n2 v d) t n k)) hm hX hR (e := kre t n k) rfl (by omega) (p := krb t n k) rfl (by omega)) (by decide)) ?_
        refine kR.s rfl rfl ?_
        refine kR.s rfl rfl ?_
        refine kR.gr (a := 30) (b := 43) (k := 30) (by omega) rfl rfl rfl (by decide) (by decide) rfl ?_
        refine kR.s rfl rfl ?_
        refine kR.gi (a := 30) (k := 29) (v := (o : Int)) (by omega) rfl rfl rfl (by decide) (by decide) rfl (by exact ho) ?_
        refine kR.s rfl rfl ?_
        refine kR.sub ?_
        rw [ho1]
        refine kR.ia (a := 43) (v := 2) (by omega) rfl (by decide) (by omega) (by omega) (by exact hwh) ?_
        refine kR.s rfl rfl ?_
        refine kR.jne (by decide) (by decide) (by decide) (by decide) (fun q10 => ?_) (fun q10 => absurd q10 (by decide))
        show kR 6 143 b143_175 _ _ _ _
        refine kR.s rfl rfl ?_
        refine kR.n ?_
        show kR 6 143 b143_176 _ _ _ _
        refine kR.s rfl rfl ?_
        refine kR.s rfl rfl ?_
        refine kR.zeq (by decide) (by decide) (fun q11 => ?_) (fun q11 => absurd q11 (by decide))
        show kR 6 143 b143_187 _ _ _ _
        refine kR.s rfl rfl ?_
        refine kR.cv (v := .int (Int32.ofInt (kck t (kre t n k) 0 (krb t n k)))) (kargs_m hm (by decide) rfl) rfl (kR.up (c_131 (S := (kgom (kapm2 (ku (ku S 30 19 0) 30 28 0) o n2 v d) t n k)) hm hX hR (e := kre t n k) rfl (by omega) (p := krb t n k) rfl (by omega)) (by decide)) ?_
        refine kR.n ?_
        show kR 6 143 b143_191 _ _ _ _
        refine kR.s rfl rfl ?_
        refine kR.s rfl rfl ?_
        refine kR.s rfl rfl ?_
        refine kR.jgt (by omega) (by omega) (by omega) (by omega) (fun q13 => ?_) (fun q13 => ?_)
        · skip
          show kR 6 143 b143_210 _ _ _ _
          refine kR.s rfl rfl ?_
          refine kR.s rfl rfl ?_
          refine kR.pi (a := 30) (k := 19) (by omega) rfl rfl rfl (by decide) (by decide) rfl (by first | rfl | assumption | simp [kfit, *]) ?_
          refine kR.g rfl ?_
          show kR 6 143 b143_236 _ _ _ _
          refine kR.ret rfl rfl ?_
          first | rfl | (exfalso; omega)
        · skip
          refine kR.s rfl rfl ?_
          refine kR.s rfl rfl ?_
          refine kR.jne (by omega) (by omega) (by omega) (by omega) (fun q14 => ?_) (fun q14 => ?_)
          · skip
            show kR 6 143 b143_210 _ _ _ _
            refine kR.s rfl rfl ?_
            refine kR.s rfl rfl ?_
            refine kR.pi (a := 30) (k := 19) (by omega) rfl rfl rfl (by decide) (by decide) rfl (by first | rfl | assumption | simp [kfit, *]) ?_
            refine kR.g rfl ?_
            show kR 6 143 b143_236 _ _ _ _
            refine kR.ret rfl rfl ?_
            first | rfl | (exfalso; omega)
          · skip
            refine kR.s rfl rfl ?_
            refine kR.zge (by omega) (by omega) (fun q15 => ?_) (fun q15 => ?_)
            · skip
              exfalso
              omega
            · skip
              refine kR.n ?_
              show kR 6 143 b143_210 _ _ _ _
              refine kR.s rfl rfl ?_
              refine kR.s rfl rfl ?_
              refine kR.pi (a := 30) (k := 19) (by omega) rfl rfl rfl (by decide) (by decide) rfl (by first | rfl | assumption | simp [kfit, *]) ?_
              refine kR.g rfl ?_
              show kR 6 143 b143_236 _ _ _ _
              refine kR.ret rfl rfl ?_
              first | rfl | (exfalso; omega)
      · skip
        exfalso
        omega
    · skip
      refine kR.s rfl rfl ?_
      refine kR.g rfl ?_
      show kR 6 143 b143_103 _ _ _ _
      refine kR.s rfl rfl ?_
      refine kR.s rfl rfl ?_
      refine kR.gr (a := 30) (b := 45) (k := 32) (by omega) rfl rfl rfl (by decide) (by decide) rfl ?_
      refine kR.s rfl rfl ?_
      refine kR.gi (a := 30) (k := 29) (v := (o : Int)) (by omega) rfl rfl rfl (by decide) (by decide) rfl (by exact ho) ?_
      refine kR.s rfl rfl ?_
      refine kR.sub ?_
      rw [ho1]
      refine kR.ia (a := 45) (v := cc) (by omega) rfl (by decide) (by omega) (by omega) (by exact hcc) ?_
      refine kR.s rfl rfl ?_
      refine kR.s rfl rfl ?_
      refine kR.s rfl rfl ?_
      refine kR.jge (by omega) (by omega) (by omega) (by omega) (fun q16 => ?_) (fun q16 => ?_)
      · skip
        show kR 6 143 b143_145 _ _ _ _
        refine kR.s rfl rfl ?_
        refine kR.s rfl rfl ?_
        refine kR.c0 (kargs_m hm (by decide) rfl) rfl (kR.up (c_107 (S := (kapm2 (ku (ku S 30 19 0) 30 28 0) o n2 v d)) hm hX hR hkL) (by decide)) ?_
        refine kR.s rfl rfl ?_
        have f18_0 := kdash_01 t (kre t n k) (krb t n k)
        refine kR.cv (v := .int (Int32.ofInt (kdash t (kre t n k) (krb t n k)))) (kargs_m hm (by decide) rfl) rfl (kR.up (c_130 (S := (kgom (kapm2 (ku (ku S 30 19 0) 30 28 0) o n2 v d) t n k)) hm hX hR (e := kre t n k) rfl (by omega) (p := krb t n k) rfl (by omega)) (by decide)) ?_
        refine kR.s rfl rfl ?_
        refine kR.s rfl rfl ?_
        refine kR.gr (a := 30) (b := 43) (k := 30) (by omega) rfl rfl rfl (by decide) (by decide) rfl ?_
        refine kR.s rfl rfl ?_
        refine kR.gi (a := 30) (k := 29) (v := (o : Int)) (by omega) rfl rfl rfl (by decide) (by decide) rfl (by exact ho) ?_
        refine kR.s rfl rfl ?_
        refine kR.sub ?_
        rw [ho1]
        refine kR.ia (a := 43) (v := 2) (by omega) rfl (by decide) (by omega) (by omega) (by exact hwh) ?_
        refine kR.s rfl rfl ?_
        refine kR.jne (by decide) (by decide) (by decide) (by decide) (fun q19 => ?_) (fun q19 => absurd q19 (by decide))
        show kR 6 143 b143_175 _ _ _ _
        refine kR.s rfl rfl ?_
        refine kR.n ?_
        show kR 6 143 b143_176 _ _ _ _
        refine kR.s rfl rfl ?_
        refine kR.s rfl rfl ?_
        refine kR.zeq (by decide) (by decide) (fun q20 => ?_) (fun q20 => absurd q20 (by decide))
        show kR 6 143 b143_187 _ _ _ _
        refine kR.s rfl rfl ?_
        refine kR.cv (v := .int (Int32.ofInt (kck t (kre t n k) 0 (krb t n k)))) (kargs_m hm (by decide) rfl) rfl (kR.up (c_131 (S := (kgom (kapm2 (ku (ku S 30 19 0) 30 28 0) o n2 v d) t n k)) hm hX hR (e := kre t n k) rfl (by omega) (p := krb t n k) rfl (by omega)) (by decide)) ?_
        refine kR.n ?_
        show kR 6 143 b143_191 _ _ _ _
        refine kR.s rfl rfl ?_
        refine kR.s rfl rfl ?_
        refine kR.s rfl rfl ?_
        refine kR.jgt (by omega) (by omega) (by omega) (by omega) (fun q22 => ?_) (fun q22 => ?_)
        · skip
          show kR 6 143 b143_210 _ _ _ _
          refine kR.s rfl rfl ?_
          refine kR.s rfl rfl ?_
          refine kR.pi (a := 30) (k := 19) (by omega) rfl rfl rfl (by decide) (by decide) rfl (by first | rfl | assumption | simp [kfit, *]) ?_
          refine kR.g rfl ?_
          show kR 6 143 b143_236 _ _ _ _
          refine kR.ret rfl rfl ?_
          first | rfl | (exfalso; omega)
        · skip
          refine kR.s rfl rfl ?_
          refine kR.s rfl rfl ?_
          refine kR.jne (by omega) (by omega) (by omega) (by omega) (fun q23 => ?_) (fun q23 => ?_)
          · skip
            show kR 6 143 b143_210 _ _ _ _
            refine kR.s rfl rfl ?_
            refine kR.s rfl rfl ?_
            refine kR.pi (a := 30) (k := 19) (by omega) rfl rfl rfl (by decide) (by decide) rfl (by first | rfl | assumption | simp [kfit, *]) ?_
            refine kR.g rfl ?_
            show kR 6 143 b143_236 _ _ _ _
            refine kR.ret rfl rfl ?_
            first | rfl | (exfalso; omega)
          · skip
            refine kR.s rfl rfl ?_
            refine kR.zge (by omega) (by omega) (fun q24 => ?_) (fun q24 => ?_)
            · skip
              exfalso
              omega
            · skip
              refine kR.n ?_
              show kR 6 143 b143_210 _ _ _ _
              refine kR.s rfl rfl ?_
              refine kR.s rfl rfl ?_
              refine kR.pi (a := 30) (k := 19) (by omega) rfl rfl rfl (by decide) (by decide) rfl (by first | rfl | assumption | simp [kfit, *]) ?_
              refine kR.g rfl ?_
              show kR 6 143 b143_236 _ _ _ _
              refine kR.ret rfl rfl ?_
              first | rfl | (exfalso; omega)
      · skip
        exfalso
        omega
  · skip
    refine kR.s rfl rfl ?_
    refine kR.s rfl rfl ?_
    refine kR.gi (a := 30) (k := 19) (v := 0) (by omega) rfl rfl rfl (by decide) (by decide) rfl (by rfl) ?_
    refine kR.zne (by decide) (by decide) (fun q25 => absurd q25 (by decide)) (fun q25 => ?_)
    refine kR.s rfl rfl ?_
    refine kR.zlt (by omega) (by omega) (fun q26 => ?_) (fun q26 => ?_)
    · skip
      show kR 6 143 b143_67 _ _ _ _
      refine kR.s rfl rfl ?_
      refine kR.n ?_
      show kR 6 143 b143_68 _ _ _ _
      refine kR.pi (a := 30) (k := 19) (by omega) rfl rfl rfl (by decide) (by decide) rfl (by first | rfl | assumption | simp [kfit, *]) ?_
      refine kR.s rfl rfl ?_
      refine kR.s rfl rfl ?_
      refine kR.pi (a := 30) (k := 20) (by omega) rfl rfl rfl (by decide) (by decide) rfl rfl ?_
      refine kR.ret rfl rfl ?_
      first | rfl | (exfalso; omega)
    · skip
      refine kR.n ?_
      show kR 6 143 b143_63 _ _ _ _
      refine kR.s rfl rfl ?_
      refine kR.g rfl ?_
      show kR 6 143 b143_68 _ _ _ _
      refine kR.pi (a := 30) (k := 19) (by omega) rfl rfl rfl (by decide) (by decide) rfl (by first | rfl | assumption | simp [kfit, *]) ?_
      refine kR.s rfl rfl ?_
      refine kR.s rfl rfl ?_
      refine kR.pi (a := 30) (k := 20) (by omega) rfl rfl rfl (by decide) (by decide) rfl rfl ?_
      refine kR.ret rfl rfl ?_
      first | rfl | (exfalso; omega)
theorem c_143_tabbad0 {m : Nat} {E : Nat → kC} {S : Nat → Nat → Int} {sz : Nat × Nat} (hm : 53 ≤ m ∧ m ≤ 57) {t : Nat → Int} {n L : Nat} (hX : kTx t n L) (hR : kRt S t n) {p e : Nat} (hpp : S 30 21 = (p : Int)) (he : S 30 23 = (e : Int)) (hpe : p ≤ 200 ∧ e ≤ 200) {iv : Int} (hiv : S 30 28 = iv) (hi01 : iv = 0 ∨ iv = 1) (hwr : S 30 19 = 0) {l : Nat} (hl : l ≤ L) (hle : S 30 24 + 1 = (klb t n l : Int)) {k : Nat} (hk : k = (kw (fun i => decide (¬ krb t n i < kre t n i ∨ t (krb t n i) = 35)) L l)) {v n2 d o : Nat} (hdn : S 30 27 = (v : Int)) (hn : S 30 15 = (n2 : Int)) (hnl : n2 < 200) (ho : S 30 29 = (o : Int)) (hol : 1 ≤ o ∧ o ≤ 8) (hd : S 44 (o - 1) = (d : Int)) (hdl : d < 60) (hwh : S 43 (o - 1) = 2) {cc : Int} (hcc : S 45 (o - 1) = cc) (hcr : 0 ≤ cc ∧ cc ≤ 200) (hin : iv = 0 ∨ p = e) (hkL : k < L) (hdp : cc ≤ (krb t n k : Int) - (klb t n k : Int)) (hckr : -1 ≤ kck t (kre t n k) 0 (krb t n k) ∧ kck t (kre t n k) 0 (krb t n k) ≤ 200) (hda : cc < (krb t n k : Int) - (klb t n k : Int) ∨ kdash t (kre t n k) (krb t n k) = 1 ∨ kck t (kre t n k) 0 (krb t n k) = -1) : kR 6 143 (blk 143 0) (kent 143 [.ref 30]) [] (sz, hp m E S) (fun r => r = (.inl none, (sz, hp m E (ku (if kqu (kch t (kre t n k) (krb t n k)) = 1 then kqb (kgom (kapm2 (ku (ku S 30 19 0) 30 28 0) o n2 v d) t n k) (kuq t (kre t n k) (kch t (kre t n k) (krb t n k)) (krb t n k + 1)) else (kgom (kapm2 (ku (ku S 30 19 0) 30 28 0) o n2 v d) t n k)) 30 19 1)))) := by
  show kR 6 143 b143_0 _ _ _ _
  refine kR.s rfl rfl ?_
  refine kR.s rfl rfl ?_
  refine kR.gi (a := 30) (k := 19) (v := 0) (by omega) rfl rfl rfl (by decide) (by decide) rfl (by exact hwr) ?_
  refine kR.zne (by decide) (by decide) (fun q1 => absurd q1 (by decide)) (fun q1 => ?_)
  refine kR.s rfl rfl ?_
  refine kR.gi (a := 30) (k := 28) (v := iv) (by omega) rfl rfl rfl (by decide) (by decide) rfl (by exact hiv) ?_
  refine kR.zeq (by omega) (by omega) (fun q2 => ?_) (fun q2 => ?_)
  · skip
    show kR 6 143 b143_30 _ _ _ _
    refine kR.s rfl rfl ?_
    refine kR.n ?_
    exact x_143_tabbad0 hm hX hR hpp he hpe hiv hi01 hwr hl hle hk hdn hn hnl ho hol hd hdl hwh hcc hcr hin hkL hdp hckr hda
  · skip
    refine kR.s rfl rfl ?_
    refine kR.gi (a := 30) (k := 21) (v := (p : Int)) (by omega) rfl rfl rfl (by decide) (by decide) rfl (by exact hpp) ?_
    refine kR.s rfl rfl ?_
    refine kR.gi (a := 30) (k := 23) (v := (e : Int)) (by omega) rfl rfl rfl (by decide) (by decide) rfl (by exact he) ?_
    refine kR.jeq (by omega) (by omega) (by omega) (by omega) (fun q3 => ?_) (fun q3 => ?_)
    · skip
      show kR 6 143 b143_30 _ _ _ _
      refine kR.s rfl rfl ?_
      refine kR.n ?_
      exact x_143_tabbad0 hm hX hR hpp he hpe hiv hi01 hwr hl hle hk hdn hn hnl ho hol hd hdl hwh hcc hcr hin hkL hdp hckr hda
    · skip
      refine kR.n ?_
      exfalso
      omega
theorem x_143_finmore1 {m : Nat} {E : Nat → kC} {S : Nat → Nat → Int} {sz : Nat × Nat} (hm : 53 ≤ m ∧ m ≤ 57) {t : Nat → Int} {n L : Nat} (hX : kTx t n L) (hR : kRt S t n) {p e : Nat} (hpp : S 30 21 = (p : Int)) (he : S 30 23 = (e : Int)) (hpe : p ≤ 200 ∧ e ≤ 200) {iv : Int} (hiv : S 30 28 = iv) (hi01 : iv = 0 ∨ iv = 1) (hwr : S 30 19 = 0) {l : Nat} (hl : l ≤ L) (hle : S 30 24 + 1 = (klb t n l : Int)) {k : Nat} (hk : k = (kw (fun i => decide (¬ krb t n i < kre t n i ∨ t (krb t n i) = 35)) L l)) (ho : S 30 29 = 0) (hin : iv = 1 ∧ ¬ p = e) (hkL : k < L) {v1 v2 v3 v4 v5 v6 : Value} : kR 6 143 (blk 143 31) [.ref 30, v1, v2, v3, v4, v5, v6] [.int (Int32.ofInt 1), .ref 30] (sz, hp m E S) (fun r => r = (.inl none, (sz, hp m E (ku (ku (ku (ku S 30 19 1) 30 28 0) 30 19 1) 30 20 5)))) := by
  have hx1 := hX.1
  have hx4 := hX.2.2.2.2.1 k hkL
  show kR 6 143 b143_31 _ _ _ _
  refine kR.pi (a := 30) (k := 19) (by omega) rfl rfl rfl (by decide) (by decide) rfl (by first | rfl | assumption | simp [kfit, *]) ?_
  refine kR.s rfl rfl ?_
  refine kR.s rfl rfl ?_
  refine kR.pi (a := 30) (k := 28) (by omega) rfl rfl rfl (by decide) (by decide) rfl (by first | rfl | assumption | simp [kfit, *]) ?_
  refine kR.s rfl rfl ?_
  refine kR.cv (v := .int (Int32.ofInt ((klb t n k : Int)))) (kargs_m hm (by decide) rfl) rfl (kR.up ((by have z := c_106 (S := (ku (ku S 30 19 1) 30 28 0)) (E := E) (sz := sz) hm hX hR hl hle; rw [← hk, if_pos hkL] at z; exact z)) (by decide)) ?_
  refine kR.s rfl rfl ?_
  refine kR.s rfl rfl ?_
  refine kR.gi (a := 30) (k := 29) (v := 0) (by omega) rfl rfl rfl (by decide) (by decide) rfl (by exact ho) ?_
  refine kR.zne (by decide) (by decide) (fun q2 => absurd q2 (by decide)) (fun q2 => ?_)
  refine kR.s rfl rfl ?_
  refine kR.s rfl rfl ?_
  refine kR.gi (a := 30) (k := 19) (v := 1) (by omega) rfl rfl rfl (by decide) (by decide) rfl (by rfl) ?_
  refine kR.zne (by decide) (by decide) (fun q3 => ?_) (fun q3 => absurd q3 (by decide))
  show kR 6 143 b143_63 _ _ _ _
  refine kR.s rfl rfl ?_
  refine kR.g rfl ?_
  show kR 6 143 b143_68 _ _ _ _
  refine kR.pi (a := 30) (k := 19) (by omega) rfl rfl rfl (by decide) (by decide) rfl (by first | rfl | assumption | simp [kfit, *]) ?_
  refine kR.s rfl rfl ?_
  refine kR.s rfl rfl ?_
  refine kR.pi (a := 30) (k := 20) (by omega) rfl rfl rfl (by decide) (by decide) rfl rfl ?_
  refine kR.ret rfl rfl ?_
  first | rfl | (exfalso; omega)
theorem c_143_finmore1 {m : Nat} {E : Nat → kC} {S : Nat → Nat → Int} {sz : Nat × Nat} (hm : 53 ≤ m ∧ m ≤ 57) {t : Nat → Int} {n L : Nat} (hX : kTx t n L) (hR : kRt S t n) {p e : Nat} (hpp : S 30 21 = (p : Int)) (he : S 30 23 = (e : Int)) (hpe : p ≤ 200 ∧ e ≤ 200) {iv : Int} (hiv : S 30 28 = iv) (hi01 : iv = 0 ∨ iv = 1) (hwr : S 30 19 = 0) {l : Nat} (hl : l ≤ L) (hle : S 30 24 + 1 = (klb t n l : Int)) {k : Nat} (hk : k = (kw (fun i => decide (¬ krb t n i < kre t n i ∨ t (krb t n i) = 35)) L l)) (ho : S 30 29 = 0) (hin : iv = 1 ∧ ¬ p = e) (hkL : k < L) : kR 6 143 (blk 143 0) (kent 143 [.ref 30]) [] (sz, hp m E S) (fun r => r = (.inl none, (sz, hp m E (ku (ku (ku (ku S 30 19 1) 30 28 0) 30 19 1) 30 20 5)))) := by
  show kR 6 143 b143_0 _ _ _ _
  refine kR.s rfl rfl ?_
  refine kR.s rfl rfl ?_
  refine kR.gi (a := 30) (k := 19) (v := 0) (by omega) rfl rfl rfl (by decide) (by decide) rfl (by exact hwr) ?_
  refine kR.zne (by decide) (by decide) (fun q1 => absurd q1 (by decide)) (fun q1 => ?_)
  refine kR.s rfl rfl ?_
  refine kR.gi (a := 30) (k := 28) (v := iv) (by omega) rfl rfl rfl (by decide) (by decide) rfl (by exact hiv) ?_
  refine kR.zeq (by omega) (by omega) (fun q2 => ?_) (fun q2 => ?_)
  · skip
    exfalso
    omega
  · skip
    refine kR.s rfl rfl ?_
    refine kR.gi (a := 30) (k := 21) (v := (p : Int)) (by omega) rfl rfl rfl (by decide) (by decide) rfl (by exact hpp) ?_
    refine kR.s rfl rfl ?_
    refine kR.gi (a := 30) (k := 23) (v := (e : Int)) (by omega) rfl rfl rfl (by decide) (by decide) rfl (by exact he) ?_
    refine kR.jeq (by omega) (by omega) (by omega) (by omega) (fun q3 => ?_) (fun q3 => ?_)
    · skip
      exfalso
      omega
    · skip
      refine kR.n ?_
      show kR 6 143 b143_26 _ _ _ _
      refine kR.s rfl rfl ?_
      refine kR.g rfl ?_
      exact x_143_finmore1 hm hX hR hpp he hpe hiv hi01 hwr hl hle hk ho hin hkL
theorem x_143_finnone1 {m : Nat} {E : Nat → kC} {S : Nat → Nat → Int} {sz : Nat × Nat} (hm : 53 ≤ m ∧ m ≤ 57) {t : Nat → Int} {n L : Nat} (hX : kTx t n L) (hR : kRt S t n) {p e : Nat} (hpp : S 30 21 = (p : Int)) (he : S 30 23 = (e : Int)) (hpe : p ≤ 200 ∧ e ≤ 200) {iv : Int} (hiv : S 30 28 = iv) (hi01 : iv = 0 ∨ iv = 1) (hwr : S 30 19 = 0) {l : Nat} (hl : l ≤ L) (hle : S 30 24 + 1 = (klb t n l : Int)) {k : Nat} (hk : k = (kw (fun i => decide (¬ krb t n i < kre t n i ∨ t (krb t n i) = 35)) L l)) (ho : S 30 29 = 0) (hin : iv = 1 ∧ ¬ p = e) (hkL : L ≤ k) {v1 v2 v3 v4 v5 v6 : Value} : kR 6 143 (blk 143 31) [.ref 30, v1, v2, v3, v4, v5, v6] [.int (Int32.ofInt 1), .ref 30] (sz, hp m E S) (fun r => r = (.inl none, (sz, hp m E (ku (ku (ku (ku S 30 19 1) 30 28 0) 30 19 1) 30 20 5)))) := by
  have hx1 := hX.1
  show kR 6 143 b143_31 _ _ _ _
  refine kR.pi (a := 30) (k := 19) (by omega) rfl rfl rfl (by decide) (by decide) rfl (by first | rfl | assumption | simp [kfit, *]) ?_
  refine kR.s rfl rfl ?_
  refine kR.s rfl rfl ?_
  refine kR.pi (a := 30) (k := 28) (by omega) rfl rfl rfl (by decide) (by decide) rfl (by first | rfl | assumption | simp [kfit, *]) ?_
  refine kR.s rfl rfl ?_
  refine kR.cv (v := .int (Int32.ofInt (-1))) (kargs_m hm (by decide) rfl) rfl (kR.up ((by have z := c_106 (S := (ku (ku S 30 19 1) 30 28 0)) (E := E) (sz := sz) hm hX hR hl hle; rw [← hk, if_neg (by omega)] at z; exact z)) (by decide)) ?_
  refine kR.s rfl rfl ?_
  refine kR.s rfl rfl ?_
  refine kR.gi (a := 30) (k := 29) (v := 0) (by omega) rfl rfl rfl (by decide) (by decide) rfl (by exact ho) ?_
  refine kR.zne (by decide) (by decide) (fun q2 => absurd q2 (by decide)) (fun q2 => ?_)
  refine kR.s rfl rfl ?_
  refine kR.s rfl rfl ?_
  refine kR.gi (a := 30) (k := 19) (v := 1) (by omega) rfl rfl rfl (by decide) (by decide) rfl (by rfl) ?_
  refine kR.zne (by decide) (by decide) (fun q3 => ?_) (fun q3 => absurd q3 (by decide))
  show kR 6 143 b143_63 _ _ _ _
  refine kR.s rfl rfl ?_
  refine kR.g rfl ?_
  show kR 6 143 b143_68 _ _ _ _
  refine kR.pi (a := 30) (k := 19) (by omega) rfl rfl rfl (by decide) (by decide) rfl (by first | rfl | assumption | simp [kfit, *]) ?_
  refine kR.s rfl rfl ?_
  refine kR.s rfl rfl ?_
  refine kR.pi (a := 30) (k := 20) (by omega) rfl rfl rfl (by decide) (by decide) rfl rfl ?_
  refine kR.ret rfl rfl ?_
  first | rfl | (exfalso; omega)
theorem c_143_finnone1 {m : Nat} {E : Nat → kC} {S : Nat → Nat → Int} {sz : Nat × Nat} (hm : 53 ≤ m ∧ m ≤ 57) {t : Nat → Int} {n L : Nat} (hX : kTx t n L) (hR : kRt S t n) {p e : Nat} (hpp : S 30 21 = (p : Int)) (he : S 30 23 = (e : Int)) (hpe : p ≤ 200 ∧ e ≤ 200) {iv : Int} (hiv : S 30 28 = iv) (hi01 : iv = 0 ∨ iv = 1) (hwr : S 30 19 = 0) {l : Nat} (hl : l ≤ L) (hle : S 30 24 + 1 = (klb t n l : Int)) {k : Nat} (hk : k = (kw (fun i => decide (¬ krb t n i < kre t n i ∨ t (krb t n i) = 35)) L l)) (ho : S 30 29 = 0) (hin : iv = 1 ∧ ¬ p = e) (hkL : L ≤ k) : kR 6 143 (blk 143 0) (kent 143 [.ref 30]) [] (sz, hp m E S) (fun r => r = (.inl none, (sz, hp m E (ku (ku (ku (ku S 30 19 1) 30 28 0) 30 19 1) 30 20 5)))) := by
  show kR 6 143 b143_0 _ _ _ _
  refine kR.s rfl rfl ?_
  refine kR.s rfl rfl ?_
  refine kR.gi (a := 30) (k := 19) (v := 0) (by omega) rfl rfl rfl (by decide) (by decide) rfl (by exact hwr) ?_
  refine kR.zne (by decide) (by decide) (fun q1 => absurd q1 (by decide)) (fun q1 => ?_)
  refine kR.s rfl rfl ?_
  refine kR.gi (a := 30) (k := 28) (v := iv) (by omega) rfl rfl rfl (by decide) (by decide) rfl (by exact hiv) ?_
  refine kR.zeq (by omega) (by omega) (fun q2 => ?_) (fun q2 => ?_)
  · skip
    exfalso
    omega
  · skip
    refine kR.s rfl rfl ?_
    refine kR.gi (a := 30) (k := 21) (v := (p : Int)) (by omega) rfl rfl rfl (by decide) (by decide) rfl (by exact hpp) ?_
    refine kR.s rfl rfl ?_
    refine kR.gi (a := 30) (k := 23) (v := (e : Int)) (by omega) rfl rfl rfl (by decide) (by decide) rfl (by exact he) ?_
    refine kR.jeq (by omega) (by omega) (by omega) (by omega) (fun q3 => ?_) (fun q3 => ?_)
    · skip
      exfalso
      omega
    · skip
      refine kR.n ?_
      show kR 6 143 b143_26 _ _ _ _
      refine kR.s rfl rfl ?_
      refine kR.g rfl ?_
      exact x_143_finnone1 hm hX hR hpp he hpe hiv hi01 hwr hl hle hk ho hin hkL
theorem x_143_end1_1 {m : Nat} {E : Nat → kC} {S : Nat → Nat → Int} {sz : Nat × Nat} (hm : 53 ≤ m ∧ m ≤ 57) {t : Nat → Int} {n L : Nat} (hX : kTx t n L) (hR : kRt S t n) {p e : Nat} (hpp : S 30 21 = (p : Int)) (he : S 30 23 = (e : Int)) (hpe : p ≤ 200 ∧ e ≤ 200) {iv : Int} (hiv : S 30 28 = iv) (hi01 : iv = 0 ∨ iv = 1) (hwr : S 30 19 = 0) {l : Nat} (hl : l ≤ L) (hle : S 30 24 + 1 = (klb t n l : Int)) {k : Nat} (hk : k = (kw (fun i => decide (¬ krb t n i < kre t n i ∨ t (krb t n i) = 35)) L l)) {v n2 d o : Nat} (hdn : S 30 27 = (v : Int)) (hn : S 30 15 = (n2 : Int)) (hnl : n2 < 200) (ho : S 30 29 = (o : Int)) (hol : 1 ≤ o ∧ o ≤ 8) (hd : S 44 (o - 1) = (d : Int)) (hdl : d < 60) (hwh : S 43 (o - 1) = 1) {cc : Int} (hcc : S 45 (o - 1) = cc) (hcr : 0 ≤ cc ∧ cc ≤ 200) (hin : iv = 1 ∧ ¬ p = e) (hkL : L ≤ k) {v1 v2 v3 v4 v5 v6 : Value} : kR 6 143 (blk 143 31) [.ref 30, v1, v2, v3, v4, v5, v6] [.int (Int32.ofInt 1), .ref 30] (sz, hp m E S) (fun r => r = (.inl none, (sz, hp m E (ku (ku (ku (kapm2 (ku (ku S 30 19 1) 30 28 0) o n2 v d) 30 29 ((o - 1 : Nat) : Int)) 30 27 (d : Int)) 30 20 4)))) := by
  have hx1 := hX.1
  have hwq : -2147483648 ≤ S 43 (o - 1) ∧ S 43 (o - 1) < 2147483648 := by omega
  have ho1 : (o : Int) - 1 = ((o - 1 : Nat) : Int) := by omega
  show kR 6 143 b143_31 _ _ _ _
  refine kR.pi (a := 30) (k := 19) (by omega) rfl rfl rfl (by decide) (by decide) rfl (by first | rfl | assumption | simp [kfit, *]) ?_
  refine kR.s rfl rfl ?_
  refine kR.s rfl rfl ?_
  refine kR.pi (a := 30) (k := 28) (by omega) rfl rfl rfl (by decide) (by decide) rfl (by first | rfl | assumption | simp [kfit, *]) ?_
  refine kR.s rfl rfl ?_
  refine kR.cv (v := .int (Int32.ofInt (-1))) (kargs_m hm (by decide) rfl) rfl (kR.up ((by have z := c_106 (S := (ku (ku S 30 19 1) 30 28 0)) (E := E) (sz := sz) hm hX hR hl hle; rw [← hk, if_neg (by omega)] at z; exact z)) (by decide)) ?_
  refine kR.s rfl rfl ?_
  refine kR.s rfl rfl ?_
  refine kR.gi (a := 30) (k := 29) (v := (o : Int)) (by omega) rfl rfl rfl (by decide) (by decide) rfl (by exact ho) ?_
  refine kR.zne (by omega) (by omega) (fun q2 => ?_) (fun q2 => ?_)
  · skip
    show kR 6 143 b143_77 _ _ _ _
    refine kR.s rfl rfl ?_
    refine kR.s rfl rfl ?_
    refine kR.gi (a := 30) (k := 27) (v := (v : Int)) (by omega) rfl rfl rfl (by decide) (by decide) rfl (by exact hdn) ?_
    refine kR.c0 (kargs_m hm (by decide) rfl) rfl (kR.up (c_116 (S := ku (ku S 30 19 1) 30 28 0) hm (v := v) hn hnl ho (by omega) (by omega) hd hdl hwq) (by decide)) ?_
    refine kR.s rfl rfl ?_
    refine kR.zge (by decide) (by decide) (fun q4 => absurd q4 (by decide)) (fun q4 => ?_)
    refine kR.s rfl rfl ?_
    refine kR.g rfl ?_
    show kR 6 143 b143_103 _ _ _ _
    refine kR.s rfl rfl ?_
    refine kR.s rfl rfl ?_
    refine kR.gr (a := 30) (b := 45) (k := 32) (by omega) rfl rfl rfl (by decide) (by decide) rfl ?_
    refine kR.s rfl rfl ?_
    refine kR.gi (a := 30) (k := 29) (v := (o : Int)) (by omega) rfl rfl rfl (by decide) (by decide) rfl (by exact ho) ?_
    refine kR.s rfl rfl ?_
    refine kR.sub ?_
    rw [ho1]
    refine kR.ia (a := 45) (v := cc) (by omega) rfl (by decide) (by omega) (by omega) (by exact hcc) ?_
    refine kR.s rfl rfl ?_
    refine kR.s rfl rfl ?_
    refine kR.s rfl rfl ?_
    refine kR.jge (by omega) (by omega) (by omega) (by omega) (fun q5 => ?_) (fun q5 => ?_)
    · skip
      exfalso
      omega
    · skip
      refine kR.s rfl rfl ?_
      refine kR.s rfl rfl ?_
      refine kR.gi (a := 30) (k := 29) (v := (o : Int)) (by omega) rfl rfl rfl (by decide) (by decide) rfl (by exact ho) ?_
      refine kR.s rfl rfl ?_
      refine kR.sub ?_
      rw [ho1]
      refine kR.pi (a := 30) (k := 29) (by omega) rfl rfl rfl (by decide) (by decide) rfl rfl ?_
      refine kR.s rfl rfl ?_
      refine kR.s rfl rfl ?_
      refine kR.gr (a := 30) (b := 44) (k := 31) (by omega) rfl rfl rfl (by decide) (by decide) rfl ?_
      refine kR.s rfl rfl ?_
      refine kR.gi (a := 30) (k := 29) (v := ((o - 1 : Nat) : Int)) (by omega) rfl rfl rfl (by decide) (by decide) rfl (by rfl) ?_
      refine kR.ia (a := 44) (v := (d : Int)) (by omega) rfl (by decide) (by omega) (by omega) (by exact hd) ?_
      refine kR.c0 (kargs_m hm (by decide) rfl) rfl (kR.up (c_113 (S := ku (kapm2 (ku (ku S 30 19 1) 30 28 0) o n2 v d) 30 29 ((o - 1 : Nat) : Int)) hm) (by decide)) ?_
      refine kR.ret rfl rfl ?_
      first | rfl | (exfalso; omega)
  · skip
    refine kR.s rfl rfl ?_
    refine kR.s rfl rfl ?_
    refine kR.gi (a := 30) (k := 19) (v := 1) (by omega) rfl rfl rfl (by decide) (by decide) rfl (by rfl) ?_
    refine kR.zne (by decide) (by decide) (fun q7 => ?_) (fun q7 => absurd q7 (by decide))
    show kR 6 143 b143_63 _ _ _ _
    refine kR.s rfl rfl ?_
    refine kR.g rfl ?_
    show kR 6 143 b143_68 _ _ _ _
    refine kR.pi (a := 30) (k := 19) (by omega) rfl rfl rfl (by decide) (by decide) rfl (by first | rfl | assumption | simp [kfit, *]) ?_
    refine kR.s rfl rfl ?_
    refine kR.s rfl rfl ?_
    refine kR.pi (a := 30) (k := 20) (by omega) rfl rfl rfl (by decide) (by decide) rfl rfl ?_
    refine kR.ret rfl rfl ?_
    first | rfl | (exfalso; omega)
theorem c_143_end1_1 {m : Nat} {E : Nat → kC} {S : Nat → Nat → Int} {sz : Nat × Nat} (hm : 53 ≤ m ∧ m ≤ 57) {t : Nat → Int} {n L : Nat} (hX : kTx t n L) (hR : kRt S t n) {p e : Nat} (hpp : S 30 21 = (p : Int)) (he : S 30 23 = (e : Int)) (hpe : p ≤ 200 ∧ e ≤ 200) {iv : Int} (hiv : S 30 28 = iv) (hi01 : iv = 0 ∨ iv = 1) (hwr : S 30 19 = 0) {l : Nat} (hl : l ≤ L) (hle : S 30 24 + 1 = (klb t n l : Int)) {k : Nat} (hk : k = (kw (fun i => decide (¬ krb t n i < kre t n i ∨ t (krb t n i) = 35)) L l)) {v n2 d o : Nat} (hdn : S 30 27 = (v : Int)) (hn : S 30 15 = (n2 : Int)) (hnl : n2 < 200) (ho : S 30 29 = (o : Int)) (hol : 1 ≤ o ∧ o ≤ 8) (hd : S 44 (o - 1) = (d : Int)) (hdl : d < 60) (hwh : S 43 (o - 1) = 1) {cc : Int} (hcc : S 45 (o - 1) = cc) (hcr : 0 ≤ cc ∧ cc ≤ 200) (hin : iv = 1 ∧ ¬ p = e) (hkL : L ≤ k) : kR 6 143 (blk 143 0) (kent 143 [.ref 30]) [] (sz, hp m E S) (fun r => r = (.inl none, (sz, hp m E (ku (ku (ku (kapm2 (ku (ku S 30 19 1) 30 28 0) o n2 v d) 30 29 ((o - 1 : Nat) : Int)) 30 27 (d : Int)) 30 20 4)))) := by
  show kR 6 143 b143_0 _ _ _ _
  refine kR.s rfl rfl ?_
  refine kR.s rfl rfl ?_
  refine kR.gi (a := 30) (k := 19) (v := 0) (by omega) rfl rfl rfl (by decide) (by decide) rfl (by exact hwr) ?_
  refine kR.zne (by decide) (by decide) (fun q1 => absurd q1 (by decide)) (fun q1 => ?_)
  refine kR.s rfl rfl ?_
  refine kR.gi (a := 30) (k := 28) (v := iv) (by omega) rfl rfl rfl (by decide) (by decide) rfl (by exact hiv) ?_
  refine kR.zeq (by omega) (by omega) (fun q2 => ?_) (fun q2 => ?_)
  · skip
    exfalso
    omega
  · skip
    refine kR.s rfl rfl ?_
    refine kR.gi (a := 30) (k := 21) (v := (p : Int)) (by omega) rfl rfl rfl (by decide) (by decide) rfl (by exact hpp) ?_
    refine kR.s rfl rfl ?_
    refine kR.gi (a := 30) (k := 23) (v := (e : Int)) (by omega) rfl rfl rfl (by decide) (by decide) rfl (by exact he) ?_
    refine kR.jeq (by omega) (by omega) (by omega) (by omega) (fun q3 => ?_) (fun q3 => ?_)
    · skip
      exfalso
      omega
    · skip
      refine kR.n ?_
      show kR 6 143 b143_26 _ _ _ _
      refine kR.s rfl rfl ?_
      refine kR.g rfl ?_
      exact x_143_end1_1 hm hX hR hpp he hpe hiv hi01 hwr hl hle hk hdn hn hnl ho hol hd hdl hwh hcc hcr hin hkL
theorem x_143_cl1_1 {m : Nat} {E : Nat → kC} {S : Nat → Nat → Int} {sz : Nat × Nat} (hm : 53 ≤ m ∧ m ≤ 57) {t : Nat → Int} {n L : Nat} (hX : kTx t n L) (hR : kRt S t n) {p e : Nat} (hpp : S 30 21 = (p : Int)) (he : S 30 23 = (e : Int)) (hpe : p ≤ 200 ∧ e ≤ 200) {iv : Int} (hiv : S 30 28 = iv) (hi01 : iv = 0 ∨ iv = 1) (hwr : S 30 19 = 0) {l : Nat} (hl : l ≤ L) (hle : S 30 24 + 1 = (klb t n l : Int)) {k : Nat} (hk : k = (kw (fun i => decide (¬ krb t n i < kre t n i ∨ t (krb t n i) = 35)) L l)) {v n2 d o : Nat} (hdn : S 30 27 = (v : Int)) (hn : S 30 15 = (n2 : Int)) (hnl : n2 < 200) (ho : S 30 29 = (o : Int)) (hol : 1 ≤ o ∧ o ≤ 8) (hd : S 44 (o - 1) = (d : Int)) (hdl : d < 60) (hwh : S 43 (o - 1) = 1) {cc : Int} (hcc : S 45 (o - 1) = cc) (hcr : 0 ≤ cc ∧ cc ≤ 200) (hin : iv = 1 ∧ ¬ p = e) (hkL : k < L) (hdp : (krb t n k : Int) - (klb t n k : Int) < cc) {v1 v2 v3 v4 v5 v6 : Value} : kR 6 143 (blk 143 31) [.ref 30, v1, v2, v3, v4, v5, v6] [.int (Int32.ofInt 1), .ref 30] (sz, hp m E S) (fun r => r = (.inl none, (sz, hp m E (ku (ku (ku (kapm2 (ku (ku S 30 19 1) 30 28 0) o n2 v d) 30 29 ((o - 1 : Nat) : Int)) 30 27 (d : Int)) 30 20 4)))) := by
  have hx1 := hX.1
  have hwq : -2147483648 ≤ S 43 (o - 1) ∧ S 43 (o - 1) < 2147483648 := by omega
  have ho1 : (o : Int) - 1 = ((o - 1 : Nat) : Int) := by omega
  have hx4 := hX.2.2.2.2.1 k hkL
  have hx7 := hX.ln hkL
  show kR 6 143 b143_31 _ _ _ _
  refine kR.pi (a := 30) (k := 19) (by omega) rfl rfl rfl (by decide) (by decide) rfl (by first | rfl | assumption | simp [kfit, *]) ?_
  refine kR.s rfl rfl ?_
  refine kR.s rfl rfl ?_
  refine kR.pi (a := 30) (k := 28) (by omega) rfl rfl rfl (by decide) (by decide) rfl (by first | rfl | assumption | simp [kfit, *]) ?_
  refine kR.s rfl rfl ?_
  refine kR.cv (v := .int (Int32.ofInt ((klb t n k : Int)))) (kargs_m hm (by decide) rfl) rfl (kR.up ((by have z := c_106 (S := (ku (ku S 30 19 1) 30 28 0)) (E := E) (sz := sz) hm hX hR hl hle; rw [← hk, if_pos hkL] at z; exact z)) (by decide)) ?_
  refine kR.s rfl rfl ?_
  refine kR.s rfl rfl ?_
  refine kR.gi (a := 30) (k := 29) (v := (o : Int)) (by omega) rfl rfl rfl (by decide) (by decide) rfl (by exact ho) ?_
  refine kR.zne (by omega) (by omega) (fun q2 => ?_) (fun q2 => ?_)
  · skip
    show kR 6 143 b143_77 _ _ _ _
    refine kR.s rfl rfl ?_
    refine kR.s rfl rfl ?_
    refine kR.gi (a := 30) (k := 27) (v := (v : Int)) (by omega) rfl rfl rfl (by decide) (by decide) rfl (by exact hdn) ?_
    refine kR.c0 (kargs_m hm (by decide) rfl) rfl (kR.up (c_116 (S := ku (ku S 30 19 1) 30 28 0) hm (v := v) hn hnl ho (by omega) (by omega) hd hdl hwq) (by decide)) ?_
    refine kR.s rfl rfl ?_
    refine kR.zge (by omega) (by omega) (fun q4 => ?_) (fun q4 => ?_)
    · skip
      show kR 6 143 b143_93 _ _ _ _
      refine kR.s rfl rfl ?_
      refine kR.s rfl rfl ?_
      refine kR.s rfl rfl ?_
      refine kR.s rfl rfl ?_
      refine kR.cv (v := .int (Int32.ofInt ((kle t n k : Int)))) (kargs_m hm (by decide) rfl) rfl (kR.up (c_105t (S := (kapm2 (ku (ku S 30 19 1) 30 28 0) o n2 v d)) hm hX hR (a := klb t n k) (by omega)) (by decide)) ?_
      refine kR.cv (v := .int (Int32.ofInt ((krb t n k : Int) - (klb t n k : Int)))) (kargs_m hm (by decide) rfl) rfl (kR.up (c_104t (S := (kapm2 (ku (ku S 30 19 1) 30 28 0) o n2 v d)) hm hX hR (a := klb t n k) (g := kle t n k) (by omega) (by omega)) (by decide)) ?_
      refine kR.n ?_
      show kR 6 143 b143_103 _ _ _ _
      refine kR.s rfl rfl ?_
      refine kR.s rfl rfl ?_
      refine kR.gr (a := 30) (b := 45) (k := 32) (by omega) rfl rfl rfl (by decide) (by decide) rfl ?_
      refine kR.s rfl rfl ?_
      refine kR.gi (a := 30) (k := 29) (v := (o : Int)) (by omega) rfl rfl rfl (by decide) (by decide) rfl (by exact ho) ?_
      refine kR.s rfl rfl ?_
      refine kR.sub ?_
      rw [ho1]
      refine kR.ia (a := 45) (v := cc) (by omega) rfl (by decide) (by omega) (by omega) (by exact hcc) ?_
      refine kR.s rfl rfl ?_
      refine kR.s rfl rfl ?_
      refine kR.s rfl rfl ?_
      refine kR.jge (by omega) (by omega) (by omega) (by omega) (fun q7 => ?_) (fun q7 => ?_)
      · skip
        exfalso
        omega
      · skip
        refine kR.s rfl rfl ?_
        refine kR.s rfl rfl ?_
        refine kR.gi (a := 30) (k := 29) (v := (o : Int)) (by omega) rfl rfl rfl (by decide) (by decide) rfl (by exact ho) ?_
        refine kR.s rfl rfl ?_
        refine kR.sub ?_
        rw [ho1]
        refine kR.pi (a := 30) (k := 29) (by omega) rfl rfl rfl (by decide) (by decide) rfl rfl ?_
        refine kR.s rfl rfl ?_
        refine kR.s rfl rfl ?_
        refine kR.gr (a := 30) (b := 44) (k := 31) (by omega) rfl rfl rfl (by decide) (by decide) rfl ?_
        refine kR.s rfl rfl ?_
        refine kR.gi (a := 30) (k := 29) (v := ((o - 1 : Nat) : Int)) (by omega) rfl rfl rfl (by decide) (by decide) rfl (by rfl) ?_
        refine kR.ia (a := 44) (v := (d : Int)) (by omega) rfl (by decide) (by omega) (by omega) (by exact hd) ?_
        refine kR.c0 (kargs_m hm (by decide) rfl) rfl (kR.up (c_113 (S := ku (kapm2 (ku (ku S 30 19 1) 30 28 0) o n2 v d) 30 29 ((o - 1 : Nat) : Int)) hm) (by decide)) ?_
        refine kR.ret rfl rfl ?_
        first | rfl | (exfalso; omega)
    · skip
      refine kR.s rfl rfl ?_
      refine kR.g rfl ?_
      show kR 6 143 b143_103 _ _ _ _
      refine kR.s rfl rfl ?_
      refine kR.s rfl rfl ?_
      refine kR.gr (a := 30) (b := 45) (k := 32) (by omega) rfl rfl rfl (by decide) (by decide) rfl ?_
      refine kR.s rfl rfl ?_
      refine kR.gi (a := 30) (k := 29) (v := (o : Int)) (by omega) rfl rfl rfl (by decide) (by decide) rfl (by exact ho) ?_
      refine kR.s rfl rfl ?_
      refine kR.sub ?_
      rw [ho1]
      refine kR.ia (a := 45) (v := cc) (by omega) rfl (by decide) (by omega) (by omega) (by exact hcc) ?_
      refine kR.s rfl rfl ?_
      refine kR.s rfl rfl ?_
      refine kR.s rfl rfl ?_
      refine kR.jge (by omega) (by omega) (by omega) (by omega) (fun q9 => ?_) (fun q9 => ?_)
      · skip
        exfalso
        omega
      · skip
        refine kR.s rfl rfl ?_
        refine kR.s rfl rfl ?_
        refine kR.gi (a := 30) (k := 29) (v := (o : Int)) (by omega) rfl rfl rfl (by decide) (by decide) rfl (by exact ho) ?_
        refine kR.s rfl rfl ?_
        refine kR.sub ?_
        rw [ho1]
        refine kR.pi (a := 30) (k := 29) (by omega) rfl rfl rfl (by decide) (by decide) rfl rfl ?_
        refine kR.s rfl rfl ?_
        refine kR.s rfl rfl ?_
        refine kR.gr (a := 30) (b := 44) (k := 31) (by omega) rfl rfl rfl (by decide) (by decide) rfl ?_
        refine kR.s rfl rfl ?_
        refine kR.gi (a := 30) (k := 29) (v := ((o - 1 : Nat) : Int)) (by omega) rfl rfl rfl (by decide) (by decide) rfl (by rfl) ?_
        refine kR.ia (a := 44) (v := (d : Int)) (by omega) rfl (by decide) (by omega) (by omega) (by exact hd) ?_
        refine kR.c0 (kargs_m hm (by decide) rfl) rfl (kR.up (c_113 (S := ku (kapm2 (ku (ku S 30 19 1) 30 28 0) o n2 v d) 30 29 ((o - 1 : Nat) : Int)) hm) (by decide)) ?_
        refine kR.ret rfl rfl ?_
        first | rfl | (exfalso; omega)
  · skip
    refine kR.s rfl rfl ?_
    refine kR.s rfl rfl ?_
    refine kR.gi (a := 30) (k := 19) (v := 1) (by omega) rfl rfl rfl (by decide) (by decide) rfl (by rfl) ?_
    refine kR.zne (by decide) (by decide) (fun q11 => ?_) (fun q11 => absurd q11 (by decide))
    show kR 6 143 b143_63 _ _ _ _
    refine kR.s rfl rfl ?_
    refine kR.g rfl ?_
    show kR 6 143 b143_68 _ _ _ _
    refine kR.pi (a := 30) (k := 19) (by omega) rfl rfl rfl (by decide) (by decide) rfl (by first | rfl | assumption | simp [kfit, *]) ?_
    refine kR.s rfl rfl ?_
    refine kR.s rfl rfl ?_
    refine kR.pi (a := 30) (k := 20) (by omega) rfl rfl rfl (by decide) (by decide) rfl rfl ?_
    refine kR.ret rfl rfl ?_
    first | rfl | (exfalso; omega)
theorem c_143_cl1_1 {m : Nat} {E : Nat → kC} {S : Nat → Nat → Int} {sz : Nat × Nat} (hm : 53 ≤ m ∧ m ≤ 57) {t : Nat → Int} {n L : Nat} (hX : kTx t n L) (hR : kRt S t n) {p e : Nat} (hpp : S 30 21 = (p : Int)) (he : S 30 23 = (e : Int)) (hpe : p ≤ 200 ∧ e ≤ 200) {iv : Int} (hiv : S 30 28 = iv) (hi01 : iv = 0 ∨ iv = 1) (hwr : S 30 19 = 0) {l : Nat} (hl : l ≤ L) (hle : S 30 24 + 1 = (klb t n l : Int)) {k : Nat} (hk : k = (kw (fun i => decide (¬ krb t n i < kre t n i ∨ t (krb t n i) = 35)) L l)) {v n2 d o : Nat} (hdn : S 30 27 = (v : Int)) (hn : S 30 15 = (n2 : Int)) (hnl : n2 < 200) (ho : S 30 29 = (o : Int)) (hol : 1 ≤ o ∧ o ≤ 8) (hd : S 44 (o - 1) = (d : Int)) (hdl : d < 60) (hwh : S 43 (o - 1) = 1) {cc : Int} (hcc : S 45 (o - 1) = cc) (hcr : 0 ≤ cc ∧ cc ≤ 200) (hin : iv = 1 ∧ ¬ p = e) (hkL : k < L) (hdp : (krb t n k : Int) - (klb t n k : Int) < cc) : kR 6 143 (blk 143 0) (kent 143 [.ref 30]) [] (sz, hp m E S) (fun r => r = (.inl none, (sz, hp m E (ku (ku (ku (kapm2 (ku (ku S 30 19 1) 30 28 0) o n2 v d) 30 29 ((o - 1 : Nat) : Int)) 30 27 (d : Int)) 30 20 4)))) := by
  show kR 6 143 b143_0 _ _ _ _
  refine kR.s rfl rfl ?_
  refine kR.s rfl rfl ?_
  refine kR.gi (a := 30) (k := 19) (v := 0) (by omega) rfl rfl rfl (by decide) (by decide) rfl (by exact hwr) ?_
  refine kR.zne (by decide) (by decide) (fun q1 => absurd q1 (by decide)) (fun q1 => ?_)
  refine kR.s rfl rfl ?_
  refine kR.gi (a := 30) (k := 28) (v := iv) (by omega) rfl rfl rfl (by decide) (by decide) rfl (by exact hiv) ?_
  refine kR.zeq (by omega) (by omega) (fun q2 => ?_) (fun q2 => ?_)
  · skip
    exfalso
    omega
  · skip
    refine kR.s rfl rfl ?_
    refine kR.gi (a := 30) (k := 21) (v := (p : Int)) (by omega) rfl rfl rfl (by decide) (by decide) rfl (by exact hpp) ?_
    refine kR.s rfl rfl ?_
    refine kR.gi (a := 30) (k := 23) (v := (e : Int)) (by omega) rfl rfl rfl (by decide) (by decide) rfl (by exact he) ?_
    refine kR.jeq (by omega) (by omega) (by omega) (by omega) (fun q3 => ?_) (fun q3 => ?_)
    · skip
      exfalso
      omega
    · skip
      refine kR.n ?_
      show kR 6 143 b143_26 _ _ _ _
      refine kR.s rfl rfl ?_
      refine kR.g rfl ?_
      exact x_143_cl1_1 hm hX hR hpp he hpe hiv hi01 hwr hl hle hk hdn hn hnl ho hol hd hdl hwh hcc hcr hin hkL hdp
theorem x_143_end1_2 {m : Nat} {E : Nat → kC} {S : Nat → Nat → Int} {sz : Nat × Nat} (hm : 53 ≤ m ∧ m ≤ 57) {t : Nat → Int} {n L : Nat} (hX : kTx t n L) (hR : kRt S t n) {p e : Nat} (hpp : S 30 21 = (p : Int)) (he : S 30 23 = (e : Int)) (hpe : p ≤ 200 ∧ e ≤ 200) {iv : Int} (hiv : S 30 28 = iv) (hi01 : iv = 0 ∨ iv = 1) (hwr : S 30 19 = 0) {l : Nat} (hl : l ≤ L) (hle : S 30 24 + 1 = (klb t n l : Int)) {k : Nat} (hk : k = (kw (fun i => decide (¬ krb t n i < kre t n i ∨ t (krb t n i) = 35)) L l)) {v n2 d o : Nat} (hdn : S 30 27 = (v : Int)) (hn : S 30 15 = (n2 : Int)) (hnl : n2 < 200) (ho : S 30 29 = (o : Int)) (hol : 1 ≤ o ∧ o ≤ 8) (hd : S 44 (o - 1) = (d : Int)) (hdl : d < 60) (hwh : S 43 (o - 1) = 2) {cc : Int} (hcc : S 45 (o - 1) = cc) (hcr : 0 ≤ cc ∧ cc ≤ 200) (hin : iv = 1 ∧ ¬ p = e) (hkL : L ≤ k) {v1 v2 v3 v4 v5 v6 : Value} : kR 6 143 (blk 143 31) [.ref 30, v1, v2, v3, v4, v5, v6] [.int (Int32.ofInt 1), .ref 30] (sz, hp m E S) (fun r => r = (.inl none, (sz, hp m E (ku (ku (ku (kapm2 (ku (ku S 30 19 1) 30 28 0) o n2 v d) 30 29 ((o - 1 : Nat) : Int)) 30 27 (d : Int)) 30 20 4)))) := by
  have hx1 := hX.1
  have hwq : -2147483648 ≤ S 43 (o - 1) ∧ S 43 (o - 1) < 2147483648 := by omega
  have ho1 : (o : Int) - 1 = ((o - 1 : Nat) : Int) := by omega
  show kR 6 143 b143_31 _ _ _ _
  refine kR.pi (a := 30) (k := 19) (by omega) rfl rfl rfl (by decide) (by decide) rfl (by first | rfl | assumption | simp [kfit, *]) ?_
  refine kR.s rfl rfl ?_
  refine kR.s rfl rfl ?_
  refine kR.pi (a := 30) (k := 28) (by omega) rfl rfl rfl (by decide) (by decide) rfl (by first | rfl | assumption | simp [kfit, *]) ?_
  refine kR.s rfl rfl ?_
  refine kR.cv (v := .int (Int32.ofInt (-1))) (kargs_m hm (by decide) rfl) rfl (kR.up ((by have z := c_106 (S := (ku (ku S 30 19 1) 30 28 0)) (E := E) (sz := sz) hm hX hR hl hle; rw [← hk, if_neg (by omega)] at z; exact z)) (by decide)) ?_
  refine kR.s rfl rfl ?_
  refine kR.s rfl rfl ?_
  refine kR.gi (a := 30) (k := 29) (v := (o : Int)) (by omega) rfl rfl rfl (by decide) (by decide) rfl (by exact ho) ?_
  refine kR.zne (by omega) (by omega) (fun q2 => ?_) (fun q2 => ?_)
  · skip
    show kR 6 143 b143_77 _ _ _ _
    refine kR.s rfl rfl ?_
    refine kR.s rfl rfl ?_
    refine kR.gi (a := 30) (k := 27) (v := (v : Int)) (by omega) rfl rfl rfl (by decide) (by decide) rfl (by exact hdn) ?_
    refine kR.c0 (kargs_m hm (by decide) rfl) rfl (kR.up (c_116 (S := ku (ku S 30 19 1) 30 28 0) hm (v := v) hn hnl ho (by omega) (by omega) hd hdl hwq) (by decide)) ?_
    refine kR.s rfl rfl ?_
    refine kR.zge (by decide) (by decide) (fun q4 => absurd q4 (by decide)) (fun q4 => ?_)
    refine kR.s rfl rfl ?_
    refine kR.g rfl ?_
    show kR 6 143 b143_103 _ _ _ _
    refine kR.s rfl rfl ?_
    refine kR.s rfl rfl ?_
    refine kR.gr (a := 30) (b := 45) (k := 32) (by omega) rfl rfl rfl (by decide) (by decide) rfl ?_
    refine kR.s rfl rfl ?_
    refine kR.gi (a := 30) (k := 29) (v := (o : Int)) (by omega) rfl rfl rfl (by decide) (by decide) rfl (by exact ho) ?_
    refine kR.s rfl rfl ?_
    refine kR.sub ?_
    rw [ho1]
    refine kR.ia (a := 45) (v := cc) (by omega) rfl (by decide) (by omega) (by omega) (by exact hcc) ?_
    refine kR.s rfl rfl ?_
    refine kR.s rfl rfl ?_
    refine kR.s rfl rfl ?_
    refine kR.jge (by omega) (by omega) (by omega) (by omega) (fun q5 => ?_) (fun q5 => ?_)
    · skip
      exfalso
      omega
    · skip
      refine kR.s rfl rfl ?_
      refine kR.s rfl rfl ?_
      refine kR.gi (a := 30) (k := 29) (v := (o : Int)) (by omega) rfl rfl rfl (by decide) (by decide) rfl (by exact ho) ?_
      refine kR.s rfl rfl ?_
      refine kR.sub ?_
      rw [ho1]
      refine kR.pi (a := 30) (k := 29) (by omega) rfl rfl rfl (by decide) (by decide) rfl rfl ?_
      refine kR.s rfl rfl ?_
      refine kR.s rfl rfl ?_
      refine kR.gr (a := 30) (b := 44) (k := 31) (by omega) rfl rfl rfl (by decide) (by decide) rfl ?_
      refine kR.s rfl rfl ?_
      refine kR.gi (a := 30) (k := 29) (v := ((o - 1 : Nat) : Int)) (by omega) rfl rfl rfl (by decide) (by decide) rfl (by rfl) ?_
      refine kR.ia (a := 44) (v := (d : Int)) (by omega) rfl (by decide) (by omega) (by omega) (by exact hd) ?_
      refine kR.c0 (kargs_m hm (by decide) rfl) rfl (kR.up (c_113 (S := ku (kapm2 (ku (ku S 30 19 1) 30 28 0) o n2 v d) 30 29 ((o - 1 : Nat) : Int)) hm) (by decide)) ?_
      refine kR.ret rfl rfl ?_
      first | rfl | (exfalso; omega)
  · skip
    refine kR.s rfl rfl ?_
    refine kR.s rfl rfl ?_
    refine kR.gi (a := 30) (k := 19) (v := 1) (by omega) rfl rfl rfl (by decide) (by decide) rfl (by rfl) ?_
    refine kR.zne (by decide) (by decide) (fun q7 => ?_) (fun q7 => absurd q7 (by decide))
    show kR 6 143 b143_63 _ _ _ _
    refine kR.s rfl rfl ?_
    refine kR.g rfl ?_
    show kR 6 143 b143_68 _ _ _ _
    refine kR.pi (a := 30) (k := 19) (by omega) rfl rfl rfl (by decide) (by decide) rfl (by first | rfl | assumption | simp [kfit, *]) ?_
    refine kR.s rfl rfl ?_
    refine kR.s rfl rfl ?_
    refine kR.pi (a := 30) (k := 20) (by omega) rfl rfl rfl (by decide) (by decide) rfl rfl ?_
    refine kR.ret rfl rfl ?_
    first | rfl | (exfalso; omega)
theorem c_143_end1_2 {m : Nat} {E : Nat → kC} {S : Nat → Nat → Int} {sz : Nat × Nat} (hm : 53 ≤ m ∧ m ≤ 57) {t : Nat → Int} {n L : Nat} (hX : kTx t n L) (hR : kRt S t n) {p e : Nat} (hpp : S 30 21 = (p : Int)) (he : S 30 23 = (e : Int)) (hpe : p ≤ 200 ∧ e ≤ 200) {iv : Int} (hiv : S 30 28 = iv) (hi01 : iv = 0 ∨ iv = 1) (hwr : S 30 19 = 0) {l : Nat} (hl : l ≤ L) (hle : S 30 24 + 1 = (klb t n l : Int)) {k : Nat} (hk : k = (kw (fun i => decide (¬ krb t n i < kre t n i ∨ t (krb t n i) = 35)) L l)) {v n2 d o : Nat} (hdn : S 30 27 = (v : Int)) (hn : S 30 15 = (n2 : Int)) (hnl : n2 < 200) (ho : S 30 29 = (o : Int)) (hol : 1 ≤ o ∧ o ≤ 8) (hd : S 44 (o - 1) = (d : Int)) (hdl : d < 60) (hwh : S 43 (o - 1) = 2) {cc : Int} (hcc : S 45 (o - 1) = cc) (hcr : 0 ≤ cc ∧ cc ≤ 200) (hin : iv = 1 ∧ ¬ p = e) (hkL : L ≤ k) : kR 6 143 (blk 143 0) (kent 143 [.ref 30]) [] (sz, hp m E S) (fun r => r = (.inl none, (sz, hp m E (ku (ku (ku (kapm2 (ku (ku S 30 19 1) 30 28 0) o n2 v d) 30 29 ((o - 1 : Nat) : Int)) 30 27 (d : Int)) 30 20 4)))) := by
  show kR 6 143 b143_0 _ _ _ _
  refine kR.s rfl rfl ?_
  refine kR.s rfl rfl ?_
  refine kR.gi (a := 30) (k := 19) (v := 0) (by omega) rfl rfl rfl (by decide) (by decide) rfl (by exact hwr) ?_
  refine kR.zne (by decide) (by decide) (fun q1 => absurd q1 (by decide)) (fun q1 => ?_)
  refine kR.s rfl rfl ?_
  refine kR.gi (a := 30) (k := 28) (v := iv) (by omega) rfl rfl rfl (by decide) (by decide) rfl (by exact hiv) ?_
  refine kR.zeq (by omega) (by omega) (fun q2 => ?_) (fun q2 => ?_)
  · skip
    exfalso
    omega
  · skip
    refine kR.s rfl rfl ?_
    refine kR.gi (a := 30) (k := 21) (v := (p : Int)) (by omega) rfl rfl rfl (by decide) (by decide) rfl (by exact hpp) ?_
    refine kR.s rfl rfl ?_
    refine kR.gi (a := 30) (k := 23) (v := (e : Int)) (by omega) rfl rfl rfl (by decide) (by decide) rfl (by exact he) ?_
    refine kR.jeq (by omega) (by omega) (by omega) (by omega) (fun q3 => ?_) (fun q3 => ?_)
    · skip
      exfalso
      omega
    · skip
      refine kR.n ?_
      show kR 6 143 b143_26 _ _ _ _
      refine kR.s rfl rfl ?_
      refine kR.g rfl ?_
      exact x_143_end1_2 hm hX hR hpp he hpe hiv hi01 hwr hl hle hk hdn hn hnl ho hol hd hdl hwh hcc hcr hin hkL
theorem x_143_cl1_2 {m : Nat} {E : Nat → kC} {S : Nat → Nat → Int} {sz : Nat × Nat} (hm : 53 ≤ m ∧ m ≤ 57) {t : Nat → Int} {n L : Nat} (hX : kTx t n L) (hR : kRt S t n) {p e : Nat} (hpp : S 30 21 = (p : Int)) (he : S 30 23 = (e : Int)) (hpe : p ≤ 200 ∧ e ≤ 200) {iv : Int} (hiv : S 30 28 = iv) (hi01 : iv = 0 ∨ iv = 1) (hwr : S 30 19 = 0) {l : Nat} (hl : l ≤ L) (hle : S 30 24 + 1 = (klb t n l : Int)) {k : Nat} (hk : k = (kw (fun i => decide (¬ krb t n i < kre t n i ∨ t (krb t n i) = 35)) L l)) {v n2 d o : Nat} (hdn : S 30 27 = (v : Int)) (hn : S 30 15 = (n2 : Int)) (hnl : n2 < 200) (ho : S 30 29 = (o : Int)) (hol : 1 ≤ o ∧ o ≤ 8) (hd : S 44 (o - 1) = (d : Int)) (hdl : d < 60) (hwh : S 43 (o - 1) = 2) {cc : Int} (hcc : S 45 (o - 1) = cc) (hcr : 0 ≤ cc ∧ cc ≤ 200) (hin : iv = 1 ∧ ¬ p = e) (hkL : k < L) (hdp : (krb t n k : Int) - (klb t n k : Int) < cc) {v1 v2 v3 v4 v5 v6 : Value} : kR 6 143 (blk 143 31) [.ref 30, v1, v2, v3, v4, v5, v6] [.int (Int32.ofInt 1), .ref 30] (sz, hp m E S) (fun r => r = (.inl none, (sz, hp m E (ku (ku (ku (kapm2 (ku (ku S 30 19 1) 30 28 0) o n2 v d) 30 29 ((o - 1 : Nat) : Int)) 30 27 (d : Int)) 30 20 4)))) := by
  have hx1 := hX.1
  have hwq : -2147483648 ≤ S 43 (o - 1) ∧ S 43 (o - 1) < 2147483648 := by omega
  have ho1 : (o : Int) - 1 = ((o - 1 : Nat) : Int) := by omega
  have hx4 := hX.2.2.2.2.1 k hkL
  have hx7 := hX.ln hkL
  show kR 6 143 b143_31 _ _ _ _
  refine kR.pi (a := 30) (k := 19) (by omega) rfl rfl rfl (by decide) (by decide) rfl (by first | rfl | assumption | simp [kfit, *]) ?_
  refine kR.s rfl rfl ?_
  refine kR.s rfl rfl ?_
  refine kR.pi (a := 30) (k := 28) (by omega) rfl rfl rfl (by decide) (by decide) rfl (by first | rfl | assumption | simp [kfit, *]) ?_
  refine kR.s rfl rfl ?_
  refine kR.cv (v := .int (Int32.ofInt ((klb t n k : Int)))) (kargs_m hm (by decide) rfl) rfl (kR.up ((by have z := c_106 (S := (ku (ku S 30 19 1) 30 28 0)) (E := E) (sz := sz) hm hX hR hl hle; rw [← hk, if_pos hkL] at z; exact z)) (by decide)) ?_
  refine kR.s rfl rfl ?_
  refine kR.s rfl rfl ?_
  refine kR.gi (a := 30) (k := 29) (v := (o : Int)) (by omega) rfl rfl rfl (by decide) (by decide) rfl (by exact ho) ?_
  refine kR.zne (by omega) (by omega) (fun q2 => ?_) (fun q2 => ?_)
  · skip
    show kR 6 143 b143_77 _ _ _ _
    refine kR.s rfl rfl ?_
    refine kR.s rfl rfl ?_
    refine kR.gi (a := 30) (k := 27) (v := (v : Int)) (by omega) rfl rfl rfl (by decide) (by decide) rfl (by exact hdn) ?_
    refine kR.c0 (kargs_m hm (by decide) rfl) rfl (kR.up (c_116 (S := ku (ku S 30 19 1) 30 28 0) hm (v := v) hn hnl ho (by omega) (by omega) hd hdl hwq) (by decide)) ?_
    refine kR.s rfl rfl ?_
    refine kR.zge (by omega) (by omega) (fun q4 => ?_) (fun q4 => ?_)
    · skip
      show kR 6 143 b143_93 _ _ _ _
      refine kR.s rfl rfl ?_
      refine kR.s rfl rfl ?_
      refine kR.s rfl rfl ?_
      refine kR.s rfl rfl ?_
      refine kR.cv (v := .int (Int32.ofInt ((kle t n k : Int)))) (kargs_m hm (by decide) rfl) rfl (kR.up (c_105t (S := (kapm2 (ku (ku S 30 19 1) 30 28 0) o n2 v d)) hm hX hR (a := klb t n k) (by omega)) (by decide)) ?_
      refine kR.cv (v := .int (Int32.ofInt ((krb t n k : Int) - (klb t n k : Int)))) (kargs_m hm (by decide) rfl) rfl (kR.up (c_104t (S := (kapm2 (ku (ku S 30 19 1) 30 28 0) o n2 v d)) hm hX hR (a := klb t n k) (g := kle t n k) (by omega) (by omega)) (by decide)) ?_
      refine kR.n ?_
      show kR 6 143 b143_103 _ _ _ _
      refine kR.s rfl rfl ?_
      refine kR.s rfl rfl ?_
      refine kR.gr (a := 30) (b := 45) (k := 32) (by omega) rfl rfl rfl (by decide) (by decide) rfl ?_
      refine kR.s rfl rfl ?_
      refine kR.gi (a := 30) (k := 29) (v := (o : Int)) (by omega) rfl rfl rfl (by decide) (by decide) rfl (by exact ho) ?_
      refine kR.s rfl rfl ?_
      refine kR.sub ?_
      rw [ho1]
      refine kR.ia (a := 45) (v := cc) (by omega) rfl (by decide) (by omega) (by omega) (by exact hcc) ?_
      refine kR.s rfl rfl ?_
      refine kR.s rfl rfl ?_
      refine kR.s rfl rfl ?_
      refine kR.jge (by omega) (by omega) (by omega) (by omega) (fun q7 => ?_) (fun q7 => ?_)
      · skip
        exfalso
        omega
      · skip
        refine kR.s rfl rfl ?_
        refine kR.s rfl rfl ?_
        refine kR.gi (a := 30) (k := 29) (v := (o : Int)) (by omega) rfl rfl rfl (by decide) (by decide) rfl (by exact ho) ?_
        refine kR.s rfl rfl ?_
        refine kR.sub ?_
        rw [ho1]
        refine kR.pi (a := 30) (k := 29) (by omega) rfl rfl rfl (by decide) (by decide) rfl rfl ?_
        refine kR.s rfl rfl ?_
        refine kR.s rfl rfl ?_
        refine kR.gr (a := 30) (b := 44) (k := 31) (by omega) rfl rfl rfl (by decide) (by decide) rfl ?_
        refine kR.s rfl rfl ?_
        refine kR.gi (a := 30) (k := 29) (v := ((o - 1 : Nat) : Int)) (by omega) rfl rfl rfl (by decide) (by decide) rfl (by rfl) ?_
        refine kR.ia (a := 44) (v := (d : Int)) (by omega) rfl (by decide) (by omega) (by omega) (by exact hd) ?_
        refine kR.c0 (kargs_m hm (by decide) rfl) rfl (kR.up (c_113 (S := ku (kapm2 (ku (ku S 30 19 1) 30 28 0) o n2 v d) 30 29 ((o - 1 : Nat) : Int)) hm) (by decide)) ?_
        refine kR.ret rfl rfl ?_
        first | rfl | (exfalso; omega)
    · skip
      refine kR.s rfl rfl ?_
      refine kR.g rfl ?_
      show kR 6 143 b143_103 _ _ _ _
      refine kR.s rfl rfl ?_
      refine kR.s rfl rfl ?_
      refine kR.gr (a := 30) (b := 45) (k := 32) (by omega) rfl rfl rfl (by decide) (by decide) rfl ?_
      refine kR.s rfl rfl ?_
      refine kR.gi (a := 30) (k := 29) (v := (o : Int)) (by omega) rfl rfl rfl (by decide) (by decide) rfl (by exact ho) ?_
      refine kR.s rfl rfl ?_
      refine kR.sub ?_
      rw [ho1]
      refine kR.ia (a := 45) (v := cc) (by omega) rfl (by decide) (by omega) (by omega) (by exact hcc) ?_
      refine kR.s rfl rfl ?_
      refine kR.s rfl rfl ?_
      refine kR.s rfl rfl ?_
      refine kR.jge (by omega) (by omega) (by omega) (by omega) (fun q9 => ?_) (fun q9 => ?_)
      · skip
        exfalso
        omega
      · skip
        refine kR.s rfl rfl ?_
        refine kR.s rfl rfl ?_
        refine kR.gi (a := 30) (k := 29) (v := (o : Int)) (by omega) rfl rfl rfl (by decide) (by decide) rfl (by exact ho) ?_
        refine kR.s rfl rfl ?_
        refine kR.sub ?_
        rw [ho1]
        refine kR.pi (a := 30) (k := 29) (by omega) rfl rfl rfl (by decide) (by decide) rfl rfl ?_
        refine kR.s rfl rfl ?_
        refine kR.s rfl rfl ?_
        refine kR.gr (a := 30) (b := 44) (k := 31) (by omega) rfl rfl rfl (by decide) (by decide) rfl ?_
        refine kR.s rfl rfl ?_
        refine kR.gi (a := 30) (k := 29) (v := ((o - 1 : Nat) : Int)) (by omega) rfl rfl rfl (by decide) (by decide) rfl (by rfl) ?_
        refine kR.ia (a := 44) (v := (d : Int)) (by omega) rfl (by decide) (by omega) (by omega) (by exact hd) ?_
        refine kR.c0 (kargs_m hm (by decide) rfl) rfl (kR.up (c_113 (S := ku (kapm2 (ku (ku S 30 19 1) 30 28 0) o n2 v d) 30 29 ((o - 1 : Nat) : Int)) hm) (by decide)) ?_
        refine kR.ret rfl rfl ?_
        first | rfl | (exfalso; omega)
  · skip
    refine kR.s rfl rfl ?_
    refine kR.s rfl rfl ?_
    refine kR.gi (a := 30) (k := 19) (v := 1) (by omega) rfl rfl rfl (by decide) (by decide) rfl (by rfl) ?_
    refine kR.zne (by decide) (by decide) (fun q11 => ?_) (fun q11 => absurd q11 (by decide))
    show kR 6 143 b143_63 _ _ _ _
    refine kR.s rfl rfl ?_
    refine kR.g rfl ?_
    show kR 6 143 b143_68 _ _ _ _
    refine kR.pi (a := 30) (k := 19) (by omega) rfl rfl rfl (by decide) (by decide) rfl (by first | rfl | assumption | simp [kfit, *]) ?_
    refine kR.s rfl rfl ?_
    refine kR.s rfl rfl ?_
    refine kR.pi (a := 30) (k := 20) (by omega) rfl rfl rfl (by decide) (by decide) rfl rfl ?_
    refine kR.ret rfl rfl ?_
    first | rfl | (exfalso; omega)
theorem c_143_cl1_2 {m : Nat} {E : Nat → kC} {S : Nat → Nat → Int} {sz : Nat × Nat} (hm : 53 ≤ m ∧ m ≤ 57) {t : Nat → Int} {n L : Nat} (hX : kTx t n L) (hR : kRt S t n) {p e : Nat} (hpp : S 30 21 = (p : Int)) (he : S 30 23 = (e : Int)) (hpe : p ≤ 200 ∧ e ≤ 200) {iv : Int} (hiv : S 30 28 = iv) (hi01 : iv = 0 ∨ iv = 1) (hwr : S 30 19 = 0) {l : Nat} (hl : l ≤ L) (hle : S 30 24 + 1 = (klb t n l : Int)) {k : Nat} (hk : k = (kw (fun i => decide (¬ krb t n i < kre t n i ∨ t (krb t n i) = 35)) L l)) {v n2 d o : Nat} (hdn : S 30 27 = (v : Int)) (hn : S 30 15 = (n2 : Int)) (hnl : n2 < 200) (ho : S 30 29 = (o : Int)) (hol : 1 ≤ o ∧ o ≤ 8) (hd : S 44 (o - 1) = (d : Int)) (hdl : d < 60) (hwh : S 43 (o - 1) = 2) {cc : Int} (hcc : S 45 (o - 1) = cc) (hcr : 0 ≤ cc ∧ cc ≤ 200) (hin : iv = 1 ∧ ¬ p = e) (hkL : k < L) (hdp : (krb t n k : Int) - (klb t n k : Int) < cc) : kR 6 143 (blk 143 0) (kent 143 [.ref 30]) [] (sz, hp m E S) (fun r => r = (.inl none, (sz, hp m E (ku (ku (ku (kapm2 (ku (ku S 30 19 1) 30 28 0) o n2 v d) 30 29 ((o - 1 : Nat) : Int)) 30 27 (d : Int)) 30 20 4)))) := by
  show kR 6 143 b143_0 _ _ _ _
  refine kR.s rfl rfl ?_
  refine kR.s rfl rfl ?_
  refine kR.gi (a := 30) (k := 19) (v := 0) (by omega) rfl rfl rfl (by decide) (by decide) rfl (by exact hwr) ?_
  refine kR.zne (by decide) (by decide) (fun q1 => absurd q1 (by decide)) (fun q1 => ?_)
  refine kR.s rfl rfl ?_
  refine kR.gi (a := 30) (k := 28) (v := iv) (by omega) rfl rfl rfl (by decide) (by decide) rfl (by exact hiv) ?_
  refine kR.zeq (by omega) (by omega) (fun q2 => ?_) (fun q2 => ?_)
  · skip
    exfalso
    omega
  · skip
    refine kR.s rfl rfl ?_
    refine kR.gi (a := 30) (k := 21) (v := (p : Int)) (by omega) rfl rfl rfl (by decide) (by decide) rfl (by exact hpp) ?_
    refine kR.s rfl rfl ?_
    refine kR.gi (a := 30) (k := 23) (v := (e : Int)) (by omega) rfl rfl rfl (by decide) (by decide) rfl (by exact he) ?_
    refine kR.jeq (by omega) (by omega) (by omega) (by omega) (fun q3 => ?_) (fun q3 => ?_)
    · skip
      exfalso
      omega
    · skip
      refine kR.n ?_
      show kR 6 143 b143_26 _ _ _ _
      refine kR.s rfl rfl ?_
      refine kR.g rfl ?_
      exact x_143_cl1_2 hm hX hR hpp he hpe hiv hi01 hwr hl hle hk hdn hn hnl ho hol hd hdl hwh hcc hcr hin hkL hdp
theorem x_143_row1 {m : Nat} {E : Nat → kC} {S : Nat → Nat → Int} {sz : Nat × Nat} (hm : 53 ≤ m ∧ m ≤ 57) {t : Nat → Int} {n L : Nat} (hX : kTx t n L) (hR : kRt S t n) {p e : Nat} (hpp : S 30 21 = (p : Int)) (he : S 30 23 = (e : Int)) (hpe : p ≤ 200 ∧ e ≤ 200) {iv : Int} (hiv : S 30 28 = iv) (hi01 : iv = 0 ∨ iv = 1) (hwr : S 30 19 = 0) {l : Nat} (hl : l ≤ L) (hle : S 30 24 + 1 = (klb t n l : Int)) {k : Nat} (hk : k = (kw (fun i => decide (¬ krb t n i < kre t n i ∨ t (krb t n i) = 35)) L l)) {v n2 d o : Nat} (hdn : S 30 27 = (v : Int)) (hn : S 30 15 = (n2 : Int)) (hnl : n2 < 200) (ho : S 30 29 = (o : Int)) (hol : 1 ≤ o ∧ o ≤ 8) (hd : S 44 (o - 1) = (d : Int)) (hdl : d < 60) (hwh : S 43 (o - 1) = 1) {cc : Int} (hcc : S 45 (o - 1) = cc) (hcr : 0 ≤ cc ∧ cc ≤ 200) (hin : iv = 1 ∧ ¬ p = e) (hkL : k < L) (hdp : (krb t n k : Int) - (klb t n k : Int) = cc) (hda : kdash t (kre t n k) (krb t n k) = 1) {v1 v2 v3 v4 v5 v6 : Value} : kR 6 143 (blk 143 31) [.ref 30, v1, v2, v3, v4, v5, v6] [.int (Int32.ofInt 1), .ref 30] (sz, hp m E S) (fun r => r = (.inl none, (sz, hp m E (ku (ku (kgom (kapm2 (ku (ku S 30 19 1) 30 28 0) o n2 v d) t n k) 30 21 ((kw (fun i => decide (t i = 32)) (kre t n k) (krb t n k + 1)) : Nat)) 30 20 1)))) := by
  have hx1 := hX.1
  have hwq : -2147483648 ≤ S 43 (o - 1) ∧ S 43 (o - 1) < 2147483648 := by omega
  have ho1 : (o : Int) - 1 = ((o - 1 : Nat) : Int) := by omega
  have hx4 := hX.2.2.2.2.1 k hkL
  have hx7 := hX.ln hkL
  show kR 6 143 b143_31 _ _ _ _
  refine kR.pi (a := 30) (k := 19) (by omega) rfl rfl rfl (by decide) (by decide) rfl (by first | rfl | assumption | simp [kfit, *]) ?_
  refine kR.s rfl rfl ?_
  refine kR.s rfl rfl ?_
  refine kR.pi (a := 30) (k := 28) (by omega) rfl rfl rfl (by decide) (by decide) rfl (by first | rfl | assumption | simp [kfit, *]) ?_
  refine kR.s rfl rfl ?_
  refine kR.cv (v := .int (Int32.ofInt ((klb t n k : Int)))) (kargs_m hm (by decide) rfl) rfl (kR.up ((by have z := c_106 (S := (ku (ku S 30 19 1) 30 28 0)) (E := E) (sz := sz) hm hX hR hl hle; rw [← hk, if_pos hkL] at z; exact z)) (by decide)) ?_
  refine kR.s rfl rfl ?_
  refine kR.s rfl rfl ?_
  refine kR.gi (a := 30) (k := 29) (v := (o : Int)) (by omega) rfl rfl rfl (by decide) (by decide) rfl (by exact ho) ?_
  refine kR.zne (by omega) (by omega) (fun q2 => ?_) (fun q2 => ?_)
  · skip
    show kR 6 143 b143_77 _ _ _ _
    refine kR.s rfl rfl ?_
    refine kR.s rfl rfl ?_
    refine kR.gi (a := 30) (k := 27) (v := (v : Int)) (by omega) rfl rfl rfl (by decide) (by decide) rfl (by exact hdn) ?_
    refine kR.c0 (kargs_m hm (by decide) rfl) rfl (kR.up (c_116 (S := ku (ku S 30 19 1) 30 28 0) hm (v := v) hn hnl ho (by omega) (by omega) hd hdl hwq) (by decide)) ?_
    refine kR.s rfl rfl ?_
    refine kR.zge (by omega) (by omega) (fun q4 => ?_) (fun q4 => ?_)
    · skip
      show kR 6 143 b143_93 _ _ _ _
      refine kR.s rfl rfl ?_
      refine kR.s rfl rfl ?_
      refine kR.s rfl rfl ?_
      refine kR.s rfl rfl ?_
      refine kR.cv (v := .int (Int32.ofInt ((kle t n k : Int)))) (kargs_m hm (by decide) rfl) rfl (kR.up (c_105t (S := (kapm2 (ku (ku S 30 19 1) 30 28 0) o n2 v d)) hm hX hR (a := klb t n k) (by omega)) (by decide)) ?_
      refine kR.cv (v := .int (Int32.ofInt ((krb t n k : Int) - (klb t n k : Int)))) (kargs_m hm (by decide) rfl) rfl (kR.up (c_104t (S := (kapm2 (ku (ku S 30 19 1) 30 28 0) o n2 v d)) hm hX hR (a := klb t n k) (g := kle t n k) (by omega) (by omega)) (by decide)) ?_
      refine kR.n ?_
      show kR 6 143 b143_103 _ _ _ _
      refine kR.s rfl rfl ?_
      refine kR.s rfl rfl ?_
      refine kR.gr (a := 30) (b := 45) (k := 32) (by omega) rfl rfl rfl (by decide) (by decide) rfl ?_
      refine kR.s rfl rfl ?_
      refine kR.gi (a := 30) (k := 29) (v := (o : Int)) (by omega) rfl rfl rfl (by decide) (by decide) rfl (by exact ho) ?_
      refine kR.s rfl rfl ?_
      refine kR.sub ?_
      rw [ho1]
      refine kR.ia (a := 45) (v := cc) (by omega) rfl (by decide) (by omega) (by omega) (by exact hcc) ?_
      refine kR.s rfl rfl ?_
      refine kR.s rfl rfl ?_
      refine kR.s rfl rfl ?_
      refine kR.jge (by omega) (by omega) (by omega) (by omega) (fun q7 => ?_) (fun q7 => ?_)
      · skip
        show kR 6 143 b143_145 _ _ _ _
        refine kR.s rfl rfl ?_
        refine kR.s rfl rfl ?_
        refine kR.c0 (kargs_m hm (by decide) rfl) rfl (kR.up (c_107 (S := (kapm2 (ku (ku S 30 19 1) 30 28 0) o n2 v d)) hm hX hR hkL) (by decide)) ?_
        refine kR.s rfl rfl ?_
        refine kR.cv (v := .int (Int32.ofInt (1))) (kargs_m hm (by decide) rfl) rfl (kR.up (hda ▸ c_130 (S := (kgom (kapm2 (ku (ku S 30 19 1) 30 28 0) o n2 v d) t n k)) hm hX hR (e := kre t n k) rfl (by omega) (p := krb t n k) rfl (by omega)) (by decide)) ?_
        refine kR.s rfl rfl ?_
        refine kR.s rfl rfl ?_
        refine kR.gr (a := 30) (b := 43) (k := 30) (by omega) rfl rfl rfl (by decide) (by decide) rfl ?_
        refine kR.s rfl rfl ?_
        refine kR.gi (a := 30) (k := 29) (v := (o : Int)) (by omega) rfl rfl rfl (by decide) (by decide) rfl (by exact ho) ?_
        refine kR.s rfl rfl ?_
        refine kR.sub ?_
        rw [ho1]
        refine kR.ia (a := 43) (v := 1) (by omega) rfl (by decide) (by omega) (by omega) (by exact hwh) ?_
        refine kR.s rfl rfl ?_
        refine kR.jne (by decide) (by decide) (by decide) (by decide) (fun q10 => absurd q10 (by decide)) (fun q10 => ?_)
        refine kR.s rfl rfl ?_
        refine kR.g rfl ?_
        show kR 6 143 b143_176 _ _ _ _
        refine kR.s rfl rfl ?_
        refine kR.s rfl rfl ?_
        refine kR.zeq (by decide) (by decide) (fun q11 => absurd q11 (by decide)) (fun q11 => ?_)
        refine kR.s rfl rfl ?_
        refine kR.g rfl ?_
        show kR 6 143 b143_191 _ _ _ _
        refine kR.s rfl rfl ?_
        refine kR.s rfl rfl ?_
        refine kR.s rfl rfl ?_
        refine kR.jgt (by omega) (by omega) (by omega) (by omega) (fun q12 => ?_) (fun q12 => ?_)
        · skip
          exfalso
          omega
        · skip
          refine kR.s rfl rfl ?_
          refine kR.s rfl rfl ?_
          refine kR.jne (by decide) (by decide) (by decide) (by decide) (fun q13 => absurd q13 (by decide)) (fun q13 => ?_)
          refine kR.s rfl rfl ?_
          refine kR.zge (by decide) (by decide) (fun q14 => ?_) (fun q14 => absurd q14 (by decide))
          show kR 6 143 b143_218 _ _ _ _
          refine kR.s rfl rfl ?_
          refine kR.zeq (by decide) (by decide) (fun q15 => absurd q15 (by decide)) (fun q15 => ?_)
          refine kR.s rfl rfl ?_
          refine kR.c0 (kargs_m hm (by decide) rfl) rfl (kR.up (c_132 (S := (kgom (kapm2 (ku (ku S 30 19 1) 30 28 0) o n2 v d) t n k)) hm hX hR (e := kre t n k) rfl (by omega) (p := krb t n k) rfl (by omega)) (by decide)) ?_
          refine kR.g rfl ?_
          show kR 6 143 b143_236 _ _ _ _
          refine kR.ret rfl rfl ?_
          first | rfl | (exfalso; omega)
      · skip
        exfalso
        omega
    · skip
      refine kR.s rfl rfl ?_
      refine kR.g rfl ?_
      show kR 6 143 b143_103 _ _ _ _
      refine kR.s rfl rfl ?_
      refine kR.s rfl rfl ?_
      refine kR.gr (a := 30) (b := 45) (k := 32) (by omega) rfl rfl rfl (by decide) (by decide) rfl ?_
      refine kR.s rfl rfl ?_
      refine kR.gi (a := 30) (k := 29) (v := (o : Int)) (by omega) rfl rfl rfl (by decide) (by decide) rfl (by exact ho) ?_
      refine kR.s rfl rfl ?_
      refine kR.sub ?_
      rw [ho1]
      refine kR.ia (a := 45) (v := cc) (by omega) rfl (by decide) (by omega) (by omega) (by exact hcc) ?_
      refine kR.s rfl rfl ?_
      refine kR.s rfl rfl ?_
      refine kR.s rfl rfl ?_
      refine kR.jge (by omega) (by omega) (by omega) (by omega) (fun q17 => ?_) (fun q17 => ?_)
      · skip
        show kR 6 143 b143_145 _ _ _ _
        refine kR.s rfl rfl ?_
        refine kR.s rfl rfl ?_
        refine kR.c0 (kargs_m hm (by decide) rfl) rfl (kR.up (c_107 (S := (kapm2 (ku (ku S 30 19 1) 30 28 0) o n2 v d)) hm hX hR hkL) (by decide)) ?_
        refine kR.s rfl rfl ?_
        refine kR.cv (v := .int (Int32.ofInt (1))) (kargs_m hm (by decide) rfl) rfl (kR.up (hda ▸ c_130 (S := (kgom (kapm2 (ku (ku S 30 19 1) 30 28 0) o n2 v d) t n k)) hm hX hR (e := kre t n k) rfl (by omega) (p := krb t n k) rfl (by omega)) (by decide)) ?_
        refine kR.s rfl rfl ?_
        refine kR.s rfl rfl ?_
        refine kR.gr (a := 30) (b := 43) (k := 30) (by omega) rfl rfl rfl (by decide) (by decide) rfl ?_
        refine kR.s rfl rfl ?_
        refine kR.gi (a := 30) (k := 29) (v := (o : Int)) (by omega) rfl rfl rfl (by decide) (by decide) rfl (by exact ho) ?_
        refine kR.s rfl rfl ?_
        refine kR.sub ?_
        rw [ho1]
        refine kR.ia (a := 43) (v := 1) (by omega) rfl (by decide) (by omega) (by omega) (by exact hwh) ?_
        refine kR.s rfl rfl ?_
        refine kR.jne (by decide) (by decide) (by decide) (by decide) (fun q20 => absurd q20 (by decide)) (fun q20 => ?_)
        refine kR.s rfl rfl ?_
        refine kR.g rfl ?_
        show kR 6 143 b143_176 _ _ _ _
        refine kR.s rfl rfl ?_
        refine kR.s rfl rfl ?_
        refine kR.zeq (by decide) (by decide) (fun q21 => absurd q21 (by decide)) (fun q21 => ?_)
        refine kR.s rfl rfl ?_
        refine kR.g rfl ?_
        show kR 6 143 b143_191 _ _ _ _
        refine kR.s rfl rfl ?_
        refine kR.s rfl rfl ?_
        refine kR.s rfl rfl ?_
        refine kR.jgt (by omega) (by omega) (by omega) (by omega) (fun q22 => ?_) (fun q22 => ?_)
        · skip
          exfalso
          omega
        · skip
          refine kR.s rfl rfl ?_
          refine kR.s rfl rfl ?_
          refine kR.jne (by decide) (by decide) (by decide) (by decide) (fun q23 => absurd q23 (by decide)) (fun q23 => ?_)
          refine kR.s rfl rfl ?_
          refine kR.zge (by decide) (by decide) (fun q24 => ?_) (fun q24 => absurd q24 (by decide))
          show kR 6 143 b143_218 _ _ _ _
          refine kR.s rfl rfl ?_
          refine kR.zeq (by decide) (by decide) (fun q25 => absurd q25 (by decide)) (fun q25 => ?_)
          refine kR.s rfl rfl ?_
          refine kR.c0 (kargs_m hm (by decide) rfl) rfl (kR.up (c_132 (S := (kgom (kapm2 (ku (ku S 30 19 1) 30 28 0) o n2 v d) t n k)) hm hX hR (e := kre t n k) rfl (by omega) (p := krb t n k) rfl (by omega)) (by decide)) ?_
          refine kR.g rfl ?_
          show kR 6 143 b143_236 _ _ _ _
          refine kR.ret rfl rfl ?_
          first | rfl | (exfalso; omega)
      · skip
        exfalso
        omega
  · skip
    refine kR.s rfl rfl ?_
    refine kR.s rfl rfl ?_
    refine kR.gi (a := 30) (k := 19) (v := 1) (by omega) rfl rfl rfl (by decide) (by decide) rfl (by rfl) ?_
    refine kR.zne (by decide) (by decide) (fun q27 => ?_) (fun q27 => absurd q27 (by decide))
    show kR 6 143 b143_63 _ _ _ _
    refine kR.s rfl rfl ?_
    refine kR.g rfl ?_
    show kR 6 143 b143_68 _ _ _ _
    refine kR.pi (a := 30) (k := 19) (by omega) rfl rfl rfl (by decide) (by decide) rfl (by first | rfl | assumption | simp [kfit, *]) ?_
    refine kR.s rfl rfl ?_
    refine kR.s rfl rfl ?_
    refine kR.pi (a := 30) (k := 20) (by omega) rfl rfl rfl (by decide) (by decide) rfl rfl ?_
    refine kR.ret rfl rfl ?_
    first | rfl | (exfalso; omega)
theorem c_143_row1 {m : Nat} {E : Nat → kC} {S : Nat → Nat → Int} {sz : Nat × Nat} (hm : 53 ≤ m ∧ m ≤ 57) {t : Nat → Int} {n L : Nat} (hX : kTx t n L) (hR : kRt S t n) {p e : Nat} (hpp : S 30 21 = (p : Int)) (he : S 30 23 = (e : Int)) (hpe : p ≤ 200 ∧ e ≤ 200) {iv : Int} (hiv : S 30 28 = iv) (hi01 : iv = 0 ∨ iv = 1) (hwr : S 30 19 = 0) {l : Nat} (hl : l ≤ L) (hle : S 30 24 + 1 = (klb t n l : Int)) {k : Nat} (hk : k = (kw (fun i => decide (¬ krb t n i < kre t n i ∨ t (krb t n i) = 35)) L l)) {v n2 d o : Nat} (hdn : S 30 27 = (v : Int)) (hn : S 30 15 = (n2 : Int)) (hnl : n2 < 200) (ho : S 30 29 = (o : Int)) (hol : 1 ≤ o ∧ o ≤ 8) (hd : S 44 (o - 1) = (d : Int)) (hdl : d < 60) (hwh : S 43 (o - 1) = 1) {cc : Int} (hcc : S 45 (o - 1) = cc) (hcr : 0 ≤ cc ∧ cc ≤ 200) (hin : iv = 1 ∧ ¬ p = e) (hkL : k < L) (hdp : (krb t n k : Int) - (klb t n k : Int) = cc) (hda : kdash t (kre t n k) (krb t n k) = 1) : kR 6 143 (blk 143 0) (kent 143 [.ref 30]) [] (sz, hp m E S) (fun r => r = (.inl none, (sz, hp m E (ku (ku (kgom (kapm2 (ku (ku S 30 19 1) 30 28 0) o n2 v d) t n k) 30 21 ((kw (fun i => decide (t i = 32)) (kre t n k) (krb t n k + 1)) : Nat)) 30 20 1)))) := by
  show kR 6 143 b143_0 _ _ _ _
  refine kR.s rfl rfl ?_
  refine kR.s rfl rfl ?_
  refine kR.gi (a := 30) (k := 19) (v := 0) (by omega) rfl rfl rfl (by decide) (by decide) rfl (by exact hwr) ?_
  refine kR.zne (by decide) (by decide) (fun q1 => absurd q1 (by decide)) (fun q1 => ?_)
  refine kR.s rfl rfl ?_
  refine kR.gi (a := 30) (k := 28) (v := iv) (by omega) rfl rfl rfl (by decide) (by decide) rfl (by exact hiv) ?_
  refine kR.zeq (by omega) (by omega) (fun q2 => ?_) (fun q2 => ?_)
  · skip
    exfalso
    omega
  · skip
    refine kR.s rfl rfl ?_
    refine kR.gi (a := 30) (k := 21) (v := (p : Int)) (by omega) rfl rfl rfl (by decide) (by decide) rfl (by exact hpp) ?_
    refine kR.s rfl rfl ?_
    refine kR.gi (a := 30) (k := 23) (v := (e : Int)) (by omega) rfl rfl rfl (by decide) (by decide) rfl (by exact he) ?_
    refine kR.jeq (by omega) (by omega) (by omega) (by omega) (fun q3 => ?_) (fun q3 => ?_)
    · skip
      exfalso
      omega
    · skip
      refine kR.n ?_
      show kR 6 143 b143_26 _ _ _ _
      refine kR.s rfl rfl ?_
      refine kR.g rfl ?_
      exact x_143_row1 hm hX hR hpp he hpe hiv hi01 hwr hl hle hk hdn hn hnl ho hol hd hdl hwh hcc hcr hin hkL hdp hda
theorem x_143_rowbad1 {m : Nat} {E : Nat → kC} {S : Nat → Nat → Int} {sz : Nat × Nat} (hm : 53 ≤ m ∧ m ≤ 57) {t : Nat → Int} {n L : Nat} (hX : kTx t n L) (hR : kRt S t n) {p e : Nat} (hpp : S 30 21 = (p : Int)) (he : S 30 23 = (e : Int)) (hpe : p ≤ 200 ∧ e ≤ 200) {iv : Int} (hiv : S 30 28 = iv) (hi01 : iv = 0 ∨ iv = 1) (hwr : S 30 19 = 0) {l : Nat} (hl : l ≤ L) (hle : S 30 24 + 1 = (klb t n l : Int)) {k : Nat} (hk : k = (kw (fun i => decide (¬ krb t n i < kre t n i ∨ t (krb t n i) = 35)) L l)) {v n2 d o : Nat} (hdn : S 30 27 = (v : Int)) (hn : S 30 15 = (n2 : Int)) (hnl : n2 < 200) (ho : S 30 29 = (o : Int)) (hol : 1 ≤ o ∧ o ≤ 8) (hd : S 44 (o - 1) = (d : Int)) (hdl : d < 60) (hwh : S 43 (o - 1) = 1) {cc : Int} (hcc : S 45 (o - 1) = cc) (hcr : 0 ≤ cc ∧ cc ≤ 200) (hin : iv = 1 ∧ ¬ p = e) (hkL : k < L) (hdp : cc ≤ (krb t n k : Int) - (klb t n k : Int)) (hda : cc < (krb t n k : Int) - (klb t n k : Int) ∨ kdash t (kre t n k) (krb t n k) = 0) {v1 v2 v3 v4 v5 v6 : Value} : kR 6 143 (blk 143 31) [.ref 30, v1, v2, v3, v4, v5, v6] [.int (Int32.ofInt 1), .ref 30] (sz, hp m E S) (fun r => r = (.inl none, (sz, hp m E (ku (kgom (kapm2 (ku (ku S 30 19 1) 30 28 0) o n2 v d) t n k) 30 19 1)))) := by
  have hx1 := hX.1
  have hwq : -2147483648 ≤ S 43 (o - 1) ∧ S 43 (o - 1) < 2147483648 := by omega
  have ho1 : (o : Int) - 1 = ((o - 1 : Nat) : Int) := by omega
  have hx4 := hX.2.2.2.2.1 k hkL
  have hx7 := hX.ln hkL
  show kR 6 143 b143_31 _ _ _ _
  refine kR.pi (a := 30) (k := 19) (by omega) rfl rfl rfl (by decide) (by decide) rfl (by first | rfl | assumption | simp [kfit, *]) ?_
  refine kR.s rfl rfl ?_
  refine kR.s rfl rfl ?_
  refine kR.pi (a := 30) (k := 28) (by omega) rfl rfl rfl (by decide) (by decide) rfl (by first | rfl | assumption | simp [kfit, *]) ?_
  refine kR.s rfl rfl ?_
  refine kR.cv (v := .int (Int32.ofInt ((klb t n k : Int)))) (kargs_m hm (by decide) rfl) rfl (kR.up ((by have z := c_106 (S := (ku (ku S 30 19 1) 30 28 0)) (E := E) (sz := sz) hm hX hR hl hle; rw [← hk, if_pos hkL] at z; exact z)) (by decide)) ?_
  refine kR.s rfl rfl ?_
  refine kR.s rfl rfl ?_
  refine kR.gi (a := 30) (k := 29) (v := (o : Int)) (by omega) rfl rfl rfl (by decide) (by decide) rfl (by exact ho) ?_
  refine kR.zne (by omega) (by omega) (fun q2 => ?_) (fun q2 => ?_)
  · skip
    show kR 6 143 b143_77 _ _ _ _
    refine kR.s rfl rfl ?_
    refine kR.s rfl rfl ?_
    refine kR.gi (a := 30) (k := 27) (v := (v : Int)) (by omega) rfl rfl rfl (by decide) (by decide) rfl (by exact hdn) ?_
    refine kR.c0 (kargs_m hm (by decide) rfl) rfl (kR.up (c_116 (S := ku (ku S 30 19 1) 30 28 0) hm (v := v) hn hnl ho (by omega) (by omega) hd hdl hwq) (by decide)) ?_
    refine kR.s rfl rfl ?_
    refine kR.zge (by omega) (by omega) (fun q4 => ?_) (fun q4 => ?_)
    · skip
      show kR 6 143 b143_93 _ _ _ _
      refine kR.s rfl rfl ?_
      refine kR.s rfl rfl ?_
      refine kR.s rfl rfl ?_
      refine kR.s rfl rfl ?_
      refine kR.cv (v := .int (Int32.ofInt ((kle t n k : Int)))) (kargs_m hm (by decide) rfl) rfl (kR.up (c_105t (S := (kapm2 (ku (ku S 30 19 1) 30 28 0) o n2 v d)) hm hX hR (a := klb t n k) (by omega)) (by decide)) ?_
      refine kR.cv (v := .int (Int32.ofInt ((krb t n k : Int) - (klb t n k : Int)))) (kargs_m hm (by decide) rfl) rfl (kR.up (c_104t (S := (kapm2 (ku (ku S 30 19 1) 30 28 0) o n2 v d)) hm hX hR (a := klb t n k) (g := kle t n k) (by omega) (by omega)) (by decide)) ?_
      refine kR.n ?_
      show kR 6 143 b143_103 _ _ _ _
      refine kR.s rfl rfl ?_
      refine kR.s rfl rfl ?_
      refine kR.gr (a := 30) (b := 45) (k := 32) (by omega) rfl rfl rfl (by decide) (by decide) rfl ?_
      refine kR.s rfl rfl ?_
      refine kR.gi (a := 30) (k := 29) (v := (o : Int)) (by omega) rfl rfl rfl (by decide) (by decide) rfl (by exact ho) ?_
      refine kR.s rfl rfl ?_
      refine kR.sub ?_
      rw [ho1]
      refine kR.ia (a := 45) (v := cc) (by omega) rfl (by decide) (by omega) (by omega) (by exact hcc) ?_
      refine kR.s rfl rfl ?_
      refine kR.s rfl rfl ?_
      refine kR.s rfl rfl ?_
      refine kR.jge (by omega) (by omega) (by omega) (by omega) (fun q7 => ?_) (fun q7 => ?_)
      · skip
        show kR 6 143 b143_145 _ _ _ _
        refine kR.s rfl rfl ?_
        refine kR.s rfl rfl ?_
        refine kR.c0 (kargs_m hm (by decide) rfl) rfl (kR.up (c_107 (S := (kapm2 (ku (ku S 30 19 1) 30 28 0) o n2 v d)) hm hX hR hkL) (by decide)) ?_
        refine kR.s rfl rfl ?_
        have f9_0 := kdash_01 t (kre t n k) (krb t n k)
        refine kR.cv (v := .int (Int32.ofInt (kdash t (kre t n k) (krb t n k)))) (kargs_m hm (by decide) rfl) rfl (kR.up (c_130 (S := (kgom (kapm2 (ku (ku S 30 19 1) 30 28 0) o n2 v d) t n k)) hm hX hR (e := kre t n k) rfl (by omega) (p := krb t n k) rfl (by omega)) (by decide)) ?_
        refine kR.s rfl rfl ?_
        refine kR.s rfl rfl ?_
        refine kR.gr (a := 30) (b := 43) (k := 30) (by omega) rfl rfl rfl (by decide) (by decide) rfl ?_
        refine kR.s rfl rfl ?_
        refine kR.gi (a := 30) (k := 29) (v := (o : Int)) (by omega) rfl rfl rfl (by decide) (by decide) rfl (by exact ho) ?_
        refine kR.s rfl rfl ?_
        refine kR.sub ?_
        rw [ho1]
        refine kR.ia (a := 43) (v := 1) (by omega) rfl (by decide) (by omega) (by omega) (by exact hwh) ?_
        refine kR.s rfl rfl ?_
        refine kR.jne (by decide) (by decide) (by decide) (by decide) (fun q10 => absurd q10 (by decide)) (fun q10 => ?_)
        refine kR.s rfl rfl ?_
        refine kR.g rfl ?_
        show kR 6 143 b143_176 _ _ _ _
        refine kR.s rfl rfl ?_
        refine kR.s rfl rfl ?_
        refine kR.zeq (by decide) (by decide) (fun q11 => absurd q11 (by decide)) (fun q11 => ?_)
        refine kR.s rfl rfl ?_
        refine kR.g rfl ?_
        show kR 6 143 b143_191 _ _ _ _
        refine kR.s rfl rfl ?_
        refine kR.s rfl rfl ?_
        refine kR.s rfl rfl ?_
        refine kR.jgt (by omega) (by omega) (by omega) (by omega) (fun q12 => ?_) (fun q12 => ?_)
        · skip
          show kR 6 143 b143_210 _ _ _ _
          refine kR.s rfl rfl ?_
          refine kR.s rfl rfl ?_
          refine kR.pi (a := 30) (k := 19) (by omega) rfl rfl rfl (by decide) (by decide) rfl (by first | rfl | assumption | simp [kfit, *]) ?_
          refine kR.g rfl ?_
          show kR 6 143 b143_236 _ _ _ _
          refine kR.ret rfl rfl ?_
          first | rfl | (exfalso; omega)
        · skip
          refine kR.s rfl rfl ?_
          refine kR.s rfl rfl ?_
          refine kR.jne (by omega) (by omega) (by omega) (by omega) (fun q13 => ?_) (fun q13 => ?_)
          · skip
            show kR 6 143 b143_210 _ _ _ _
            refine kR.s rfl rfl ?_
            refine kR.s rfl rfl ?_
            refine kR.pi (a := 30) (k := 19) (by omega) rfl rfl rfl (by decide) (by decide) rfl (by first | rfl | assumption | simp [kfit, *]) ?_
            refine kR.g rfl ?_
            show kR 6 143 b143_236 _ _ _ _
            refine kR.ret rfl rfl ?_
            first | rfl | (exfalso; omega)
          · skip
            refine kR.s rfl rfl ?_
            refine kR.zge (by decide) (by decide) (fun q14 => ?_) (fun q14 => absurd q14 (by decide))
            exfalso
            omega
      · skip
        exfalso
        omega
    · skip
      refine kR.s rfl rfl ?_
      refine kR.g rfl ?_
      show kR 6 143 b143_103 _ _ _ _
      refine kR.s rfl rfl ?_
      refine kR.s rfl rfl ?_
      refine kR.gr (a := 30) (b := 45) (k := 32) (by omega) rfl rfl rfl (by decide) (by decide) rfl ?_
      refine kR.s rfl rfl ?_
      refine kR.gi (a := 30) (k := 29) (v := (o : Int)) (by omega) rfl rfl rfl (by decide) (by decide) rfl (by exact ho) ?_
      refine kR.s rfl rfl ?_
      refine kR.sub ?_
      rw [ho1]
      refine kR.ia (a := 45) (v := cc) (by omega) rfl (by decide) (by omega) (by omega) (by exact hcc) ?_
      refine kR.s rfl rfl ?_
      refine kR.s rfl rfl ?_
      refine kR.s rfl rfl ?_
      refine kR.jge (by omega) (by omega) (by omega) (by omega) (fun q15 => ?_) (fun q15 => ?_)
      · skip
        show kR 6 143 b143_145 _ _ _ _
        refine kR.s rfl rfl ?_
        refine kR.s rfl rfl ?_
        refine kR.c0 (kargs_m hm (by decide) rfl) rfl (kR.up (c_107 (S := (kapm2 (ku (ku S 30 19 1) 30 28 0) o n2 v d)) hm hX hR hkL) (by decide)) ?_
        refine kR.s rfl rfl ?_
        have f17_0 := kdash_01 t (kre t n k) (krb t n k)
        refine kR.cv (v := .int (Int32.ofInt (kdash t (kre t n k) (krb t n k)))) (kargs_m hm (by decide) rfl) rfl (kR.up (c_130 (S := (kgom (kapm2 (ku (ku S 30 19 1) 30 28 0) o n2 v d) t n k)) hm hX hR (e := kre t n k) rfl (by omega) (p := krb t n k) rfl (by omega)) (by decide)) ?_
        refine kR.s rfl rfl ?_
        refine kR.s rfl rfl ?_
        refine kR.gr (a := 30) (b := 43) (k := 30) (by omega) rfl rfl rfl (by decide) (by decide) rfl ?_
        refine kR.s rfl rfl ?_
        refine kR.gi (a := 30) (k := 29) (v := (o : Int)) (by omega) rfl rfl rfl (by decide) (by decide) rfl (by exact ho) ?_
        refine kR.s rfl rfl ?_
        refine kR.sub ?_
        rw [ho1]
        refine kR.ia (a := 43) (v := 1) (by omega) rfl (by decide) (by omega) (by omega) (by exact hwh) ?_
        refine kR.s rfl rfl ?_
        refine kR.jne (by decide) (by decide) (by decide) (by decide) (fun q18 => absurd q18 (by decide)) (fun q18 => ?_)
        refine kR.s rfl rfl ?_
        refine kR.g rfl ?_
        show kR 6 143 b143_176 _ _ _ _
        refine kR.s rfl rfl ?_
        refine kR.s rfl rfl ?_
        refine kR.zeq (by decide) (by decide) (fun q19 => absurd q19 (by decide)) (fun q19 => ?_)
        refine kR.s rfl rfl ?_
        refine kR.g rfl ?_
        show kR 6 143 b143_191 _ _ _ _
        refine kR.s rfl rfl ?_
        refine kR.s rfl rfl ?_
        refine kR.s rfl rfl ?_
        refine kR.jgt (by omega) (by omega) (by omega) (by omega) (fun q20 => ?_) (fun q20 => ?_)
        · skip
          show kR 6 143 b143_210 _ _ _ _
          refine kR.s rfl rfl ?_
          refine kR.s rfl rfl ?_
          refine kR.pi (a := 30) (k := 19) (by omega) rfl rfl rfl (by decide) (by decide) rfl (by first | rfl | assumption | simp [kfit, *]) ?_
          refine kR.g rfl ?_
          show kR 6 143 b143_236 _ _ _ _
          refine kR.ret rfl rfl ?_
          first | rfl | (exfalso; omega)
        · skip
          refine kR.s rfl rfl ?_
          refine kR.s rfl rfl ?_
          refine kR.jne (by omega) (by omega) (by omega) (by omega) (fun q21 => ?_) (fun q21 => ?_)
          · skip
            show kR 6 143 b143_210 _ _ _ _
            refine kR.s rfl rfl ?_
            refine kR.s rfl rfl ?_
            refine kR.pi (a := 30) (k := 19) (by omega) rfl rfl rfl (by decide) (by decide) rfl (by first | rfl | assumption | simp [kfit, *]) ?_
            refine kR.g rfl ?_
            show kR 6 143 b143_236 _ _ _ _
            refine kR.ret rfl rfl ?_
            first | rfl | (exfalso; omega)
          · skip
            refine kR.s rfl rfl ?_
            refine kR.zge (by decide) (by decide) (fun q22 => ?_) (fun q22 => absurd q22 (by decide))
            exfalso
            omega
      · skip
        exfalso
        omega
  · skip
    refine kR.s rfl rfl ?_
    refine kR.s rfl rfl ?_
    refine kR.gi (a := 30) (k := 19) (v := 1) (by omega) rfl rfl rfl (by decide) (by decide) rfl (by rfl) ?_
    refine kR.zne (by decide) (by decide) (fun q23 => ?_) (fun q23 => absurd q23 (by decide))
    show kR 6 143 b143_63 _ _ _ _
    refine kR.s rfl rfl ?_
    refine kR.g rfl ?_
    show kR 6 143 b143_68 _ _ _ _
    refine kR.pi (a := 30) (k := 19) (by omega) rfl rfl rfl (by decide) (by decide) rfl (by first | rfl | assumption | simp [kfit, *]) ?_
    refine kR.s rfl rfl ?_
    refine kR.s rfl rfl ?_
    refine kR.pi (a := 30) (k := 20) (by omega) rfl rfl rfl (by decide) (by decide) rfl rfl ?_
    refine kR.ret rfl rfl ?_
    first | rfl | (exfalso; omega)
theorem c_143_rowbad1 {m : Nat} {E : Nat → kC} {S : Nat → Nat → Int} {sz : Nat × Nat} (hm : 53 ≤ m ∧ m ≤ 57) {t : Nat → Int} {n L : Nat} (hX : kTx t n L) (hR : kRt S t n) {p e : Nat} (hpp : S 30 21 = (p : Int)) (he : S 30 23 = (e : Int)) (hpe : p ≤ 200 ∧ e ≤ 200) {iv : Int} (hiv : S 30 28 = iv) (hi01 : iv = 0 ∨ iv = 1) (hwr : S 30 19 = 0) {l : Nat} (hl : l ≤ L) (hle : S 30 24 + 1 = (klb t n l : Int)) {k : Nat} (hk : k = (kw (fun i => decide (¬ krb t n i < kre t n i ∨ t (krb t n i) = 35)) L l)) {v n2 d o : Nat} (hdn : S 30 27 = (v : Int)) (hn : S 30 15 = (n2 : Int)) (hnl : n2 < 200) (ho : S 30 29 = (o : Int)) (hol : 1 ≤ o ∧ o ≤ 8) (hd : S 44 (o - 1) = (d : Int)) (hdl : d < 60) (hwh : S 43 (o - 1) = 1) {cc : Int} (hcc : S 45 (o - 1) = cc) (hcr : 0 ≤ cc ∧ cc ≤ 200) (hin : iv = 1 ∧ ¬ p = e) (hkL : k < L) (hdp : cc ≤ (krb t n k : Int) - (klb t n k : Int)) (hda : cc < (krb t n k : Int) - (klb t n k : Int) ∨ kdash t (kre t n k) (krb t n k) = 0) : kR 6 143 (blk 143 0) (kent 143 [.ref 30]) [] (sz, hp m E S) (fun r => r = (.inl none, (sz, hp m E (ku (kgom (kapm2 (ku (ku S 30 19 1) 30 28 0) o n2 v d) t n k) 30 19 1)))) := by
  show kR 6 143 b143_0 _ _ _ _
  refine kR.s rfl rfl ?_
  refine kR.s rfl rfl ?_
  refine kR.gi (a := 30) (k := 19) (v := 0) (by omega) rfl rfl rfl (by decide) (by decide) rfl (by exact hwr) ?_
  refine kR.zne (by decide) (by decide) (fun q1 => absurd q1 (by decide)) (fun q1 => ?_)
  refine kR.s rfl rfl ?_
  refine kR.gi (a := 30) (k := 28) (v := iv) (by omega) rfl rfl rfl (by decide) (by decide) rfl (by exact hiv) ?_
  refine kR.zeq (by omega) (by omega) (fun q2 => ?_) (fun q2 => ?_)
  · skip
    exfalso
    omega
  · skip
    refine kR.s rfl rfl ?_
    refine kR.gi (a := 30) (k := 21) (v := (p : Int)) (by omega) rfl rfl rfl (by decide) (by decide) rfl (by exact hpp) ?_
    refine kR.s rfl rfl ?_
    refine kR.gi (a := 30) (k := 23) (v := (e : Int)) (by omega) rfl rfl rfl (by decide) (by decide) rfl (by exact he) ?_
    refine kR.jeq (by omega) (by omega) (by omega) (by omega) (fun q3 => ?_) (fun q3 => ?_)
    · skip
      exfalso
      omega
    · skip
      refine kR.n ?_
      show kR 6 143 b143_26 _ _ _ _
      refine kR.s rfl rfl ?_
      refine kR.g rfl ?_
      exact x_143_rowbad1 hm hX hR hpp he hpe hiv hi01 hwr hl hle hk hdn hn hnl ho hol hd hdl hwh hcc hcr hin hkL hdp hda
theorem x_143_tab1 {m : Nat} {E : Nat → kC} {S : Nat → Nat → Int} {sz : Nat × Nat} (hm : 53 ≤ m ∧ m ≤ 57) {t : Nat → Int} {n L : Nat} (hX : kTx t n L) (hR : kRt S t n) {p e : Nat} (hpp : S 30 21 = (p : Int)) (he : S 30 23 = (e : Int)) (hpe : p ≤ 200 ∧ e ≤ 200) {iv : Int} (hiv : S 30 28 = iv) (hi01 : iv = 0 ∨ iv = 1) (hwr : S 30 19 = 0) {l : Nat} (hl : l ≤ L) (hle : S 30 24 + 1 = (klb t n l : Int)) {k : Nat} (hk : k = (kw (fun i => decide (¬ krb t n i < kre t n i ∨ t (krb t n i) = 35)) L l)) {v n2 d o : Nat} (hdn : S 30 27 = (v : Int)) (hn : S 30 15 = (n2 : Int)) (hnl : n2 < 200) (ho : S 30 29 = (o : Int)) (hol : 1 ≤ o ∧ o ≤ 8) (hd : S 44 (o - 1) = (d : Int)) (hdl : d < 60) (hwh : S 43 (o - 1) = 2) {cc : Int} (hcc : S 45 (o - 1) = cc) (hcr : 0 ≤ cc ∧ cc ≤ 200) (hin : iv = 1 ∧ ¬ p = e) (hkL : k < L) (hdp : (krb t n k : Int) - (klb t n k : Int) = cc) (hda : kdash t (kre t n k) (krb t n k) = 0) {z : Nat} (hck : kck t (kre t n k) 0 (krb t n k) = (z : Int)) (hzn : z ≤ 200) {X5 : Nat → Nat → Int} (k133 : kR 4 133 (blk 133 0) (kent 133 [.ref 30, .int (Int32.ofInt (z : Int))]) [] (sz, hp m E (if kqu (kch t (kre t n k) (krb t n k)) = 1 then kqb (kgom (kapm2 (ku (ku S 30 19 1) 30 28 0) o n2 v d) t n k) (kuq t (kre t n k) (kch t (kre t n k) (krb t n k)) (krb t n k + 1)) else (kgom (kapm2 (ku (ku S 30 19 1) 30 28 0) o n2 v d) t n k))) (fun r => r = (.inl none, (sz, hp m E X5)))) {v1 v2 v3 v4 v5 v6 : Value} : kR 6 143 (blk 143 31) [.ref 30, v1, v2, v3, v4, v5, v6] [.int (Int32.ofInt 1), .ref 30] (sz, hp m E S) (fun r => r = (.inl none, (sz, hp m E X5))) := by
  have hx1 := hX.1
  have hwq : -2147483648 ≤ S 43 (o - 1) ∧ S 43 (o - 1) < 2147483648 := by omega
  have ho1 : (o : Int) - 1 = ((o - 1 : Nat) : Int) := by omega
  have hx4 := hX.2.2.2.2.1 k hkL
  have hx7 := hX.ln hkL
  show kR 6 143 b143_31 _ _ _ _
  refine kR.pi (a := 30) (k := 19) (by omega) rfl rfl rfl (by decide) (by decide) rfl (by first | rfl | assumption | simp [kfit, *]) ?_
  refine kR.s rfl rfl ?_
  refine kR.s rfl rfl ?_
  refine kR.pi (a := 30) (k := 28) (by omega) rfl rfl rfl (by decide) (by decide) rfl (by first | rfl | assumption | simp [kfit, *]) ?_
  refine kR.s rfl rfl ?_
  refine kR.cv (v := .int (Int32.ofInt ((klb t n k : Int)))) (kargs_m hm (by decide) rfl) rfl (kR.up ((by have z := c_106 (S := (ku (ku S 30 19 1) 30 28 0)) (E := E) (sz := sz) hm hX hR hl hle; rw [← hk, if_pos hkL] at z; exact z)) (by decide)) ?_
  refine kR.s rfl rfl ?_
  refine kR.s rfl rfl ?_
  refine kR.gi (a := 30) (k := 29) (v := (o : Int)) (by omega) rfl rfl rfl (by decide) (by decide) rfl (by exact ho) ?_
  refine kR.zne (by omega) (by omega) (fun q2 => ?_) (fun q2 => ?_)
  · skip
    show kR 6 143 b143_77 _ _ _ _
    refine kR.s rfl rfl ?_
    refine kR.s rfl rfl ?_
    refine kR.gi (a := 30) (k := 27) (v := (v : Int)) (by omega) rfl rfl rfl (by decide) (by decide) rfl (by exact hdn) ?_
    refine kR.c0 (kargs_m hm (by decide) rfl) rfl (kR.up (c_116 (S := ku (ku S 30 19 1) 30 28 0) hm (v := v) hn hnl ho (by omega) (by omega) hd hdl hwq) (by decide)) ?_
    refine kR.s rfl rfl ?_
    refine kR.zge (by omega) (by omega) (fun q4 => ?_) (fun q4 => ?_)
    · skip
      show kR 6 143 b143_93 _ _ _ _
      refine kR.s rfl rfl ?_
      refine kR.s rfl rfl ?_
      refine kR.s rfl rfl ?_
      refine kR.s rfl rfl ?_
      refine kR.cv (v := .int (Int32.ofInt ((kle t n k : Int)))) (kargs_m hm (by decide) rfl) rfl (kR.up (c_105t (S := (kapm2 (ku (ku S 30 19 1) 30 28 0) o n2 v d)) hm hX hR (a := klb t n k) (by omega)) (by decide)) ?_
      refine kR.cv (v := .int (Int32.ofInt ((krb t n k : Int) - (klb t n k : Int)))) (kargs_m hm (by decide) rfl) rfl (kR.up (c_104t (S := (kapm2 (ku (ku S 30 19 1) 30 28 0) o n2 v d)) hm hX hR (a := klb t n k) (g := kle t n k) (by omega) (by omega)) (by decide)) ?_
      refine kR.n ?_
      show kR 6 143 b143_103 _ _ _ _
      refine kR.s rfl rfl ?_
      refine kR.s rfl rfl ?_
      refine kR.gr (a := 30) (b := 45) (k := 32) (by omega) rfl rfl rfl (by decide) (by decide) rfl ?_
      refine kR.s rfl rfl ?_
      refine kR.gi (a := 30) (k := 29) (v := (o : Int)) (by omega) rfl rfl rfl (by decide) (by decide) rfl (by exact ho) ?_
      refine kR.s rfl rfl ?_
      refine kR.sub ?_
      rw [ho1]
      refine kR.ia (a := 45) (v := cc) (by omega) rfl (by decide) (by omega) (by omega) (by exact hcc) ?_
      refine kR.s rfl rfl ?_
      refine kR.s rfl rfl ?_
      refine kR.s rfl rfl ?_
      refine kR.jge (by omega) (by omega) (by omega) (by omega) (fun q7 => ?_) (fun q7 => ?_)
      · skip
        show kR 6 143 b143_145 _ _ _ _
        refine kR.s rfl rfl ?_
        refine kR.s rfl rfl ?_
        refine kR.c0 (kargs_m hm (by decide) rfl) rfl (kR.up (c_107 (S := (kapm2 (ku (ku S 30 19 1) 30 28 0) o n2 v d)) hm hX hR hkL) (by decide)) ?_
        refine kR.s rfl rfl ?_
        refine kR.cv (v := .int (Int32.ofInt (0))) (kargs_m hm (by decide) rfl) rfl (kR.up (hda ▸ c_130 (S := (kgom (kapm2 (ku (ku S 30 19 1) 30 28 0) o n2 v d) t n k)) hm hX hR (e := kre t n k) rfl (by omega) (p := krb t n k) rfl (by omega)) (by decide)) ?_
        refine kR.s rfl rfl ?_
        refine kR.s rfl rfl ?_
        refine kR.gr (a := 30) (b := 43) (k := 30) (by omega) rfl rfl rfl (by decide) (by decide) rfl ?_
        refine kR.s rfl rfl ?_
        refine kR.gi (a := 30) (k := 29) (v := (o : Int)) (by omega) rfl rfl rfl (by decide) (by decide) rfl (by exact ho) ?_
        refine kR.s rfl rfl ?_
        refine kR.sub ?_
        rw [ho1]
        refine kR.ia (a := 43) (v := 2) (by omega) rfl (by decide) (by omega) (by omega) (by exact hwh) ?_
        refine kR.s rfl rfl ?_
        refine kR.jne (by decide) (by decide) (by decide) (by decide) (fun q10 => ?_) (fun q10 => absurd q10 (by decide))
        show kR 6 143 b143_175 _ _ _ _
        refine kR.s rfl rfl ?_
        refine kR.n ?_
        show kR 6 143 b143_176 _ _ _ _
        refine kR.s rfl rfl ?_
        refine kR.s rfl rfl ?_
        refine kR.zeq (by decide) (by decide) (fun q11 => ?_) (fun q11 => absurd q11 (by decide))
        show kR 6 143 b143_187 _ _ _ _
        refine kR.s rfl rfl ?_
        refine kR.cv (v := .int (Int32.ofInt ((z : Int)))) (kargs_m hm (by decide) rfl) rfl (kR.up (hck ▸ c_131 (S := (kgom (kapm2 (ku (ku S 30 19 1) 30 28 0) o n2 v d) t n k)) hm hX hR (e := kre t n k) rfl (by omega) (p := krb t n k) rfl (by omega)) (by decide)) ?_
        refine kR.n ?_
        show kR 6 143 b143_191 _ _ _ _
        refine kR.s rfl rfl ?_
        refine kR.s rfl rfl ?_
        refine kR.s rfl rfl ?_
        refine kR.jgt (by omega) (by omega) (by omega) (by omega) (fun q13 => ?_) (fun q13 => ?_)
        · skip
          exfalso
          omega
        · skip
          refine kR.s rfl rfl ?_
          refine kR.s rfl rfl ?_
          refine kR.jne (by decide) (by decide) (by decide) (by decide) (fun q14 => absurd q14 (by decide)) (fun q14 => ?_)
          refine kR.s rfl rfl ?_
          refine kR.zge (by omega) (by omega) (fun q15 => ?_) (fun q15 => ?_)
          · skip
            show kR 6 143 b143_218 _ _ _ _
            refine kR.s rfl rfl ?_
            refine kR.zeq (by decide) (by decide) (fun q16 => ?_) (fun q16 => absurd q16 (by decide))
            show kR 6 143 b143_230 _ _ _ _
            refine kR.s rfl rfl ?_
            refine kR.s rfl rfl ?_
            refine kR.c0 (kargs_m hm (by decide) rfl) rfl (kR.up (k133) (by decide)) ?_
            refine kR.n ?_
            show kR 6 143 b143_236 _ _ _ _
            refine kR.ret rfl rfl ?_
            first | rfl | (exfalso; omega)
          · skip
            refine kR.n ?_
            exfalso
            omega
      · skip
        exfalso
        omega
    · skip
      refine kR.s rfl rfl ?_
      refine kR.g rfl ?_
      show kR 6 143 b143_103 _ _ _ _
      refine kR.s rfl rfl ?_
      refine kR.s rfl rfl ?_
      refine kR.gr (a := 30) (b := 45) (k := 32) (by omega) rfl rfl rfl (by decide) (by decide) rfl ?_
      refine kR.s rfl rfl ?_
      refine kR.gi (a := 30) (k := 29) (v := (o : Int)) (by omega) rfl rfl rfl (by decide) (by decide) rfl (by exact ho) ?_
      refine kR.s rfl rfl ?_
      refine kR.sub ?_
      rw [ho1]
      refine kR.ia (a := 45) (v := cc) (by omega) rfl (by decide) (by omega) (by omega) (by exact hcc) ?_
      refine kR.s rfl rfl ?_
      refine kR.s rfl rfl ?_
      refine kR.s rfl rfl ?_
      refine kR.jge (by omega) (by omega) (by omega) (by omega) (fun q18 => ?_) (fun q18 => ?_)
      · skip
        show kR 6 143 b143_145 _ _ _ _
        refine kR.s rfl rfl ?_
        refine kR.s rfl rfl ?_
        refine kR.c0 (kargs_m hm (by decide) rfl) rfl (kR.up (c_107 (S := (kapm2 (ku (ku S 30 19 1) 30 28 0) o n2 v d)) hm hX hR hkL) (by decide)) ?_
        refine kR.s rfl rfl ?_
        refine kR.cv (v := .int (Int32.ofInt (0))) (kargs_m hm (by decide) rfl) rfl (kR.up (hda ▸ c_130 (S := (kgom (kapm2 (ku (ku S 30 19 1) 30 28 0) o n2 v d) t n k)) hm hX hR (e := kre t n k) rfl (by omega) (p := krb t n k) rfl (by omega)) (by decide)) ?_
        refine kR.s rfl rfl ?_
        refine kR.s rfl rfl ?_
        refine kR.gr (a := 30) (b := 43) (k := 30) (by omega) rfl rfl rfl (by decide) (by decide) rfl ?_
        refine kR.s rfl rfl ?_
        refine kR.gi (a := 30) (k := 29) (v := (o : Int)) (by omega) rfl rfl rfl (by decide) (by decide) rfl (by exact ho) ?_
        refine kR.s rfl rfl ?_
        refine kR.sub ?_
        rw [ho1]
        refine kR.ia (a := 43) (v := 2) (by omega) rfl (by decide) (by omega) (by omega) (by exact hwh) ?_
        refine kR.s rfl rfl ?_
        refine kR.jne (by decide) (by decide) (by decide) (by decide) (fun q21 => ?_) (fun q21 => absurd q21 (by decide))
        show kR 6 143 b143_175 _ _ _ _
        refine kR.s rfl rfl ?_
        refine kR.n ?_
        show kR 6 143 b143_176 _ _ _ _
        refine kR.s rfl rfl ?_
        refine kR.s rfl rfl ?_
        refine kR.zeq (by decide) (by decide) (fun q22 => ?_) (fun q22 => absurd q22 (by decide))
        show kR 6 143 b143_187 _ _ _ _
        refine kR.s rfl rfl ?_
        refine kR.cv (v := .int (Int32.ofInt ((z : Int)))) (kargs_m hm (by decide) rfl) rfl (kR.up (hck ▸ c_131 (S := (kgom (kapm2 (ku (ku S 30 19 1) 30 28 0) o n2 v d) t n k)) hm hX hR (e := kre t n k) rfl (by omega) (p := krb t n k) rfl (by omega)) (by decide)) ?_
        refine kR.n ?_
        show kR 6 143 b143_191 _ _ _ _
        refine kR.s rfl rfl ?_
        refine kR.s rfl rfl ?_
        refine kR.s rfl rfl ?_
        refine kR.jgt (by omega) (by omega) (by omega) (by omega) (fun q24 => ?_) (fun q24 => ?_)
        · skip
          exfalso
          omega
        · skip
          refine kR.s rfl rfl ?_
          refine kR.s rfl rfl ?_
          refine kR.jne (by decide) (by decide) (by decide) (by decide) (fun q25 => absurd q25 (by decide)) (fun q25 => ?_)
          refine kR.s rfl rfl ?_
          refine kR.zge (by omega) (by omega) (fun q26 => ?_) (fun q26 => ?_)
          · skip
            show kR 6 143 b143_218 _ _ _ _
            refine kR.s rfl rfl ?_
            refine kR.zeq (by decide) (by decide) (fun q27 => ?_) (fun q27 => absurd q27 (by decide))
            show kR 6 143 b143_230 _ _ _ _
            refine kR.s rfl rfl ?_
            refine kR.s rfl rfl ?_
            refine kR.c0 (kargs_m hm (by decide) rfl) rfl (kR.up (k133) (by decide)) ?_
            refine kR.n ?_
            show kR 6 143 b143_236 _ _ _ _
            refine kR.ret rfl rfl ?_
            first | rfl | (exfalso; omega)
          · skip
            refine kR.n ?_
            exfalso
            omega
      · skip
        exfalso
        omega
  · skip
    refine kR.s rfl rfl ?_
    refine kR.s rfl rfl ?_
    refine kR.gi (a := 30) (k := 19) (v := 1) (by omega) rfl rfl rfl (by decide) (by decide) rfl (by rfl) ?_
    refine kR.zne (by decide) (by decide) (fun q29 => ?_) (fun q29 => absurd q29 (by decide))
    show kR 6 143 b143_63 _ _ _ _
    refine kR.s rfl rfl ?_
    refine kR.g rfl ?_
    show kR 6 143 b143_68 _ _ _ _
    refine kR.pi (a := 30) (k := 19) (by omega) rfl rfl rfl (by decide) (by decide) rfl (by first | rfl | assumption | simp [kfit, *]) ?_
    refine kR.s rfl rfl ?_
    refine kR.s rfl rfl ?_
    refine kR.pi (a := 30) (k := 20) (by omega) rfl rfl rfl (by decide) (by decide) rfl rfl ?_
    refine kR.ret rfl rfl ?_
    first | rfl | (exfalso; omega)
theorem c_143_tab1 {m : Nat} {E : Nat → kC} {S : Nat → Nat → Int} {sz : Nat × Nat} (hm : 53 ≤ m ∧ m ≤ 57) {t : Nat → Int} {n L : Nat} (hX : kTx t n L) (hR : kRt S t n) {p e : Nat} (hpp : S 30 21 = (p : Int)) (he : S 30 23 = (e : Int)) (hpe : p ≤ 200 ∧ e ≤ 200) {iv : Int} (hiv : S 30 28 = iv) (hi01 : iv = 0 ∨ iv = 1) (hwr : S 30 19 = 0) {l : Nat} (hl : l ≤ L) (hle : S 30 24 + 1 = (klb t n l : Int)) {k : Nat} (hk : k = (kw (fun i => decide (¬ krb t n i < kre t n i ∨ t (krb t n i) = 35)) L l)) {v n2 d o : Nat} (hdn : S 30 27 = (v : Int)) (hn : S 30 15 = (n2 : Int)) (hnl : n2 < 200) (ho : S 30 29 = (o : Int)) (hol : 1 ≤ o ∧ o ≤ 8) (hd : S 44 (o - 1) = (d : Int)) (hdl : d < 60) (hwh : S 43 (o - 1) = 2) {cc : Int} (hcc : S 45 (o - 1) = cc) (hcr : 0 ≤ cc ∧ cc ≤ 200) (hin : iv = 1 ∧ ¬ p = e) (hkL : k < L) (hdp : (krb t n k : Int) - (klb t n k : Int) = cc) (hda : kdash t (kre t n k) (krb t n k) = 0) {z : Nat} (hck : kck t (kre t n k) 0 (krb t n k) = (z : Int)) (hzn : z ≤ 200) {X5 : Nat → Nat → Int} (k133 : kR 4 133 (blk 133 0) (kent 133 [.ref 30, .int (Int32.ofInt (z : Int))]) [] (sz, hp m E (if kqu (kch t (kre t n k) (krb t n k)) = 1 then kqb (kgom (kapm2 (ku (ku S 30 19 1) 30 28 0) o n2 v d) t n k) (kuq t (kre t n k) (kch t (kre t n k) (krb t n k)) (krb t n k + 1)) else (kgom (kapm2 (ku (ku S 30 19 1) 30 28 0) o n2 v d) t n k))) (fun r => r = (.inl none, (sz, hp m E X5)))) : kR 6 143 (blk 143 0) (kent 143 [.ref 30]) [] (sz, hp m E S) (fun r => r = (.inl none, (sz, hp m E X5))) := by
  show kR 6 143 b143_0 _ _ _ _
  refine kR.s rfl rfl ?_
  refine kR.s rfl rfl ?_
  refine kR.gi (a := 30) (k := 19) (v := 0) (by omega) rfl rfl rfl (by decide) (by decide) rfl (by exact hwr) ?_
  refine kR.zne (by decide) (by decide) (fun q1 => absurd q1 (by decide)) (fun q1 => ?_)
  refine kR.s rfl rfl ?_
  refine kR.gi (a := 30) (k := 28) (v := iv) (by omega) rfl rfl rfl (by decide) (by decide) rfl (by exact hiv) ?_
  refine kR.zeq (by omega) (by omega) (fun q2 => ?_) (fun q2 => ?_)
  · skip
    exfalso
    omega
  · skip
    refine kR.s rfl rfl ?_
    refine kR.gi (a := 30) (k := 21) (v := (p : Int)) (by omega) rfl rfl rfl (by decide) (by decide) rfl (by exact hpp) ?_
    refine kR.s rfl rfl ?_
    refine kR.gi (a := 30) (k := 23) (v := (e : Int)) (by omega) rfl rfl rfl (by decide) (by decide) rfl (by exact he) ?_
    refine kR.jeq (by omega) (by omega) (by omega) (by omega) (fun q3 => ?_) (fun q3 => ?_)
    · skip
      exfalso
      omega
    · skip
      refine kR.n ?_
      show kR 6 143 b143_26 _ _ _ _
      refine kR.s rfl rfl ?_
      refine kR.g rfl ?_
      exact x_143_tab1 hm hX hR hpp he hpe hiv hi01 hwr hl hle hk hdn hn hnl ho hol hd hdl hwh hcc hcr hin hkL hdp hda hck hzn k133
theorem x_143_tabbad1 {m : Nat} {E : Nat → kC} {S : Nat → Nat → Int} {sz : Nat × Nat} (hm : 53 ≤ m ∧ m ≤ 57) {t : Nat → Int} {n L : Nat} (hX : kTx t n L) (hR : kRt S t n) {p e : Nat} (hpp : S 30 21 = (p : Int)) (he : S 30 23 = (e : Int)) (hpe : p ≤ 200 ∧ e ≤ 200) {iv : Int} (hiv : S 30 28 = iv) (hi01 : iv = 0 ∨ iv = 1) (hwr : S 30 19 = 0) {l : Nat} (hl : l ≤ L) (hle : S 30 24 + 1 = (klb t n l : Int)) {k : Nat} (hk : k = (kw (fun i => decide (¬ krb t n i < kre t n i ∨ t (krb t n i) = 35)) L l)) {v n2 d o : Nat} (hdn : S 30 27 = (v : Int)) (hn : S 30 15 = (n2 : Int)) (hnl : n2 < 200) (ho : S 30 29 = (o : Int)) (hol : 1 ≤ o ∧ o ≤ 8) (hd : S 44 (o - 1) = (d : Int)) (hdl : d < 60) (hwh : S 43 (o - 1) = 2) {cc : Int} (hcc : S 45 (o - 1) = cc) (hcr : 0 ≤ cc ∧ cc ≤ 200) (hin : iv = 1 ∧ ¬ p = e) (hkL : k < L) (hdp : cc ≤ (krb t n k : Int) - (klb t n k : Int)) (hckr : -1 ≤ kck t (kre t n k) 0 (krb t n k) ∧ kck t (kre t n k) 0 (krb t n k) ≤ 200) (hda : cc < (krb t n k : Int) - (klb t n k : Int) ∨ kdash t (kre t n k) (krb t n k) = 1 ∨ kck t (kre t n k) 0 (krb t n k) = -1) {v1 v2 v3 v4 v5 v6 : Value} : kR 6 143 (blk 143 31) [.ref 30, v1, v2, v3, v4, v5, v6] [.int (Int32.ofInt 1), .ref 30] (sz, hp m E S) (fun r => r = (.inl none, (sz, hp m E (ku (if kqu (kch t (kre t n k) (krb t n k)) = 1 then kqb (kgom (kapm2 (ku (ku S 30 19 1) 30 28 0) o n2 v d) t n k) (kuq t (kre t n k) (kch t (kre t n k) (krb t n k)) (krb t n k + 1)) else (kgom (kapm2 (ku (ku S 30 19 1) 30 28 0) o n2 v d) t n k)) 30 19 1)))) := by
  have hx1 := hX.1
  have hwq : -2147483648 ≤ S 43 (o - 1) ∧ S 43 (o - 1) < 2147483648 := by omega
  have ho1 : (o : Int) - 1 = ((o - 1 : Nat) : Int) := by omega
  have hx4 := hX.2.2.2.2.1 k hkL
  have hx7 := hX.ln hkL
  show kR 6 143 b143_31 _ _ _ _
  refine kR.pi (a := 30) (k := 19) (by omega) rfl rfl rfl (by decide) (by decide) rfl (by first | rfl | assumption | simp [kfit, *]) ?_
  refine kR.s rfl rfl ?_
  refine kR.s rfl rfl ?_
  refine kR.pi (a := 30) (k := 28) (by omega) rfl rfl rfl (by decide) (by decide) rfl (by first | rfl | assumption | simp [kfit, *]) ?_
  refine kR.s rfl rfl ?_
  refine kR.cv (v := .int (Int32.ofInt ((klb t n k : Int)))) (kargs_m hm (by decide) rfl) rfl (kR.up ((by have z := c_106 (S := (ku (ku S 30 19 1) 30 28 0)) (E := E) (sz := sz) hm hX hR hl hle; rw [← hk, if_pos hkL] at z; exact z)) (by decide)) ?_
  refine kR.s rfl rfl ?_
  refine kR.s rfl rfl ?_
  refine kR.gi (a := 30) (k := 29) (v := (o : Int)) (by omega) rfl rfl rfl (by decide) (by decide) rfl (by exact ho) ?_
  refine kR.zne (by omega) (by omega) (fun q2 => ?_) (fun q2 => ?_)
  · skip
    show kR 6 143 b143_77 _ _ _ _
    refine kR.s rfl rfl ?_
    refine kR.s rfl rfl ?_
    refine kR.gi (a := 30) (k := 27) (v := (v : Int)) (by omega) rfl rfl rfl (by decide) (by decide) rfl (by exact hdn) ?_
    refine kR.c0 (kargs_m hm (by decide) rfl) rfl (kR.up (c_116 (S := ku (ku S 30 19 1) 30 28 0) hm (v := v) hn hnl ho (by omega) (by omega) hd hdl hwq) (by decide)) ?_
    refine kR.s rfl rfl ?_
    refine kR.zge (by omega) (by omega) (fun q4 => ?_) (fun q4 => ?_)
    · skip
      show kR 6 143 b143_93 _ _ _ _
      refine kR.s rfl rfl ?_
      refine kR.s rfl rfl ?_
      refine kR.s rfl rfl ?_
      refine kR.s rfl rfl ?_
      refine kR.cv (v := .int (Int32.ofInt ((kle t n k : Int)))) (kargs_m hm (by decide) rfl) rfl (kR.up (c_105t (S := (kapm2 (ku (ku S 30 19 1) 30 28 0) o n2 v d)) hm hX hR (a := klb t n k) (by omega)) (by decide)) ?_
      refine kR.cv (v := .int (Int32.ofInt ((krb t n k : Int) - (klb t n k : Int)))) (kargs_m hm (by decide) rfl) rfl (kR.up (c_104t (S := (kapm2 (ku (ku S 30 19 1) 30 28 0) o n2 v d)) hm hX hR (a := klb t n k) (g := kle t n k) (by omega) (by omega)) (by decide)) ?_
      refine kR.n ?_
      show kR 6 143 b143_103 _ _ _ _
      refine kR.s rfl rfl ?_
      refine kR.s rfl rfl ?_
      refine kR.gr (a := 30) (b := 45) (k := 32) (by omega) rfl rfl rfl (by decide) (by decide) rfl ?_
      refine kR.s rfl rfl ?_
      refine kR.gi (a := 30) (k := 29) (v := (o : Int)) (by omega) rfl rfl rfl (by decide) (by decide) rfl (by exact ho) ?_
      refine kR.s rfl rfl ?_
      refine kR.sub ?_
      rw [ho1]
      refine kR.ia (a := 45) (v := cc) (by omega) rfl (by decide) (by omega) (by omega) (by exact hcc) ?_
      refine kR.s rfl rfl ?_
      refine kR.s rfl rfl ?_
      refine kR.s rfl rfl ?_
      refine kR.jge (by omega) (by omega) (by omega) (by omega) (fun q7 => ?_) (fun q7 => ?_)
      · skip
        show kR 6 143 b143_145 _ _ _ _
        refine kR.s rfl rfl ?_
        refine kR.s rfl rfl ?_
        refine kR.c0 (kargs_m hm (by decide) rfl) rfl (kR.up (c_107 (S := (kapm2 (ku (ku S 30 19 1) 30 28 0) o n2 v d)) hm hX hR hkL) (by decide)) ?_
        refine kR.s rfl rfl ?_
        have f9_0 := kdash_01 t (kre t n k) (krb t n k)
        refine kR.cv (v := .int (Int32.ofInt (kdash t (kre t n k) (krb t n k)))) (kargs_m hm (by decide) rfl) rfl (kR.up (c_130 (S := (kgom (kapm2 (ku (ku S 30 19 1) 30 28 0) o n2 v d) t n k)) hm hX hR (e := kre t n k) rfl (by omega) (p := krb t n k) rfl (by omega)) (by decide)) ?_
        refine kR.s rfl rfl ?_
        refine kR.s rfl rfl ?_
        refine kR.gr (a := 30) (b := 43) (k := 30) (by omega) rfl rfl rfl (by decide) (by decide) rfl ?_
        refine kR.s rfl rfl ?_
        refine kR.gi (a := 30) (k := 29) (v := (o : Int)) (by omega) rfl rfl rfl (by decide) (by decide) rfl (by exact ho) ?_
        refine kR.s rfl rfl ?_
        refine kR.sub ?_
        rw [ho1]
        refine kR.ia (a := 43) (v := 2) (by omega) rfl (by decide) (by omega) (by omega) (by exact hwh) ?_
        refine kR.s rfl rfl ?_
        refine kR.jne (by decide) (by decide) (by decide) (by decide) (fun q10 => ?_) (fun q10 => absurd q10 (by decide))
        show kR 6 143 b143_175 _ _ _ _
        refine kR.s rfl rfl ?_
        refine kR.n ?_
        show kR 6 143 b143_176 _ _ _ _
        refine kR.s rfl rfl ?_
        refine kR.s rfl rfl ?_
        refine kR.zeq (by decide) (by decide) (fun q11 => ?_) (fun q11 => absurd q11 (by decide))
        show kR 6 143 b143_187 _ _ _ _
        refine kR.s rfl rfl ?_
        refine kR.cv (v := .int (Int32.ofInt (kck t (kre t n k) 0 (krb t n k)))) (kargs_m hm (by decide) rfl) rfl (kR.up (c_131 (S := (kgom (kapm2 (ku (ku S 30 19 1) 30 28 0) o n2 v d) t n k)) hm hX hR (e := kre t n k) rfl (by omega) (p := krb t n k) rfl (by omega)) (by decide)) ?_
        refine kR.n ?_
        show kR 6 143 b143_191 _ _ _ _
        refine kR.s rfl rfl ?_
        refine kR.s rfl rfl ?_
        refine kR.s rfl rfl ?_
        refine kR.jgt (by omega) (by omega) (by omega) (by omega) (fun q13 => ?_) (fun q13 => ?_)
        · skip
          show kR 6 143 b143_210 _ _ _ _
          refine kR.s rfl rfl ?_
          refine kR.s rfl rfl ?_
          refine kR.pi (a := 30) (k := 19) (by omega) rfl rfl rfl (by decide) (by decide) rfl (by first | rfl | assumption | simp [kfit, *]) ?_
          refine kR.g rfl ?_
          show kR 6 143 b143_236 _ _ _ _
          refine kR.ret rfl rfl ?_
          first | rfl | (exfalso; omega)
        · skip
          refine kR.s rfl rfl ?_
          refine kR.s rfl rfl ?_
          refine kR.jne (by omega) (by omega) (by omega) (by omega) (fun q14 => ?_) (fun q14 => ?_)
          · skip
            show kR 6 143 b143_210 _ _ _ _
            refine kR.s rfl rfl ?_
            refine kR.s rfl rfl ?_
            refine kR.pi (a := 30) (k := 19) (by omega) rfl rfl rfl (by decide) (by decide) rfl (by first | rfl | assumption | simp [kfit, *]) ?_
            refine kR.g rfl ?_
            show kR 6 143 b143_236 _ _ _ _
            refine kR.ret rfl rfl ?_
            first | rfl | (exfalso; omega)
          · skip
            refine kR.s rfl rfl ?_
            refine kR.zge (by omega) (by omega) (fun q15 => ?_) (fun q15 => ?_)
            · skip
              exfalso
              omega
            · skip
              refine kR.n ?_
              show kR 6 143 b143_210 _ _ _ _
              refine kR.s rfl rfl ?_
              refine kR.s rfl rfl ?_
              refine kR.pi (a := 30) (k := 19) (by omega) rfl rfl rfl (by decide) (by decide) rfl (by first | rfl | assumption | simp [kfit, *]) ?_
              refine kR.g rfl ?_
              show kR 6 143 b143_236 _ _ _ _
              refine kR.ret rfl rfl ?_
              first | rfl | (exfalso; omega)
      · skip
        exfalso
        omega
    · skip
      refine kR.s rfl rfl ?_
      refine kR.g rfl ?_
      show kR 6 143 b143_103 _ _ _ _
      refine kR.s rfl rfl ?_
      refine kR.s rfl rfl ?_
      refine kR.gr (a := 30) (b := 45) (k := 32) (by omega) rfl rfl rfl (by decide) (by decide) rfl ?_
      refine kR.s rfl rfl ?_
      refine kR.gi (a := 30) (k := 29) (v := (o : Int)) (by omega) rfl rfl rfl (by decide) (by decide) rfl (by exact ho) ?_
      refine kR.s rfl rfl ?_
      refine kR.sub ?_
      rw [ho1]
      refine kR.ia (a := 45) (v := cc) (by omega) rfl (by decide) (by omega) (by omega) (by exact hcc) ?_
      refine kR.s rfl rfl ?_
      refine kR.s rfl rfl ?_
      refine kR.s rfl rfl ?_
      refine kR.jge (by omega) (by omega) (by omega) (by omega) (fun q16 => ?_) (fun q16 => ?_)
      · skip
        show kR 6 143 b143_145 _ _ _ _
        refine kR.s rfl rfl ?_
        refine kR.s rfl rfl ?_
        refine kR.c0 (kargs_m hm (by decide) rfl) rfl (kR.up (c_107 (S := (kapm2 (ku (ku S 30 19 1) 30 28 0) o n2 v d)) hm hX hR hkL) (by decide)) ?_
        refine kR.s rfl rfl ?_
        have f18_0 := kdash_01 t (kre t n k) (krb t n k)
        refine kR.cv (v := .int (Int32.ofInt (kdash t (kre t n k) (krb t n k)))) (kargs_m hm (by decide) rfl) rfl (kR.up (c_130 (S := (kgom (kapm2 (ku (ku S 30 19 1) 30 28 0) o n2 v d) t n k)) hm hX hR (e := kre t n k) rfl (by omega) (p := krb t n k) rfl (by omega)) (by decide)) ?_
        refine kR.s rfl rfl ?_
        refine kR.s rfl rfl ?_
        refine kR.gr (a := 30) (b := 43) (k := 30) (by omega) rfl rfl rfl (by decide) (by decide) rfl ?_
        refine kR.s rfl rfl ?_
        refine kR.gi (a := 30) (k := 29) (v := (o : Int)) (by omega) rfl rfl rfl (by decide) (by decide) rfl (by exact ho) ?_
        refine kR.s rfl rfl ?_
        refine kR.sub ?_
        rw [ho1]
        refine kR.ia (a := 43) (v := 2) (by omega) rfl (by decide) (by omega) (by omega) (by exact hwh) ?_
        refine kR.s rfl rfl ?_
        refine kR.jne (by decide) (by decide) (by decide) (by decide) (fun q19 => ?_) (fun q19 => absurd q19 (by decide))
        show kR 6 143 b143_175 _ _ _ _
        refine kR.s rfl rfl ?_
        refine kR.n ?_
        show kR 6 143 b143_176 _ _ _ _
        refine kR.s rfl rfl ?_
        refine kR.s rfl rfl ?_
        refine kR.zeq (by decide) (by decide) (fun q20 => ?_) (fun q20 => absurd q20 (by decide))
        show kR 6 143 b143_187 _ _ _ _
        refine kR.s rfl rfl ?_
        refine kR.cv (v := .int (Int32.ofInt (kck t (kre t n k) 0 (krb t n k)))) (kargs_m hm (by decide) rfl) rfl (kR.up (c_131 (S := (kgom (kapm2 (ku (ku S 30 19 1) 30 28 0) o n2 v d) t n k)) hm hX hR (e := kre t n k) rfl (by omega) (p := krb t n k) rfl (by omega)) (by decide)) ?_
        refine kR.n ?_
        show kR 6 143 b143_191 _ _ _ _
        refine kR.s rfl rfl ?_
        refine kR.s rfl rfl ?_
        refine kR.s rfl rfl ?_
        refine kR.jgt (by omega) (by omega) (by omega) (by omega) (fun q22 => ?_) (fun q22 => ?_)
        · skip
          show kR 6 143 b143_210 _ _ _ _
          refine kR.s rfl rfl ?_
          refine kR.s rfl rfl ?_
          refine kR.pi (a := 30) (k := 19) (by omega) rfl rfl rfl (by decide) (by decide) rfl (by first | rfl | assumption | simp [kfit, *]) ?_
          refine kR.g rfl ?_
          show kR 6 143 b143_236 _ _ _ _
          refine kR.ret rfl rfl ?_
          first | rfl | (exfalso; omega)
        · skip
          refine kR.s rfl rfl ?_
          refine kR.s rfl rfl ?_
          refine kR.jne (by omega) (by omega) (by omega) (by omega) (fun q23 => ?_) (fun q23 => ?_)
          · skip
            show kR 6 143 b143_210 _ _ _ _
            refine kR.s rfl rfl ?_
            refine kR.s rfl rfl ?_
            refine kR.pi (a := 30) (k := 19) (by omega) rfl rfl rfl (by decide) (by decide) rfl (by first | rfl | assumption | simp [kfit, *]) ?_
            refine kR.g rfl ?_
            show kR 6 143 b143_236 _ _ _ _
            refine kR.ret rfl rfl ?_
            first | rfl | (exfalso; omega)
          · skip
            refine kR.s rfl rfl ?_
            refine kR.zge (by omega) (by omega) (fun q24 => ?_) (fun q24 => ?_)
            · skip
              exfalso
              omega
            · skip
              refine kR.n ?_
              show kR 6 143 b143_210 _ _ _ _
              refine kR.s rfl rfl ?_
              refine kR.s rfl rfl ?_
              refine kR.pi (a := 30) (k := 19) (by omega) rfl rfl rfl (by decide) (by decide) rfl (by first | rfl | assumption | simp [kfit, *]) ?_
              refine kR.g rfl ?_
              show kR 6 143 b143_236 _ _ _ _
              refine kR.ret rfl rfl ?_
              first | rfl | (exfalso; omega)
      · skip
        exfalso
        omega
  · skip
    refine kR.s rfl rfl ?_
    refine kR.s rfl rfl ?_
    refine kR.gi (a := 30) (k := 19) (v := 1) (by omega) rfl rfl rfl (by decide) (by decide) rfl (by rfl) ?_
    refine kR.zne (by decide) (by decide) (fun q25 => ?_) (fun q25 => absurd q25 (by decide))
    show kR 6 143 b143_63 _ _ _ _
    refine kR.s rfl rfl ?_
    refine kR.g rfl ?_
    show kR 6 143 b143_68 _ _ _ _
    refine kR.pi (a := 30) (k := 19) (by omega) rfl rfl rfl (by decide) (by decide) rfl (by first | rfl | assumption | simp [kfit, *]) ?_
    refine kR.s rfl rfl ?_
    refine kR.s rfl rfl ?_
    refine kR.pi (a := 30) (k := 20) (by omega) rfl rfl rfl (by decide) (by decide) rfl rfl ?_
    refine kR.ret rfl rfl ?_
    first | rfl | (exfalso; omega)
theorem c_143_tabbad1 {m : Nat} {E : Nat → kC} {S : Nat → Nat → Int} {sz : Nat × Nat} (hm : 53 ≤ m ∧ m ≤ 57) {t : Nat → Int} {n L : Nat} (hX : kTx t n L) (hR : kRt S t n) {p e : Nat} (hpp : S 30 21 = (p : Int)) (he : S 30 23 = (e : Int)) (hpe : p ≤ 200 ∧ e ≤ 200) {iv : Int} (hiv : S 30 28 = iv) (hi01 : iv = 0 ∨ iv = 1) (hwr : S 30 19 = 0) {l : Nat} (hl : l ≤ L) (hle : S 30 24 + 1 = (klb t n l : Int)) {k : Nat} (hk : k = (kw (fun i => decide (¬ krb t n i < kre t n i ∨ t (krb t n i) = 35)) L l)) {v n2 d o : Nat} (hdn : S 30 27 = (v : Int)) (hn : S 30 15 = (n2 : Int)) (hnl : n2 < 200) (ho : S 30 29 = (o : Int)) (hol : 1 ≤ o ∧ o ≤ 8) (hd : S 44 (o - 1) = (d : Int)) (hdl : d < 60) (hwh : S 43 (o - 1) = 2) {cc : Int} (hcc : S 45 (o - 1) = cc) (hcr : 0 ≤ cc ∧ cc ≤ 200) (hin : iv = 1 ∧ ¬ p = e) (hkL : k < L) (hdp : cc ≤ (krb t n k : Int) - (klb t n k : Int)) (hckr : -1 ≤ kck t (kre t n k) 0 (krb t n k) ∧ kck t (kre t n k) 0 (krb t n k) ≤ 200) (hda : cc < (krb t n k : Int) - (klb t n k : Int) ∨ kdash t (kre t n k) (krb t n k) = 1 ∨ kck t (kre t n k) 0 (krb t n k) = -1) : kR 6 143 (blk 143 0) (kent 143 [.ref 30]) [] (sz, hp m E S) (fun r => r = (.inl none, (sz, hp m E (ku (if kqu (kch t (kre t n k) (krb t n k)) = 1 then kqb (kgom (kapm2 (ku (ku S 30 19 1) 30 28 0) o n2 v d) t n k) (kuq t (kre t n k) (kch t (kre t n k) (krb t n k)) (krb t n k + 1)) else (kgom (kapm2 (ku (ku S 30 19 1) 30 28 0) o n2 v d) t n k)) 30 19 1)))) := by
  show kR 6 143 b143_0 _ _ _ _
  refine kR.s rfl rfl ?_
  refine kR.s rfl rfl ?_
  refine kR.gi (a := 30) (k := 19) (v := 0) (by omega) rfl rfl rfl (by decide) (by decide) rfl (by exact hwr) ?_
  refine kR.zne (by decide) (by decide) (fun q1 => absurd q1 (by decide)) (fun q1 => ?_)
  refine kR.s rfl rfl ?_
  refine kR.gi (a := 30) (k := 28) (v := iv) (by omega) rfl rfl rfl (by decide) (by decide) rfl (by exact hiv) ?_
  refine kR.zeq (by omega) (by omega) (fun q2 => ?_) (fun q2 => ?_)
  · skip
    exfalso
    omega
  · skip
    refine kR.s rfl rfl ?_
    refine kR.gi (a := 30) (k := 21) (v := (p : Int)) (by omega) rfl rfl rfl (by decide) (by decide) rfl (by exact hpp) ?_
    refine kR.s rfl rfl ?_
    refine kR.gi (a := 30) (k := 23) (v := (e : Int)) (by omega) rfl rfl rfl (by decide) (by decide) rfl (by exact he) ?_
    refine kR.jeq (by omega) (by omega) (by omega) (by omega) (fun q3 => ?_) (fun q3 => ?_)
    · skip
      exfalso
      omega
    · skip
      refine kR.n ?_
      show kR 6 143 b143_26 _ _ _ _
      refine kR.s rfl rfl ?_
      refine kR.g rfl ?_
      exact x_143_tabbad1 hm hX hR hpp he hpe hiv hi01 hwr hl hle hk hdn hn hnl ho hol hd hdl hwh hcc hcr hin hkL hdp hckr hda
