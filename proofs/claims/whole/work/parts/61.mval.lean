/-! The reference: value. By program (wip/gen/gen61.py). -/
theorem l_140a {m : Nat} {E : Nat → kC} {S : Nat → Nat → Int} {sz : Nat × Nat} (hm : 53 ≤ m ∧ m ≤ 57) {t : Nat → Int} {n L : Nat} (hX : kTx t n L) (hR : kRt S t n) {e : Nat} (he : S 30 23 = (e : Int)) (hen : e ≤ n) {p : Nat} (hpp : S 30 21 = (p : Int)) (hpe : p ≤ e) (hw : -1 ≤ S 30 26 ∧ S 30 26 < 26) (hnd : ∀ j, j < 26 → 0 ≤ S 42 j ∧ S 42 j ≤ 60) (hch : kch t e p = 42) {v1 v2 : Value} : kR 5 140 (b140_0.drop 3) [.ref 30, v1, v2] [] (sz, hp m E S) (fun r => ((S 30 26 < 0 ∧ 0 ≤ klt t e (p + 1) ∧ ¬ S 42 (klt t e (p + 1)).toNat = 0) → r = (.inl none, (sz, hp m E (ku (ku (ku S 30 21 ((p : Int) + 2)) 30 27 (S 42 (klt t e (p + 1)).toNat - 1)) 30 20 4)))) ∧ (¬ (S 30 26 < 0 ∧ 0 ≤ klt t e (p + 1) ∧ ¬ S 42 (klt t e (p + 1)).toNat = 0) → r = (.inl none, (sz, hp m E (ku S 30 19 1))))) := by
  have hx1 := hX.1
  have c108 := c_108t (E := E) (sz := sz) hm hX hR he hen (k := p) (by omega)
  rw [(khr_c (t := t) (e := e) (p := p) 42 (by decide) (by decide)).mpr hch] at c108
  show kR 5 140 [(5, 0, .aload_n 0), (6, 0, .aload_n 0), (7, 821, .getfield 106), (10, 108, .invokevirtual 112), (13, 0, .istore_n 1), (14, 0, .iload_n 1), (15, 0, .bipush (42)), (17, 27, .if_icmp .ne (10)), (20, 0, .aload_n 0), (21, 138, .invokevirtual 241), (24, 213, .goto (189))] _ _ _ _
  refine kR.s rfl rfl ?_
  refine kR.s rfl rfl ?_
  refine kR.gi (a := 30) (k := 21) (v := (p : Int)) (by omega) rfl rfl rfl (by decide) (by decide) rfl (by exact hpp) ?_
  refine kR.cv (v := .int (Int32.ofInt (42))) (kargs_m hm (by decide) rfl) rfl (kR.up (c108) (by decide)) ?_
  refine kR.s rfl rfl ?_
  refine kR.s rfl rfl ?_
  refine kR.bi rfl ?_
  refine kR.jne (by decide) (by decide) (by decide) (by decide) (fun q2 => absurd q2 (by decide)) (fun q2 => ?_)
  refine kR.s rfl rfl ?_
  refine kR.c (kargs_m hm (by decide) rfl) rfl (kR.up (c_138 hm hX hR he hen hpp (by omega) hw hnd) (by decide)) (fun u hu => ?_)
  have hu0 := hu
  by_cases hok : (S 30 26 < 0 ∧ 0 ≤ klt t e (p + 1) ∧ ¬ S 42 (klt t e (p + 1)).toNat = 0)
  · have hu := hu.1 hok
    rw [hu] at hu0
    subst hu
    show kR 5 140 _ _ _ (sz, hp m E (ku (ku (ku S 30 21 ((p : Int) + 2)) 30 27 (S 42 (klt t e (p + 1)).toNat - 1)) 30 20 4)) _
    refine kR.g rfl ?_
    show kR 5 140 b140_213 _ _ _ _
    refine kR.ret rfl rfl ?_
    exact hu0
  · have hu := hu.2 hok
    rw [hu] at hu0
    subst hu
    show kR 5 140 _ _ _ (sz, hp m E (ku S 30 19 1)) _
    refine kR.g rfl ?_
    show kR 5 140 b140_213 _ _ _ _
    refine kR.ret rfl rfl ?_
    exact hu0
theorem c_139_1 {m : Nat} {E : Nat → kC} {S : Nat → Nat → Int} {sz : Nat × Nat} (hm : 53 ≤ m ∧ m ≤ 57) {t : Nat → Int} {n L : Nat} (hX : kTx t n L) {e : Nat} (hen : e ≤ n) {p : Nat} (hpn : p ≤ 250) {S1 : Nat → Nat → Int} {v o : Nat} {w : Int} (hw01 : w = 0 ∨ w = 1) (hmk : kR 0 110 (blk 110 0) (kent 110 [.ref 30, .int (Int32.ofInt 4)]) [] (sz, hp m E S) (fun r => r = (.inl (some (.int (Int32.ofInt (v : Int)))), (sz, hp m E S1)))) (hR1 : kRt S1 t n) (h21 : S1 30 21 = (p : Int)) (h23 : S1 30 23 = (e : Int)) (h29 : S1 30 29 = (o : Int)) (hol : o ≤ 8) (h19 : S1 30 19 = w) : kR 3 139 (blk 139 0) (kent 139 [.ref 30, .int (Int32.ofInt 1)]) [] (sz, hp m E S) (fun r => (kch t e (kw (fun i => decide (t i = 32)) e (p + 1)) = 93 → r = (.inl none, (sz, hp m E (ku (ku (ku S1 30 21 (((kw (fun i => decide (t i = 32)) e (p + 1)) : Nat) + (1 : Int))) 30 27 (v : Int)) 30 20 4)))) ∧ (¬ kch t e (kw (fun i => decide (t i = 32)) e (p + 1)) = 93 → w = 0 → r = (.inl none, (sz, hp m E (ku (kbgm (ku S1 30 21 ((kw (fun i => decide (t i = 32)) e (p + 1)) : Nat)) 3 v 0 o) 30 20 2)))) ∧ (¬ kch t e (kw (fun i => decide (t i = 32)) e (p + 1)) = 93 → w = 1 → r = (.inl none, (sz, hp m E (ku (ku S1 30 21 ((kw (fun i => decide (t i = 32)) e (p + 1)) : Nat)) 30 20 2))))) := by
  show kR 3 139 b139_0 _ _ _ _
  refine kR.s rfl rfl ?_
  refine kR.s rfl rfl ?_
  refine kR.zeq (by decide) (by decide) (fun q1 => absurd q1 (by decide)) (fun q1 => ?_)
  refine kR.s rfl rfl ?_
  refine kR.g rfl ?_
  show kR 3 139 b139_10 _ _ _ _
  refine kR.cv (v := .int (Int32.ofInt ((v : Int)))) (kargs_m hm (by decide) rfl) rfl (kR.up (hmk) (by decide)) ?_
  exact kR.up (l_139_1 hm hX hR1 h23 hen h21 hpn h29 hol hw01 h19) (by decide)
theorem l_140b_1 {m : Nat} {E : Nat → kC} {S : Nat → Nat → Int} {sz : Nat × Nat} (hm : 53 ≤ m ∧ m ≤ 57) {t : Nat → Int} {n L : Nat} (hX : kTx t n L) (hR : kRt S t n) {e : Nat} (he : S 30 23 = (e : Int)) (hen : e ≤ n) {p : Nat} (hpp : S 30 21 = (p : Int)) (hpe : p ≤ e) {S1 : Nat → Nat → Int} {v o : Nat} {w : Int} (hw01 : w = 0 ∨ w = 1) (hmk : kR 0 110 (blk 110 0) (kent 110 [.ref 30, .int (Int32.ofInt 4)]) [] (sz, hp m E S) (fun r => r = (.inl (some (.int (Int32.ofInt (v : Int)))), (sz, hp m E S1)))) (hR1 : kRt S1 t n) (h21 : S1 30 21 = (p : Int)) (h23 : S1 30 23 = (e : Int)) (h29 : S1 30 29 = (o : Int)) (hol : o ≤ 8) (h19 : S1 30 19 = w) (hch : kch t e p = 91) {v1 v2 : Value} : kR 5 140 (b140_0.drop 3) [.ref 30, v1, v2] [] (sz, hp m E S) (fun r => (kch t e (kw (fun i => decide (t i = 32)) e (p + 1)) = 93 → r = (.inl none, (sz, hp m E (ku (ku (ku S1 30 21 (((kw (fun i => decide (t i = 32)) e (p + 1)) : Nat) + (1 : Int))) 30 27 (v : Int)) 30 20 4)))) ∧ (¬ kch t e (kw (fun i => decide (t i = 32)) e (p + 1)) = 93 → w = 0 → r = (.inl none, (sz, hp m E (ku (kbgm (ku S1 30 21 ((kw (fun i => decide (t i = 32)) e (p + 1)) : Nat)) 3 v 0 o) 30 20 2)))) ∧ (¬ kch t e (kw (fun i => decide (t i = 32)) e (p + 1)) = 93 → w = 1 → r = (.inl none, (sz, hp m E (ku (ku S1 30 21 ((kw (fun i => decide (t i = 32)) e (p + 1)) : Nat)) 30 20 2))))) := by
  have hx1 := hX.1
  have c108 := c_108t (E := E) (sz := sz) hm hX hR he hen (k := p) (by omega)
  rw [(khr_c (t := t) (e := e) (p := p) 91 (by decide) (by decide)).mpr hch] at c108
  show kR 5 140 [(5, 0, .aload_n 0), (6, 0, .aload_n 0), (7, 821, .getfield 106), (10, 108, .invokevirtual 112), (13, 0, .istore_n 1), (14, 0, .iload_n 1), (15, 0, .bipush (42)), (17, 27, .if_icmp .ne (10)), (20, 0, .aload_n 0), (21, 138, .invokevirtual 241), (24, 213, .goto (189))] _ _ _ _
  refine kR.s rfl rfl ?_
  refine kR.s rfl rfl ?_
  refine kR.gi (a := 30) (k := 21) (v := (p : Int)) (by omega) rfl rfl rfl (by decide) (by decide) rfl (by exact hpp) ?_
  refine kR.cv (v := .int (Int32.ofInt (91))) (kargs_m hm (by decide) rfl) rfl (kR.up (c108) (by decide)) ?_
  refine kR.s rfl rfl ?_
  refine kR.s rfl rfl ?_
  refine kR.bi rfl ?_
  refine kR.jne (by decide) (by decide) (by decide) (by decide) (fun q2 => ?_) (fun q2 => absurd q2 (by decide))
  show kR 5 140 b140_27 _ _ _ _
  refine kR.s rfl rfl ?_
  refine kR.bi rfl ?_
  refine kR.jeq (by decide) (by decide) (by decide) (by decide) (fun q3 => ?_) (fun q3 => absurd q3 (by decide))
  show kR 5 140 b140_39 _ _ _ _
  refine kR.s rfl rfl ?_
  refine kR.s rfl rfl ?_
  refine kR.bi rfl ?_
  refine kR.jne (by decide) (by decide) (by decide) (by decide) (fun q4 => absurd q4 (by decide)) (fun q4 => ?_)
  refine kR.s rfl rfl ?_
  refine kR.g rfl ?_
  show kR 5 140 b140_51 _ _ _ _
  refine kR.c (kargs_m hm (by decide) rfl) rfl (kR.up (c_139_1 hm hX hen (p := p) (by omega) hw01 hmk hR1 h21 h23 h29 hol h19) (by decide)) (fun u hu => ?_)
  have hu0 := hu
  obtain ⟨U, hU⟩ : ∃ U, u = (.inl none, (sz, hp m E U)) := by
    by_cases h1 : kch t e (kw (fun i => decide (t i = 32)) e (p + 1)) = 93
    · exact ⟨_, hu.1 h1⟩
    · rcases hw01 with h2 | h2
      · exact ⟨_, hu.2.1 h1 h2⟩
      · exact ⟨_, hu.2.2 h1 h2⟩
  subst hU
  show kR 5 140 _ _ _ (sz, hp m E U) _
  refine kR.g rfl ?_
  show kR 5 140 b140_213 _ _ _ _
  refine kR.ret rfl rfl ?_
  exact hu0
theorem c_139_0 {m : Nat} {E : Nat → kC} {S : Nat → Nat → Int} {sz : Nat × Nat} (hm : 53 ≤ m ∧ m ≤ 57) {t : Nat → Int} {n L : Nat} (hX : kTx t n L) {e : Nat} (hen : e ≤ n) {p : Nat} (hpn : p ≤ 250) {S1 : Nat → Nat → Int} {v o : Nat} {w : Int} (hw01 : w = 0 ∨ w = 1) (hmk : kR 0 110 (blk 110 0) (kent 110 [.ref 30, .int (Int32.ofInt 5)]) [] (sz, hp m E S) (fun r => r = (.inl (some (.int (Int32.ofInt (v : Int)))), (sz, hp m E S1)))) (hR1 : kRt S1 t n) (h21 : S1 30 21 = (p : Int)) (h23 : S1 30 23 = (e : Int)) (h29 : S1 30 29 = (o : Int)) (hol : o ≤ 8) (h19 : S1 30 19 = w) : kR 3 139 (blk 139 0) (kent 139 [.ref 30, .int (Int32.ofInt 0)]) [] (sz, hp m E S) (fun r => (kch t e (kw (fun i => decide (t i = 32)) e (p + 1)) = 125 → r = (.inl none, (sz, hp m E (ku (ku (ku S1 30 21 (((kw (fun i => decide (t i = 32)) e (p + 1)) : Nat) + (1 : Int))) 30 27 (v : Int)) 30 20 4)))) ∧ (¬ kch t e (kw (fun i => decide (t i = 32)) e (p + 1)) = 125 → w = 0 → r = (.inl none, (sz, hp m E (ku (kbgm (ku S1 30 21 ((kw (fun i => decide (t i = 32)) e (p + 1)) : Nat)) 4 v 0 o) 30 20 3)))) ∧ (¬ kch t e (kw (fun i => decide (t i = 32)) e (p + 1)) = 125 → w = 1 → r = (.inl none, (sz, hp m E (ku (ku S1 30 21 ((kw (fun i => decide (t i = 32)) e (p + 1)) : Nat)) 30 20 3))))) := by
  show kR 3 139 b139_0 _ _ _ _
  refine kR.s rfl rfl ?_
  refine kR.s rfl rfl ?_
  refine kR.zeq (by decide) (by decide) (fun q1 => ?_) (fun q1 => absurd q1 (by decide))
  show kR 3 139 b139_9 _ _ _ _
  refine kR.s rfl rfl ?_
  refine kR.n ?_
  show kR 3 139 b139_10 _ _ _ _
  refine kR.cv (v := .int (Int32.ofInt ((v : Int)))) (kargs_m hm (by decide) rfl) rfl (kR.up (hmk) (by decide)) ?_
  exact kR.up (l_139_0 hm hX hR1 h23 hen h21 hpn h29 hol hw01 h19) (by decide)
theorem l_140b_0 {m : Nat} {E : Nat → kC} {S : Nat → Nat → Int} {sz : Nat × Nat} (hm : 53 ≤ m ∧ m ≤ 57) {t : Nat → Int} {n L : Nat} (hX : kTx t n L) (hR : kRt S t n) {e : Nat} (he : S 30 23 = (e : Int)) (hen : e ≤ n) {p : Nat} (hpp : S 30 21 = (p : Int)) (hpe : p ≤ e) {S1 : Nat → Nat → Int} {v o : Nat} {w : Int} (hw01 : w = 0 ∨ w = 1) (hmk : kR 0 110 (blk 110 0) (kent 110 [.ref 30, .int (Int32.ofInt 5)]) [] (sz, hp m E S) (fun r => r = (.inl (some (.int (Int32.ofInt (v : Int)))), (sz, hp m E S1)))) (hR1 : kRt S1 t n) (h21 : S1 30 21 = (p : Int)) (h23 : S1 30 23 = (e : Int)) (h29 : S1 30 29 = (o : Int)) (hol : o ≤ 8) (h19 : S1 30 19 = w) (hch : kch t e p = 123) {v1 v2 : Value} : kR 5 140 (b140_0.drop 3) [.ref 30, v1, v2] [] (sz, hp m E S) (fun r => (kch t e (kw (fun i => decide (t i = 32)) e (p + 1)) = 125 → r = (.inl none, (sz, hp m E (ku (ku (ku S1 30 21 (((kw (fun i => decide (t i = 32)) e (p + 1)) : Nat) + (1 : Int))) 30 27 (v : Int)) 30 20 4)))) ∧ (¬ kch t e (kw (fun i => decide (t i = 32)) e (p + 1)) = 125 → w = 0 → r = (.inl none, (sz, hp m E (ku (kbgm (ku S1 30 21 ((kw (fun i => decide (t i = 32)) e (p + 1)) : Nat)) 4 v 0 o) 30 20 3)))) ∧ (¬ kch t e (kw (fun i => decide (t i = 32)) e (p + 1)) = 125 → w = 1 → r = (.inl none, (sz, hp m E (ku (ku S1 30 21 ((kw (fun i => decide (t i = 32)) e (p + 1)) : Nat)) 30 20 3))))) := by
  have hx1 := hX.1
  have c108 := c_108t (E := E) (sz := sz) hm hX hR he hen (k := p) (by omega)
  rw [(khr_c (t := t) (e := e) (p := p) 123 (by decide) (by decide)).mpr hch] at c108
  show kR 5 140 [(5, 0, .aload_n 0), (6, 0, .aload_n 0), (7, 821, .getfield 106), (10, 108, .invokevirtual 112), (13, 0, .istore_n 1), (14, 0, .iload_n 1), (15, 0, .bipush (42)), (17, 27, .if_icmp .ne (10)), (20, 0, .aload_n 0), (21, 138, .invokevirtual 241), (24, 213, .goto (189))] _ _ _ _
  refine kR.s rfl rfl ?_
  refine kR.s rfl rfl ?_
  refine kR.gi (a := 30) (k := 21) (v := (p : Int)) (by omega) rfl rfl rfl (by decide) (by decide) rfl (by exact hpp) ?_
  refine kR.cv (v := .int (Int32.ofInt (123))) (kargs_m hm (by decide) rfl) rfl (kR.up (c108) (by decide)) ?_
  refine kR.s rfl rfl ?_
  refine kR.s rfl rfl ?_
  refine kR.bi rfl ?_
  refine kR.jne (by decide) (by decide) (by decide) (by decide) (fun q2 => ?_) (fun q2 => absurd q2 (by decide))
  show kR 5 140 b140_27 _ _ _ _
  refine kR.s rfl rfl ?_
  refine kR.bi rfl ?_
  refine kR.jeq (by decide) (by decide) (by decide) (by decide) (fun q3 => absurd q3 (by decide)) (fun q3 => ?_)
  refine kR.s rfl rfl ?_
  refine kR.bi rfl ?_
  refine kR.jne (by decide) (by decide) (by decide) (by decide) (fun q4 => absurd q4 (by decide)) (fun q4 => ?_)
  refine kR.n ?_
  show kR 5 140 b140_39 _ _ _ _
  refine kR.s rfl rfl ?_
  refine kR.s rfl rfl ?_
  refine kR.bi rfl ?_
  refine kR.jne (by decide) (by decide) (by decide) (by decide) (fun q5 => ?_) (fun q5 => absurd q5 (by decide))
  show kR 5 140 b140_50 _ _ _ _
  refine kR.s rfl rfl ?_
  refine kR.n ?_
  show kR 5 140 b140_51 _ _ _ _
  refine kR.c (kargs_m hm (by decide) rfl) rfl (kR.up (c_139_0 hm hX hen (p := p) (by omega) hw01 hmk hR1 h21 h23 h29 hol h19) (by decide)) (fun u hu => ?_)
  have hu0 := hu
  obtain ⟨U, hU⟩ : ∃ U, u = (.inl none, (sz, hp m E U)) := by
    by_cases h1 : kch t e (kw (fun i => decide (t i = 32)) e (p + 1)) = 125
    · exact ⟨_, hu.1 h1⟩
    · rcases hw01 with h2 | h2
      · exact ⟨_, hu.2.1 h1 h2⟩
      · exact ⟨_, hu.2.2 h1 h2⟩
  subst hU
  show kR 5 140 _ _ _ (sz, hp m E U) _
  refine kR.g rfl ?_
  show kR 5 140 b140_213 _ _ _ _
  refine kR.ret rfl rfl ?_
  exact hu0
theorem l_140q1 {m : Nat} {E : Nat → kC} {S : Nat → Nat → Int} {sz : Nat × Nat} (hm : 53 ≤ m ∧ m ≤ 57) {t : Nat → Int} {n L : Nat} (hX : kTx t n L) (hR : kRt S t n) {e : Nat} (he : S 30 23 = (e : Int)) (hen : e ≤ n) {p : Nat} (hpp : S 30 21 = (p : Int)) (hpe : p ≤ e) (hqu : kqu (kch t e p) = 1) (hwr : S 30 19 = 1)  {v1 v2 : Value} : kR 5 140 (b140_0.drop 3) [.ref 30, v1, v2] [] (sz, hp m E S) (fun r => r = (.inl none, (sz, hp m E (ku (ku (ku (ku (kqb S (kuq t e (kch t e p) (p + 1))) 30 19 1) 30 21 (kbq t e (kch t e p) (p + 1))) 30 27 0) 30 20 4)))) := by
  have hx1 := hX.1
  have hq0 := kqu_h t e p
  have hqo := kqu_o (kch t e p)
  have hcr := khr_c (t := t) (e := e) (p := p) (kch t e p) (by omega) (by omega)
  have hbr := kbq_rng (t := t) (e := e) (q := kch t e p) (e - (p + 1)) (p + 1) rfl
  show kR 5 140 [(5, 0, .aload_n 0), (6, 0, .aload_n 0), (7, 821, .getfield 106), (10, 108, .invokevirtual 112), (13, 0, .istore_n 1), (14, 0, .iload_n 1), (15, 0, .bipush (42)), (17, 27, .if_icmp .ne (10)), (20, 0, .aload_n 0), (21, 138, .invokevirtual 241), (24, 213, .goto (189))] _ _ _ _
  refine kR.s rfl rfl ?_
  refine kR.s rfl rfl ?_
  refine kR.gi (a := 30) (k := 21) (v := (p : Int)) (by omega) rfl rfl rfl (by decide) (by decide) rfl (by exact hpp) ?_
  have f1_0 := khr_r hX hen p
  refine kR.cv (v := .int (Int32.ofInt (khr t e p))) (kargs_m hm (by decide) rfl) rfl (kR.up (c_108t hm hX hR he hen (k := p) (by omega)) (by decide)) ?_
  refine kR.s rfl rfl ?_
  refine kR.s rfl rfl ?_
  refine kR.bi rfl ?_
  refine kR.jne (by omega) (by omega) (by omega) (by omega) (fun q2 => ?_) (fun q2 => ?_)
  · skip
    show kR 5 140 b140_27 _ _ _ _
    refine kR.s rfl rfl ?_
    refine kR.bi rfl ?_
    refine kR.jeq (by omega) (by omega) (by omega) (by omega) (fun q3 => ?_) (fun q3 => ?_)
    · skip
      exfalso
      omega
    · skip
      refine kR.s rfl rfl ?_
      refine kR.bi rfl ?_
      refine kR.jne (by omega) (by omega) (by omega) (by omega) (fun q4 => ?_) (fun q4 => ?_)
      · skip
        show kR 5 140 b140_57 _ _ _ _
        refine kR.s rfl rfl ?_
        have f5_0 := kqu_01 (khr t e p)
        refine kR.cv (v := .int (Int32.ofInt (kqu (khr t e p)))) rfl rfl (kR.up (c_127 (c := khr t e p) (by omega)) (by decide)) ?_
        refine kR.zeq (by omega) (by omega) (fun q6 => ?_) (fun q6 => ?_)
        · skip
          exfalso
          omega
        · skip
          refine kR.s rfl rfl ?_
          refine kR.s rfl rfl ?_
          refine kR.gi (a := 30) (k := 21) (v := (p : Int)) (by omega) rfl rfl rfl (by decide) (by decide) rfl (by exact hpp) ?_
          refine kR.cv (v := .int (Int32.ofInt (kbq t e (kch t e p) (p + 1)))) (kargs_m hm (by decide) rfl) rfl (kR.up (c_126 hm hX hR he hen (f := p) (by omega) hqu) (by decide)) ?_
          refine kR.s rfl rfl ?_
          refine kR.s rfl rfl ?_
          refine kR.s rfl rfl ?_
          refine kR.gi (a := 30) (k := 19) (v := 1) (by omega) rfl rfl rfl (by decide) (by decide) rfl (by exact hwr) ?_
          refine kR.zne (by decide) (by decide) (fun q8 => ?_) (fun q8 => absurd q8 (by decide))
          show kR 5 140 b140_85 _ _ _ _
          refine kR.s rfl rfl ?_
          refine kR.g rfl ?_
          show kR 5 140 b140_90 _ _ _ _
          refine kR.pi (a := 30) (k := 19) (by omega) rfl rfl rfl (by decide) (by decide) rfl (by first | rfl | assumption | simp [kfit, *]) ?_
          refine kR.s rfl rfl ?_
          refine kR.s rfl rfl ?_
          refine kR.pi (a := 30) (k := 21) (by omega) rfl rfl rfl (by decide) (by decide) rfl rfl ?_
          refine kR.s rfl rfl ?_
          refine kR.s rfl rfl ?_
          refine kR.gi (a := 30) (k := 19) (v := 1) (by omega) rfl rfl rfl (by decide) (by decide) rfl (by rfl) ?_
          refine kR.zeq (by decide) (by decide) (fun q9 => absurd q9 (by decide)) (fun q9 => ?_)
          refine kR.s rfl rfl ?_
          refine kR.g rfl ?_
          show kR 5 140 b140_114 _ _ _ _
          refine kR.c0 (kargs_m hm (by decide) rfl) rfl (kR.up (c_113 (S := ku (ku (kqb S (kuq t e (kch t e p) (p + 1))) 30 19 1) 30 21 (kbq t e (kch t e p) (p + 1))) hm) (by decide)) ?_
          refine kR.g rfl ?_
          show kR 5 140 b140_213 _ _ _ _
          refine kR.ret rfl rfl ?_
          first | rfl | (exfalso; omega)
      · skip
        refine kR.n ?_
        exfalso
        omega
  · skip
    exfalso
    omega
theorem l_140q2 {m : Nat} {E : Nat → kC} {S : Nat → Nat → Int} {sz : Nat × Nat} (hm : 53 ≤ m ∧ m ≤ 57) {t : Nat → Int} {n L : Nat} (hX : kTx t n L) (hR : kRt S t n) {e : Nat} (he : S 30 23 = (e : Int)) (hen : e ≤ n) {p : Nat} (hpp : S 30 21 = (p : Int)) (hpe : p ≤ e) (hqu : kqu (kch t e p) = 1) (hwr : S 30 19 = 0) (hbad : kbq t e (kch t e p) (p + 1) = -1) {v1 v2 : Value} : kR 5 140 (b140_0.drop 3) [.ref 30, v1, v2] [] (sz, hp m E S) (fun r => r = (.inl none, (sz, hp m E (ku (ku (ku (ku (kqb S (kuq t e (kch t e p) (p + 1))) 30 19 1) 30 21 (kbq t e (kch t e p) (p + 1))) 30 27 0) 30 20 4)))) := by
  have hx1 := hX.1
  have hq0 := kqu_h t e p
  have hqo := kqu_o (kch t e p)
  have hcr := khr_c (t := t) (e := e) (p := p) (kch t e p) (by omega) (by omega)
  have hbr := kbq_rng (t := t) (e := e) (q := kch t e p) (e - (p + 1)) (p + 1) rfl
  show kR 5 140 [(5, 0, .aload_n 0), (6, 0, .aload_n 0), (7, 821, .getfield 106), (10, 108, .invokevirtual 112), (13, 0, .istore_n 1), (14, 0, .iload_n 1), (15, 0, .bipush (42)), (17, 27, .if_icmp .ne (10)), (20, 0, .aload_n 0), (21, 138, .invokevirtual 241), (24, 213, .goto (189))] _ _ _ _
  refine kR.s rfl rfl ?_
  refine kR.s rfl rfl ?_
  refine kR.gi (a := 30) (k := 21) (v := (p : Int)) (by omega) rfl rfl rfl (by decide) (by decide) rfl (by exact hpp) ?_
  have f1_0 := khr_r hX hen p
  refine kR.cv (v := .int (Int32.ofInt (khr t e p))) (kargs_m hm (by decide) rfl) rfl (kR.up (c_108t hm hX hR he hen (k := p) (by omega)) (by decide)) ?_
  refine kR.s rfl rfl ?_
  refine kR.s rfl rfl ?_
  refine kR.bi rfl ?_
  refine kR.jne (by omega) (by omega) (by omega) (by omega) (fun q2 => ?_) (fun q2 => ?_)
  · skip
    show kR 5 140 b140_27 _ _ _ _
    refine kR.s rfl rfl ?_
    refine kR.bi rfl ?_
    refine kR.jeq (by omega) (by omega) (by omega) (by omega) (fun q3 => ?_) (fun q3 => ?_)
    · skip
      exfalso
      omega
    · skip
      refine kR.s rfl rfl ?_
      refine kR.bi rfl ?_
      refine kR.jne (by omega) (by omega) (by omega) (by omega) (fun q4 => ?_) (fun q4 => ?_)
      · skip
        show kR 5 140 b140_57 _ _ _ _
        refine kR.s rfl rfl ?_
        have f5_0 := kqu_01 (khr t e p)
        refine kR.cv (v := .int (Int32.ofInt (kqu (khr t e p)))) rfl rfl (kR.up (c_127 (c := khr t e p) (by omega)) (by decide)) ?_
        refine kR.zeq (by omega) (by omega) (fun q6 => ?_) (fun q6 => ?_)
        · skip
          exfalso
          omega
        · skip
          refine kR.s rfl rfl ?_
          refine kR.s rfl rfl ?_
          refine kR.gi (a := 30) (k := 21) (v := (p : Int)) (by omega) rfl rfl rfl (by decide) (by decide) rfl (by exact hpp) ?_
          refine kR.cv (v := .int (Int32.ofInt (kbq t e (kch t e p) (p + 1)))) (kargs_m hm (by decide) rfl) rfl (kR.up (c_126 hm hX hR he hen (f := p) (by omega) hqu) (by decide)) ?_
          refine kR.s rfl rfl ?_
          refine kR.s rfl rfl ?_
          refine kR.s rfl rfl ?_
          refine kR.gi (a := 30) (k := 19) (v := 0) (by omega) rfl rfl rfl (by decide) (by decide) rfl (by exact hwr) ?_
          refine kR.zne (by decide) (by decide) (fun q8 => absurd q8 (by decide)) (fun q8 => ?_)
          refine kR.s rfl rfl ?_
          refine kR.zge (by omega) (by omega) (fun q9 => ?_) (fun q9 => ?_)
          · skip
            show kR 5 140 b140_89 _ _ _ _
            refine kR.s rfl rfl ?_
            refine kR.n ?_
            show kR 5 140 b140_90 _ _ _ _
            refine kR.pi (a := 30) (k := 19) (by omega) rfl rfl rfl (by decide) (by decide) rfl (by first | rfl | assumption | simp [kfit, *]) ?_
            refine kR.s rfl rfl ?_
            refine kR.s rfl rfl ?_
            refine kR.pi (a := 30) (k := 21) (by omega) rfl rfl rfl (by decide) (by decide) rfl rfl ?_
            refine kR.s rfl rfl ?_
            refine kR.s rfl rfl ?_
            refine kR.gi (a := 30) (k := 19) (v := 0) (by omega) rfl rfl rfl (by decide) (by decide) rfl (by rfl) ?_
            refine kR.zeq (by decide) (by decide) (fun q10 => ?_) (fun q10 => absurd q10 (by decide))
            exfalso
            omega
          · skip
            refine kR.n ?_
            show kR 5 140 b140_85 _ _ _ _
            refine kR.s rfl rfl ?_
            refine kR.g rfl ?_
            show kR 5 140 b140_90 _ _ _ _
            refine kR.pi (a := 30) (k := 19) (by omega) rfl rfl rfl (by decide) (by decide) rfl (by first | rfl | assumption | simp [kfit, *]) ?_
            refine kR.s rfl rfl ?_
            refine kR.s rfl rfl ?_
            refine kR.pi (a := 30) (k := 21) (by omega) rfl rfl rfl (by decide) (by decide) rfl rfl ?_
            refine kR.s rfl rfl ?_
            refine kR.s rfl rfl ?_
            refine kR.gi (a := 30) (k := 19) (v := 1) (by omega) rfl rfl rfl (by decide) (by decide) rfl (by rfl) ?_
            refine kR.zeq (by decide) (by decide) (fun q11 => absurd q11 (by decide)) (fun q11 => ?_)
            refine kR.s rfl rfl ?_
            refine kR.g rfl ?_
            show kR 5 140 b140_114 _ _ _ _
            refine kR.c0 (kargs_m hm (by decide) rfl) rfl (kR.up (c_113 (S := ku (ku (kqb S (kuq t e (kch t e p) (p + 1))) 30 19 1) 30 21 (kbq t e (kch t e p) (p + 1))) hm) (by decide)) ?_
            refine kR.g rfl ?_
            show kR 5 140 b140_213 _ _ _ _
            refine kR.ret rfl rfl ?_
            first | rfl | (exfalso; omega)
      · skip
        refine kR.n ?_
        exfalso
        omega
  · skip
    exfalso
    omega
theorem l_140q {m : Nat} {E : Nat → kC} {S : Nat → Nat → Int} {sz : Nat × Nat} (hm : 53 ≤ m ∧ m ≤ 57) {t : Nat → Int} {n L : Nat} (hX : kTx t n L) (hR : kRt S t n) {e : Nat} (he : S 30 23 = (e : Int)) (hen : e ≤ n) {p : Nat} (hpp : S 30 21 = (p : Int)) (hpe : p ≤ e) (hqu : kqu (kch t e p) = 1) (hwr : S 30 19 = 0) (hgd : ¬ kbq t e (kch t e p) (p + 1) = -1) {X4 : Nat → Nat → Int} {v : Int} (k128 : kR 2 128 (blk 128 0) (kent 128 [.ref 30]) [] (sz, hp m E (ku (ku (kqb S (kuq t e (kch t e p) (p + 1))) 30 19 0) 30 21 (kbq t e (kch t e p) (p + 1)))) (fun r => r = (.inl (some (.int (Int32.ofInt v))), (sz, hp m E X4)))) {v1 v2 : Value} : kR 5 140 (b140_0.drop 3) [.ref 30, v1, v2] [] (sz, hp m E S) (fun r => r = (.inl none, (sz, hp m E (ku (ku X4 30 27 v) 30 20 4)))) := by
  have hx1 := hX.1
  have hq0 := kqu_h t e p
  have hqo := kqu_o (kch t e p)
  have hcr := khr_c (t := t) (e := e) (p := p) (kch t e p) (by omega) (by omega)
  have hbr := kbq_rng (t := t) (e := e) (q := kch t e p) (e - (p + 1)) (p + 1) rfl
  show kR 5 140 [(5, 0, .aload_n 0), (6, 0, .aload_n 0), (7, 821, .getfield 106), (10, 108, .invokevirtual 112), (13, 0, .istore_n 1), (14, 0, .iload_n 1), (15, 0, .bipush (42)), (17, 27, .if_icmp .ne (10)), (20, 0, .aload_n 0), (21, 138, .invokevirtual 241), (24, 213, .goto (189))] _ _ _ _
  refine kR.s rfl rfl ?_
  refine kR.s rfl rfl ?_
  refine kR.gi (a := 30) (k := 21) (v := (p : Int)) (by omega) rfl rfl rfl (by decide) (by decide) rfl (by exact hpp) ?_
  have f1_0 := khr_r hX hen p
  refine kR.cv (v := .int (Int32.ofInt (khr t e p))) (kargs_m hm (by decide) rfl) rfl (kR.up (c_108t hm hX hR he hen (k := p) (by omega)) (by decide)) ?_
  refine kR.s rfl rfl ?_
  refine kR.s rfl rfl ?_
  refine kR.bi rfl ?_
  refine kR.jne (by omega) (by omega) (by omega) (by omega) (fun q2 => ?_) (fun q2 => ?_)
  · skip
    show kR 5 140 b140_27 _ _ _ _
    refine kR.s rfl rfl ?_
    refine kR.bi rfl ?_
    refine kR.jeq (by omega) (by omega) (by omega) (by omega) (fun q3 => ?_) (fun q3 => ?_)
    · skip
      exfalso
      omega
    · skip
      refine kR.s rfl rfl ?_
      refine kR.bi rfl ?_
      refine kR.jne (by omega) (by omega) (by omega) (by omega) (fun q4 => ?_) (fun q4 => ?_)
      · skip
        show kR 5 140 b140_57 _ _ _ _
        refine kR.s rfl rfl ?_
        have f5_0 := kqu_01 (khr t e p)
        refine kR.cv (v := .int (Int32.ofInt (kqu (khr t e p)))) rfl rfl (kR.up (c_127 (c := khr t e p) (by omega)) (by decide)) ?_
        refine kR.zeq (by omega) (by omega) (fun q6 => ?_) (fun q6 => ?_)
        · skip
          exfalso
          omega
        · skip
          refine kR.s rfl rfl ?_
          refine kR.s rfl rfl ?_
          refine kR.gi (a := 30) (k := 21) (v := (p : Int)) (by omega) rfl rfl rfl (by decide) (by decide) rfl (by exact hpp) ?_
          refine kR.cv (v := .int (Int32.ofInt (kbq t e (kch t e p) (p + 1)))) (kargs_m hm (by decide) rfl) rfl (kR.up (c_126 hm hX hR he hen (f := p) (by omega) hqu) (by decide)) ?_
          refine kR.s rfl rfl ?_
          refine kR.s rfl rfl ?_
          refine kR.s rfl rfl ?_
          refine kR.gi (a := 30) (k := 19) (v := 0) (by omega) rfl rfl rfl (by decide) (by decide) rfl (by exact hwr) ?_
          refine kR.zne (by decide) (by decide) (fun q8 => absurd q8 (by decide)) (fun q8 => ?_)
          refine kR.s rfl rfl ?_
          refine kR.zge (by omega) (by omega) (fun q9 => ?_) (fun q9 => ?_)
          · skip
            show kR 5 140 b140_89 _ _ _ _
            refine kR.s rfl rfl ?_
            refine kR.n ?_
            show kR 5 140 b140_90 _ _ _ _
            refine kR.pi (a := 30) (k := 19) (by omega) rfl rfl rfl (by decide) (by decide) rfl (by first | rfl | assumption | simp [kfit, *]) ?_
            refine kR.s rfl rfl ?_
            refine kR.s rfl rfl ?_
            refine kR.pi (a := 30) (k := 21) (by omega) rfl rfl rfl (by decide) (by decide) rfl rfl ?_
            refine kR.s rfl rfl ?_
            refine kR.s rfl rfl ?_
            refine kR.gi (a := 30) (k := 19) (v := 0) (by omega) rfl rfl rfl (by decide) (by decide) rfl (by rfl) ?_
            refine kR.zeq (by decide) (by decide) (fun q10 => ?_) (fun q10 => absurd q10 (by decide))
            show kR 5 140 b140_110 _ _ _ _
            refine kR.s rfl rfl ?_
            refine kR.cv (v := .int (Int32.ofInt (v))) (kargs_m hm (by decide) rfl) rfl (kR.up (k128) (by decide)) ?_
            refine kR.n ?_
            show kR 5 140 b140_114 _ _ _ _
            refine kR.c0 (kargs_m hm (by decide) rfl) rfl (kR.up (c_113 (S := X4) hm) (by decide)) ?_
            refine kR.g rfl ?_
            show kR 5 140 b140_213 _ _ _ _
            refine kR.ret rfl rfl ?_
            rfl
          · skip
            refine kR.n ?_
            exfalso
            omega
      · skip
        refine kR.n ?_
        exfalso
        omega
  · skip
    exfalso
    omega
theorem l_140p1 {m : Nat} {E : Nat → kC} {S : Nat → Nat → Int} {sz : Nat × Nat} (hm : 53 ≤ m ∧ m ≤ 57) {t : Nat → Int} {n L : Nat} (hX : kTx t n L) (hR : kRt S t n) {e : Nat} (he : S 30 23 = (e : Int)) (hen : e ≤ n) {p : Nat} (hpp : S 30 21 = (p : Int)) (hpe : p ≤ e) (n42 : ¬ kch t e p = 42) (n91 : ¬ kch t e p = 91) (n123 : ¬ kch t e p = 123) (nqu : kqu (kch t e p) = 0) {o : Nat} (ho : S 30 29 = (o : Int)) (hol : o ≤ 8) (hq43 : ∀ j, j < 9 → -2147483648 ≤ S 43 j ∧ S 43 j < 2147483648) (hwr : S 30 19 = 1)  {v1 v2 : Value} : kR 5 140 (b140_0.drop 3) [.ref 30, v1, v2] [] (sz, hp m E S) (fun r => ∃ z : Nat, r = (.inl none, (sz, hp m E (ku (ku (ku (ku S 30 21 (z : Int)) 30 19 1) 30 27 0) 30 20 4)))) := by
  have hx1 := hX.1
  have hq0 := kqu_h t e p
  have h1 := khr_c (t := t) (e := e) (p := p) 42 (by decide) (by decide)
  have h2 := khr_c (t := t) (e := e) (p := p) 91 (by decide) (by decide)
  have h3 := khr_c (t := t) (e := e) (p := p) 123 (by decide) (by decide)
  have hst : p ≤ kst t e (kins S o) p ∧ (p ≤ e → kst t e (kins S o) p ≤ e) := kw_rng
  have hki : kins S o = 0 ∨ kins S o = 1 := by have z := kins_o S o; omega
  show kR 5 140 [(5, 0, .aload_n 0), (6, 0, .aload_n 0), (7, 821, .getfield 106), (10, 108, .invokevirtual 112), (13, 0, .istore_n 1), (14, 0, .iload_n 1), (15, 0, .bipush (42)), (17, 27, .if_icmp .ne (10)), (20, 0, .aload_n 0), (21, 138, .invokevirtual 241), (24, 213, .goto (189))] _ _ _ _
  refine kR.s rfl rfl ?_
  refine kR.s rfl rfl ?_
  refine kR.gi (a := 30) (k := 21) (v := (p : Int)) (by omega) rfl rfl rfl (by decide) (by decide) rfl (by exact hpp) ?_
  have f1_0 := khr_r hX hen p
  refine kR.cv (v := .int (Int32.ofInt (khr t e p))) (kargs_m hm (by decide) rfl) rfl (kR.up (c_108t hm hX hR he hen (k := p) (by omega)) (by decide)) ?_
  refine kR.s rfl rfl ?_
  refine kR.s rfl rfl ?_
  refine kR.bi rfl ?_
  refine kR.jne (by omega) (by omega) (by omega) (by omega) (fun q2 => ?_) (fun q2 => ?_)
  · skip
    show kR 5 140 b140_27 _ _ _ _
    refine kR.s rfl rfl ?_
    refine kR.bi rfl ?_
    refine kR.jeq (by omega) (by omega) (by omega) (by omega) (fun q3 => ?_) (fun q3 => ?_)
    · skip
      exfalso
      omega
    · skip
      refine kR.s rfl rfl ?_
      refine kR.bi rfl ?_
      refine kR.jne (by omega) (by omega) (by omega) (by omega) (fun q4 => ?_) (fun q4 => ?_)
      · skip
        show kR 5 140 b140_57 _ _ _ _
        refine kR.s rfl rfl ?_
        have f5_0 := kqu_01 (khr t e p)
        refine kR.cv (v := .int (Int32.ofInt (kqu (khr t e p)))) rfl rfl (kR.up (c_127 (c := khr t e p) (by omega)) (by decide)) ?_
        refine kR.zeq (by omega) (by omega) (fun q6 => ?_) (fun q6 => ?_)
        · skip
          show kR 5 140 b140_120 _ _ _ _
          refine kR.s rfl rfl ?_
          refine kR.gi (a := 30) (k := 21) (v := (p : Int)) (by omega) rfl rfl rfl (by decide) (by decide) rfl (by exact hpp) ?_
          refine kR.s rfl rfl ?_
          refine kR.s rfl rfl ?_
          refine kR.s rfl rfl ?_
          refine kR.s rfl rfl ?_
          have f7_0 := kpl_01 t e p
          refine kR.cv (v := .int (Int32.ofInt (kpl t e p))) (kargs_m hm (by decide) rfl) rfl (kR.up (c_119 hm hX hR he hen (k := p) (by omega)) (by decide)) ?_
          refine kR.zeq (by omega) (by omega) (fun q8 => ?_) (fun q8 => ?_)
          · skip
            show kR 5 140 b140_146 _ _ _ _
            refine kR.s rfl rfl ?_
            refine kR.n ?_
            show kR 5 140 b140_147 _ _ _ _
            refine kR.pi (a := 30) (k := 21) (by omega) rfl rfl rfl (by decide) (by decide) rfl rfl ?_
            refine kR.s rfl rfl ?_
            refine kR.s rfl rfl ?_
            refine kR.gi (a := 30) (k := 19) (v := 1) (by omega) rfl rfl rfl (by decide) (by decide) rfl (by exact hwr) ?_
            refine kR.zne (by decide) (by decide) (fun q9 => ?_) (fun q9 => absurd q9 (by decide))
            show kR 5 140 b140_181 _ _ _ _
            refine kR.s rfl rfl ?_
            refine kR.g rfl ?_
            show kR 5 140 b140_186 _ _ _ _
            refine kR.pi (a := 30) (k := 19) (by omega) rfl rfl rfl (by decide) (by decide) rfl (by first | rfl | assumption | simp [kfit, *]) ?_
            refine kR.s rfl rfl ?_
            refine kR.s rfl rfl ?_
            refine kR.gi (a := 30) (k := 19) (v := 1) (by omega) rfl rfl rfl (by decide) (by decide) rfl (by rfl) ?_
            refine kR.zeq (by decide) (by decide) (fun q10 => absurd q10 (by decide)) (fun q10 => ?_)
            refine kR.s rfl rfl ?_
            refine kR.g rfl ?_
            show kR 5 140 b140_210 _ _ _ _
            refine kR.c0 (kargs_m hm (by decide) rfl) rfl (kR.up (c_113 (S := ku (ku S 30 21 (p : Int)) 30 19 1) hm) (by decide)) ?_
            refine kR.n ?_
            show kR 5 140 b140_213 _ _ _ _
            refine kR.ret rfl rfl ?_
            first | exact ⟨_, rfl⟩ | (exfalso; omega)
          · skip
            refine kR.s rfl rfl ?_
            refine kR.s rfl rfl ?_
            refine kR.s rfl rfl ?_
            refine kR.cv (v := .int (Int32.ofInt (kins S o))) (kargs_m hm (by decide) rfl) rfl (kR.up (c_137 hm ho hol hq43) (by decide)) ?_
            refine kR.cv (v := .int (Int32.ofInt ((kst t e (kins S o) p : Int)))) (kargs_m hm (by decide) rfl) rfl (kR.up (c_121 hm hX hR he hen (f := p) (by omega) hki) (by decide)) ?_
            refine kR.g rfl ?_
            show kR 5 140 b140_147 _ _ _ _
            refine kR.pi (a := 30) (k := 21) (by omega) rfl rfl rfl (by decide) (by decide) rfl rfl ?_
            refine kR.s rfl rfl ?_
            refine kR.s rfl rfl ?_
            refine kR.gi (a := 30) (k := 19) (v := 1) (by omega) rfl rfl rfl (by decide) (by decide) rfl (by exact hwr) ?_
            refine kR.zne (by decide) (by decide) (fun q14 => ?_) (fun q14 => absurd q14 (by decide))
            show kR 5 140 b140_181 _ _ _ _
            refine kR.s rfl rfl ?_
            refine kR.g rfl ?_
            show kR 5 140 b140_186 _ _ _ _
            refine kR.pi (a := 30) (k := 19) (by omega) rfl rfl rfl (by decide) (by decide) rfl (by first | rfl | assumption | simp [kfit, *]) ?_
            refine kR.s rfl rfl ?_
            refine kR.s rfl rfl ?_
            refine kR.gi (a := 30) (k := 19) (v := 1) (by omega) rfl rfl rfl (by decide) (by decide) rfl (by rfl) ?_
            refine kR.zeq (by decide) (by decide) (fun q15 => absurd q15 (by decide)) (fun q15 => ?_)
            refine kR.s rfl rfl ?_
            refine kR.g rfl ?_
            show kR 5 140 b140_210 _ _ _ _
            refine kR.c0 (kargs_m hm (by decide) rfl) rfl (kR.up (c_113 (S := ku (ku S 30 21 (kst t e (kins S o) p : Int)) 30 19 1) hm) (by decide)) ?_
            refine kR.n ?_
            show kR 5 140 b140_213 _ _ _ _
            refine kR.ret rfl rfl ?_
            first | exact ⟨_, rfl⟩ | (exfalso; omega)
        · skip
          exfalso
          omega
      · skip
        refine kR.n ?_
        exfalso
        omega
  · skip
    exfalso
    omega
theorem l_140p2 {m : Nat} {E : Nat → kC} {S : Nat → Nat → Int} {sz : Nat × Nat} (hm : 53 ≤ m ∧ m ≤ 57) {t : Nat → Int} {n L : Nat} (hX : kTx t n L) (hR : kRt S t n) {e : Nat} (he : S 30 23 = (e : Int)) (hen : e ≤ n) {p : Nat} (hpp : S 30 21 = (p : Int)) (hpe : p ≤ e) (n42 : ¬ kch t e p = 42) (n91 : ¬ kch t e p = 91) (n123 : ¬ kch t e p = 123) (nqu : kqu (kch t e p) = 0) {o : Nat} (ho : S 30 29 = (o : Int)) (hol : o ≤ 8) (hq43 : ∀ j, j < 9 → -2147483648 ≤ S 43 j ∧ S 43 j < 2147483648) (hwr : S 30 19 = 0) (hbad : kpl t e p = 0 ∨ (kst t e (kins S o) p) = p ∨ kcol t e (kins S o) (kst t e (kins S o) p) = 1) {v1 v2 : Value} : kR 5 140 (b140_0.drop 3) [.ref 30, v1, v2] [] (sz, hp m E S) (fun r => ∃ z : Nat, r = (.inl none, (sz, hp m E (ku (ku (ku (ku S 30 21 (z : Int)) 30 19 1) 30 27 0) 30 20 4)))) := by
  have hx1 := hX.1
  have hq0 := kqu_h t e p
  have h1 := khr_c (t := t) (e := e) (p := p) 42 (by decide) (by decide)
  have h2 := khr_c (t := t) (e := e) (p := p) 91 (by decide) (by decide)
  have h3 := khr_c (t := t) (e := e) (p := p) 123 (by decide) (by decide)
  have hst : p ≤ kst t e (kins S o) p ∧ (p ≤ e → kst t e (kins S o) p ≤ e) := kw_rng
  have hki : kins S o = 0 ∨ kins S o = 1 := by have z := kins_o S o; omega
  show kR 5 140 [(5, 0, .aload_n 0), (6, 0, .aload_n 0), (7, 821, .getfield 106), (10, 108, .invokevirtual 112), (13, 0, .istore_n 1), (14, 0, .iload_n 1), (15, 0, .bipush (42)), (17, 27, .if_icmp .ne (10)), (20, 0, .aload_n 0), (21, 138, .invokevirtual 241), (24, 213, .goto (189))] _ _ _ _
  refine kR.s rfl rfl ?_
  refine kR.s rfl rfl ?_
  refine kR.gi (a := 30) (k := 21) (v := (p : Int)) (by omega) rfl rfl rfl (by decide) (by decide) rfl (by exact hpp) ?_
  have f1_0 := khr_r hX hen p
  refine kR.cv (v := .int (Int32.ofInt (khr t e p))) (kargs_m hm (by decide) rfl) rfl (kR.up (c_108t hm hX hR he hen (k := p) (by omega)) (by decide)) ?_
  refine kR.s rfl rfl ?_
  refine kR.s rfl rfl ?_
  refine kR.bi rfl ?_
  refine kR.jne (by omega) (by omega) (by omega) (by omega) (fun q2 => ?_) (fun q2 => ?_)
  · skip
    show kR 5 140 b140_27 _ _ _ _
    refine kR.s rfl rfl ?_
    refine kR.bi rfl ?_
    refine kR.jeq (by omega) (by omega) (by omega) (by omega) (fun q3 => ?_) (fun q3 => ?_)
    · skip
      exfalso
      omega
    · skip
      refine kR.s rfl rfl ?_
      refine kR.bi rfl ?_
      refine kR.jne (by omega) (by omega) (by omega) (by omega) (fun q4 => ?_) (fun q4 => ?_)
      · skip
        show kR 5 140 b140_57 _ _ _ _
        refine kR.s rfl rfl ?_
        have f5_0 := kqu_01 (khr t e p)
        refine kR.cv (v := .int (Int32.ofInt (kqu (khr t e p)))) rfl rfl (kR.up (c_127 (c := khr t e p) (by omega)) (by decide)) ?_
        refine kR.zeq (by omega) (by omega) (fun q6 => ?_) (fun q6 => ?_)
        · skip
          show kR 5 140 b140_120 _ _ _ _
          refine kR.s rfl rfl ?_
          refine kR.gi (a := 30) (k := 21) (v := (p : Int)) (by omega) rfl rfl rfl (by decide) (by decide) rfl (by exact hpp) ?_
          refine kR.s rfl rfl ?_
          refine kR.s rfl rfl ?_
          refine kR.s rfl rfl ?_
          refine kR.s rfl rfl ?_
          have f7_0 := kpl_01 t e p
          refine kR.cv (v := .int (Int32.ofInt (kpl t e p))) (kargs_m hm (by decide) rfl) rfl (kR.up (c_119 hm hX hR he hen (k := p) (by omega)) (by decide)) ?_
          refine kR.zeq (by omega) (by omega) (fun q8 => ?_) (fun q8 => ?_)
          · skip
            show kR 5 140 b140_146 _ _ _ _
            refine kR.s rfl rfl ?_
            refine kR.n ?_
            show kR 5 140 b140_147 _ _ _ _
            refine kR.pi (a := 30) (k := 21) (by omega) rfl rfl rfl (by decide) (by decide) rfl rfl ?_
            refine kR.s rfl rfl ?_
            refine kR.s rfl rfl ?_
            refine kR.gi (a := 30) (k := 19) (v := 0) (by omega) rfl rfl rfl (by decide) (by decide) rfl (by exact hwr) ?_
            refine kR.zne (by decide) (by decide) (fun q9 => absurd q9 (by decide)) (fun q9 => ?_)
            refine kR.s rfl rfl ?_
            refine kR.gi (a := 30) (k := 21) (v := (p : Int)) (by omega) rfl rfl rfl (by decide) (by decide) rfl (by rfl) ?_
            refine kR.s rfl rfl ?_
            refine kR.jeq (by omega) (by omega) (by omega) (by omega) (fun q10 => ?_) (fun q10 => ?_)
            · skip
              show kR 5 140 b140_181 _ _ _ _
              refine kR.s rfl rfl ?_
              refine kR.g rfl ?_
              show kR 5 140 b140_186 _ _ _ _
              refine kR.pi (a := 30) (k := 19) (by omega) rfl rfl rfl (by decide) (by decide) rfl (by first | rfl | assumption | simp [kfit, *]) ?_
              refine kR.s rfl rfl ?_
              refine kR.s rfl rfl ?_
              refine kR.gi (a := 30) (k := 19) (v := 1) (by omega) rfl rfl rfl (by decide) (by decide) rfl (by rfl) ?_
              refine kR.zeq (by decide) (by decide) (fun q11 => absurd q11 (by decide)) (fun q11 => ?_)
              refine kR.s rfl rfl ?_
              refine kR.g rfl ?_
              show kR 5 140 b140_210 _ _ _ _
              refine kR.c0 (kargs_m hm (by decide) rfl) rfl (kR.up (c_113 (S := ku (ku S 30 21 (p : Int)) 30 19 1) hm) (by decide)) ?_
              refine kR.n ?_
              show kR 5 140 b140_213 _ _ _ _
              refine kR.ret rfl rfl ?_
              first | exact ⟨_, rfl⟩ | (exfalso; omega)
            · skip
              refine kR.s rfl rfl ?_
              refine kR.s rfl rfl ?_
              refine kR.gi (a := 30) (k := 21) (v := (p : Int)) (by omega) rfl rfl rfl (by decide) (by decide) rfl (by rfl) ?_
              refine kR.s rfl rfl ?_
              refine kR.cv (v := .int (Int32.ofInt (kins S o))) (kargs_m hm (by decide) rfl) rfl (kR.up (c_137 (S := ku S 30 21 (p : Int)) hm ho hol hq43) (by decide)) ?_
              have f14_0 := kcol_01 t e (kins S o) p
              refine kR.cv (v := .int (Int32.ofInt (kcol t e (kins S o) p))) (kargs_m hm (by decide) rfl) rfl (kR.up (c_120 (S := ku S 30 21 (p : Int)) hm hX hR he hen (k := p) (by omega) hki) (by decide)) ?_
              refine kR.zeq (by omega) (by omega) (fun q15 => ?_) (fun q15 => ?_)
              · skip
                show kR 5 140 b140_185 _ _ _ _
                refine kR.s rfl rfl ?_
                refine kR.n ?_
                show kR 5 140 b140_186 _ _ _ _
                refine kR.pi (a := 30) (k := 19) (by omega) rfl rfl rfl (by decide) (by decide) rfl (by first | rfl | assumption | simp [kfit, *]) ?_
                refine kR.s rfl rfl ?_
                refine kR.s rfl rfl ?_
                refine kR.gi (a := 30) (k := 19) (v := 0) (by omega) rfl rfl rfl (by decide) (by decide) rfl (by rfl) ?_
                refine kR.zeq (by decide) (by decide) (fun q16 => ?_) (fun q16 => absurd q16 (by decide))
                exfalso
                omega
              · skip
                refine kR.n ?_
                show kR 5 140 b140_181 _ _ _ _
                refine kR.s rfl rfl ?_
                refine kR.g rfl ?_
                show kR 5 140 b140_186 _ _ _ _
                refine kR.pi (a := 30) (k := 19) (by omega) rfl rfl rfl (by decide) (by decide) rfl (by first | rfl | assumption | simp [kfit, *]) ?_
                refine kR.s rfl rfl ?_
                refine kR.s rfl rfl ?_
                refine kR.gi (a := 30) (k := 19) (v := 1) (by omega) rfl rfl rfl (by decide) (by decide) rfl (by rfl) ?_
                refine kR.zeq (by decide) (by decide) (fun q17 => absurd q17 (by decide)) (fun q17 => ?_)
                refine kR.s rfl rfl ?_
                refine kR.g rfl ?_
                show kR 5 140 b140_210 _ _ _ _
                refine kR.c0 (kargs_m hm (by decide) rfl) rfl (kR.up (c_113 (S := ku (ku S 30 21 (p : Int)) 30 19 1) hm) (by decide)) ?_
                refine kR.n ?_
                show kR 5 140 b140_213 _ _ _ _
                refine kR.ret rfl rfl ?_
                first | exact ⟨_, rfl⟩ | (exfalso; omega)
          · skip
            refine kR.s rfl rfl ?_
            refine kR.s rfl rfl ?_
            refine kR.s rfl rfl ?_
            refine kR.cv (v := .int (Int32.ofInt (kins S o))) (kargs_m hm (by decide) rfl) rfl (kR.up (c_137 hm ho hol hq43) (by decide)) ?_
            refine kR.cv (v := .int (Int32.ofInt ((kst t e (kins S o) p : Int)))) (kargs_m hm (by decide) rfl) rfl (kR.up (c_121 hm hX hR he hen (f := p) (by omega) hki) (by decide)) ?_
            refine kR.g rfl ?_
            show kR 5 140 b140_147 _ _ _ _
            refine kR.pi (a := 30) (k := 21) (by omega) rfl rfl rfl (by decide) (by decide) rfl rfl ?_
            refine kR.s rfl rfl ?_
            refine kR.s rfl rfl ?_
            refine kR.gi (a := 30) (k := 19) (v := 0) (by omega) rfl rfl rfl (by decide) (by decide) rfl (by exact hwr) ?_
            refine kR.zne (by decide) (by decide) (fun q21 => absurd q21 (by decide)) (fun q21 => ?_)
            refine kR.s rfl rfl ?_
            refine kR.gi (a := 30) (k := 21) (v := (kst t e (kins S o) p : Int)) (by omega) rfl rfl rfl (by decide) (by decide) rfl (by rfl) ?_
            refine kR.s rfl rfl ?_
            refine kR.jeq (by omega) (by omega) (by omega) (by omega) (fun q22 => ?_) (fun q22 => ?_)
            · skip
              show kR 5 140 b140_181 _ _ _ _
              refine kR.s rfl rfl ?_
              refine kR.g rfl ?_
              show kR 5 140 b140_186 _ _ _ _
              refine kR.pi (a := 30) (k := 19) (by omega) rfl rfl rfl (by decide) (by decide) rfl (by first | rfl | assumption | simp [kfit, *]) ?_
              refine kR.s rfl rfl ?_
              refine kR.s rfl rfl ?_
              refine kR.gi (a := 30) (k := 19) (v := 1) (by omega) rfl rfl rfl (by decide) (by decide) rfl (by rfl) ?_
              refine kR.zeq (by decide) (by decide) (fun q23 => absurd q23 (by decide)) (fun q23 => ?_)
              refine kR.s rfl rfl ?_
              refine kR.g rfl ?_
              show kR 5 140 b140_210 _ _ _ _
              refine kR.c0 (kargs_m hm (by decide) rfl) rfl (kR.up (c_113 (S := ku (ku S 30 21 (kst t e (kins S o) p : Int)) 30 19 1) hm) (by decide)) ?_
              refine kR.n ?_
              show kR 5 140 b140_213 _ _ _ _
              refine kR.ret rfl rfl ?_
              first | exact ⟨_, rfl⟩ | (exfalso; omega)
            · skip
              refine kR.s rfl rfl ?_
              refine kR.s rfl rfl ?_
              refine kR.gi (a := 30) (k := 21) (v := (kst t e (kins S o) p : Int)) (by omega) rfl rfl rfl (by decide) (by decide) rfl (by rfl) ?_
              refine kR.s rfl rfl ?_
              refine kR.cv (v := .int (Int32.ofInt (kins S o))) (kargs_m hm (by decide) rfl) rfl (kR.up (c_137 (S := ku S 30 21 (kst t e (kins S o) p : Int)) hm ho hol hq43) (by decide)) ?_
              have f26_0 := kcol_01 t e (kins S o) (kst t e (kins S o) p)
              refine kR.cv (v := .int (Int32.ofInt (kcol t e (kins S o) (kst t e (kins S o) p)))) (kargs_m hm (by decide) rfl) rfl (kR.up (c_120 (S := ku S 30 21 (kst t e (kins S o) p : Int)) hm hX hR he hen (k := kst t e (kins S o) p) (by omega) hki) (by decide)) ?_
              refine kR.zeq (by omega) (by omega) (fun q27 => ?_) (fun q27 => ?_)
              · skip
                show kR 5 140 b140_185 _ _ _ _
                refine kR.s rfl rfl ?_
                refine kR.n ?_
                show kR 5 140 b140_186 _ _ _ _
                refine kR.pi (a := 30) (k := 19) (by omega) rfl rfl rfl (by decide) (by decide) rfl (by first | rfl | assumption | simp [kfit, *]) ?_
                refine kR.s rfl rfl ?_
                refine kR.s rfl rfl ?_
                refine kR.gi (a := 30) (k := 19) (v := 0) (by omega) rfl rfl rfl (by decide) (by decide) rfl (by rfl) ?_
                refine kR.zeq (by decide) (by decide) (fun q28 => ?_) (fun q28 => absurd q28 (by decide))
                exfalso
                omega
              · skip
                refine kR.n ?_
                show kR 5 140 b140_181 _ _ _ _
                refine kR.s rfl rfl ?_
                refine kR.g rfl ?_
                show kR 5 140 b140_186 _ _ _ _
                refine kR.pi (a := 30) (k := 19) (by omega) rfl rfl rfl (by decide) (by decide) rfl (by first | rfl | assumption | simp [kfit, *]) ?_
                refine kR.s rfl rfl ?_
                refine kR.s rfl rfl ?_
                refine kR.gi (a := 30) (k := 19) (v := 1) (by omega) rfl rfl rfl (by decide) (by decide) rfl (by rfl) ?_
                refine kR.zeq (by decide) (by decide) (fun q29 => absurd q29 (by decide)) (fun q29 => ?_)
                refine kR.s rfl rfl ?_
                refine kR.g rfl ?_
                show kR 5 140 b140_210 _ _ _ _
                refine kR.c0 (kargs_m hm (by decide) rfl) rfl (kR.up (c_113 (S := ku (ku S 30 21 (kst t e (kins S o) p : Int)) 30 19 1) hm) (by decide)) ?_
                refine kR.n ?_
                show kR 5 140 b140_213 _ _ _ _
                refine kR.ret rfl rfl ?_
                first | exact ⟨_, rfl⟩ | (exfalso; omega)
        · skip
          exfalso
          omega
      · skip
        refine kR.n ?_
        exfalso
        omega
  · skip
    exfalso
    omega
theorem l_140p {m : Nat} {E : Nat → kC} {S : Nat → Nat → Int} {sz : Nat × Nat} (hm : 53 ≤ m ∧ m ≤ 57) {t : Nat → Int} {n L : Nat} (hX : kTx t n L) (hR : kRt S t n) {e : Nat} (he : S 30 23 = (e : Int)) (hen : e ≤ n) {p : Nat} (hpp : S 30 21 = (p : Int)) (hpe : p ≤ e) (n42 : ¬ kch t e p = 42) (n91 : ¬ kch t e p = 91) (n123 : ¬ kch t e p = 123) (nqu : kqu (kch t e p) = 0) {o : Nat} (ho : S 30 29 = (o : Int)) (hol : o ≤ 8) (hq43 : ∀ j, j < 9 → -2147483648 ≤ S 43 j ∧ S 43 j < 2147483648) (hwr : S 30 19 = 0) (hp1 : kpl t e p = 1) (hp2 : ¬ (kst t e (kins S o) p) = p) (hp3 : kcol t e (kins S o) (kst t e (kins S o) p) = 0) {X4 : Nat → Nat → Int} {v : Int} (k125 : kR 3 125 (blk 125 0) (kent 125 [.ref 30, .int (Int32.ofInt (p : Int)), .int (Int32.ofInt ((kst t e (kins S o) p) : Int))]) [] (sz, hp m E (ku (ku S 30 21 ((kst t e (kins S o) p) : Int)) 30 19 0)) (fun r => r = (.inl (some (.int (Int32.ofInt v))), (sz, hp m E X4)))) {v1 v2 : Value} : kR 5 140 (b140_0.drop 3) [.ref 30, v1, v2] [] (sz, hp m E S) (fun r => r = (.inl none, (sz, hp m E (ku (ku X4 30 27 v) 30 20 4)))) := by
  have hx1 := hX.1
  have hq0 := kqu_h t e p
  have h1 := khr_c (t := t) (e := e) (p := p) 42 (by decide) (by decide)
  have h2 := khr_c (t := t) (e := e) (p := p) 91 (by decide) (by decide)
  have h3 := khr_c (t := t) (e := e) (p := p) 123 (by decide) (by decide)
  have hst : p ≤ kst t e (kins S o) p ∧ (p ≤ e → kst t e (kins S o) p ≤ e) := kw_rng
  have hki : kins S o = 0 ∨ kins S o = 1 := by have z := kins_o S o; omega
  show kR 5 140 [(5, 0, .aload_n 0), (6, 0, .aload_n 0), (7, 821, .getfield 106), (10, 108, .invokevirtual 112), (13, 0, .istore_n 1), (14, 0, .iload_n 1), (15, 0, .bipush (42)), (17, 27, .if_icmp .ne (10)), (20, 0, .aload_n 0), (21, 138, .invokevirtual 241), (24, 213, .goto (189))] _ _ _ _
  refine kR.s rfl rfl ?_
  refine kR.s rfl rfl ?_
  refine kR.gi (a := 30) (k := 21) (v := (p : Int)) (by omega) rfl rfl rfl (by decide) (by decide) rfl (by exact hpp) ?_
  have f1_0 := khr_r hX hen p
  refine kR.cv (v := .int (Int32.ofInt (khr t e p))) (kargs_m hm (by decide) rfl) rfl (kR.up (c_108t hm hX hR he hen (k := p) (by omega)) (by decide)) ?_
  refine kR.s rfl rfl ?_
  refine kR.s rfl rfl ?_
  refine kR.bi rfl ?_
  refine kR.jne (by omega) (by omega) (by omega) (by omega) (fun q2 => ?_) (fun q2 => ?_)
  · skip
    show kR 5 140 b140_27 _ _ _ _
    refine kR.s rfl rfl ?_
    refine kR.bi rfl ?_
    refine kR.jeq (by omega) (by omega) (by omega) (by omega) (fun q3 => ?_) (fun q3 => ?_)
    · skip
      exfalso
      omega
    · skip
      refine kR.s rfl rfl ?_
      refine kR.bi rfl ?_
      refine kR.jne (by omega) (by omega) (by omega) (by omega) (fun q4 => ?_) (fun q4 => ?_)
      · skip
        show kR 5 140 b140_57 _ _ _ _
        refine kR.s rfl rfl ?_
        have f5_0 := kqu_01 (khr t e p)
        refine kR.cv (v := .int (Int32.ofInt (kqu (khr t e p)))) rfl rfl (kR.up (c_127 (c := khr t e p) (by omega)) (by decide)) ?_
        refine kR.zeq (by omega) (by omega) (fun q6 => ?_) (fun q6 => ?_)
        · skip
          show kR 5 140 b140_120 _ _ _ _
          refine kR.s rfl rfl ?_
          refine kR.gi (a := 30) (k := 21) (v := (p : Int)) (by omega) rfl rfl rfl (by decide) (by decide) rfl (by exact hpp) ?_
          refine kR.s rfl rfl ?_
          refine kR.s rfl rfl ?_
          refine kR.s rfl rfl ?_
          refine kR.s rfl rfl ?_
          have f7_0 := kpl_01 t e p
          refine kR.cv (v := .int (Int32.ofInt (kpl t e p))) (kargs_m hm (by decide) rfl) rfl (kR.up (c_119 hm hX hR he hen (k := p) (by omega)) (by decide)) ?_
          refine kR.zeq (by omega) (by omega) (fun q8 => ?_) (fun q8 => ?_)
          · skip
            exfalso
            omega
          · skip
            refine kR.s rfl rfl ?_
            refine kR.s rfl rfl ?_
            refine kR.s rfl rfl ?_
            refine kR.cv (v := .int (Int32.ofInt (kins S o))) (kargs_m hm (by decide) rfl) rfl (kR.up (c_137 hm ho hol hq43) (by decide)) ?_
            refine kR.cv (v := .int (Int32.ofInt ((kst t e (kins S o) p : Int)))) (kargs_m hm (by decide) rfl) rfl (kR.up (c_121 hm hX hR he hen (f := p) (by omega) hki) (by decide)) ?_
            refine kR.g rfl ?_
            show kR 5 140 b140_147 _ _ _ _
            refine kR.pi (a := 30) (k := 21) (by omega) rfl rfl rfl (by decide) (by decide) rfl rfl ?_
            refine kR.s rfl rfl ?_
            refine kR.s rfl rfl ?_
            refine kR.gi (a := 30) (k := 19) (v := 0) (by omega) rfl rfl rfl (by decide) (by decide) rfl (by exact hwr) ?_
            refine kR.zne (by decide) (by decide) (fun q11 => absurd q11 (by decide)) (fun q11 => ?_)
            refine kR.s rfl rfl ?_
            refine kR.gi (a := 30) (k := 21) (v := (kst t e (kins S o) p : Int)) (by omega) rfl rfl rfl (by decide) (by decide) rfl (by rfl) ?_
            refine kR.s rfl rfl ?_
            refine kR.jeq (by omega) (by omega) (by omega) (by omega) (fun q12 => ?_) (fun q12 => ?_)
            · skip
              exfalso
              omega
            · skip
              refine kR.s rfl rfl ?_
              refine kR.s rfl rfl ?_
              refine kR.gi (a := 30) (k := 21) (v := (kst t e (kins S o) p : Int)) (by omega) rfl rfl rfl (by decide) (by decide) rfl (by rfl) ?_
              refine kR.s rfl rfl ?_
              refine kR.cv (v := .int (Int32.ofInt (kins S o))) (kargs_m hm (by decide) rfl) rfl (kR.up (c_137 (S := ku S 30 21 (kst t e (kins S o) p : Int)) hm ho hol hq43) (by decide)) ?_
              have f14_0 := kcol_01 t e (kins S o) (kst t e (kins S o) p)
              refine kR.cv (v := .int (Int32.ofInt (kcol t e (kins S o) (kst t e (kins S o) p)))) (kargs_m hm (by decide) rfl) rfl (kR.up (c_120 (S := ku S 30 21 (kst t e (kins S o) p : Int)) hm hX hR he hen (k := kst t e (kins S o) p) (by omega) hki) (by decide)) ?_
              refine kR.zeq (by omega) (by omega) (fun q15 => ?_) (fun q15 => ?_)
              · skip
                show kR 5 140 b140_185 _ _ _ _
                refine kR.s rfl rfl ?_
                refine kR.n ?_
                show kR 5 140 b140_186 _ _ _ _
                refine kR.pi (a := 30) (k := 19) (by omega) rfl rfl rfl (by decide) (by decide) rfl (by first | rfl | assumption | simp [kfit, *]) ?_
                refine kR.s rfl rfl ?_
                refine kR.s rfl rfl ?_
                refine kR.gi (a := 30) (k := 19) (v := 0) (by omega) rfl rfl rfl (by decide) (by decide) rfl (by rfl) ?_
                refine kR.zeq (by decide) (by decide) (fun q16 => ?_) (fun q16 => absurd q16 (by decide))
                show kR 5 140 b140_201 _ _ _ _
                refine kR.s rfl rfl ?_
                refine kR.s rfl rfl ?_
                refine kR.s rfl rfl ?_
                refine kR.gi (a := 30) (k := 21) (v := (kst t e (kins S o) p : Int)) (by omega) rfl rfl rfl (by decide) (by decide) rfl (by rfl) ?_
                refine kR.cv (v := .int (Int32.ofInt (v))) (kargs_m hm (by decide) rfl) rfl (kR.up (k125) (by decide)) ?_
                refine kR.n ?_
                show kR 5 140 b140_210 _ _ _ _
                refine kR.c0 (kargs_m hm (by decide) rfl) rfl (kR.up (c_113 (S := X4) hm) (by decide)) ?_
                refine kR.n ?_
                show kR 5 140 b140_213 _ _ _ _
                refine kR.ret rfl rfl ?_
                rfl
              · skip
                refine kR.n ?_
                exfalso
                omega
        · skip
          exfalso
          omega
      · skip
        refine kR.n ?_
        exfalso
        omega
  · skip
    exfalso
    omega
