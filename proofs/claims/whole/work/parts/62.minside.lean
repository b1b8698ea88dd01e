/-! The reference: inside, entry, mapKey. By program (wip/gen/gen62.py). -/
theorem c_142_1 {m : Nat} {E : Nat → kC} {S : Nat → Nat → Int} {sz : Nat × Nat} (hm : 53 ≤ m ∧ m ≤ 57) {t : Nat → Int} {n L : Nat} (hX : kTx t n L) (hR : kRt S t n) {e : Nat} (he : S 30 23 = (e : Int)) (hen : e ≤ n) {p : Nat} (hpp : S 30 21 = (p : Int)) (hpe : p ≤ e) {v n2 d o : Nat} (hdn : S 30 27 = (v : Int)) (hn : S 30 15 = (n2 : Int)) (hnl : n2 < 200) (ho : S 30 29 = (o : Int)) (hol : 1 ≤ o ∧ o ≤ 8) (hd : S 44 (o - 1) = (d : Int)) (hdl : d < 60) (hwh : S 43 (o - 1) = 3) (hwr : S 30 19 = 0) : kR 3 142 (blk 142 0) (kent 142 [.ref 30]) [] (sz, hp m E S) (fun r => (kch t e (kw (fun i => decide (t i = 32)) e p) = 93 → r = (.inl none, (sz, hp m E (ku (ku (ku (ku (ku (kapm2 S o n2 v d) 30 21 ((kw (fun i => decide (t i = 32)) e p) : Nat)) 30 21 (((kw (fun i => decide (t i = 32)) e p) : Nat) + (1 : Int))) 30 29 ((o - 1 : Nat) : Int)) 30 27 (d : Int)) 30 20 4)))) ∧ (kch t e (kw (fun i => decide (t i = 32)) e p) = 44 → r = (.inl none, (sz, hp m E (ku (ku (ku (ku (ku (kapm2 S o n2 v d) 30 21 ((kw (fun i => decide (t i = 32)) e p) : Nat)) 30 21 (((kw (fun i => decide (t i = 32)) e p) : Nat) + (1 : Int))) 30 19 0) 30 21 ((kw (fun i => decide (t i = 32)) e ((kw (fun i => decide (t i = 32)) e p) + 1)) : Nat)) 30 20 2)))) ∧ (¬ kch t e (kw (fun i => decide (t i = 32)) e p) = 93 → ¬ kch t e (kw (fun i => decide (t i = 32)) e p) = 44 → r = (.inl none, (sz, hp m E (ku (ku (ku (ku (ku (kapm2 S o n2 v d) 30 21 ((kw (fun i => decide (t i = 32)) e p) : Nat)) 30 21 (((kw (fun i => decide (t i = 32)) e p) : Nat) + (1 : Int))) 30 19 1) 30 21 ((kw (fun i => decide (t i = 32)) e ((kw (fun i => decide (t i = 32)) e p) + 1)) : Nat)) 30 20 2))))) := by
  have hx1 := hX.1
  have ho1 : (o : Int) - 1 = ((o - 1 : Nat) : Int) := by omega
  have hkr : p ≤ (kw (fun i => decide (t i = 32)) e p) ∧ (p ≤ e → (kw (fun i => decide (t i = 32)) e p) ≤ e) := kw_rng
  obtain ⟨pb, hpb⟩ : ∃ pb, pb = (kw (fun i => decide (t i = 32)) e p) := ⟨_, rfl⟩
  rw [← hpb] at hkr ⊢
  have hc1 := khr_c (t := t) (e := e) (p := pb) 93 (by decide) (by decide)
  have hc2 := khr_c (t := t) (e := e) (p := pb) 44 (by decide) (by decide)
  show kR 3 142 b142_0 _ _ _ _
  refine kR.s rfl rfl ?_
  refine kR.s rfl rfl ?_
  refine kR.gi (a := 30) (k := 27) (v := (v : Int)) (by omega) rfl rfl rfl (by decide) (by decide) rfl (by exact hdn) ?_
  refine kR.c0 (kargs_m hm (by decide) rfl) rfl (kR.up (c_116 hm (v := v) hn hnl ho (by omega) (by omega) hd hdl (by omega)) (by decide)) ?_
  refine kR.s rfl rfl ?_
  refine kR.c0 (kargs_m hm (by decide) rfl) rfl (kR.up (hpb ▸ c_109 (S := (kapm2 S o n2 v d)) hm hX hR he hen (p := p) hpp (by omega)) (by decide)) ?_
  refine kR.s rfl rfl ?_
  refine kR.gr (a := 30) (b := 43) (k := 30) (by omega) rfl rfl rfl (by decide) (by decide) rfl ?_
  refine kR.s rfl rfl ?_
  refine kR.gi (a := 30) (k := 29) (v := (o : Int)) (by omega) rfl rfl rfl (by decide) (by decide) rfl (by exact ho) ?_
  refine kR.s rfl rfl ?_
  refine kR.sub ?_
  rw [ho1]
  refine kR.ia (a := 43) (v := 3) (by omega) rfl (by decide) (by omega) (by omega) (by exact hwh) ?_
  refine kR.s rfl rfl ?_
  refine kR.jne (by decide) (by decide) (by decide) (by decide) (fun q3 => absurd q3 (by decide)) (fun q3 => ?_)
  refine kR.s rfl rfl ?_
  refine kR.g rfl ?_
  show kR 3 142 b142_32 _ _ _ _
  refine kR.s rfl rfl ?_
  refine kR.s rfl rfl ?_
  refine kR.s rfl rfl ?_
  refine kR.gi (a := 30) (k := 21) (v := (pb : Int)) (by omega) rfl rfl rfl (by decide) (by decide) rfl (by rfl) ?_
  have f4_0 := khr_r hX hen pb
  refine kR.cv (v := .int (Int32.ofInt (khr t e pb))) (kargs_m hm (by decide) rfl) rfl (kR.up (c_108t (S := ku (kapm2 S o n2 v d) 30 21 (pb : Int)) hm hX hR he hen (k := pb) (by omega)) (by decide)) ?_
  refine kR.s rfl rfl ?_
  refine kR.s rfl rfl ?_
  refine kR.s rfl rfl ?_
  refine kR.gi (a := 30) (k := 21) (v := (pb : Int)) (by omega) rfl rfl rfl (by decide) (by decide) rfl (by rfl) ?_
  refine kR.s rfl rfl ?_
  refine kR.add ?_
  refine kR.pi (a := 30) (k := 21) (by omega) rfl rfl rfl (by decide) (by decide) rfl rfl ?_
  refine kR.s rfl rfl ?_
  refine kR.s rfl rfl ?_
  refine kR.zeq (by decide) (by decide) (fun q5 => absurd q5 (by decide)) (fun q5 => ?_)
  refine kR.bi rfl ?_
  refine kR.g rfl ?_
  show kR 3 142 b142_64 _ _ _ _
  refine kR.jne (by omega) (by omega) (by omega) (by omega) (fun q6 => ?_) (fun q6 => ?_)
  · skip
    show kR 3 142 b142_91 _ _ _ _
    refine kR.s rfl rfl ?_
    refine kR.s rfl rfl ?_
    refine kR.gi (a := 30) (k := 19) (v := 0) (by omega) rfl rfl rfl (by decide) (by decide) rfl (by exact hwr) ?_
    refine kR.zne (by decide) (by decide) (fun q7 => absurd q7 (by decide)) (fun q7 => ?_)
    refine kR.s rfl rfl ?_
    refine kR.bi rfl ?_
    refine kR.jeq (by omega) (by omega) (by omega) (by omega) (fun q8 => ?_) (fun q8 => ?_)
    · skip
      show kR 3 142 b142_109 _ _ _ _
      refine kR.s rfl rfl ?_
      refine kR.n ?_
      show kR 3 142 b142_110 _ _ _ _
      refine kR.pi (a := 30) (k := 19) (by omega) rfl rfl rfl (by decide) (by decide) rfl (by first | rfl | assumption | simp [kfit, *]) ?_
      refine kR.s rfl rfl ?_
      refine kR.c0 (kargs_m hm (by decide) rfl) rfl (kR.up (c_109 (S := ku (ku (ku (kapm2 S o n2 v d) 30 21 (pb : Int)) 30 21 ((pb : Int) + 1)) 30 19 0) hm hX hR he hen (p := pb + 1) rfl (by omega)) (by decide)) ?_
      refine kR.s rfl rfl ?_
      refine kR.s rfl rfl ?_
      refine kR.zeq (by decide) (by decide) (fun q10 => absurd q10 (by decide)) (fun q10 => ?_)
      refine kR.s rfl rfl ?_
      refine kR.g rfl ?_
      show kR 3 142 b142_127 _ _ _ _
      refine kR.pi (a := 30) (k := 20) (by omega) rfl rfl rfl (by decide) (by decide) rfl rfl ?_
      refine kR.ret rfl rfl ?_
      exact ⟨fun z => absurd z (by omega), fun _ => rfl, fun _ z => absurd (by omega) z⟩
    · skip
      refine kR.n ?_
      show kR 3 142 b142_105 _ _ _ _
      refine kR.s rfl rfl ?_
      refine kR.g rfl ?_
      show kR 3 142 b142_110 _ _ _ _
      refine kR.pi (a := 30) (k := 19) (by omega) rfl rfl rfl (by decide) (by decide) rfl (by first | rfl | assumption | simp [kfit, *]) ?_
      refine kR.s rfl rfl ?_
      refine kR.c0 (kargs_m hm (by decide) rfl) rfl (kR.up (c_109 (S := ku (ku (ku (kapm2 S o n2 v d) 30 21 (pb : Int)) 30 21 ((pb : Int) + 1)) 30 19 1) hm hX hR he hen (p := pb + 1) rfl (by omega)) (by decide)) ?_
      refine kR.s rfl rfl ?_
      refine kR.s rfl rfl ?_
      refine kR.zeq (by decide) (by decide) (fun q12 => absurd q12 (by decide)) (fun q12 => ?_)
      refine kR.s rfl rfl ?_
      refine kR.g rfl ?_
      show kR 3 142 b142_127 _ _ _ _
      refine kR.pi (a := 30) (k := 20) (by omega) rfl rfl rfl (by decide) (by decide) rfl rfl ?_
      refine kR.ret rfl rfl ?_
      exact ⟨fun z => absurd z (by omega), fun z => absurd z (by omega), fun _ _ => rfl⟩
  · skip
    refine kR.s rfl rfl ?_
    refine kR.s rfl rfl ?_
    refine kR.gi (a := 30) (k := 29) (v := (o : Int)) (by omega) rfl rfl rfl (by decide) (by decide) rfl (by exact ho) ?_
    refine kR.s rfl rfl ?_
    refine kR.sub ?_
    rw [ho1]
    refine kR.pi (a := 30) (k := 29) (by omega) rfl rfl rfl (by decide) (by decide) rfl rfl ?_
    refine kR.s rfl rfl ?_
    refine kR.s rfl rfl ?_
    refine kR.gr (a := 30) (b := 44) (k := 31) (by omega) rfl rfl rfl (by decide) (by decide) rfl ?_
    refine kR.s rfl rfl ?_
    refine kR.gi (a := 30) (k := 29) (v := ((o - 1 : Nat) : Int)) (by omega) rfl rfl rfl (by decide) (by decide) rfl (by rfl) ?_
    refine kR.ia (a := 44) (v := (d : Int)) (by omega) rfl (by decide) (by omega) (by omega) (by exact hd) ?_
    refine kR.c0 (kargs_m hm (by decide) rfl) rfl (kR.up (c_113 (S := ku (ku (ku (kapm2 S o n2 v d) 30 21 (pb : Int)) 30 21 ((pb : Int) + 1)) 30 29 ((o - 1 : Nat) : Int)) hm) (by decide)) ?_
    refine kR.ret rfl rfl ?_
    exact ⟨fun _ => rfl, fun z => absurd z (by omega), fun z => absurd (by omega) z⟩
theorem c_142_0 {m : Nat} {E : Nat → kC} {S : Nat → Nat → Int} {sz : Nat × Nat} (hm : 53 ≤ m ∧ m ≤ 57) {t : Nat → Int} {n L : Nat} (hX : kTx t n L) (hR : kRt S t n) {e : Nat} (he : S 30 23 = (e : Int)) (hen : e ≤ n) {p : Nat} (hpp : S 30 21 = (p : Int)) (hpe : p ≤ e) {v n2 d o : Nat} (hdn : S 30 27 = (v : Int)) (hn : S 30 15 = (n2 : Int)) (hnl : n2 < 200) (ho : S 30 29 = (o : Int)) (hol : 1 ≤ o ∧ o ≤ 8) (hd : S 44 (o - 1) = (d : Int)) (hdl : d < 60) (hwh : S 43 (o - 1) = 4) (hwr : S 30 19 = 0) : kR 3 142 (blk 142 0) (kent 142 [.ref 30]) [] (sz, hp m E S) (fun r => (kch t e (kw (fun i => decide (t i = 32)) e p) = 125 → r = (.inl none, (sz, hp m E (ku (ku (ku (ku (ku (kapm2 S o n2 v d) 30 21 ((kw (fun i => decide (t i = 32)) e p) : Nat)) 30 21 (((kw (fun i => decide (t i = 32)) e p) : Nat) + (1 : Int))) 30 29 ((o - 1 : Nat) : Int)) 30 27 (d : Int)) 30 20 4)))) ∧ (kch t e (kw (fun i => decide (t i = 32)) e p) = 44 → r = (.inl none, (sz, hp m E (ku (ku (ku (ku (ku (kapm2 S o n2 v d) 30 21 ((kw (fun i => decide (t i = 32)) e p) : Nat)) 30 21 (((kw (fun i => decide (t i = 32)) e p) : Nat) + (1 : Int))) 30 19 0) 30 21 ((kw (fun i => decide (t i = 32)) e ((kw (fun i => decide (t i = 32)) e p) + 1)) : Nat)) 30 20 3)))) ∧ (¬ kch t e (kw (fun i => decide (t i = 32)) e p) = 125 → ¬ kch t e (kw (fun i => decide (t i = 32)) e p) = 44 → r = (.inl none, (sz, hp m E (ku (ku (ku (ku (ku (kapm2 S o n2 v d) 30 21 ((kw (fun i => decide (t i = 32)) e p) : Nat)) 30 21 (((kw (fun i => decide (t i = 32)) e p) : Nat) + (1 : Int))) 30 19 1) 30 21 ((kw (fun i => decide (t i = 32)) e ((kw (fun i => decide (t i = 32)) e p) + 1)) : Nat)) 30 20 3))))) := by
  have hx1 := hX.1
  have ho1 : (o : Int) - 1 = ((o - 1 : Nat) : Int) := by omega
  have hkr : p ≤ (kw (fun i => decide (t i = 32)) e p) ∧ (p ≤ e → (kw (fun i => decide (t i = 32)) e p) ≤ e) := kw_rng
  obtain ⟨pb, hpb⟩ : ∃ pb, pb = (kw (fun i => decide (t i = 32)) e p) := ⟨_, rfl⟩
  rw [← hpb] at hkr ⊢
  have hc1 := khr_c (t := t) (e := e) (p := pb) 125 (by decide) (by decide)
  have hc2 := khr_c (t := t) (e := e) (p := pb) 44 (by decide) (by decide)
  show kR 3 142 b142_0 _ _ _ _
  refine kR.s rfl rfl ?_
  refine kR.s rfl rfl ?_
  refine kR.gi (a := 30) (k := 27) (v := (v : Int)) (by omega) rfl rfl rfl (by decide) (by decide) rfl (by exact hdn) ?_
  refine kR.c0 (kargs_m hm (by decide) rfl) rfl (kR.up (c_116 hm (v := v) hn hnl ho (by omega) (by omega) hd hdl (by omega)) (by decide)) ?_
  refine kR.s rfl rfl ?_
  refine kR.c0 (kargs_m hm (by decide) rfl) rfl (kR.up (hpb ▸ c_109 (S := (kapm2 S o n2 v d)) hm hX hR he hen (p := p) hpp (by omega)) (by decide)) ?_
  refine kR.s rfl rfl ?_
  refine kR.gr (a := 30) (b := 43) (k := 30) (by omega) rfl rfl rfl (by decide) (by decide) rfl ?_
  refine kR.s rfl rfl ?_
  refine kR.gi (a := 30) (k := 29) (v := (o : Int)) (by omega) rfl rfl rfl (by decide) (by decide) rfl (by exact ho) ?_
  refine kR.s rfl rfl ?_
  refine kR.sub ?_
  rw [ho1]
  refine kR.ia (a := 43) (v := 4) (by omega) rfl (by decide) (by omega) (by omega) (by exact hwh) ?_
  refine kR.s rfl rfl ?_
  refine kR.jne (by decide) (by decide) (by decide) (by decide) (fun q3 => ?_) (fun q3 => absurd q3 (by decide))
  show kR 3 142 b142_31 _ _ _ _
  refine kR.s rfl rfl ?_
  refine kR.n ?_
  show kR 3 142 b142_32 _ _ _ _
  refine kR.s rfl rfl ?_
  refine kR.s rfl rfl ?_
  refine kR.s rfl rfl ?_
  refine kR.gi (a := 30) (k := 21) (v := (pb : Int)) (by omega) rfl rfl rfl (by decide) (by decide) rfl (by rfl) ?_
  have f4_0 := khr_r hX hen pb
  refine kR.cv (v := .int (Int32.ofInt (khr t e pb))) (kargs_m hm (by decide) rfl) rfl (kR.up (c_108t (S := ku (kapm2 S o n2 v d) 30 21 (pb : Int)) hm hX hR he hen (k := pb) (by omega)) (by decide)) ?_
  refine kR.s rfl rfl ?_
  refine kR.s rfl rfl ?_
  refine kR.s rfl rfl ?_
  refine kR.gi (a := 30) (k := 21) (v := (pb : Int)) (by omega) rfl rfl rfl (by decide) (by decide) rfl (by rfl) ?_
  refine kR.s rfl rfl ?_
  refine kR.add ?_
  refine kR.pi (a := 30) (k := 21) (by omega) rfl rfl rfl (by decide) (by decide) rfl rfl ?_
  refine kR.s rfl rfl ?_
  refine kR.s rfl rfl ?_
  refine kR.zeq (by decide) (by decide) (fun q5 => ?_) (fun q5 => absurd q5 (by decide))
  show kR 3 142 b142_62 _ _ _ _
  refine kR.bi rfl ?_
  refine kR.n ?_
  show kR 3 142 b142_64 _ _ _ _
  refine kR.jne (by omega) (by omega) (by omega) (by omega) (fun q6 => ?_) (fun q6 => ?_)
  · skip
    show kR 3 142 b142_91 _ _ _ _
    refine kR.s rfl rfl ?_
    refine kR.s rfl rfl ?_
    refine kR.gi (a := 30) (k := 19) (v := 0) (by omega) rfl rfl rfl (by decide) (by decide) rfl (by exact hwr) ?_
    refine kR.zne (by decide) (by decide) (fun q7 => absurd q7 (by decide)) (fun q7 => ?_)
    refine kR.s rfl rfl ?_
    refine kR.bi rfl ?_
    refine kR.jeq (by omega) (by omega) (by omega) (by omega) (fun q8 => ?_) (fun q8 => ?_)
    · skip
      show kR 3 142 b142_109 _ _ _ _
      refine kR.s rfl rfl ?_
      refine kR.n ?_
      show kR 3 142 b142_110 _ _ _ _
      refine kR.pi (a := 30) (k := 19) (by omega) rfl rfl rfl (by decide) (by decide) rfl (by first | rfl | assumption | simp [kfit, *]) ?_
      refine kR.s rfl rfl ?_
      refine kR.c0 (kargs_m hm (by decide) rfl) rfl (kR.up (c_109 (S := ku (ku (ku (kapm2 S o n2 v d) 30 21 (pb : Int)) 30 21 ((pb : Int) + 1)) 30 19 0) hm hX hR he hen (p := pb + 1) rfl (by omega)) (by decide)) ?_
      refine kR.s rfl rfl ?_
      refine kR.s rfl rfl ?_
      refine kR.zeq (by decide) (by decide) (fun q10 => ?_) (fun q10 => absurd q10 (by decide))
      show kR 3 142 b142_126 _ _ _ _
      refine kR.s rfl rfl ?_
      refine kR.n ?_
      show kR 3 142 b142_127 _ _ _ _
      refine kR.pi (a := 30) (k := 20) (by omega) rfl rfl rfl (by decide) (by decide) rfl rfl ?_
      refine kR.ret rfl rfl ?_
      exact ⟨fun z => absurd z (by omega), fun _ => rfl, fun _ z => absurd (by omega) z⟩
    · skip
      refine kR.n ?_
      show kR 3 142 b142_105 _ _ _ _
      refine kR.s rfl rfl ?_
      refine kR.g rfl ?_
      show kR 3 142 b142_110 _ _ _ _
      refine kR.pi (a := 30) (k := 19) (by omega) rfl rfl rfl (by decide) (by decide) rfl (by first | rfl | assumption | simp [kfit, *]) ?_
      refine kR.s rfl rfl ?_
      refine kR.c0 (kargs_m hm (by decide) rfl) rfl (kR.up (c_109 (S := ku (ku (ku (kapm2 S o n2 v d) 30 21 (pb : Int)) 30 21 ((pb : Int) + 1)) 30 19 1) hm hX hR he hen (p := pb + 1) rfl (by omega)) (by decide)) ?_
      refine kR.s rfl rfl ?_
      refine kR.s rfl rfl ?_
      refine kR.zeq (by decide) (by decide) (fun q12 => ?_) (fun q12 => absurd q12 (by decide))
      show kR 3 142 b142_126 _ _ _ _
      refine kR.s rfl rfl ?_
      refine kR.n ?_
      show kR 3 142 b142_127 _ _ _ _
      refine kR.pi (a := 30) (k := 20) (by omega) rfl rfl rfl (by decide) (by decide) rfl rfl ?_
      refine kR.ret rfl rfl ?_
      exact ⟨fun z => absurd z (by omega), fun z => absurd z (by omega), fun _ _ => rfl⟩
  · skip
    refine kR.s rfl rfl ?_
    refine kR.s rfl rfl ?_
    refine kR.gi (a := 30) (k := 29) (v := (o : Int)) (by omega) rfl rfl rfl (by decide) (by decide) rfl (by exact ho) ?_
    refine kR.s rfl rfl ?_
    refine kR.sub ?_
    rw [ho1]
    refine kR.pi (a := 30) (k := 29) (by omega) rfl rfl rfl (by decide) (by decide) rfl rfl ?_
    refine kR.s rfl rfl ?_
    refine kR.s rfl rfl ?_
    refine kR.gr (a := 30) (b := 44) (k := 31) (by omega) rfl rfl rfl (by decide) (by decide) rfl ?_
    refine kR.s rfl rfl ?_
    refine kR.gi (a := 30) (k := 29) (v := ((o - 1 : Nat) : Int)) (by omega) rfl rfl rfl (by decide) (by decide) rfl (by rfl) ?_
    refine kR.ia (a := 44) (v := (d : Int)) (by omega) rfl (by decide) (by omega) (by omega) (by exact hd) ?_
    refine kR.c0 (kargs_m hm (by decide) rfl) rfl (kR.up (c_113 (S := ku (ku (ku (kapm2 S o n2 v d) 30 21 (pb : Int)) 30 21 ((pb : Int) + 1)) 30 29 ((o - 1 : Nat) : Int)) hm) (by decide)) ?_
    refine kR.ret rfl rfl ?_
    exact ⟨fun _ => rfl, fun z => absurd z (by omega), fun z => absurd (by omega) z⟩
theorem c_133q {m : Nat} {E : Nat → kC} {S : Nat → Nat → Int} {sz : Nat × Nat} (hm : 53 ≤ m ∧ m ≤ 57) {t : Nat → Int} {n L : Nat} (hX : kTx t n L) (hR : kRt S t n) {e : Nat} (he : S 30 23 = (e : Int)) (hen : e ≤ n) {p : Nat} (hpp : S 30 21 = (p : Int)) (hpe : p ≤ e) {z : Nat} (hze : z ≤ e) {X4 X5 : Nat → Nat → Int} {v : Int} (hqu : kqu (kch t e p) = 1) (k128 : kR 2 128 (blk 128 0) (kent 128 [.ref 30]) [] (sz, hp m E S) (fun r => r = (.inl (some (.int (Int32.ofInt v))), (sz, hp m E X4)))) (hX4 : X4 30 19 = 0) (k115 : kR 1 115 (blk 115 0) (kent 115 [.ref 30, .int (Int32.ofInt v)]) [] (sz, hp m E X4) (fun r => r = (.inl none, (sz, hp m E X5)))) (hR5 : kRt X5 t n) (he5 : X5 30 23 = (e : Int)) : kR 4 133 (blk 133 0) (kent 133 [.ref 30, .int (Int32.ofInt (z : Int))]) [] (sz, hp m E S) (fun r => r = (.inl none, (sz, hp m E (ku (ku (ku X5 30 21 ((z : Int) + 1)) 30 21 ((kw (fun i => decide (t i = 32)) e (z + 1)) : Nat)) 30 20 1)))) := by
  have hx1 := hX.1
  have hq0 := kqu_h t e p
  show kR 4 133 b133_0 _ _ _ _
  refine kR.s rfl rfl ?_
  refine kR.s rfl rfl ?_
  refine kR.gi (a := 30) (k := 21) (v := (p : Int)) (by omega) rfl rfl rfl (by decide) (by decide) rfl (by exact hpp) ?_
  have f1_0 := khr_r hX hen p
  refine kR.cv (v := .int (Int32.ofInt (khr t e p))) (kargs_m hm (by decide) rfl) rfl (kR.up (c_108t hm hX hR he hen (k := p) (by omega)) (by decide)) ?_
  have f2_0 := kqu_01 (khr t e p)
  refine kR.cv (v := .int (Int32.ofInt (kqu (khr t e p)))) rfl rfl (kR.up (c_127 (c := khr t e p) (by omega)) (by decide)) ?_
  refine kR.zeq (by omega) (by omega) (fun q3 => ?_) (fun q3 => ?_)
  · skip
    exfalso
    omega
  · skip
    refine kR.s rfl rfl ?_
    refine kR.cv (v := .int (Int32.ofInt (v))) (kargs_m hm (by decide) rfl) rfl (kR.up (k128) (by decide)) ?_
    refine kR.g rfl ?_
    show kR 4 133 b133_30 _ _ _ _
    refine kR.s rfl rfl ?_
    refine kR.s rfl rfl ?_
    refine kR.gi (a := 30) (k := 19) (v := 0) (by omega) rfl rfl rfl (by decide) (by decide) rfl (by exact hX4) ?_
    refine kR.zne (by decide) (by decide) (fun q5 => absurd q5 (by decide)) (fun q5 => ?_)
    refine kR.s rfl rfl ?_
    refine kR.s rfl rfl ?_
    refine kR.c0 (kargs_m hm (by decide) rfl) rfl (kR.up (k115) (by decide)) ?_
    refine kR.n ?_
    show kR 4 133 b133_43 _ _ _ _
    refine kR.s rfl rfl ?_
    refine kR.s rfl rfl ?_
    refine kR.s rfl rfl ?_
    refine kR.add ?_
    refine kR.pi (a := 30) (k := 21) (by omega) rfl rfl rfl (by decide) (by decide) rfl rfl ?_
    refine kR.s rfl rfl ?_
    refine kR.c0 (kargs_m hm (by decide) rfl) rfl (kR.up (c_109 (S := ku X5 30 21 ((z : Int) + 1)) hm hX hR5 he5 hen (p := z + 1) rfl (by omega)) (by decide)) ?_
    refine kR.s rfl rfl ?_
    refine kR.s rfl rfl ?_
    refine kR.pi (a := 30) (k := 20) (by omega) rfl rfl rfl (by decide) (by decide) rfl rfl ?_
    refine kR.ret rfl rfl ?_
    rfl
theorem c_133qb {m : Nat} {E : Nat → kC} {S : Nat → Nat → Int} {sz : Nat × Nat} (hm : 53 ≤ m ∧ m ≤ 57) {t : Nat → Int} {n L : Nat} (hX : kTx t n L) (hR : kRt S t n) {e : Nat} (he : S 30 23 = (e : Int)) (hen : e ≤ n) {p : Nat} (hpp : S 30 21 = (p : Int)) (hpe : p ≤ e) {z : Nat} (hze : z ≤ e) {X4 X5 : Nat → Nat → Int} {v : Int} (hqu : kqu (kch t e p) = 1) (k128 : kR 2 128 (blk 128 0) (kent 128 [.ref 30]) [] (sz, hp m E S) (fun r => r = (.inl (some (.int (Int32.ofInt v))), (sz, hp m E X4)))) (hX4 : X4 30 19 = 1) (h45 : X5 = X4) (hR5 : kRt X5 t n) (he5 : X5 30 23 = (e : Int)) : kR 4 133 (blk 133 0) (kent 133 [.ref 30, .int (Int32.ofInt (z : Int))]) [] (sz, hp m E S) (fun r => r = (.inl none, (sz, hp m E (ku (ku (ku X5 30 21 ((z : Int) + 1)) 30 21 ((kw (fun i => decide (t i = 32)) e (z + 1)) : Nat)) 30 20 1)))) := by
  have hx1 := hX.1
  have hq0 := kqu_h t e p
  rw [h45] at hR5 he5 ⊢
  show kR 4 133 b133_0 _ _ _ _
  refine kR.s rfl rfl ?_
  refine kR.s rfl rfl ?_
  refine kR.gi (a := 30) (k := 21) (v := (p : Int)) (by omega) rfl rfl rfl (by decide) (by decide) rfl (by exact hpp) ?_
  have f1_0 := khr_r hX hen p
  refine kR.cv (v := .int (Int32.ofInt (khr t e p))) (kargs_m hm (by decide) rfl) rfl (kR.up (c_108t hm hX hR he hen (k := p) (by omega)) (by decide)) ?_
  have f2_0 := kqu_01 (khr t e p)
  refine kR.cv (v := .int (Int32.ofInt (kqu (khr t e p)))) rfl rfl (kR.up (c_127 (c := khr t e p) (by omega)) (by decide)) ?_
  refine kR.zeq (by omega) (by omega) (fun q3 => ?_) (fun q3 => ?_)
  · skip
    exfalso
    omega
  · skip
    refine kR.s rfl rfl ?_
    refine kR.cv (v := .int (Int32.ofInt (v))) (kargs_m hm (by decide) rfl) rfl (kR.up (k128) (by decide)) ?_
    refine kR.g rfl ?_
    show kR 4 133 b133_30 _ _ _ _
    refine kR.s rfl rfl ?_
    refine kR.s rfl rfl ?_
    refine kR.gi (a := 30) (k := 19) (v := 1) (by omega) rfl rfl rfl (by decide) (by decide) rfl (by exact hX4) ?_
    refine kR.zne (by decide) (by decide) (fun q5 => ?_) (fun q5 => absurd q5 (by decide))
    show kR 4 133 b133_43 _ _ _ _
    refine kR.s rfl rfl ?_
    refine kR.s rfl rfl ?_
    refine kR.s rfl rfl ?_
    refine kR.add ?_
    refine kR.pi (a := 30) (k := 21) (by omega) rfl rfl rfl (by decide) (by decide) rfl rfl ?_
    refine kR.s rfl rfl ?_
    refine kR.c0 (kargs_m hm (by decide) rfl) rfl (kR.up (c_109 (S := ku X4 30 21 ((z : Int) + 1)) hm hX hR5 he5 hen (p := z + 1) rfl (by omega)) (by decide)) ?_
    refine kR.s rfl rfl ?_
    refine kR.s rfl rfl ?_
    refine kR.pi (a := 30) (k := 20) (by omega) rfl rfl rfl (by decide) (by decide) rfl rfl ?_
    refine kR.ret rfl rfl ?_
    rfl
theorem c_133p {m : Nat} {E : Nat → kC} {S : Nat → Nat → Int} {sz : Nat × Nat} (hm : 53 ≤ m ∧ m ≤ 57) {t : Nat → Int} {n L : Nat} (hX : kTx t n L) (hR : kRt S t n) {e : Nat} (he : S 30 23 = (e : Int)) (hen : e ≤ n) {p : Nat} (hpp : S 30 21 = (p : Int)) (hpe : p ≤ e) {z : Nat} (hze : z ≤ e) {X4 X5 : Nat → Nat → Int} {v : Int} (hqu : kqu (kch t e p) = 0) (k125 : kR 3 125 (blk 125 0) (kent 125 [.ref 30, .int (Int32.ofInt (p : Int)), .int (Int32.ofInt (z : Int))]) [] (sz, hp m E S) (fun r => r = (.inl (some (.int (Int32.ofInt v))), (sz, hp m E X4)))) (hX4 : X4 30 19 = 0) (k115 : kR 1 115 (blk 115 0) (kent 115 [.ref 30, .int (Int32.ofInt v)]) [] (sz, hp m E X4) (fun r => r = (.inl none, (sz, hp m E X5)))) (hR5 : kRt X5 t n) (he5 : X5 30 23 = (e : Int)) : kR 4 133 (blk 133 0) (kent 133 [.ref 30, .int (Int32.ofInt (z : Int))]) [] (sz, hp m E S) (fun r => r = (.inl none, (sz, hp m E (ku (ku (ku X5 30 21 ((z : Int) + 1)) 30 21 ((kw (fun i => decide (t i = 32)) e (z + 1)) : Nat)) 30 20 1)))) := by
  have hx1 := hX.1
  have hq0 := kqu_h t e p
  show kR 4 133 b133_0 _ _ _ _
  refine kR.s rfl rfl ?_
  refine kR.s rfl rfl ?_
  refine kR.gi (a := 30) (k := 21) (v := (p : Int)) (by omega) rfl rfl rfl (by decide) (by decide) rfl (by exact hpp) ?_
  have f1_0 := khr_r hX hen p
  refine kR.cv (v := .int (Int32.ofInt (khr t e p))) (kargs_m hm (by decide) rfl) rfl (kR.up (c_108t hm hX hR he hen (k := p) (by omega)) (by decide)) ?_
  have f2_0 := kqu_01 (khr t e p)
  refine kR.cv (v := .int (Int32.ofInt (kqu (khr t e p)))) rfl rfl (kR.up (c_127 (c := khr t e p) (by omega)) (by decide)) ?_
  refine kR.zeq (by omega) (by omega) (fun q3 => ?_) (fun q3 => ?_)
  · skip
    show kR 4 133 b133_21 _ _ _ _
    refine kR.s rfl rfl ?_
    refine kR.s rfl rfl ?_
    refine kR.gi (a := 30) (k := 21) (v := (p : Int)) (by omega) rfl rfl rfl (by decide) (by decide) rfl (by exact hpp) ?_
    refine kR.s rfl rfl ?_
    refine kR.cv (v := .int (Int32.ofInt (v))) (kargs_m hm (by decide) rfl) rfl (kR.up (k125) (by decide)) ?_
    refine kR.n ?_
    show kR 4 133 b133_30 _ _ _ _
    refine kR.s rfl rfl ?_
    refine kR.s rfl rfl ?_
    refine kR.gi (a := 30) (k := 19) (v := 0) (by omega) rfl rfl rfl (by decide) (by decide) rfl (by exact hX4) ?_
    refine kR.zne (by decide) (by decide) (fun q5 => absurd q5 (by decide)) (fun q5 => ?_)
    refine kR.s rfl rfl ?_
    refine kR.s rfl rfl ?_
    refine kR.c0 (kargs_m hm (by decide) rfl) rfl (kR.up (k115) (by decide)) ?_
    refine kR.n ?_
    show kR 4 133 b133_43 _ _ _ _
    refine kR.s rfl rfl ?_
    refine kR.s rfl rfl ?_
    refine kR.s rfl rfl ?_
    refine kR.add ?_
    refine kR.pi (a := 30) (k := 21) (by omega) rfl rfl rfl (by decide) (by decide) rfl rfl ?_
    refine kR.s rfl rfl ?_
    refine kR.c0 (kargs_m hm (by decide) rfl) rfl (kR.up (c_109 (S := ku X5 30 21 ((z : Int) + 1)) hm hX hR5 he5 hen (p := z + 1) rfl (by omega)) (by decide)) ?_
    refine kR.s rfl rfl ?_
    refine kR.s rfl rfl ?_
    refine kR.pi (a := 30) (k := 20) (by omega) rfl rfl rfl (by decide) (by decide) rfl rfl ?_
    refine kR.ret rfl rfl ?_
    rfl
  · skip
    exfalso
    omega
theorem c_133pb {m : Nat} {E : Nat → kC} {S : Nat → Nat → Int} {sz : Nat × Nat} (hm : 53 ≤ m ∧ m ≤ 57) {t : Nat → Int} {n L : Nat} (hX : kTx t n L) (hR : kRt S t n) {e : Nat} (he : S 30 23 = (e : Int)) (hen : e ≤ n) {p : Nat} (hpp : S 30 21 = (p : Int)) (hpe : p ≤ e) {z : Nat} (hze : z ≤ e) {X4 X5 : Nat → Nat → Int} {v : Int} (hqu : kqu (kch t e p) = 0) (k125 : kR 3 125 (blk 125 0) (kent 125 [.ref 30, .int (Int32.ofInt (p : Int)), .int (Int32.ofInt (z : Int))]) [] (sz, hp m E S) (fun r => r = (.inl (some (.int (Int32.ofInt v))), (sz, hp m E X4)))) (hX4 : X4 30 19 = 1) (h45 : X5 = X4) (hR5 : kRt X5 t n) (he5 : X5 30 23 = (e : Int)) : kR 4 133 (blk 133 0) (kent 133 [.ref 30, .int (Int32.ofInt (z : Int))]) [] (sz, hp m E S) (fun r => r = (.inl none, (sz, hp m E (ku (ku (ku X5 30 21 ((z : Int) + 1)) 30 21 ((kw (fun i => decide (t i = 32)) e (z + 1)) : Nat)) 30 20 1)))) := by
  have hx1 := hX.1
  have hq0 := kqu_h t e p
  rw [h45] at hR5 he5 ⊢
  show kR 4 133 b133_0 _ _ _ _
  refine kR.s rfl rfl ?_
  refine kR.s rfl rfl ?_
  refine kR.gi (a := 30) (k := 21) (v := (p : Int)) (by omega) rfl rfl rfl (by decide) (by decide) rfl (by exact hpp) ?_
  have f1_0 := khr_r hX hen p
  refine kR.cv (v := .int (Int32.ofInt (khr t e p))) (kargs_m hm (by decide) rfl) rfl (kR.up (c_108t hm hX hR he hen (k := p) (by omega)) (by decide)) ?_
  have f2_0 := kqu_01 (khr t e p)
  refine kR.cv (v := .int (Int32.ofInt (kqu (khr t e p)))) rfl rfl (kR.up (c_127 (c := khr t e p) (by omega)) (by decide)) ?_
  refine kR.zeq (by omega) (by omega) (fun q3 => ?_) (fun q3 => ?_)
  · skip
    show kR 4 133 b133_21 _ _ _ _
    refine kR.s rfl rfl ?_
    refine kR.s rfl rfl ?_
    refine kR.gi (a := 30) (k := 21) (v := (p : Int)) (by omega) rfl rfl rfl (by decide) (by decide) rfl (by exact hpp) ?_
    refine kR.s rfl rfl ?_
    refine kR.cv (v := .int (Int32.ofInt (v))) (kargs_m hm (by decide) rfl) rfl (kR.up (k125) (by decide)) ?_
    refine kR.n ?_
    show kR 4 133 b133_30 _ _ _ _
    refine kR.s rfl rfl ?_
    refine kR.s rfl rfl ?_
    refine kR.gi (a := 30) (k := 19) (v := 1) (by omega) rfl rfl rfl (by decide) (by decide) rfl (by exact hX4) ?_
    refine kR.zne (by decide) (by decide) (fun q5 => ?_) (fun q5 => absurd q5 (by decide))
    show kR 4 133 b133_43 _ _ _ _
    refine kR.s rfl rfl ?_
    refine kR.s rfl rfl ?_
    refine kR.s rfl rfl ?_
    refine kR.add ?_
    refine kR.pi (a := 30) (k := 21) (by omega) rfl rfl rfl (by decide) (by decide) rfl rfl ?_
    refine kR.s rfl rfl ?_
    refine kR.c0 (kargs_m hm (by decide) rfl) rfl (kR.up (c_109 (S := ku X4 30 21 ((z : Int) + 1)) hm hX hR5 he5 hen (p := z + 1) rfl (by omega)) (by decide)) ?_
    refine kR.s rfl rfl ?_
    refine kR.s rfl rfl ?_
    refine kR.pi (a := 30) (k := 20) (by omega) rfl rfl rfl (by decide) (by decide) rfl rfl ?_
    refine kR.ret rfl rfl ?_
    rfl
  · skip
    exfalso
    omega
