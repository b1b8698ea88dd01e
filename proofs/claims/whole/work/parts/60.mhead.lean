/-! The head of the reference's loop. By program (wip/gen/gen60.py). -/
def kM (sz : Nat × Nat) (E : Nat → kC) (x1 : Int) (T : Nat → Nat → Int) (Q : kO × kH → Prop) : Prop := kR 9 144 (blk 144 90) [.ref 30, .int (Int32.ofInt x1)] [] (sz, hp 53 E T) Q
/-- the loop goes from one state to another -/
def kStep (sz : Nat × Nat) (E : Nat → kC) (x1 : Int) (T T' : Nat → Nat → Int) : Prop := ∀ Q, kM sz E x1 T' Q → kM sz E x1 T Q
theorem kStep.rf {sz : Nat × Nat} {E : Nat → kC} {x1 : Int} {T : Nat → Nat → Int} : kStep sz E x1 T T := fun _ h => h
theorem kStep.tr {sz : Nat × Nat} {E : Nat → kC} {x1 : Int} {T T' T'' : Nat → Nat → Int} (h : kStep sz E x1 T T') (h' : kStep sz E x1 T' T'') : kStep sz E x1 T T'' := fun Q q => h Q (h' Q q)
theorem kM_0 {sz : Nat × Nat} {E : Nat → kC} {x1 : Int} {T : Nat → Nat → Int} {Q : kO × kH → Prop} (hw : T 30 19 = 0) (hs : T 30 20 = 0) (k : kR 8 134 (blk 134 0) (kent 134 [.ref 30]) [] (sz, hp 53 E T) (fun r => ∃ T', r = (.inl none, (sz, hp 53 E T')) ∧ kM sz E x1 T' Q)) : kM sz E x1 T Q := by
  show kR 9 144 b144_90 _ _ _ _
  refine kR.s rfl rfl ?_
  refine kR.gi (a := 30) (k := 19) (v := 0) (by omega) rfl rfl rfl (by decide) (by decide) rfl (by exact hw) ?_
  refine kR.zne (by decide) (by decide) (fun q1 => absurd q1 (by decide)) (fun q1 => ?_)
  refine kR.s rfl rfl ?_
  refine kR.gi (a := 30) (k := 20) (v := 0) (by omega) rfl rfl rfl (by decide) (by decide) rfl (by exact hs) ?_
  refine kR.s rfl rfl ?_
  refine kR.jeq (by decide) (by decide) (by decide) (by decide) (fun q2 => absurd q2 (by decide)) (fun q2 => ?_)
  refine kR.s rfl rfl ?_
  refine kR.gi (a := 30) (k := 20) (v := 0) (by omega) rfl rfl rfl (by decide) (by decide) rfl (by exact hs) ?_
  refine kR.zne (by decide) (by decide) (fun q3 => absurd q3 (by decide)) (fun q3 => ?_)
  refine kR.s rfl rfl ?_
  refine kR.c rfl rfl k (fun u hu => ?_)
  obtain ⟨T', h1, h2⟩ := hu
  subst h1
  show kR 9 144 _ _ _ _ _
  refine kR.g rfl ?_
  exact h2
theorem kM_1 {sz : Nat × Nat} {E : Nat → kC} {x1 : Int} {T : Nat → Nat → Int} {Q : kO × kH → Prop} (hw : T 30 19 = 0) (hs : T 30 20 = 1) (k : kR 8 136 (blk 136 0) (kent 136 [.ref 30]) [] (sz, hp 53 E T) (fun r => ∃ T', r = (.inl none, (sz, hp 53 E T')) ∧ kM sz E x1 T' Q)) : kM sz E x1 T Q := by
  show kR 9 144 b144_90 _ _ _ _
  refine kR.s rfl rfl ?_
  refine kR.gi (a := 30) (k := 19) (v := 0) (by omega) rfl rfl rfl (by decide) (by decide) rfl (by exact hw) ?_
  refine kR.zne (by decide) (by decide) (fun q1 => absurd q1 (by decide)) (fun q1 => ?_)
  refine kR.s rfl rfl ?_
  refine kR.gi (a := 30) (k := 20) (v := 1) (by omega) rfl rfl rfl (by decide) (by decide) rfl (by exact hs) ?_
  refine kR.s rfl rfl ?_
  refine kR.jeq (by decide) (by decide) (by decide) (by decide) (fun q2 => absurd q2 (by decide)) (fun q2 => ?_)
  refine kR.s rfl rfl ?_
  refine kR.gi (a := 30) (k := 20) (v := 1) (by omega) rfl rfl rfl (by decide) (by decide) rfl (by exact hs) ?_
  refine kR.zne (by decide) (by decide) (fun q3 => ?_) (fun q3 => absurd q3 (by decide))
  show kR 9 144 b144_119 _ _ _ _
  refine kR.s rfl rfl ?_
  refine kR.gi (a := 30) (k := 20) (v := 1) (by omega) rfl rfl rfl (by decide) (by decide) rfl (by exact hs) ?_
  refine kR.s rfl rfl ?_
  refine kR.jne (by decide) (by decide) (by decide) (by decide) (fun q4 => absurd q4 (by decide)) (fun q4 => ?_)
  refine kR.s rfl rfl ?_
  refine kR.c rfl rfl k (fun u hu => ?_)
  obtain ⟨T', h1, h2⟩ := hu
  subst h1
  show kR 9 144 _ _ _ _ _
  refine kR.g rfl ?_
  exact h2
theorem kM_2 {sz : Nat × Nat} {E : Nat → kC} {x1 : Int} {T : Nat → Nat → Int} {Q : kO × kH → Prop} (hw : T 30 19 = 0) (hs : T 30 20 = 2) (k : kR 8 140 (blk 140 0) (kent 140 [.ref 30]) [] (sz, hp 53 E T) (fun r => ∃ T', r = (.inl none, (sz, hp 53 E T')) ∧ kM sz E x1 T' Q)) : kM sz E x1 T Q := by
  show kR 9 144 b144_90 _ _ _ _
  refine kR.s rfl rfl ?_
  refine kR.gi (a := 30) (k := 19) (v := 0) (by omega) rfl rfl rfl (by decide) (by decide) rfl (by exact hw) ?_
  refine kR.zne (by decide) (by decide) (fun q1 => absurd q1 (by decide)) (fun q1 => ?_)
  refine kR.s rfl rfl ?_
  refine kR.gi (a := 30) (k := 20) (v := 2) (by omega) rfl rfl rfl (by decide) (by decide) rfl (by exact hs) ?_
  refine kR.s rfl rfl ?_
  refine kR.jeq (by decide) (by decide) (by decide) (by decide) (fun q2 => absurd q2 (by decide)) (fun q2 => ?_)
  refine kR.s rfl rfl ?_
  refine kR.gi (a := 30) (k := 20) (v := 2) (by omega) rfl rfl rfl (by decide) (by decide) rfl (by exact hs) ?_
  refine kR.zne (by decide) (by decide) (fun q3 => ?_) (fun q3 => absurd q3 (by decide))
  show kR 9 144 b144_119 _ _ _ _
  refine kR.s rfl rfl ?_
  refine kR.gi (a := 30) (k := 20) (v := 2) (by omega) rfl rfl rfl (by decide) (by decide) rfl (by exact hs) ?_
  refine kR.s rfl rfl ?_
  refine kR.jne (by decide) (by decide) (by decide) (by decide) (fun q4 => ?_) (fun q4 => absurd q4 (by decide))
  show kR 9 144 b144_134 _ _ _ _
  refine kR.s rfl rfl ?_
  refine kR.gi (a := 30) (k := 20) (v := 2) (by omega) rfl rfl rfl (by decide) (by decide) rfl (by exact hs) ?_
  refine kR.s rfl rfl ?_
  refine kR.jne (by decide) (by decide) (by decide) (by decide) (fun q5 => absurd q5 (by decide)) (fun q5 => ?_)
  refine kR.s rfl rfl ?_
  refine kR.c rfl rfl k (fun u hu => ?_)
  obtain ⟨T', h1, h2⟩ := hu
  subst h1
  show kR 9 144 _ _ _ _ _
  refine kR.g rfl ?_
  exact h2
theorem kM_3 {sz : Nat × Nat} {E : Nat → kC} {x1 : Int} {T : Nat → Nat → Int} {Q : kO × kH → Prop} (hw : T 30 19 = 0) (hs : T 30 20 = 3) (k : kR 8 141 (blk 141 0) (kent 141 [.ref 30]) [] (sz, hp 53 E T) (fun r => ∃ T', r = (.inl none, (sz, hp 53 E T')) ∧ kM sz E x1 T' Q)) : kM sz E x1 T Q := by
  show kR 9 144 b144_90 _ _ _ _
  refine kR.s rfl rfl ?_
  refine kR.gi (a := 30) (k := 19) (v := 0) (by omega) rfl rfl rfl (by decide) (by decide) rfl (by exact hw) ?_
  refine kR.zne (by decide) (by decide) (fun q1 => absurd q1 (by decide)) (fun q1 => ?_)
  refine kR.s rfl rfl ?_
  refine kR.gi (a := 30) (k := 20) (v := 3) (by omega) rfl rfl rfl (by decide) (by decide) rfl (by exact hs) ?_
  refine kR.s rfl rfl ?_
  refine kR.jeq (by decide) (by decide) (by decide) (by decide) (fun q2 => absurd q2 (by decide)) (fun q2 => ?_)
  refine kR.s rfl rfl ?_
  refine kR.gi (a := 30) (k := 20) (v := 3) (by omega) rfl rfl rfl (by decide) (by decide) rfl (by exact hs) ?_
  refine kR.zne (by decide) (by decide) (fun q3 => ?_) (fun q3 => absurd q3 (by decide))
  show kR 9 144 b144_119 _ _ _ _
  refine kR.s rfl rfl ?_
  refine kR.gi (a := 30) (k := 20) (v := 3) (by omega) rfl rfl rfl (by decide) (by decide) rfl (by exact hs) ?_
  refine kR.s rfl rfl ?_
  refine kR.jne (by decide) (by decide) (by decide) (by decide) (fun q4 => ?_) (fun q4 => absurd q4 (by decide))
  show kR 9 144 b144_134 _ _ _ _
  refine kR.s rfl rfl ?_
  refine kR.gi (a := 30) (k := 20) (v := 3) (by omega) rfl rfl rfl (by decide) (by decide) rfl (by exact hs) ?_
  refine kR.s rfl rfl ?_
  refine kR.jne (by decide) (by decide) (by decide) (by decide) (fun q5 => ?_) (fun q5 => absurd q5 (by decide))
  show kR 9 144 b144_149 _ _ _ _
  refine kR.s rfl rfl ?_
  refine kR.gi (a := 30) (k := 20) (v := 3) (by omega) rfl rfl rfl (by decide) (by decide) rfl (by exact hs) ?_
  refine kR.s rfl rfl ?_
  refine kR.jne (by decide) (by decide) (by decide) (by decide) (fun q6 => absurd q6 (by decide)) (fun q6 => ?_)
  refine kR.s rfl rfl ?_
  refine kR.c rfl rfl k (fun u hu => ?_)
  obtain ⟨T', h1, h2⟩ := hu
  subst h1
  show kR 9 144 _ _ _ _ _
  refine kR.g rfl ?_
  exact h2
theorem kM_4i {sz : Nat × Nat} {E : Nat → kC} {x1 : Int} {T : Nat → Nat → Int} {Q : kO × kH → Prop} {o : Nat} (ho : T 30 29 = (o : Int)) (hol : o ≤ 8) (hq43 : ∀ j, j < 9 → -2147483648 ≤ T 43 j ∧ T 43 j < 2147483648) (hin : kins T o = 1) (hw : T 30 19 = 0) (hs : T 30 20 = 4) (k : kR 8 142 (blk 142 0) (kent 142 [.ref 30]) [] (sz, hp 53 E T) (fun r => ∃ T', r = (.inl none, (sz, hp 53 E T')) ∧ kM sz E x1 T' Q)) : kM sz E x1 T Q := by
  have c137 := c_137 (m := 53) (E := E) (sz := sz) ⟨by omega, by omega⟩ ho hol hq43
  rw [hin] at c137
  show kR 9 144 b144_90 _ _ _ _
  refine kR.s rfl rfl ?_
  refine kR.gi (a := 30) (k := 19) (v := 0) (by omega) rfl rfl rfl (by decide) (by decide) rfl (by exact hw) ?_
  refine kR.zne (by decide) (by decide) (fun q1 => absurd q1 (by decide)) (fun q1 => ?_)
  refine kR.s rfl rfl ?_
  refine kR.gi (a := 30) (k := 20) (v := 4) (by omega) rfl rfl rfl (by decide) (by decide) rfl (by exact hs) ?_
  refine kR.s rfl rfl ?_
  refine kR.jeq (by decide) (by decide) (by decide) (by decide) (fun q2 => absurd q2 (by decide)) (fun q2 => ?_)
  refine kR.s rfl rfl ?_
  refine kR.gi (a := 30) (k := 20) (v := 4) (by omega) rfl rfl rfl (by decide) (by decide) rfl (by exact hs) ?_
  refine kR.zne (by decide) (by decide) (fun q3 => ?_) (fun q3 => absurd q3 (by decide))
  show kR 9 144 b144_119 _ _ _ _
  refine kR.s rfl rfl ?_
  refine kR.gi (a := 30) (k := 20) (v := 4) (by omega) rfl rfl rfl (by decide) (by decide) rfl (by exact hs) ?_
  refine kR.s rfl rfl ?_
  refine kR.jne (by decide) (by decide) (by decide) (by decide) (fun q4 => ?_) (fun q4 => absurd q4 (by decide))
  show kR 9 144 b144_134 _ _ _ _
  refine kR.s rfl rfl ?_
  refine kR.gi (a := 30) (k := 20) (v := 4) (by omega) rfl rfl rfl (by decide) (by decide) rfl (by exact hs) ?_
  refine kR.s rfl rfl ?_
  refine kR.jne (by decide) (by decide) (by decide) (by decide) (fun q5 => ?_) (fun q5 => absurd q5 (by decide))
  show kR 9 144 b144_149 _ _ _ _
  refine kR.s rfl rfl ?_
  refine kR.gi (a := 30) (k := 20) (v := 4) (by omega) rfl rfl rfl (by decide) (by decide) rfl (by exact hs) ?_
  refine kR.s rfl rfl ?_
  refine kR.jne (by decide) (by decide) (by decide) (by decide) (fun q6 => ?_) (fun q6 => absurd q6 (by decide))
  show kR 9 144 b144_164 _ _ _ _
  refine kR.s rfl rfl ?_
  refine kR.cv (v := .int (Int32.ofInt (1))) rfl rfl (kR.up (c137) (by decide)) ?_
  refine kR.zeq (by decide) (by decide) (fun q8 => absurd q8 (by decide)) (fun q8 => ?_)
  refine kR.s rfl rfl ?_
  refine kR.c rfl rfl k (fun u hu => ?_)
  obtain ⟨T', h1, h2⟩ := hu
  subst h1
  show kR 9 144 _ _ _ _ _
  refine kR.g rfl ?_
  exact h2
theorem kM_4b {sz : Nat × Nat} {E : Nat → kC} {x1 : Int} {T : Nat → Nat → Int} {Q : kO × kH → Prop} {o : Nat} (ho : T 30 29 = (o : Int)) (hol : o ≤ 8) (hq43 : ∀ j, j < 9 → -2147483648 ≤ T 43 j ∧ T 43 j < 2147483648) (hin : kins T o = 0) (hw : T 30 19 = 0) (hs : T 30 20 = 4) (k : kR 8 143 (blk 143 0) (kent 143 [.ref 30]) [] (sz, hp 53 E T) (fun r => ∃ T', r = (.inl none, (sz, hp 53 E T')) ∧ kM sz E x1 T' Q)) : kM sz E x1 T Q := by
  have c137 := c_137 (m := 53) (E := E) (sz := sz) ⟨by omega, by omega⟩ ho hol hq43
  rw [hin] at c137
  show kR 9 144 b144_90 _ _ _ _
  refine kR.s rfl rfl ?_
  refine kR.gi (a := 30) (k := 19) (v := 0) (by omega) rfl rfl rfl (by decide) (by decide) rfl (by exact hw) ?_
  refine kR.zne (by decide) (by decide) (fun q1 => absurd q1 (by decide)) (fun q1 => ?_)
  refine kR.s rfl rfl ?_
  refine kR.gi (a := 30) (k := 20) (v := 4) (by omega) rfl rfl rfl (by decide) (by decide) rfl (by exact hs) ?_
  refine kR.s rfl rfl ?_
  refine kR.jeq (by decide) (by decide) (by decide) (by decide) (fun q2 => absurd q2 (by decide)) (fun q2 => ?_)
  refine kR.s rfl rfl ?_
  refine kR.gi (a := 30) (k := 20) (v := 4) (by omega) rfl rfl rfl (by decide) (by decide) rfl (by exact hs) ?_
  refine kR.zne (by decide) (by decide) (fun q3 => ?_) (fun q3 => absurd q3 (by decide))
  show kR 9 144 b144_119 _ _ _ _
  refine kR.s rfl rfl ?_
  refine kR.gi (a := 30) (k := 20) (v := 4) (by omega) rfl rfl rfl (by decide) (by decide) rfl (by exact hs) ?_
  refine kR.s rfl rfl ?_
  refine kR.jne (by decide) (by decide) (by decide) (by decide) (fun q4 => ?_) (fun q4 => absurd q4 (by decide))
  show kR 9 144 b144_134 _ _ _ _
  refine kR.s rfl rfl ?_
  refine kR.gi (a := 30) (k := 20) (v := 4) (by omega) rfl rfl rfl (by decide) (by decide) rfl (by exact hs) ?_
  refine kR.s rfl rfl ?_
  refine kR.jne (by decide) (by decide) (by decide) (by decide) (fun q5 => ?_) (fun q5 => absurd q5 (by decide))
  show kR 9 144 b144_149 _ _ _ _
  refine kR.s rfl rfl ?_
  refine kR.gi (a := 30) (k := 20) (v := 4) (by omega) rfl rfl rfl (by decide) (by decide) rfl (by exact hs) ?_
  refine kR.s rfl rfl ?_
  refine kR.jne (by decide) (by decide) (by decide) (by decide) (fun q6 => ?_) (fun q6 => absurd q6 (by decide))
  show kR 9 144 b144_164 _ _ _ _
  refine kR.s rfl rfl ?_
  refine kR.cv (v := .int (Int32.ofInt (0))) rfl rfl (kR.up (c137) (by decide)) ?_
  refine kR.zeq (by decide) (by decide) (fun q8 => ?_) (fun q8 => absurd q8 (by decide))
  show kR 9 144 b144_178 _ _ _ _
  refine kR.s rfl rfl ?_
  refine kR.c rfl rfl k (fun u hu => ?_)
  obtain ⟨T', h1, h2⟩ := hu
  subst h1
  show kR 9 144 _ _ _ _ _
  refine kR.g rfl ?_
  exact h2
theorem kM_w {sz : Nat × Nat} {E : Nat → kC} {x1 : Int} {T : Nat → Nat → Int} {Q : kO × kH → Prop} (hw : T 30 19 = 1) (k : Q (.inl none, (sz, hp 53 E T))) : kM sz E x1 T Q := by
  show kR 9 144 b144_90 _ _ _ _
  refine kR.s rfl rfl ?_
  refine kR.gi (a := 30) (k := 19) (v := 1) (by omega) rfl rfl rfl (by decide) (by decide) rfl (by exact hw) ?_
  refine kR.zne (by decide) (by decide) (fun q1 => ?_) (fun q1 => absurd q1 (by decide))
  show kR 9 144 b144_185 _ _ _ _
  refine kR.ret rfl rfl ?_
  exact k
theorem kM_5 {sz : Nat × Nat} {E : Nat → kC} {x1 : Int} {T : Nat → Nat → Int} {Q : kO × kH → Prop} (hw : T 30 19 = 0) (hs : T 30 20 = 5) (k : Q (.inl none, (sz, hp 53 E T))) : kM sz E x1 T Q := by
  show kR 9 144 b144_90 _ _ _ _
  refine kR.s rfl rfl ?_
  refine kR.gi (a := 30) (k := 19) (v := 0) (by omega) rfl rfl rfl (by decide) (by decide) rfl (by exact hw) ?_
  refine kR.zne (by decide) (by decide) (fun q1 => absurd q1 (by decide)) (fun q1 => ?_)
  refine kR.s rfl rfl ?_
  refine kR.gi (a := 30) (k := 20) (v := 5) (by omega) rfl rfl rfl (by decide) (by decide) rfl (by exact hs) ?_
  refine kR.s rfl rfl ?_
  refine kR.jeq (by decide) (by decide) (by decide) (by decide) (fun q2 => ?_) (fun q2 => absurd q2 (by decide))
  show kR 9 144 b144_185 _ _ _ _
  refine kR.ret rfl rfl ?_
  exact k
theorem kStep.of {sz : Nat × Nat} {E : Nat → kC} {x1 : Int} {T : Nat → Nat → Int} {y : Nat} (hM : ∀ Q, kR 8 y (blk y 0) (kent y [.ref 30]) [] (sz, hp 53 E T) (fun r => ∃ T', r = (.inl none, (sz, hp 53 E T')) ∧ kM sz E x1 T' Q) → kM sz E x1 T Q) {T1 : Nat → Nat → Int} (k : kR 8 y (blk y 0) (kent y [.ref 30]) [] (sz, hp 53 E T) (fun r => r = (.inl none, (sz, hp 53 E T1)))) : kStep sz E x1 T T1 := fun Q q => hM Q (kR.wk k (fun u hu => ⟨T1, hu, q⟩))
