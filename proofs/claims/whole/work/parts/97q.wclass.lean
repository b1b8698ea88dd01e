/-! The class's write, whole. -/
section KWD
variable {E : Nat → kC} {S T : Nat → Nat → Int} {N : Nat → Nat → Int} {c u e : Nat}
theorem l_46 {sz : Nat × Nat} {c : Nat} (hc : c ≤ 60) (h5 : S 10 5 = (c : Int)) (h15 : ∀ j, j < c → 0 ≤ S 15 j ∧ S 15 j ≤ 1000) : ∀ (m i : Nat), c - i = m → i ≤ c → kR 1 46 (blk 46 4) [.ref 10, .int (Int32.ofInt (kcr (S 15) i : Int)), .int (Int32.ofInt (i : Int))] [] (sz, hp 53 E S) (fun r => r = (.inl (some (.int (Int32.ofInt (kcr (S 15) c : Int)))), (sz, hp 53 E S))) := by
  intro m
  induction m with
  | zero =>
    intro i hm hi
    have : i = c := by omega
    subst this
    show kR 1 46 b46_4 _ _ _ _
    refine kR.s rfl rfl ?_
    refine kR.s rfl rfl ?_
    refine kR.gi (a := 10) (k := 5) (v := (i : Int)) (by omega) rfl rfl rfl (by decide) (by decide) rfl (by exact h5) ?_
    refine kR.jge (by omega) (by omega) (by omega) (by omega) (fun _ => ?_) (fun q => absurd q (by omega))
    show kR 1 46 b46_29 _ _ _ _
    refine kR.s rfl rfl ?_
    refine kR.ret rfl rfl ?_
    rfl
  | succ m ih =>
    intro i hm hi
    have q15 := h15 i (by omega)
    have hs : kcr (S 15) (i + 1) = kcr (S 15) i + (if 1 < S 15 i then 1 else 0) := rfl
    have k45 := c_45 (S := S) (sz := sz) (E := E) (v := i) (h := S 15 i) (by omega) rfl q15
    show kR 1 46 b46_4 _ _ _ _
    refine kR.s rfl rfl ?_
    refine kR.s rfl rfl ?_
    refine kR.gi (a := 10) (k := 5) (v := (c : Int)) (by omega) rfl rfl rfl (by decide) (by decide) rfl (by exact h5) ?_
    refine kR.jge (by omega) (by omega) (by omega) (by omega) (fun q => absurd q (by omega)) (fun _ => ?_)
    refine kR.s rfl rfl ?_
    refine kR.s rfl rfl ?_
    have k23 : ∀ q : Nat, q = kcr (S 15) (i + 1) → kR 1 46 (blk 46 23) [.ref 10, .int (Int32.ofInt (q : Int)), .int (Int32.ofInt (i : Int))] [] (sz, hp 53 E S) (fun r => r = (.inl (some (.int (Int32.ofInt (kcr (S 15) c : Int)))), (sz, hp 53 E S))) := fun q hq => by
      rw [hq]
      show kR 1 46 b46_23 _ _ _ _
      refine kR.inc rfl ?_
      refine kR.g rfl ?_
      exact ih (i + 1) (by omega) (by omega)
    by_cases g : 1 < S 15 i
    · rw [if_pos g] at k45 hs
      refine kR.cv (v := .int (Int32.ofInt 1)) rfl rfl k45 ?_
      refine kR.zeq (by decide) (by decide) (fun q => absurd q (by decide)) (fun _ => ?_)
      refine kR.inc rfl ?_
      refine kR.n ?_
      exact k23 _ hs.symm
    · rw [if_neg g] at k45 hs
      refine kR.cv (v := .int (Int32.ofInt 0)) rfl rfl k45 ?_
      refine kR.zeq (by decide) (by decide) (fun _ => ?_) (fun q => absurd rfl q)
      exact k23 _ hs.symm
theorem c_46 {sz : Nat × Nat} {c : Nat} (hc : c ≤ 60) (h5 : S 10 5 = (c : Int)) (h15 : ∀ j, j < c → 0 ≤ S 15 j ∧ S 15 j ≤ 1000) : kR 1 46 (blk 46 0) (kent 46 [.ref 10]) [] (sz, hp 53 E S) (fun r => r = (.inl (some (.int (Int32.ofInt (kcr (S 15) c : Int)))), (sz, hp 53 E S))) := by
  show kR 1 46 b46_0 _ _ _ _
  refine kR.s rfl rfl ?_
  refine kR.s rfl rfl ?_
  refine kR.s rfl rfl ?_
  refine kR.s rfl rfl ?_
  refine kR.n ?_
  exact l_46 hc h5 h15 c 0 rfl (Nat.zero_le _)
/-- the reference, ready to write -/
def kRdy (N T : Nat → Nat → Int) (c u e : Nat) : Prop := kRel N T c u e ∧ (∀ j, j < c → T 49 j = N 25 j) ∧ (∀ j, j < 200 → -2147483648 ≤ T 39 j ∧ T 39 j < 2147483648) ∧ T 30 37 = 0 ∧ T 30 40 = 0 ∧ T 30 29 = 0 ∧ ∀ j, j < c → T 50 j = 0
/-- what is written by the class is what the reference will write -/
def kWw (E : Nat → kC) (N S : Nat → Nat → Int) (c u e : Nat) (S' : Nat → Nat → Int) (w : Nat) : Prop := kFs S S' ∧ S' 7 1 = (w : Int) ∧ w ≤ 1940 ∧ ∀ (x1 : Int) (T : Nat → Nat → Int), kRdy N T c u e → ∃ (T1 T' : Nat → Nat → Int), kR 3 160 (blk 160 0) (kent 160 [.ref 30, .int (Int32.ofInt 0)]) [] ((53, 0), hp 53 E T) (fun r => r = (.inl none, ((53, 0), hp 53 E T1))) ∧ kLs (53, 0) E x1 T1 T' ∧ T' 30 37 = (w : Int) ∧ (∀ j, j < w → Int32.ofInt (S' 8 j) = Int32.ofInt (T' 48 j)) ∧ kFwr T T' 0 ∧ T' 30 29 = 0
theorem hp_int {m a k : Nat} {S2 : Nat → Nat → Int} {q : Nat × Nat × List (Nat × Nat)} (h : hp m E S = hp m E S2) (ha : a < m) (hq : kTq a = q) (ht : ¬ q.1 = 22) (hn : ¬ (q.1 < 20 ∧ q.2.1 ≤ k)) (hl : q.2.2.lookup k = none) : Int32.ofInt (S a k) = Int32.ofInt (S2 a k) := by
  have h1 : kcell a (S a) = kcell a (S2 a) := by
    have z := congrFun h a
    rw [hp_at ha, hp_at ha] at z
    exact z
  have h2 := congrFun (congrArg (fun c : kC => c.2.2) h1) k
  subst hq
  simp only [kcell, kval, if_neg hn, if_neg ht, hl] at h2
  injection h2 with h3
theorem c_24 (hWd : kWrd E) (CW : kWf N c u e) (hS : kSub N 8 0 c 0 e) (h1 : 1 ≤ c) (hue : u + e ≤ 200 ∧ e ≤ 100) (hcr : kcr (N 25) c ≤ 26) (h3 : ∀ a, 20 ≤ a → a < 30 → S (a - 10) = N a) {T0 : Nat → Nat → Int} (h0 : kRdy N T0 c u e) : kR 31 24 (blk 24 0) (kent 24 [.ref 7, .ref 10]) [] ((53, 0), hp 53 E S) (fun r => ∃ (S' : Nat → Nat → Int) (w : Nat), r = (.inl none, ((53, 0), hp 53 E S')) ∧ kWw E N S c u e S' w) := by
  show kR 31 24 b24_0 _ _ _ _
  refine kR.s rfl rfl ?_
  refine kR.s rfl rfl ?_
  refine kR.pi (a := 7) (k := 1) (by omega) rfl rfl rfl (by decide) (by decide) rfl rfl ?_
  refine kR.s rfl rfl ?_
  refine kR.s rfl rfl ?_
  refine kR.pi (a := 7) (k := 3) (by omega) rfl rfl rfl (by decide) (by decide) rfl rfl ?_
  refine kR.s rfl rfl ?_
  refine kR.gr (a := 7) (b := 9) (k := 2) (by omega) rfl rfl rfl (by decide) (by decide) rfl ?_
  refine kR.s rfl rfl ?_
  refine kR.c rfl rfl (kR.up (c_180 (a := 9) (N := 60) (m := 53) (S := ku (ku S 7 1 0) 7 3 0) (E := E) (sz := (53, 0)) (v := -1) (Q := fun r => ∃ Y, r = (.inl none, ((53, 0), hp 53 E Y)) ∧ (∀ k, k < 60 → Y 9 k = -1) ∧ ∀ b, b ≠ 9 → Y b = ku (ku S 7 1 0) 7 3 0 b) (by decide) rfl (by decide) rfl (fun Y y1 y2 => ⟨Y, rfl, y1, y2⟩)) (by decide)) (fun r hr => ?_)
  obtain ⟨Y, e1, y1, y2⟩ := hr
  subst e1
  show kR 31 24 _ _ [] ((53, 0), hp 53 E Y) _
  have hY7 : Y 7 1 = 0 ∧ Y 7 3 = 0 := by
    rw [y2 7 (by decide)]
    exact ⟨rfl, rfl⟩
  have hYc : ∀ a, a ≠ 7 → a ≠ 9 → Y a = S a := fun a g1 g2 => by
    rw [y2 a g2]
    show (if a = 7 then _ else (if a = 7 then _ else S a)) = S a
    rw [if_neg g1, if_neg g1]
  have hw1 := CW.1.1
  have h24 := (CW.2.1 0 (by omega)).2.2.2.2.2.1
  have hb0 : (0 : Int) ≤ kFb N c u 0 0 := by
    unfold kFb kBg
    rw [if_pos (by omega)]
    show (0 : Int) ≤ 2 * N 24 0 + 21 * 0 + 4 * 0 + 3 * 0
    omega
  have hm : ∀ (p : Int × (Nat → Nat → Int)), kRdy N p.2 c u e → kR 30 25 (blk 25 0) (kent 25 [.ref 7, .ref 10, .int (Int32.ofInt ((0 : Nat) : Int)), .int (Int32.ofInt 1)]) [] ((53, 0), hp 53 E Y) (fun r => ∃ (S' T1 T' : Nat → Nat → Int) (w : Nat), r = (.inl none, ((53, 0), hp 53 E S')) ∧ kR 3 160 (blk 160 0) (kent 160 [.ref 30, .int (Int32.ofInt ((0 : Nat) : Int))]) [] ((53, 0), hp 53 E p.2) (fun r => r = (.inl none, ((53, 0), hp 53 E T1))) ∧ kLs (53, 0) E p.1 T1 T' ∧ S' 7 1 = (w : Int) ∧ w ≤ 1940 ∧ T' 30 37 = (w : Int) ∧ (∀ j, j < w → S' 8 j = T' 48 j) ∧ kFwr p.2 T' 0 ∧ T' 30 29 = 0 ∧ kFs Y S') := by
    intro p hT
    obtain ⟨t1, t2, t3, t4, t5, t6, t7⟩ := hT
    have C : kCx N Y p.2 c u e := ⟨CW, t1, fun a g1 g2 => by rw [hYc (a - 10) (by omega) (by omega)]; exact h3 a g1 g2, t2, ⟨hcr, hue⟩, t3⟩
    have W : kWr N Y p.2 c 0 0 := ⟨⟨hY7.1, t4, fun j hj => absurd hj (Nat.not_lt_zero _)⟩, ⟨hY7.2, t5⟩, fun j hj => by rw [if_neg (fun z => absurd z.1 (Nat.not_lt_zero _))]; exact y1 j (by omega), fun j hj => by rw [if_neg (fun z => absurd z.1 (Nat.not_lt_zero _))]; exact t7 j hj⟩
    obtain ⟨S', T1, T', w', j1, j2, j3, j4, j5, j6, j7, j8⟩ := put_all (E := E) (N := N) (sz := (53, 0)) (x1 := p.1) (c := c) (u := u) (e := e) hWd 8 0 c 0 e hS Y p.2 0 0 0 1 C W t6 (by omega) (by omega) (Nat.le_refl _) (Nat.le_refl _) (fun i hi _ _ => ⟨Nat.zero_le _, hi⟩) (fun j g1 g2 => by omega) (by omega)
    have hM := kFb_max (k := c) (n := e) C (Nat.le_refl _) (Nat.le_refl _)
    refine kR.wk j1 (fun r hr => ⟨S', T1, T', w', hr, j2, j3, j4.1.1, by omega, j4.1.2.1, j4.1.2.2, j7, j8, j6⟩)
  have kk := kR.all (P := fun p : Int × (Nat → Nat → Int) => kRdy N p.2 c u e) (0, T0) h0 hm
  refine kR.s rfl rfl ?_
  refine kR.s rfl rfl ?_
  refine kR.s rfl rfl ?_
  refine kR.s rfl rfl ?_
  refine kR.c rfl rfl kk (fun r hr => ?_)
  obtain ⟨S0, _, _, w0, g1, _, _, g4, g5, _, _, _, _, g10⟩ := hr (0, T0) h0
  subst g1
  show kR 31 24 _ _ [] ((53, 0), hp 53 E S0) _
  refine kR.ret rfl rfl ?_
  refine ⟨S0, w0, rfl, fun a q1 q2 q3 => (g10 a q1 q2 q3).trans (hYc a q1 q3), g4, g5, fun x1 T hT => ?_⟩
  obtain ⟨S2, T1, T', w2, i1, i2, i3, i4, i5, i6, i7, i8, i9, i10⟩ := hr (x1, T) hT
  have hh : hp 53 E S0 = hp 53 E S2 := by
    have z := i1
    injection z with z1 z2
    injection z2
  have ew : w0 = w2 := by
    have z := hp_val (a := 7) (k := 1) hh (by decide) rfl (by decide) (by decide) rfl (by omega) (by omega)
    omega
  subst ew
  exact ⟨T1, T', i2, i3, i6, fun j hj => by rw [← i7 j hj]; exact hp_int (a := 8) (q := (21, 2000, [])) hh (by decide) rfl (by decide) (fun z => absurd z.1 (by decide)) rfl, i8, i9⟩
theorem c_12t {c : Nat} (hc : c ≤ 60) (h5 : S 10 5 = (c : Int)) (h15 : ∀ j, j < c → 0 ≤ S 15 j ∧ S 15 j ≤ 1000) (hx : c = 0 ∨ 26 < kcr (S 15) c) : kR 32 12 (blk 12 0) (kent 12 [.ref 0]) [] ((53, 0), hp 53 E S) (fun r => r = (.inr 53, knew ((53, 0), hp 53 E S) 32 6 (fun _ => .null))) := by
  show kR 32 12 b12_0 _ _ _ _
  refine kR.s rfl rfl ?_
  refine kR.gr (a := 0) (b := 10) (k := 2) (by omega) rfl rfl rfl (by decide) (by decide) rfl ?_
  refine kR.gi (a := 10) (k := 5) (v := (c : Int)) (by omega) rfl rfl rfl (by decide) (by decide) rfl (by exact h5) ?_
  refine kR.zne (by omega) (by omega) (fun q => ?_) (fun q => ?_)
  · show kR 32 12 b12_20 _ _ _ _
    have hq : kcr (S 15) c ≤ c := by
      have z : ∀ j, kcr (S 15) j ≤ j := fun j => by
        induction j with
        | zero => exact Nat.le_refl _
        | succ j ih =>
          show kcr (S 15) j + _ ≤ _
          split <;> omega
      exact z c
    refine kR.s rfl rfl ?_
    refine kR.gr (a := 0) (b := 10) (k := 2) (by omega) rfl rfl rfl (by decide) (by decide) rfl ?_
    refine kR.cv (v := .int (Int32.ofInt (kcr (S 15) c : Int))) rfl rfl (kR.up (c_46 (E := E) (sz := (53, 0)) hc h5 h15) (by decide)) ?_
    refine kR.bi rfl ?_
    refine kR.jle (by omega) (by omega) (by omega) (by omega) (fun q => absurd q (by omega)) (fun q => ?_)
    exact kR.t rfl rfl (by decide) rfl
  · exact kR.t rfl rfl (by decide) rfl
theorem c_12g (hWd : kWrd E) (CW : kWf N c u e) (hS : kSub N 8 0 c 0 e) (h1 : 1 ≤ c) (hue : u + e ≤ 200 ∧ e ≤ 100) (hcr : kcr (N 25) c ≤ 26) (h3 : ∀ a, 20 ≤ a → a < 30 → S (a - 10) = N a) (h5 : S 10 5 = (c : Int)) (h15 : ∀ j, j < c → 0 ≤ S 15 j ∧ S 15 j ≤ 1000) {T0 : Nat → Nat → Int} (h0 : kRdy N T0 c u e) : kR 32 12 (blk 12 0) (kent 12 [.ref 0]) [] ((53, 0), hp 53 E S) (fun r => ∃ (S' : Nat → Nat → Int) (w : Nat), r = (.inl (some (.int (Int32.ofInt (w : Int)))), ((53, 0), hp 53 E S')) ∧ kWw E N S c u e S' w) := by
  have e15 : S 15 = N 25 := h3 25 (by decide) (by decide)
  have hw1 := CW.1.1
  show kR 32 12 b12_0 _ _ _ _
  refine kR.s rfl rfl ?_
  refine kR.gr (a := 0) (b := 10) (k := 2) (by omega) rfl rfl rfl (by decide) (by decide) rfl ?_
  refine kR.gi (a := 10) (k := 5) (v := (c : Int)) (by omega) rfl rfl rfl (by decide) (by decide) rfl (by exact h5) ?_
  refine kR.zne (by omega) (by omega) (fun q => ?_) (fun q => absurd q (by omega))
  show kR 32 12 b12_20 _ _ _ _
  refine kR.s rfl rfl ?_
  refine kR.gr (a := 0) (b := 10) (k := 2) (by omega) rfl rfl rfl (by decide) (by decide) rfl ?_
  refine kR.cv (v := .int (Int32.ofInt (kcr (S 15) c : Int))) rfl rfl (kR.up (c_46 (E := E) (sz := (53, 0)) hw1 h5 h15) (by decide)) ?_
  rw [e15]
  refine kR.bi rfl ?_
  refine kR.jle (by omega) (by omega) (by omega) (by omega) (fun q => ?_) (fun q => absurd q (by omega))
  show kR 32 12 b12_42 _ _ _ _
  refine kR.s rfl rfl ?_
  refine kR.gr (a := 0) (b := 7) (k := 1) (by omega) rfl rfl rfl (by decide) (by decide) rfl ?_
  refine kR.s rfl rfl ?_
  refine kR.gr (a := 0) (b := 10) (k := 2) (by omega) rfl rfl rfl (by decide) (by decide) rfl ?_
  refine kR.c rfl rfl (c_24 (S := S) hWd CW hS h1 hue hcr h3 h0) (fun r hr => ?_)
  obtain ⟨S', w, e1, hw⟩ := hr
  subst e1
  show kR 32 12 _ _ [] ((53, 0), hp 53 E S') _
  refine kR.s rfl rfl ?_
  refine kR.gr (a := 0) (b := 7) (k := 1) (by omega) rfl rfl rfl (by decide) (by decide) rfl ?_
  refine kR.gi (a := 7) (k := 1) (v := (w : Int)) (by omega) rfl rfl rfl (by decide) (by decide) rfl (by exact hw.2.1) ?_
  refine kR.ret rfl rfl ?_
  exact ⟨S', w, rfl, hw⟩
theorem c_168t {c : Nat} (hc : c ≤ 60) (h5 : S 10 5 = (c : Int)) (h15 : ∀ j, j < c → 0 ≤ S 15 j ∧ S 15 j ≤ 1000) (hx : c = 0 ∨ 26 < kcr (S 15) c) : kR 33 168 (blk 168 0) (kent 168 [.ref 0, .ref 52]) [] ((53, 0), hp 53 E S) (fun r => r = (.inl (some (.int (Int32.ofInt 1))), knew ((53, 0), hp 53 E S) 32 6 (fun _ => .null))) := by
  show kR 33 168 b168_0 _ _ _ _
  refine kR.s rfl rfl ?_
  refine kR.s rfl rfl ?_
  refine kR.s rfl rfl ?_
  refine kR.c rfl rfl (c_12t (E := E) hc h5 h15 hx) (fun r hr => ?_)
  subst hr
  show kR 33 168 b168_11 _ _ _ _
  refine kR.s rfl rfl ?_
  refine kR.s rfl rfl ?_
  refine kR.ret rfl rfl ?_
  rfl
theorem c_168g (hWd : kWrd E) (CW : kWf N c u e) (hS : kSub N 8 0 c 0 e) (h1 : 1 ≤ c) (hue : u + e ≤ 200 ∧ e ≤ 100) (hcr : kcr (N 25) c ≤ 26) (h3 : ∀ a, 20 ≤ a → a < 30 → S (a - 10) = N a) (h5 : S 10 5 = (c : Int)) (h15 : ∀ j, j < c → 0 ≤ S 15 j ∧ S 15 j ≤ 1000) {T0 : Nat → Nat → Int} (h0 : kRdy N T0 c u e) : kR 33 168 (blk 168 0) (kent 168 [.ref 0, .ref 52]) [] ((53, 0), hp 53 E S) (fun r => ∃ (S' : Nat → Nat → Int) (w : Nat), r = (.inl (some (.int (Int32.ofInt 0))), ((53, 0), hp 53 E (ku S' 52 0 (w : Int)))) ∧ kWw E N S c u e S' w) := by
  show kR 33 168 b168_0 _ _ _ _
  refine kR.s rfl rfl ?_
  refine kR.s rfl rfl ?_
  refine kR.s rfl rfl ?_
  refine kR.c rfl rfl (c_12g (S := S) hWd CW hS h1 hue hcr h3 h5 h15 h0) (fun r hr => ?_)
  obtain ⟨S', w, e1, hw⟩ := hr
  subst e1
  have hw2 := hw.2.2.1
  show kR 33 168 _ _ _ ((53, 0), hp 53 E S') _
  refine kR.i2l (by omega) (by omega) ?_
  refine kR.lst (z := 0) (by omega) rfl (by decide) (by omega) (by omega) ?_
  refine kR.g rfl ?_
  show kR 33 168 b168_14 _ _ _ _
  refine kR.s rfl rfl ?_
  refine kR.ret rfl rfl ?_
  exact ⟨S', w, rfl, hw⟩
end KWD
