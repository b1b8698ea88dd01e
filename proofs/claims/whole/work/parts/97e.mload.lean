/-! The reference's load. -/
section KRL2
variable {sz : Nat × Nat} {E : Nat → kC} {S : Nat → Nat → Int} {t : Nat → Int} {n : Nat}
theorem l_145_1 {Q : kO × kH → Prop} (hn : n ≤ 200) : ∀ (j i : Nat) (X : Nat → Nat → Int), n - i = j → i ≤ n → X 30 2 = (n : Int) → (∀ k, k < i → X 33 k = X 31 k) → (∀ Y, (∀ k, k < n → Y 33 k = X 31 k) → (∀ b, b ≠ 33 → Y b = X b) → kR 11 145 (blk 145 33) [.ref 30, .int (Int32.ofInt (n : Int))] [] (sz, hp 53 E Y) Q) → kR 11 145 (blk 145 7) [.ref 30, .int (Int32.ofInt (i : Int))] [] (sz, hp 53 E X) Q := by
  intro j
  induction j with
  | zero =>
    intro i X hj hi hb h0 h
    have e : i = n := by omega
    subst e
    show kR 11 145 b145_7 _ _ _ _
    refine kR.s rfl rfl ?_
    refine kR.s rfl rfl ?_
    refine kR.gi (a := 30) (k := 2) (v := (i : Int)) (by omega) rfl rfl rfl (by decide) (by decide) rfl (by exact hb) ?_
    refine kR.jge (by omega) (by omega) (by omega) (by omega) (fun q1 => ?_) (fun q1 => absurd q1 (by omega))
    exact h X h0 (fun _ _ => rfl)
  | succ j ih =>
    intro i X hj hi hb h0 h
    show kR 11 145 b145_7 _ _ _ _
    refine kR.s rfl rfl ?_
    refine kR.s rfl rfl ?_
    refine kR.gi (a := 30) (k := 2) (v := (n : Int)) (by omega) rfl rfl rfl (by decide) (by decide) rfl (by exact hb) ?_
    refine kR.jge (by omega) (by omega) (by omega) (by omega) (fun q1 => absurd q1 (by omega)) (fun q1 => ?_)
    refine kR.s rfl rfl ?_
    refine kR.gr (a := 30) (b := 33) (k := 6) (by omega) rfl rfl rfl (by decide) (by decide) rfl ?_
    refine kR.s rfl rfl ?_
    refine kR.s rfl rfl ?_
    refine kR.gr (a := 30) (b := 31) (k := 1) (by omega) rfl rfl rfl (by decide) (by decide) rfl ?_
    refine kR.s rfl rfl ?_
    refine kR.ia (a := 31) (v := X 31 i) (by omega) rfl (by decide) (by omega) (by omega) (by rfl) ?_
    refine kR.ist (a := 33) (by omega) rfl (by decide) (by omega) (by omega) ?_
    refine kR.inc rfl ?_
    refine kR.g rfl ?_
    refine ih (i + 1) (ku X 33 i (X 31 i)) (by omega) (by omega) (by exact hb) (fun k hk => ?_) (fun Y h1 h2 => h Y (fun k hk => h1 k hk) (fun b hb => (h2 b hb).trans (if_neg hb)))
    show (if k = i then X 31 i else X 33 k) = X 31 k
    by_cases e : k = i
    · rw [if_pos e, e]
    · rw [if_neg e]
      exact h0 k (by omega)
theorem l_145_2 {Q : kO × kH → Prop} (hn : n ≤ 200) : ∀ (j i : Nat) (X : Nat → Nat → Int), n - i = j → i ≤ n → X 30 7 = (n : Int) → (∀ k, k < i → X 32 k = X 33 k) → (∀ Y, (∀ k, k < n → Y 32 k = X 33 k) → (∀ b, b ≠ 32 → Y b = X b) → kR 11 145 (blk 145 80) [.ref 30, .int (Int32.ofInt (n : Int))] [] (sz, hp 53 E Y) Q) → kR 11 145 (blk 145 54) [.ref 30, .int (Int32.ofInt (i : Int))] [] (sz, hp 53 E X) Q := by
  intro j
  induction j with
  | zero =>
    intro i X hj hi hb h0 h
    have e : i = n := by omega
    subst e
    show kR 11 145 b145_54 _ _ _ _
    refine kR.s rfl rfl ?_
    refine kR.s rfl rfl ?_
    refine kR.gi (a := 30) (k := 7) (v := (i : Int)) (by omega) rfl rfl rfl (by decide) (by decide) rfl (by exact hb) ?_
    refine kR.jge (by omega) (by omega) (by omega) (by omega) (fun q1 => ?_) (fun q1 => absurd q1 (by omega))
    exact h X h0 (fun _ _ => rfl)
  | succ j ih =>
    intro i X hj hi hb h0 h
    show kR 11 145 b145_54 _ _ _ _
    refine kR.s rfl rfl ?_
    refine kR.s rfl rfl ?_
    refine kR.gi (a := 30) (k := 7) (v := (n : Int)) (by omega) rfl rfl rfl (by decide) (by decide) rfl (by exact hb) ?_
    refine kR.jge (by omega) (by omega) (by omega) (by omega) (fun q1 => absurd q1 (by omega)) (fun q1 => ?_)
    refine kR.s rfl rfl ?_
    refine kR.gr (a := 30) (b := 32) (k := 3) (by omega) rfl rfl rfl (by decide) (by decide) rfl ?_
    refine kR.s rfl rfl ?_
    refine kR.s rfl rfl ?_
    refine kR.gr (a := 30) (b := 33) (k := 6) (by omega) rfl rfl rfl (by decide) (by decide) rfl ?_
    refine kR.s rfl rfl ?_
    refine kR.ia (a := 33) (v := X 33 i) (by omega) rfl (by decide) (by omega) (by omega) (by rfl) ?_
    refine kR.ist (a := 32) (by omega) rfl (by decide) (by omega) (by omega) ?_
    refine kR.inc rfl ?_
    refine kR.g rfl ?_
    refine ih (i + 1) (ku X 32 i (X 33 i)) (by omega) (by omega) (by exact hb) (fun k hk => ?_) (fun Y h1 h2 => h Y (fun k hk => h1 k hk) (fun b hb => (h2 b hb).trans (if_neg hb)))
    show (if k = i then X 33 i else X 32 k) = X 33 k
    by_cases e : k = i
    · rw [if_pos e, e]
    · rw [if_neg e]
      exact h0 k (by omega)
theorem l_145_3 {Q : kO × kH → Prop} (hn : n ≤ 200) : ∀ (j i : Nat) (X : Nat → Nat → Int), n - i = j → i ≤ n → X 30 4 = (n : Int) → (∀ k, k < i → X 33 k = X 32 k) → (∀ Y, (∀ k, k < n → Y 33 k = X 32 k) → (∀ b, b ≠ 33 → Y b = X b) → kR 11 145 (blk 145 138) [.ref 30, .int (Int32.ofInt (n : Int))] [] (sz, hp 53 E Y) Q) → kR 11 145 (blk 145 112) [.ref 30, .int (Int32.ofInt (i : Int))] [] (sz, hp 53 E X) Q := by
  intro j
  induction j with
  | zero =>
    intro i X hj hi hb h0 h
    have e : i = n := by omega
    subst e
    show kR 11 145 b145_112 _ _ _ _
    refine kR.s rfl rfl ?_
    refine kR.s rfl rfl ?_
    refine kR.gi (a := 30) (k := 4) (v := (i : Int)) (by omega) rfl rfl rfl (by decide) (by decide) rfl (by exact hb) ?_
    refine kR.jge (by omega) (by omega) (by omega) (by omega) (fun q1 => ?_) (fun q1 => absurd q1 (by omega))
    exact h X h0 (fun _ _ => rfl)
  | succ j ih =>
    intro i X hj hi hb h0 h
    show kR 11 145 b145_112 _ _ _ _
    refine kR.s rfl rfl ?_
    refine kR.s rfl rfl ?_
    refine kR.gi (a := 30) (k := 4) (v := (n : Int)) (by omega) rfl rfl rfl (by decide) (by decide) rfl (by exact hb) ?_
    refine kR.jge (by omega) (by omega) (by omega) (by omega) (fun q1 => absurd q1 (by omega)) (fun q1 => ?_)
    refine kR.s rfl rfl ?_
    refine kR.gr (a := 30) (b := 33) (k := 6) (by omega) rfl rfl rfl (by decide) (by decide) rfl ?_
    refine kR.s rfl rfl ?_
    refine kR.s rfl rfl ?_
    refine kR.gr (a := 30) (b := 32) (k := 3) (by omega) rfl rfl rfl (by decide) (by decide) rfl ?_
    refine kR.s rfl rfl ?_
    refine kR.ia (a := 32) (v := X 32 i) (by omega) rfl (by decide) (by omega) (by omega) (by rfl) ?_
    refine kR.ist (a := 33) (by omega) rfl (by decide) (by omega) (by omega) ?_
    refine kR.inc rfl ?_
    refine kR.g rfl ?_
    refine ih (i + 1) (ku X 33 i (X 32 i)) (by omega) (by omega) (by exact hb) (fun k hk => ?_) (fun Y h1 h2 => h Y (fun k hk => h1 k hk) (fun b hb => (h2 b hb).trans (if_neg hb)))
    show (if k = i then X 32 i else X 33 k) = X 32 k
    by_cases e : k = i
    · rw [if_pos e, e]
    · rw [if_neg e]
      exact h0 k (by omega)
/-- what the reference's load does when the walk is good -/
theorem c_145g {P : (Nat → Nat → Int) → Prop} (hn : n ≤ 200) (h2 : S 30 2 = (n : Int)) (h31 : ∀ j, j < n → S 31 j = t j) (hw : ∀ T, kRt T t n → (∀ a, a ≠ 30 → a ≠ 33 → T a = S a) → (∀ k, k ≠ 0 → k ≠ 7 → T 30 k = S 30 k) → T 30 0 = 0 → ∃ T', kWk sz E T T' ∧ T' 30 19 = 0 ∧ kFt T T' ∧ P T') : kR 11 145 (blk 145 0) (kent 145 [.ref 30]) [] (sz, hp 53 E S) (fun r => ∃ S2 T', r = (.inl (some (.int (Int32.ofInt (T' 30 8)))), (sz, hp 53 E S2)) ∧ P T' ∧ (∀ a, a ≠ 30 → a ≠ 32 → S2 a = T' a) ∧ (∀ k, k ≠ 4 → k ≠ 5 → S2 30 k = T' 30 k) ∧ S2 30 4 = (n : Int) ∧ S2 30 5 = 1 ∧ (∀ j, j < n → S2 32 j = t j) ∧ (∀ a, a ≠ 30 → (a < 32 ∨ 47 < a) → S2 a = S a) ∧ S2 30 0 = 0 ∧ (∀ k, (k = 2 ∨ k = 37 ∨ k = 40) → S2 30 k = S 30 k)) := by
  show kR 11 145 b145_0 _ _ _ _
  refine kR.s rfl rfl ?_
  refine kR.s rfl rfl ?_
  refine kR.pi (a := 30) (k := 0) (by omega) rfl rfl rfl (by decide) (by decide) rfl rfl ?_
  refine kR.s rfl rfl ?_
  refine kR.s rfl rfl ?_
  refine kR.n ?_
  refine l_145_1 (n := n) hn n 0 (ku S 30 0 0) rfl (by omega) (by exact h2) (fun k hk => by omega) (fun Y y1 y2 => ?_)
  show kR 11 145 b145_33 _ _ _ _
  refine kR.s rfl rfl ?_
  refine kR.s rfl rfl ?_
  refine kR.gi (a := 30) (k := 2) (v := (n : Int)) (by omega) rfl rfl rfl (by decide) (by decide) rfl (by rw [y2 30 (by decide)]; exact h2) ?_
  refine kR.pi (a := 30) (k := 7) (by omega) rfl rfl rfl (by decide) (by decide) rfl rfl ?_
  obtain ⟨T', w1, w2, w3, w4⟩ := hw (ku Y 30 7 (n : Int)) ⟨rfl, fun j hj => (y1 j hj).trans (h31 j hj)⟩ (fun a h1 h2 => by
    show (if a = 30 then _ else Y a) = S a
    rw [if_neg h1, y2 a h2]
    show (if a = 30 then _ else S a) = S a
    rw [if_neg h1]) (fun k h1 h2 => by
    show (if k = 7 then _ else Y 30 k) = S 30 k
    rw [if_neg h2, y2 30 (by decide)]
    show (if k = 0 then _ else S 30 k) = S 30 k
    rw [if_neg h1]) (by
    show Y 30 0 = 0
    rw [y2 30 (by decide)]
    rfl)
  refine kR.s rfl rfl ?_
  refine kR.c0 rfl rfl w1 ?_
  refine kR.s rfl rfl ?_
  refine kR.gi (a := 30) (k := 19) (v := 0) (by omega) rfl rfl rfl (by decide) (by decide) rfl (by exact w2) ?_
  refine kR.zne (by decide) (by decide) (fun q => absurd rfl q) (fun _ => ?_)
  refine kR.s rfl rfl ?_
  refine kR.s rfl rfl ?_
  refine kR.n ?_
  have t7 : T' 30 7 = (n : Int) := w3.2 7 (by decide)
  have t33 : ∀ j, j < n → T' 33 j = t j := fun j hj => by
    rw [w3.1 33 (by decide) (by decide)]
    exact (y1 j hj).trans (h31 j hj)
  refine l_145_2 (n := n) hn n 0 T' rfl (by omega) t7 (fun k hk => by omega) (fun Z z1 z2 => ?_)
  show kR 11 145 b145_80 _ _ _ _
  refine kR.s rfl rfl ?_
  refine kR.s rfl rfl ?_
  refine kR.gi (a := 30) (k := 7) (v := (n : Int)) (by omega) rfl rfl rfl (by decide) (by decide) rfl (by rw [z2 30 (by decide)]; exact t7) ?_
  refine kR.pi (a := 30) (k := 4) (by omega) rfl rfl rfl (by decide) (by decide) rfl rfl ?_
  refine kR.s rfl rfl ?_
  refine kR.s rfl rfl ?_
  refine kR.pi (a := 30) (k := 5) (by omega) rfl rfl rfl (by decide) (by decide) rfl rfl ?_
  refine kR.s rfl rfl ?_
  refine kR.gi (a := 30) (k := 8) (v := T' 30 8) (by omega) rfl rfl rfl (by decide) (by decide) rfl (by show Z 30 8 = _; rw [z2 30 (by decide)]) ?_
  refine kR.ret rfl rfl ?_
  have hZa : ∀ a, a ≠ 30 → a ≠ 32 → ku (ku Z 30 4 (n : Int)) 30 5 1 a = T' a := fun a h1 h2 => by
    show (if a = 30 then _ else (if a = 30 then _ else Z a)) = T' a
    rw [if_neg h1, if_neg h1, z2 a h2]
  refine ⟨_, T', rfl, w4, hZa, fun k h1 h2 => ?_, rfl, rfl, fun j hj => (z1 j hj).trans (t33 j hj), fun a h1 h2 => ?_, ?_, fun k hk => ?_⟩
  · show (if k = 5 then _ else (if k = 4 then _ else Z 30 k)) = T' 30 k
    rw [if_neg h2, if_neg h1, z2 30 (by decide)]
  · rw [hZa a h1 (by omega), w3.1 a h1 (by omega)]
    show (if a = 30 then _ else Y a) = S a
    rw [if_neg h1, y2 a (by omega)]
    show (if a = 30 then _ else S a) = S a
    rw [if_neg h1]
  · show Z 30 0 = 0
    rw [z2 30 (by decide), w3.2 0 (by decide)]
    show Y 30 0 = 0
    rw [y2 30 (by decide)]
    rfl
  · show (if k = 5 then _ else (if k = 4 then _ else Z 30 k)) = S 30 k
    rw [if_neg (by omega), if_neg (by omega), z2 30 (by decide), w3.2 k (by omega)]
    show (if k = 7 then _ else Y 30 k) = S 30 k
    rw [if_neg (by omega), y2 30 (by decide)]
    show (if k = 0 then _ else S 30 k) = S 30 k
    rw [if_neg (by omega)]
/-- and when it is not: the old text is walked again -/
theorem c_145b {P : (Nat → Nat → Int) → Prop} {t0 : Nat → Int} {n0 : Nat} (hn : n ≤ 200) (h2 : S 30 2 = (n : Int)) (h31 : ∀ j, j < n → S 31 j = t j) (hw : ∀ T, kRt T t n → (∀ a, a ≠ 30 → a ≠ 33 → T a = S a) → (∀ k, k ≠ 0 → k ≠ 7 → T 30 k = S 30 k) → T 30 0 = 0 → ∃ T', kWk sz E T T' ∧ T' 30 19 = 1 ∧ kFt T T') (h5 : S 30 5 = 0 ∨ S 30 5 = 1) (hn0 : n0 ≤ 200) (h4 : S 30 5 = 1 → S 30 4 = (n0 : Int) ∧ (∀ j, j < n0 → S 32 j = t0 j) ∧ ∀ T, kRt T t0 n0 → ∃ T', kWk sz E T T' ∧ kFt T T' ∧ P T') (h0 : S 30 5 = 0 → ∀ T, T 30 8 = 0 → P T) : kR 11 145 (blk 145 0) (kent 145 [.ref 30]) [] (sz, hp 53 E S) (fun r => ∃ S2 T', r = (.inl (some (.int (Int32.ofInt 0))), (sz, hp 53 E S2)) ∧ P T' ∧ (∀ a, a ≠ 30 → S2 a = T' a) ∧ (∀ k, k ≠ 0 → S2 30 k = T' 30 k) ∧ S2 30 0 = 1 ∧ (∀ a, a ≠ 30 → (a < 33 ∨ 47 < a) → S2 a = S a) ∧ (∀ k, (k = 2 ∨ k = 4 ∨ k = 5 ∨ k = 37 ∨ k = 40) → S2 30 k = S 30 k)) := by
  have hm : 53 ≤ 53 ∧ 53 ≤ 57 := by omega
  show kR 11 145 b145_0 _ _ _ _
  refine kR.s rfl rfl ?_
  refine kR.s rfl rfl ?_
  refine kR.pi (a := 30) (k := 0) (by omega) rfl rfl rfl (by decide) (by decide) rfl rfl ?_
  refine kR.s rfl rfl ?_
  refine kR.s rfl rfl ?_
  refine kR.n ?_
  refine l_145_1 (n := n) hn n 0 (ku S 30 0 0) rfl (by omega) (by exact h2) (fun k hk => by omega) (fun Y y1 y2 => ?_)
  show kR 11 145 b145_33 _ _ _ _
  refine kR.s rfl rfl ?_
  refine kR.s rfl rfl ?_
  refine kR.gi (a := 30) (k := 2) (v := (n : Int)) (by omega) rfl rfl rfl (by decide) (by decide) rfl (by rw [y2 30 (by decide)]; exact h2) ?_
  refine kR.pi (a := 30) (k := 7) (by omega) rfl rfl rfl (by decide) (by decide) rfl rfl ?_
  have yA : ∀ a, a ≠ 30 → a ≠ 33 → ku Y 30 7 (n : Int) a = S a := fun a h1 h2 => by
    show (if a = 30 then _ else Y a) = S a
    rw [if_neg h1, y2 a h2]
    show (if a = 30 then _ else S a) = S a
    rw [if_neg h1]
  have yK : ∀ k, k ≠ 0 → k ≠ 7 → ku Y 30 7 (n : Int) 30 k = S 30 k := fun k h1 h2 => by
    show (if k = 7 then _ else Y 30 k) = S 30 k
    rw [if_neg h2, y2 30 (by decide)]
    show (if k = 0 then _ else S 30 k) = S 30 k
    rw [if_neg h1]
  obtain ⟨T', w1, w2, w3⟩ := hw (ku Y 30 7 (n : Int)) ⟨rfl, fun j hj => (y1 j hj).trans (h31 j hj)⟩ yA yK (by
    show Y 30 0 = 0
    rw [y2 30 (by decide)]
    rfl)
  refine kR.s rfl rfl ?_
  refine kR.c0 rfl rfl w1 ?_
  refine kR.s rfl rfl ?_
  refine kR.gi (a := 30) (k := 19) (v := 1) (by omega) rfl rfl rfl (by decide) (by decide) rfl (by exact w2) ?_
  refine kR.zne (by decide) (by decide) (fun _ => ?_) (fun q => absurd q (by decide))
  show kR 11 145 b145_98 _ _ _ _
  refine kR.s rfl rfl ?_
  refine kR.s rfl rfl ?_
  refine kR.pi (a := 30) (k := 8) (by omega) rfl rfl rfl (by decide) (by decide) rfl rfl ?_
  refine kR.s rfl rfl ?_
  have t5 : T' 30 5 = S 30 5 := (w3.2 5 (by decide)).trans (yK 5 (by decide) (by decide))
  have t4 : T' 30 4 = S 30 4 := (w3.2 4 (by decide)).trans (yK 4 (by decide) (by decide))
  have hfin : ∀ (X T2 : Nat → Nat → Int), P T2 → X = T2 → (∀ a, a ≠ 30 → (a < 33 ∨ 47 < a) → X a = S a) → (∀ k, (k = 2 ∨ k = 4 ∨ k = 5 ∨ k = 37 ∨ k = 40) → X 30 k = S 30 k) → ∀ v1 : Value, kR 11 145 (blk 145 150) [.ref 30, v1] [] (sz, hp 53 E X) (fun r => ∃ S2 T', r = (.inl (some (.int (Int32.ofInt 0))), (sz, hp 53 E S2)) ∧ P T' ∧ (∀ a, a ≠ 30 → S2 a = T' a) ∧ (∀ k, k ≠ 0 → S2 30 k = T' 30 k) ∧ S2 30 0 = 1 ∧ (∀ a, a ≠ 30 → (a < 33 ∨ 47 < a) → S2 a = S a) ∧ (∀ k, (k = 2 ∨ k = 4 ∨ k = 5 ∨ k = 37 ∨ k = 40) → S2 30 k = S 30 k)) := fun X T2 hP hXT x1 x2 v1 => by
    show kR 11 145 b145_150 _ _ _ _
    refine kR.s rfl rfl ?_
    refine kR.s rfl rfl ?_
    refine kR.cv (v := .int (Int32.ofInt 0)) rfl rfl (kR.up (c_101 (S := X) (E := E) (sz := sz) hm (by omega)) (by decide)) ?_
    refine kR.ret rfl rfl ?_
    refine ⟨_, T2, rfl, hP, fun a h1 => ?_, fun k h1 => ?_, rfl, fun a h1 h2 => ?_, fun k hk => ?_⟩
    · show (if a = 30 then _ else X a) = _
      rw [if_neg h1, hXT]
    · show (if k = 0 then _ else X 30 k) = _
      rw [if_neg h1, hXT]
    · show (if a = 30 then _ else X a) = _
      rw [if_neg h1]
      exact x1 a h1 h2
    · show (if k = 0 then _ else X 30 k) = _
      rw [if_neg (by omega)]
      exact x2 k hk
  have t8A : ∀ a, a ≠ 30 → (a < 33 ∨ 47 < a) → ku T' 30 8 0 a = S a := fun a h1 h2 => by
    show (if a = 30 then _ else T' a) = S a
    rw [if_neg h1, w3.1 a h1 (by omega)]
    exact yA a h1 (by omega)
  have t8K : ∀ k, (k = 2 ∨ k = 4 ∨ k = 5 ∨ k = 37 ∨ k = 40) → ku T' 30 8 0 30 k = S 30 k := fun k hk => by
    show (if k = 8 then _ else T' 30 k) = S 30 k
    rw [if_neg (by omega), w3.2 k (by omega)]
    exact yK k (by omega) (by omega)
  rcases h5 with h5 | h5
  · refine kR.gi (a := 30) (k := 5) (v := 0) (by omega) rfl rfl rfl (by decide) (by decide) rfl (by show T' 30 5 = 0; rw [t5, h5]) ?_
    refine kR.zeq (by decide) (by decide) (fun _ => ?_) (fun q => absurd rfl q)
    exact hfin _ _ (h0 h5 (ku T' 30 8 0) rfl) rfl t8A t8K _
  · refine kR.gi (a := 30) (k := 5) (v := 1) (by omega) rfl rfl rfl (by decide) (by decide) rfl (by show T' 30 5 = 1; rw [t5, h5]) ?_
    refine kR.zeq (by decide) (by decide) (fun q => absurd q (by decide)) (fun _ => ?_)
    obtain ⟨g1, g2, g3⟩ := h4 h5
    refine kR.s rfl rfl ?_
    refine kR.s rfl rfl ?_
    refine kR.n ?_
    refine l_145_3 (n := n0) hn0 n0 0 (ku T' 30 8 0) rfl (by omega) (by show T' 30 4 = _; rw [t4]; exact g1) (fun k hk => by omega) (fun Z z1 z2 => ?_)
    show kR 11 145 b145_138 _ _ _ _
    refine kR.s rfl rfl ?_
    refine kR.s rfl rfl ?_
    refine kR.gi (a := 30) (k := 4) (v := (n0 : Int)) (by omega) rfl rfl rfl (by decide) (by decide) rfl (by rw [z2 30 (by decide)]; show T' 30 4 = _; rw [t4]; exact g1) ?_
    refine kR.pi (a := 30) (k := 7) (by omega) rfl rfl rfl (by decide) (by decide) rfl rfl ?_
    obtain ⟨T2, v1, v2, v3⟩ := g3 (ku Z 30 7 (n0 : Int)) ⟨rfl, fun j hj => by
      show Z 33 j = t0 j
      rw [z1 j hj, t8A 32 (by decide) (by decide)]
      exact g2 j hj⟩
    refine kR.s rfl rfl ?_
    refine kR.c0 rfl rfl v1 ?_
    refine kR.n ?_
    refine hfin T2 T2 v3 rfl (fun a h1 h2 => ?_) (fun k hk => ?_) _
    · rw [v2.1 a h1 (by omega)]
      show (if a = 30 then _ else Z a) = S a
      rw [if_neg h1, z2 a (by omega)]
      exact t8A a h1 h2
    · rw [v2.2 k (by omega)]
      show (if k = 7 then _ else Z 30 k) = S 30 k
      rw [if_neg (by omega), z2 30 (by decide)]
      exact t8K k hk
end KRL2
