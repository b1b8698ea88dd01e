/-! The reference's write, whole. -/
section KWE
variable {E : Nat → kC} {T N : Nat → Nat → Int} {sz : Nat × Nat} {c u e : Nat} {Q : kO × kH → Prop} {v3 v4 : Value}
theorem l_161a (hc : c ≤ 60) (h8 : T 30 8 = (c : Int)) (h : ∀ Y : Nat → Nat → Int, (∀ a, a ≠ 49 → a ≠ 50 → Y a = T a) → (∀ j, j < c → Y 49 j = (if j = 0 then 1 else 0) ∧ Y 50 j = 0) → kR 4 161 (blk 161 45) [.ref 30, .int (Int32.ofInt 0), .int (Int32.ofInt (c : Int)), v3, v4] [] (sz, hp 53 E Y) Q) : ∀ (m i : Nat) (Y : Nat → Nat → Int), c - i = m → i ≤ c → (∀ a, a ≠ 49 → a ≠ 50 → Y a = T a) → (∀ j, j < i → Y 49 j = (if j = 0 then 1 else 0) ∧ Y 50 j = 0) → kR 4 161 (blk 161 9) [.ref 30, .int (Int32.ofInt 0), .int (Int32.ofInt (i : Int)), v3, v4] [] (sz, hp 53 E Y) Q := by
  intro m
  induction m with
  | zero =>
    intro i Y hm hi f1 f2
    have : i = c := by omega
    subst this
    show kR 4 161 b161_9 _ _ _ _
    refine kR.s rfl rfl ?_
    refine kR.s rfl rfl ?_
    refine kR.gi (a := 30) (k := 8) (v := (i : Int)) (by omega) rfl rfl rfl (by decide) (by decide) rfl (by rw [f1 30 (by decide) (by decide)]; exact h8) ?_
    refine kR.jge (by omega) (by omega) (by omega) (by omega) (fun _ => ?_) (fun q => absurd q (by omega))
    exact h Y f1 f2
  | succ m ih =>
    intro i Y hm hi f1 f2
    have h31 : ∀ x : Int, x = (if i = 0 then 1 else 0) → kR 4 161 (blk 161 31) [.ref 30, .int (Int32.ofInt 0), .int (Int32.ofInt (i : Int)), v3, v4] [.int (Int32.ofInt x), .int (Int32.ofInt (i : Int)), .ref 49] (sz, hp 53 E Y) Q := fun x hx => by
      show kR 4 161 b161_31 _ _ _ _
      refine kR.ist (a := 49) (by omega) rfl (by decide) (by omega) (by omega) ?_
      refine kR.s rfl rfl ?_
      refine kR.gr (a := 30) (b := 50) (k := 39) (by omega) rfl rfl rfl (by decide) (by decide) rfl ?_
      refine kR.s rfl rfl ?_
      refine kR.s rfl rfl ?_
      refine kR.ist (a := 50) (by omega) rfl (by decide) (by omega) (by omega) ?_
      refine kR.inc rfl ?_
      refine kR.g rfl ?_
      refine ih (i + 1) (ku (ku Y 49 i x) 50 i 0) (by omega) (by omega) (fun a g1 g2 => ?_) (fun j hj => ⟨?_, ?_⟩)
      · show (if a = 50 then _ else (if a = 49 then _ else Y a)) = T a
        rw [if_neg g2, if_neg g1]
        exact f1 a g1 g2
      · show (if j = i then x else Y 49 j) = _
        by_cases q : j = i
        · rw [if_pos q, hx, q]
        · rw [if_neg q]
          exact (f2 j (by omega)).1
      · show (if j = i then 0 else Y 50 j) = _
        by_cases q : j = i
        · rw [if_pos q]
        · rw [if_neg q]
          exact (f2 j (by omega)).2
    show kR 4 161 b161_9 _ _ _ _
    refine kR.s rfl rfl ?_
    refine kR.s rfl rfl ?_
    refine kR.gi (a := 30) (k := 8) (v := (c : Int)) (by omega) rfl rfl rfl (by decide) (by decide) rfl (by rw [f1 30 (by decide) (by decide)]; exact h8) ?_
    refine kR.jge (by omega) (by omega) (by omega) (by omega) (fun q => absurd q (by omega)) (fun _ => ?_)
    refine kR.s rfl rfl ?_
    refine kR.gr (a := 30) (b := 49) (k := 38) (by omega) rfl rfl rfl (by decide) (by decide) rfl ?_
    refine kR.s rfl rfl ?_
    refine kR.s rfl rfl ?_
    refine kR.zne (by omega) (by omega) (fun q => ?_) (fun q => ?_)
    · show kR 4 161 b161_30 _ _ _ _
      refine kR.s rfl rfl ?_
      refine kR.n ?_
      exact h31 0 (by rw [if_neg (by omega)])
    · refine kR.s rfl rfl ?_
      refine kR.g rfl ?_
      exact h31 1 (by rw [if_pos (by omega)])
theorem l_161b (hc : 1 ≤ c ∧ c ≤ 60) (he : e ≤ 200) (h8 : T 30 8 = (c : Int)) (h15 : T 30 15 = (e : Int)) (h41 : ∀ i, i < e → 0 ≤ T 41 i ∧ T 41 i < (c : Int)) (h : ∀ Y : Nat → Nat → Int, (∀ a, a ≠ 49 → Y a = T a) → (∀ j, j < c → Y 49 j = T 49 j + kctn (T 41) (j : Int) e) → kR 4 161 (blk 161 83) [.ref 30, .int (Int32.ofInt 0), .int (Int32.ofInt (e : Int)), v3, v4] [] (sz, hp 53 E Y) Q) : ∀ (m i : Nat) (Y : Nat → Nat → Int), e - i = m → i ≤ e → (∀ a, a ≠ 49 → Y a = T a) → (∀ j, j < c → Y 49 j = T 49 j + kctn (T 41) (j : Int) i) → kR 4 161 (blk 161 47) [.ref 30, .int (Int32.ofInt 0), .int (Int32.ofInt (i : Int)), v3, v4] [] (sz, hp 53 E Y) Q := by
  intro m
  induction m with
  | zero =>
    intro i Y hm hi f1 f2
    have : i = e := by omega
    subst this
    show kR 4 161 b161_47 _ _ _ _
    refine kR.s rfl rfl ?_
    refine kR.s rfl rfl ?_
    refine kR.gi (a := 30) (k := 15) (v := (i : Int)) (by omega) rfl rfl rfl (by decide) (by decide) rfl (by rw [f1 30 (by decide)]; exact h15) ?_
    refine kR.jge (by omega) (by omega) (by omega) (by omega) (fun _ => ?_) (fun q => absurd q (by omega))
    exact h Y f1 f2
  | succ m ih =>
    intro i Y hm hi f1 f2
    have q41 := h41 i (by omega)
    obtain ⟨y, hy⟩ : ∃ y : Nat, T 41 i = (y : Int) := ⟨(T 41 i).toNat, by omega⟩
    show kR 4 161 b161_47 _ _ _ _
    refine kR.s rfl rfl ?_
    refine kR.s rfl rfl ?_
    refine kR.gi (a := 30) (k := 15) (v := (e : Int)) (by omega) rfl rfl rfl (by decide) (by decide) rfl (by rw [f1 30 (by decide)]; exact h15) ?_
    refine kR.jge (by omega) (by omega) (by omega) (by omega) (fun q => absurd q (by omega)) (fun _ => ?_)
    refine kR.s rfl rfl ?_
    refine kR.gi (a := 30) (k := 8) (v := (c : Int)) (by omega) rfl rfl rfl (by decide) (by decide) rfl (by rw [f1 30 (by decide)]; exact h8) ?_
    refine kR.zle (by omega) (by omega) (fun q => absurd q (by omega)) (fun _ => ?_)
    refine kR.s rfl rfl ?_
    refine kR.gr (a := 30) (b := 49) (k := 38) (by omega) rfl rfl rfl (by decide) (by decide) rfl ?_
    refine kR.s rfl rfl ?_
    refine kR.gr (a := 30) (b := 41) (k := 18) (by omega) rfl rfl rfl (by decide) (by decide) rfl ?_
    refine kR.s rfl rfl ?_
    refine kR.ia (a := 41) (v := (y : Int)) (by omega) rfl (by decide) (by omega) (by omega) (by rw [f1 41 (by decide)]; exact hy) ?_
    refine kR.s rfl rfl ?_
    refine kR.ia (a := 49) (v := Y 49 y) (by omega) rfl (by decide) (by omega) (by omega) rfl ?_
    refine kR.s rfl rfl ?_
    refine kR.add ?_
    refine kR.ist (a := 49) (by omega) rfl (by decide) (by omega) (by omega) ?_
    refine kR.inc rfl ?_
    refine kR.g rfl ?_
    refine ih (i + 1) (ku Y 49 y (Y 49 y + 1)) (by omega) (by omega) (fun a g1 => ?_) (fun j hj => ?_)
    · show (if a = 49 then _ else Y a) = T a
      rw [if_neg g1]
      exact f1 a g1
    · show (if j = y then Y 49 y + 1 else Y 49 j) = T 49 j + (kctn (T 41) (j : Int) i + (if T 41 i = (j : Int) then 1 else 0))
      rw [hy]
      by_cases q : j = y
      · rw [if_pos q, if_pos (by omega), ← q, f2 j hj]
        omega
      · rw [if_neg q, if_neg (by omega), f2 j hj]
        omega
theorem l_161d (hc : c ≤ 60) (h8 : T 30 8 = (c : Int)) (h49 : ∀ j, j < c → 0 ≤ T 49 j ∧ T 49 j ≤ 1000) (h : kR 4 161 (blk 161 117) [.ref 30, .int (Int32.ofInt (kcr (T 49) c : Int)), .int (Int32.ofInt (c : Int)), v3, v4] [] (sz, hp 53 E T) Q) : ∀ (m i : Nat), c - i = m → i ≤ c → kR 4 161 (blk 161 85) [.ref 30, .int (Int32.ofInt (kcr (T 49) i : Int)), .int (Int32.ofInt (i : Int)), v3, v4] [] (sz, hp 53 E T) Q := by
  intro m
  induction m with
  | zero =>
    intro i hm hi
    have : i = c := by omega
    subst this
    show kR 4 161 b161_85 _ _ _ _
    refine kR.s rfl rfl ?_
    refine kR.s rfl rfl ?_
    refine kR.gi (a := 30) (k := 8) (v := (i : Int)) (by omega) rfl rfl rfl (by decide) (by decide) rfl (by exact h8) ?_
    refine kR.jge (by omega) (by omega) (by omega) (by omega) (fun _ => ?_) (fun q => absurd q (by omega))
    exact h
  | succ m ih =>
    intro i hm hi
    have q49 := h49 i (by omega)
    have hs : kcr (T 49) (i + 1) = kcr (T 49) i + (if 1 < T 49 i then 1 else 0) := rfl
    have k110 : ∀ q : Nat, q = kcr (T 49) (i + 1) → kR 4 161 (blk 161 110) [.ref 30, .int (Int32.ofInt (kcr (T 49) i : Int)), .int (Int32.ofInt (i : Int)), v3, v4] [.int (Int32.ofInt (q : Int))] (sz, hp 53 E T) Q := fun q hq => by
      rw [hq]
      show kR 4 161 b161_110 _ _ _ _
      refine kR.s rfl rfl ?_
      refine kR.inc rfl ?_
      refine kR.g rfl ?_
      exact ih (i + 1) (by omega) (by omega)
    show kR 4 161 b161_85 _ _ _ _
    refine kR.s rfl rfl ?_
    refine kR.s rfl rfl ?_
    refine kR.gi (a := 30) (k := 8) (v := (c : Int)) (by omega) rfl rfl rfl (by decide) (by decide) rfl (by exact h8) ?_
    refine kR.jge (by omega) (by omega) (by omega) (by omega) (fun q => absurd q (by omega)) (fun _ => ?_)
    refine kR.s rfl rfl ?_
    refine kR.gr (a := 30) (b := 49) (k := 38) (by omega) rfl rfl rfl (by decide) (by decide) rfl ?_
    refine kR.s rfl rfl ?_
    refine kR.ia (a := 49) (v := T 49 i) (by omega) rfl (by decide) (by omega) (by omega) rfl ?_
    refine kR.s rfl rfl ?_
    refine kR.jle (by omega) (by omega) (by omega) (by omega) (fun q => ?_) (fun q => ?_)
    · rw [if_neg (by omega)] at hs
      show kR 4 161 b161_109 _ _ _ _
      refine kR.s rfl rfl ?_
      refine kR.n ?_
      exact k110 _ hs.symm
    · rw [if_pos (by omega)] at hs
      refine kR.s rfl rfl ?_
      refine kR.s rfl rfl ?_
      refine kR.add ?_
      refine kR.g rfl ?_
      exact k110 (kcr (T 49) i + 1) hs.symm
/-- up to the question whether it may write: nothing loaded -/
theorem l_161n (h8 : T 30 8 = 0) (r15 : -2147483648 ≤ T 30 15 ∧ T 30 15 < 2147483648) (h5 : T 30 5 = 0) : kR 4 161 (blk 161 0) (kent 161 [.ref 30]) [] (sz, hp 53 E T) (fun r => ∃ T2, r = (.inl (some (.int (Int32.ofInt 0))), (sz, hp 53 E T2)) ∧ (∀ a, a ≠ 30 → a ≠ 49 → a ≠ 50 → T2 a = T a) ∧ (∀ k, k ≠ 0 → T2 30 k = T 30 k) ∧ T2 30 0 = 1) := by
  have hm : 53 ≤ 53 ∧ 53 ≤ 57 := by omega
  show kR 4 161 b161_0 _ _ _ _
  refine kR.s rfl rfl ?_
  refine kR.s rfl rfl ?_
  refine kR.pi (a := 30) (k := 0) (by omega) rfl rfl rfl (by decide) (by decide) rfl rfl ?_
  refine kR.s rfl rfl ?_
  refine kR.s rfl rfl ?_
  refine kR.s rfl rfl ?_
  refine kR.s rfl rfl ?_
  refine kR.n ?_
  refine l_161a (T := ku T 30 0 0) (c := 0) (by omega) (by exact h8) (fun Y f1 f2 => ?_) 0 0 (ku T 30 0 0) rfl (Nat.le_refl _) (fun a _ _ => rfl) (fun j hj => absurd hj (Nat.not_lt_zero _))
  have y30 : ∀ k, k ≠ 0 → Y 30 k = T 30 k := fun k hk => by
    rw [f1 30 (by decide) (by decide)]
    show (if k = 0 then _ else T 30 k) = _
    rw [if_neg hk]
  have y8 : Y 30 8 = 0 := by rw [y30 8 (by decide)]; exact h8
  have h83 : ∀ v2 : Int, kR 4 161 (blk 161 83) [.ref 30, .int (Int32.ofInt 0), .int (Int32.ofInt v2), kun, kun] [] (sz, hp 53 E Y) (fun r => ∃ T2, r = (.inl (some (.int (Int32.ofInt 0))), (sz, hp 53 E T2)) ∧ (∀ a, a ≠ 30 → a ≠ 49 → a ≠ 50 → T2 a = T a) ∧ (∀ k, k ≠ 0 → T2 30 k = T 30 k) ∧ T2 30 0 = 1) := fun v2 => by
    show kR 4 161 b161_83 _ _ _ _
    refine kR.s rfl rfl ?_
    refine kR.s rfl rfl ?_
    refine kR.n ?_
    refine l_161d (T := Y) (c := 0) (by omega) (by exact y8) (fun j hj => absurd hj (Nat.not_lt_zero _)) ?_ 0 0 rfl (Nat.le_refl _)
    show kR 4 161 b161_117 _ _ _ _
    refine kR.s rfl rfl ?_
    refine kR.gi (a := 30) (k := 5) (v := 0) (by omega) rfl rfl rfl (by decide) (by decide) rfl (by rw [y30 5 (by decide)]; exact h5) ?_
    refine kR.zeq (by decide) (by decide) (fun _ => ?_) (fun q => absurd rfl q)
    show kR 4 161 b161_130 _ _ _ _
    refine kR.s rfl rfl ?_
    refine kR.s rfl rfl ?_
    refine kR.cv (v := .int (Int32.ofInt 0)) rfl rfl (kR.up (c_101 (S := Y) (i := 1) hm (by omega)) (by decide)) ?_
    refine kR.ret rfl rfl ?_
    refine ⟨ku Y 30 0 1, rfl, fun a g1 g2 g3 => ?_, fun k hk => ?_, rfl⟩
    · show (if a = 30 then _ else Y a) = T a
      rw [if_neg g1, f1 a g2 g3]
      show (if a = 30 then _ else T a) = T a
      rw [if_neg g1]
    · show (if k = 0 then _ else Y 30 k) = T 30 k
      rw [if_neg hk]
      exact y30 k hk
  show kR 4 161 b161_45 _ _ _ _
  refine kR.s rfl rfl ?_
  refine kR.s rfl rfl ?_
  refine kR.n ?_
  show kR 4 161 b161_47 _ _ _ _
  refine kR.s rfl rfl ?_
  refine kR.s rfl rfl ?_
  refine kR.gi (a := 30) (k := 15) (v := T 30 15) (by omega) rfl rfl rfl (by decide) (by decide) rfl (by rw [y30 15 (by decide)]) ?_
  refine kR.jge (by omega) (by omega) (by omega) (by omega) (fun _ => ?_) (fun _ => ?_)
  · exact h83 0
  · refine kR.s rfl rfl ?_
    refine kR.gi (a := 30) (k := 8) (v := 0) (by omega) rfl rfl rfl (by decide) (by decide) rfl (by exact y8) ?_
    refine kR.zle (by decide) (by decide) (fun _ => ?_) (fun q => absurd q (by decide))
    exact h83 0
/-- up to the question whether it may write: loaded -/
theorem l_161w (W : kWf N c u e) (R : kRel N T c u e) (hc : 1 ≤ c) (h : ∀ Y : Nat → Nat → Int, (∀ a, a ≠ 30 → a ≠ 49 → a ≠ 50 → Y a = T a) → (∀ k, k ≠ 0 → Y 30 k = T 30 k) → Y 30 0 = 0 → (∀ j, j < c → Y 49 j = N 25 j) → (∀ j, j < c → Y 50 j = 0) → kR 4 161 (blk 161 117) [.ref 30, .int (Int32.ofInt (kcr (N 25) c : Int)), .int (Int32.ofInt (c : Int)), kun, kun] [] (sz, hp 53 E Y) Q) : kR 4 161 (blk 161 0) (kent 161 [.ref 30]) [] (sz, hp 53 E T) Q := by
  obtain ⟨⟨w1, w2, w3, _⟩, wa, wb, _⟩ := W
  obtain ⟨⟨r1, r2, r3, r4, r5, r6⟩, ra, rb, rc, _⟩ := R
  show kR 4 161 b161_0 _ _ _ _
  refine kR.s rfl rfl ?_
  refine kR.s rfl rfl ?_
  refine kR.pi (a := 30) (k := 0) (by omega) rfl rfl rfl (by decide) (by decide) rfl rfl ?_
  refine kR.s rfl rfl ?_
  refine kR.s rfl rfl ?_
  refine kR.s rfl rfl ?_
  refine kR.s rfl rfl ?_
  refine kR.n ?_
  refine l_161a (T := ku T 30 0 0) (c := c) w1 (by exact r2) (fun Y f1 f2 => ?_) c 0 (ku T 30 0 0) rfl (Nat.zero_le _) (fun a _ _ => rfl) (fun j hj => absurd hj (Nat.not_lt_zero _))
  have y30 : ∀ k, k ≠ 0 → Y 30 k = T 30 k := fun k hk => by
    rw [f1 30 (by decide) (by decide)]
    show (if k = 0 then _ else T 30 k) = _
    rw [if_neg hk]
  have ya : ∀ a, a ≠ 30 → a ≠ 49 → a ≠ 50 → Y a = T a := fun a g1 g2 g3 => by
    rw [f1 a g2 g3]
    show (if a = 30 then _ else T a) = T a
    rw [if_neg g1]
  have y41 : Y 41 = T 41 := ya 41 (by decide) (by decide) (by decide)
  show kR 4 161 b161_45 _ _ _ _
  refine kR.s rfl rfl ?_
  refine kR.s rfl rfl ?_
  refine kR.n ?_
  refine l_161b (T := Y) (c := c) (e := e) ⟨hc, w1⟩ w3 (by rw [y30 8 (by decide)]; exact r2) (by rw [y30 15 (by decide)]; exact r6) (fun i hi => ?_) (fun Z g1 g2 => ?_) e 0 Y rfl (Nat.zero_le _) (fun a _ => rfl) (fun j hj => (Int.add_zero _).symm)
  · rw [y41, ← (rc i hi).2.2]
    have z := wb i hi
    omega
  · have z49 : ∀ j, j < c → Z 49 j = N 25 j := fun j hj => by
      rw [g2 j hj, (f2 j hj).1, y41, (wa j hj).2.2.2.2.2.2.2.2, kctn_congr (f := N 29) (g := T 41) e (fun i hi => (rc i hi).2.2)]
    have ec : ∀ i, i ≤ c → kcr (Z 49) i = kcr (N 25) i := fun i => by
      induction i with
      | zero => intro _; rfl
      | succ i ih =>
        intro hi
        show kcr (Z 49) i + _ = kcr (N 25) i + _
        rw [ih (by omega), z49 i (by omega)]
    show kR 4 161 b161_83 _ _ _ _
    refine kR.s rfl rfl ?_
    refine kR.s rfl rfl ?_
    refine kR.n ?_
    refine l_161d (T := Z) (c := c) w1 (by rw [g1 30 (by decide), y30 8 (by decide)]; exact r2) (fun j hj => ?_) ?_ c 0 rfl (Nat.zero_le _)
    · rw [z49 j hj, (wa j hj).2.2.2.2.2.2.2.2]
      have z := kctn_rng (f := N 29) (x := (j : Int)) e
      split <;> omega
    · rw [ec c (Nat.le_refl _)]
      refine h Z (fun a q1 q2 q3 => (g1 a q2).trans (ya a q1 q2 q3)) (fun k hk => by rw [g1 30 (by decide)]; exact y30 k hk) (by rw [g1 30 (by decide), f1 30 (by decide) (by decide)]; rfl) z49 (fun j hj => by rw [g1 50 (by decide)]; exact (f2 j hj).2)
theorem l_161x (W : kWf N c u e) (R : kRel N T c u e) (hc : 1 ≤ c) (h5 : T 30 5 = 1) (hx : 26 < kcr (N 25) c) : kR 4 161 (blk 161 0) (kent 161 [.ref 30]) [] (sz, hp 53 E T) (fun r => ∃ T2, r = (.inl (some (.int (Int32.ofInt 0))), (sz, hp 53 E T2)) ∧ (∀ a, a ≠ 30 → a ≠ 49 → a ≠ 50 → T2 a = T a) ∧ (∀ k, k ≠ 0 → T2 30 k = T 30 k) ∧ T2 30 0 = 1) := by
  have hm : 53 ≤ 53 ∧ 53 ≤ 57 := by omega
  have hw1 := W.1.1
  have hq : kcr (N 25) c ≤ c := by
    have z : ∀ j, kcr (N 25) j ≤ j := fun j => by
      induction j with
      | zero => exact Nat.le_refl _
      | succ j ih =>
        show kcr (N 25) j + _ ≤ _
        split <;> omega
    exact z c
  refine l_161w W R hc (fun Y y1 y2 y3 y4 y5 => ?_)
  show kR 4 161 b161_117 _ _ _ _
  refine kR.s rfl rfl ?_
  refine kR.gi (a := 30) (k := 5) (v := 1) (by omega) rfl rfl rfl (by decide) (by decide) rfl (by rw [y2 5 (by decide)]; exact h5) ?_
  refine kR.zeq (by decide) (by decide) (fun q => absurd q (by decide)) (fun _ => ?_)
  refine kR.s rfl rfl ?_
  refine kR.bi rfl ?_
  refine kR.jle (by omega) (by omega) (by omega) (by omega) (fun q => absurd q (by omega)) (fun _ => ?_)
  refine kR.n ?_
  show kR 4 161 b161_130 _ _ _ _
  refine kR.s rfl rfl ?_
  refine kR.s rfl rfl ?_
  refine kR.cv (v := .int (Int32.ofInt 0)) rfl rfl (kR.up (c_101 (S := Y) (i := 1) hm (by omega)) (by decide)) ?_
  refine kR.ret rfl rfl ?_
  refine ⟨ku Y 30 0 1, rfl, fun a g1 g2 g3 => ?_, fun k hk => ?_, rfl⟩
  · show (if a = 30 then _ else Y a) = T a
    rw [if_neg g1, y1 a g1 g2 g3]
  · show (if k = 0 then _ else Y 30 k) = T 30 k
    rw [if_neg hk, y2 k hk]
theorem l_161g {S S' : Nat → Nat → Int} {w : Nat} (W : kWf N c u e) (R : kRel N T c u e) (hc : 1 ≤ c) (h5 : T 30 5 = 1) (hx : kcr (N 25) c ≤ 26) (h39 : ∀ j, j < 200 → -2147483648 ≤ T 39 j ∧ T 39 j < 2147483648) (hw : kWw E N S c u e S' w) : kR 4 161 (blk 161 0) (kent 161 [.ref 30]) [] ((53, 0), hp 53 E T) (fun r => ∃ T2, r = (.inl (some (.int (Int32.ofInt (w : Int)))), ((53, 0), hp 53 E T2)) ∧ (∀ a, a ≠ 30 → a ≠ 44 → a ≠ 48 → a ≠ 49 → a ≠ 50 → a ≠ 51 → T2 a = T a) ∧ (∀ k, k ≠ 0 → k ≠ 29 → k ≠ 37 → k ≠ 40 → T2 30 k = T 30 k) ∧ T2 30 0 = 0 ∧ T2 30 37 = (w : Int) ∧ ∀ j, j < w → Int32.ofInt (S' 8 j) = Int32.ofInt (T2 48 j)) := by
  have hw1 := W.1.1
  refine l_161w W R hc (fun Y y1 y2 y3 y4 y5 => ?_)
  obtain ⟨Z, hZ⟩ : ∃ Z, Z = ku (ku (ku Y 30 37 0) 30 40 0) 30 29 0 := ⟨_, rfl⟩
  have za : ∀ a, a ≠ 30 → Z a = Y a := fun a g => by
    rw [hZ]
    show (if a = 30 then _ else (if a = 30 then _ else (if a = 30 then _ else Y a))) = Y a
    rw [if_neg g, if_neg g, if_neg g]
  have zk : ∀ k, k ≠ 29 → k ≠ 37 → k ≠ 40 → Z 30 k = Y 30 k := fun k g1 g2 g3 => by
    rw [hZ]
    show (if k = 29 then _ else (if k = 40 then _ else (if k = 37 then _ else Y 30 k))) = Y 30 k
    rw [if_neg g1, if_neg g3, if_neg g2]
  have zt : ∀ a, a ≠ 30 → a ≠ 49 → a ≠ 50 → Z a = T a := fun a g1 g2 g3 => (za a g1).trans (y1 a g1 g2 g3)
  have zr : ∀ k, k ≠ 0 → k ≠ 29 → k ≠ 37 → k ≠ 40 → Z 30 k = T 30 k := fun k g0 g1 g2 g3 => (zk k g1 g2 g3).trans (y2 k g0)
  have z37 : Z 30 37 = 0 ∧ Z 30 40 = 0 ∧ Z 30 29 = 0 := by
    rw [hZ]
    exact ⟨rfl, rfl, rfl⟩
  have RZ : kRdy N Z c u e := by
    refine ⟨R.vw ⟨zt 34 (by decide) (by decide) (by decide), zt 35 (by decide) (by decide) (by decide), zt 36 (by decide) (by decide) (by decide), zt 37 (by decide) (by decide) (by decide), zt 38 (by decide) (by decide) (by decide), zt 39 (by decide) (by decide) (by decide), zt 40 (by decide) (by decide) (by decide), zt 41 (by decide) (by decide) (by decide), zt 42 (by decide) (by decide) (by decide), zr 8 (by decide) (by decide) (by decide) (by decide), zr 14 (by decide) (by decide) (by decide) (by decide), zr 15 (by decide) (by decide) (by decide) (by decide), zr 26 (by decide) (by decide) (by decide) (by decide)⟩, fun j hj => by rw [za 49 (by decide)]; exact y4 j hj, fun j hj => by rw [zt 39 (by decide) (by decide) (by decide)]; exact h39 j hj, z37.1, z37.2.1, z37.2.2, fun j hj => by rw [za 50 (by decide)]; exact y5 j hj⟩
  obtain ⟨T1, T', i1, i2, i3, i4, i5, i6⟩ := hw.2.2.2 (kcr (N 25) c : Int) Z RZ
  show kR 4 161 b161_117 _ _ _ _
  refine kR.s rfl rfl ?_
  refine kR.gi (a := 30) (k := 5) (v := 1) (by omega) rfl rfl rfl (by decide) (by decide) rfl (by rw [y2 5 (by decide)]; exact h5) ?_
  refine kR.zeq (by decide) (by decide) (fun q => absurd q (by decide)) (fun _ => ?_)
  refine kR.s rfl rfl ?_
  refine kR.bi rfl ?_
  refine kR.jle (by omega) (by omega) (by omega) (by omega) (fun _ => ?_) (fun q => absurd q (by omega))
  show kR 4 161 b161_136 _ _ _ _
  refine kR.s rfl rfl ?_
  refine kR.s rfl rfl ?_
  refine kR.pi (a := 30) (k := 37) (by omega) rfl rfl rfl (by decide) (by decide) rfl rfl ?_
  refine kR.s rfl rfl ?_
  refine kR.s rfl rfl ?_
  refine kR.pi (a := 30) (k := 40) (by omega) rfl rfl rfl (by decide) (by decide) rfl rfl ?_
  refine kR.s rfl rfl ?_
  refine kR.s rfl rfl ?_
  refine kR.pi (a := 30) (k := 29) (by omega) rfl rfl rfl (by decide) (by decide) rfl rfl ?_
  refine kR.s rfl rfl ?_
  refine kR.s rfl rfl ?_
  rw [← hZ]
  refine kR.c0 rfl rfl i1 ?_
  refine kR.n ?_
  refine i2 _ ?_ _ _ _
  intro v2 v3 v4
  show kR 4 161 b161_156 _ _ _ _
  refine kR.s rfl rfl ?_
  refine kR.gi (a := 30) (k := 29) (v := 0) (by omega) rfl rfl rfl (by decide) (by decide) rfl (by exact i6) ?_
  refine kR.zle (by decide) (by decide) (fun _ => ?_) (fun q => absurd q (by decide))
  show kR 4 161 b161_317 _ _ _ _
  refine kR.s rfl rfl ?_
  refine kR.gi (a := 30) (k := 37) (v := (w : Int)) (by omega) rfl rfl rfl (by decide) (by decide) rfl (by exact i3) ?_
  refine kR.ret rfl rfl ?_
  exact ⟨T', rfl, fun a g1 g2 g3 g4 g5 g6 => (i5.1 a g1 g2 g3 g5 g6).trans (zt a g1 g4 g5), fun k g0 g1 g2 g3 => (i5.2.1 k g1 g2 g3).trans (zr k g0 g1 g2 g3), by rw [i5.2.1 0 (by decide) (by decide) (by decide), zk 0 (by decide) (by decide) (by decide)]; exact y3, i3, i4⟩
end KWE
