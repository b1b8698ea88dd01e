/-! An entry's value in brackets, side by side. -/
theorem kR.tail {D y pc x pc2 x2 : Nat} {i : Instr} {cs : List kI} {ls st as : List Value} {h : kH} {Q : kO × kH → Prop} (e : kargs x st h = some (as, [])) (hk : kkind i x = 5) (hy : khl y = []) (hi : (kme y).2.2.2.2.2 = 1) (hk2 : kkind .ireturn x2 = 4) (k1 : kR D x (blk x 0) (kent x as) [] h Q) (hQ : ∀ r, Q r → (∃ v h', r = (.inl (some (.int v)), h')) ∨ ∃ sz E S, kTh sz E S r) : kR (D + 1) y ((pc, x, i) :: (pc2, x2, .ireturn) :: cs) ls st h Q := by
  refine kR.c e hk k1 (fun r hr => ?_)
  rcases hQ r hr with ⟨v, h', q⟩ | ⟨sz, E, S, q⟩
  · subst q
    show kR (D + 1) y ((pc2, x2, .ireturn) :: cs) ls [.int v] h' Q
    refine kR.ret (v := some (.int v)) ?_ hk2 hr
    rw [hi]
    rfl
  · exact q.tag hy hr
/-- entries under a node belong to it or to nodes behind it -/
theorem kIt_own {P : Nat → Nat → Nat → Nat → Prop} {S : Nat → Nat → Int} {o : Nat} (hP : ∀ a b x y, P a b x y → a ≤ b ∧ x ≤ y) (hO : ∀ a b x y, P a b x y → ∀ j, x ≤ j → j < y → (a : Int) ≤ S 27 j) : ∀ (i k n k' n' : Nat), o ≤ k → kIt P S o i k n k' n' → ∀ j, n ≤ j → j < n' → (o : Int) ≤ S 27 j
  | 0, k, n, k', n', _, h, j, h1, h2 => by
    have := h.2
    omega
  | i + 1, k, n, k', n', ho, h, j, h1, h2 => by
    obtain ⟨k1, k2, n1, v, g1, g2, g3, g4, g5⟩ := h
    have e1 : k ≤ k1 := by rcases g1 with ⟨_, q, _⟩ | ⟨_, q, _⟩ <;> omega
    rcases Nat.lt_or_ge j n1 with hj | hj
    · rcases g2 with ⟨_, q⟩ | ⟨_, _, q⟩
      · have := hO _ _ _ _ q j h1 hj
        omega
      · omega
    · rcases Nat.lt_or_ge n1 j with hj2 | hj2
      · have e2 : k1 ≤ k2 := by
          rcases g2 with ⟨_, q⟩ | ⟨_, q, _⟩
          · exact (hP _ _ _ _ q).1
          · omega
        exact kIt_own hP hO i k2 (n1 + 1) k' n' (by omega) g5 j (by omega) h2
      · have : j = n1 := by omega
        rw [this, g3]
        exact Int.le_refl _
theorem kSub_own {S : Nat → Nat → Int} : ∀ (d c c' n n' : Nat), kSub S d c c' n n' → ∀ j, n ≤ j → j < n' → (c : Int) ≤ S 27 j
  | 0, c, c', n, n', h, _, _, _ => absurd h (fun z => z)
  | d + 1, c, c', n, n', h, j, h1, h2 => by
    rcases h with ⟨_, _, q⟩ | ⟨_, i, q⟩
    · omega
    · exact kIt_own (fun a b x y q => by have w := kSub_mono (S' := S) d a b x y q; exact ⟨Nat.le_of_lt w.1, w.2.1⟩) (fun a b x y q => kSub_own d a b x y q) i (c + 1) n c' n' (by omega) q j h1 h2
/-- a key had before is had still, behind the value -/
theorem khk_fx {Y S : Nat → Nat → Int} {c u e e' c0 : Nat} (W : kWf Y (c + 1) u e) (h7 : Y 20 7 = (u : Int)) (f : kFx Y S (c + 1) e) (h5 : Y 21 c0 = 5) (hk : Y 21 c < 4) (hee : e ≤ e') (hown : ∀ j, e ≤ j → j < e' → ¬ S 27 j = (c0 : Int)) : khk (S 21) (S 23) (S 22) (S 24) (S 26) (S 27) (S 28) e' (c0 : Int) c = khk (Y 21) (Y 23) (Y 22) (Y 24) (Y 26) (Y 27) (Y 28) e (c0 : Int) c := by
  obtain ⟨⟨w1, w2, w3⟩, wa, wb, wc, wd⟩ := W
  have hal : ∀ j, j < c + 1 → Y 21 j < 4 → kalk (S 21) (S 23) (S 22) (S 24) (S 26) j c = kalk (Y 21) (Y 23) (Y 22) (Y 24) (Y 26) j c := fun j hj hk2 => by
    obtain ⟨b2, b3, b4⟩ := f.2.2.1 j hj hk2
    obtain ⟨d2, d3, d4⟩ := f.2.2.1 c (by omega) hk
    have f3 := (wa j hj).2.2.2.2.2.2.1 hk2
    have f4 := (wa c (by omega)).2.2.2.2.2.2.1 hk
    have f5 := wa j hj
    have f6 := wa c (by omega)
    unfold kalk
    rw [f.1 j hj, f.1 c (by omega), b2, b3, b4, d2, d3, d4]
    have key : (Y 21 j = Y 21 c ∧ Y 23 j = Y 23 c ∧ Y 22 j = Y 22 c ∧ ∀ i : Nat, i < (Y 22 j).toNat → S 26 (Y 24 j + i).toNat = S 26 (Y 24 c + i).toNat) ↔ (Y 21 j = Y 21 c ∧ Y 23 j = Y 23 c ∧ Y 22 j = Y 22 c ∧ ∀ i : Nat, i < (Y 22 j).toNat → Y 26 (Y 24 j + i).toNat = Y 26 (Y 24 c + i).toNat) := by
      constructor
      · rintro ⟨k1, k2, k3, k4⟩
        refine ⟨k1, k2, k3, fun i hi => ?_⟩
        rw [← f.2.2.2.2 (Y 24 j + i).toNat (by omega), ← f.2.2.2.2 (Y 24 c + i).toNat (by omega)]
        exact k4 i hi
      · rintro ⟨k1, k2, k3, k4⟩
        refine ⟨k1, k2, k3, fun i hi => ?_⟩
        rw [f.2.2.2.2 (Y 24 j + i).toNat (by omega), f.2.2.2.2 (Y 24 c + i).toNat (by omega)]
        exact k4 i hi
    by_cases hh : (Y 21 j = Y 21 c ∧ Y 23 j = Y 23 c ∧ Y 22 j = Y 22 c ∧ ∀ i : Nat, i < (Y 22 j).toNat → Y 26 (Y 24 j + i).toNat = Y 26 (Y 24 c + i).toNat)
    · rw [if_pos (key.mpr hh), if_pos hh]
    · rw [if_neg (fun z => hh (key.mp z)), if_neg hh]
  have key : (∃ j, j < e' ∧ S 27 j = (c0 : Int) ∧ kalk (S 21) (S 23) (S 22) (S 24) (S 26) (S 28 j).toNat c = 1) ↔ (∃ j, j < e ∧ Y 27 j = (c0 : Int) ∧ kalk (Y 21) (Y 23) (Y 22) (Y 24) (Y 26) (Y 28 j).toNat c = 1) := by
    constructor
    · rintro ⟨j, k1, k2, k3⟩
      rcases Nat.lt_or_ge j e with hj | hj
      · obtain ⟨b1, b2, b3⟩ := f.2.1 j hj
        obtain ⟨a1, a2, a3, a4, a5, a6, a7⟩ := wb j hj
        rw [b1] at k2
        have hz3 : (Y 27 j).toNat = c0 := by omega
        obtain ⟨d1, d2, d3⟩ := a7 (by rw [hz3]; exact h5)
        rw [b2, hal _ (by omega) d3] at k3
        exact ⟨j, hj, k2, k3⟩
      · exact absurd k2 (hown j hj k1)
    · rintro ⟨j, hj, k2, k3⟩
      obtain ⟨b1, b2, b3⟩ := f.2.1 j hj
      obtain ⟨a1, a2, a3, a4, a5, a6, a7⟩ := wb j hj
      have hz3 : (Y 27 j).toNat = c0 := by omega
      obtain ⟨d1, d2, d3⟩ := a7 (by rw [hz3]; exact h5)
      refine ⟨j, by omega, b1.trans k2, ?_⟩
      rw [b2, hal _ (by omega) d3]
      exact k3
  unfold khk
  by_cases hh : (∃ j, j < e ∧ Y 27 j = (c0 : Int) ∧ kalk (Y 21) (Y 23) (Y 22) (Y 24) (Y 26) (Y 28 j).toNat c = 1)
  · rw [if_pos (key.mpr hh), if_pos hh]
  · rw [if_neg (fun z => hh (key.mp z)), if_neg hh]
section K73
variable {sz : Nat × Nat} {E : Nat → kC} {S : Nat → Nat → Int} {t : Nat → Int} {n L : Nat} {e a P : Nat} {dd : Int}
/-- readEntryValue up to the place where it decides -/
theorem l_73 (hX : kTx t n L) (hC : kCt S t n L) (he : S 53 3 = (e : Int)) (hen : e ≤ n) (ha : S 53 2 = (a : Int)) (hae : a ≤ e) (hP : P = kw (fun i => decide (t i = 32)) e a) {D : Nat} (hD : 1 ≤ D) {Q : kO × kH → Prop} (k1 : (kch t e P = 44 ∨ kch t e P = 125) → ∀ w : Int, kR (D + 1) 73 b73_49 [.ref 54, .int (Int32.ofInt dd), .int (Int32.ofInt w)] [] (sz, hp 57 E (ku S 53 2 (P : Int))) Q) (k2 : ¬ (kch t e P = 44 ∨ kch t e P = 125) → kR (D + 1) 73 b73_57 [.ref 54, .int (Int32.ofInt dd), .int (Int32.ofInt (if kch t e a = 32 then 1 else 0))] [] (sz, hp 57 E (ku S 53 2 (P : Int))) Q) : kR (D + 1) 73 (blk 73 0) (kent 73 [.ref 54, .int (Int32.ofInt dd)]) [] (sz, hp 57 E S) Q := by
  have hx1 := hX.1
  have hr := kch_rng hX hen a
  have hr2 := kch_rng hX hen P
  have hPr : a ≤ kw (fun i => decide (t i = 32)) e a ∧ (a ≤ e → kw (fun i => decide (t i = 32)) e a ≤ e) := kw_rng
  rw [← hP] at hPr
  have key : ∀ w : Int, w = (if kch t e a = 32 then 1 else 0) → kR (D + 1) 73 b73_17 [.ref 54, .int (Int32.ofInt dd), kun] [.int (Int32.ofInt w)] (sz, hp 57 E S) Q := fun w hw => by
    refine kR.s rfl rfl ?_
    refine kR.s rfl rfl ?_
    refine kR.gr (a := 54) (b := 53) (k := 0) (by omega) rfl rfl rfl (by decide) (by decide) rfl ?_
    refine kR.c0 rfl rfl (kR.up (hP ▸ c_55 (S := S) hX hC he hen (a := a) ha (by omega)) (by omega)) ?_
    refine kR.s rfl rfl ?_
    refine kR.gr (a := 54) (b := 53) (k := 0) (by omega) rfl rfl rfl (by decide) (by decide) rfl ?_
    refine kR.cv (v := .int (Int32.ofInt (kch t e P))) rfl rfl (kR.up (c_53 (S := ku S 53 2 (P : Int)) hX (by exact hC) (by exact he) hen (a := P) rfl (by omega)) (by omega)) ?_
    refine kR.bi rfl ?_
    refine kR.jeq (by omega) (by omega) (by decide) (by decide) (fun q1 => ?_) (fun q1 => ?_)
    · exact k1 (Or.inl q1) w
    · refine kR.s rfl rfl ?_
      refine kR.gr (a := 54) (b := 53) (k := 0) (by omega) rfl rfl rfl (by decide) (by decide) rfl ?_
      refine kR.cv (v := .int (Int32.ofInt (kch t e P))) rfl rfl (kR.up (c_53 (S := ku S 53 2 (P : Int)) hX (by exact hC) (by exact he) hen (a := P) rfl (by omega)) (by omega)) ?_
      refine kR.bi rfl ?_
      refine kR.jne (by omega) (by omega) (by decide) (by decide) (fun q2 => ?_) (fun q2 => ?_)
      · rw [hw]
        exact k2 (by omega)
      · refine kR.n ?_
        exact k1 (Or.inr q2) w
  show kR (D + 1) 73 b73_0 _ _ _ _
  refine kR.s rfl rfl ?_
  refine kR.gr (a := 54) (b := 53) (k := 0) (by omega) rfl rfl rfl (by decide) (by decide) rfl ?_
  refine kR.cv (v := .int (Int32.ofInt (kch t e a))) rfl rfl (kR.up (c_53 (S := S) hX hC he hen (a := a) ha (by omega)) (by omega)) ?_
  refine kR.bi rfl ?_
  refine kR.jne (by omega) (by omega) (by decide) (by decide) (fun q => ?_) (fun q => ?_)
  · show kR (D + 1) 73 b73_16 _ _ _ _
    refine kR.s rfl rfl ?_
    refine kR.n ?_
    exact key 0 (by rw [if_neg q])
  · refine kR.s rfl rfl ?_
    refine kR.g rfl ?_
    exact key 1 (by rw [if_pos q])
end K73
