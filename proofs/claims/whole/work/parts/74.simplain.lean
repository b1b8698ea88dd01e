/-! A plain value, side by side. -/
theorem kbeg_cell {S : Nat → Nat → Int} {k z : Int} {c a : Nat} (h : a ≠ 20 ∧ a ≠ 21 ∧ a ≠ 22 ∧ a ≠ 23 ∧ a ≠ 24 ∧ a ≠ 25 ∧ a ≠ 54 ∧ a ≠ 55) : kbeg S k z c a = S a := by
  obtain ⟨h0, h1, h2, h3, h4, h5, h6, h7⟩ := h
  funext j
  unfold kbeg
  split
  · unfold kadd ku kup
    simp [h0, h1, h2, h3, h4, h5]
  · unfold kadd ku kup
    simp [h0, h1, h2, h3, h4, h5, h6, h7]
theorem kapl_cell {v : Nat} {cs : List Int} {u : Nat} {S : Nat → Nat → Int} (hu : S 20 7 = (u : Int)) {a : Nat} (h : a ≠ 20 ∧ a ≠ 22 ∧ a ≠ 26) : kapl v cs u S a = S a := funext fun j => (kapl_at v cs u S hu).1 a j (fun z => h.1 z.1) (fun z => h.2.1 z.1) h.2.2
theorem kspl_cell {v : Nat} {cs : List Int} {u : Nat} {T : Nat → Nat → Int} (hu : T 30 14 = (u : Int)) {a : Nat} (h : a ≠ 30 ∧ a ≠ 37 ∧ a ≠ 38) : kspl v cs u T a = T a := funext fun j => (kspl_at v cs u T hu).1 a j (fun z => h.1 z.1) (fun z => h.2.1 z.1) h.2.2
theorem kspl_30 {v : Nat} {cs : List Int} {u : Nat} {T : Nat → Nat → Int} (hu : T 30 14 = (u : Int)) {j : Nat} (h : j ≠ 14) : kspl v cs u T 30 j = T 30 j := (kspl_at v cs u T hu).1 30 j (fun z => h z.2) (by omega) (by decide)
theorem kFt.mk {T X : Nat → Nat → Int} (h : kFt T X) (k : Int) (c : Nat) : kFt T (kmk X k c) := by
  refine h.tr ⟨fun a e1 e2 => kmk_cell (by omega), fun j hj => kmk_30 (by omega) (by omega)⟩
theorem kFt.spl {T X : Nat → Nat → Int} {v u : Nat} {cs : List Int} (h : kFt T X) (hu : X 30 14 = (u : Int)) : kFt T (kspl v cs u X) :=
  h.tr ⟨fun a e1 e2 => kspl_cell hu (by omega), fun j hj => kspl_30 hu (by omega)⟩
theorem kFt.qb {T X : Nat → Nat → Int} {cs : List Int} (h : kFt T X) : kFt T (kqb X cs) := by
  refine h.tr ⟨fun a e1 e2 => ?_, fun j hj => ?_⟩
  · unfold kqb ku kup
    rw [if_neg (by omega), if_neg e1]
  · show (if j = 34 then _ else X 30 j) = X 30 j
    exact if_neg (by omega)
/-- the reference's value, behind the naming, goes from T to T' -/
def kUv (szT : Nat × Nat) (E : Nat → kC) (T T' : Nat → Nat → Int) : Prop := ∀ v1 v2, kR 5 140 (b140_0.drop 3) [.ref 30, v1, v2] [] (szT, hp 53 E T) (fun r => r = (.inl none, (szT, hp 53 E T')))
theorem kNt_fin {T2 X4 : Nat → Nat → Int} {k z v : Int} {c : Nat} (hX4 : X4 = if k = 0 then kmk T2 0 c else ku (kmk T2 k c) 35 c z) (hk0 : k = 0 → z = 0) : kNt T2 (ku (ku X4 30 27 v) 30 20 4) k z c ∧ (∀ j, j ≠ 26 → j ≠ 8 → j ≠ 27 → j ≠ 20 → ku (ku X4 30 27 v) 30 20 4 30 j = T2 30 j) ∧ (∀ a, (a ≠ 30 ∧ a ≠ 34 ∧ a ≠ 35 ∧ a ≠ 36 ∧ a ≠ 37 ∧ a ≠ 42) → ku (ku X4 30 27 v) 30 20 4 a = T2 a) := by
  have e30 : ∀ j, ku (ku X4 30 27 v) 30 20 4 30 j = if j = 20 then 4 else if j = 27 then v else X4 30 j := fun j => rfl
  have eo : ∀ a, a ≠ 30 → ku (ku X4 30 27 v) 30 20 4 a = X4 a := fun a ha => by
    unfold ku
    show (if a = 30 then _ else (if a = 30 then _ else X4 a)) = X4 a
    rw [if_neg ha, if_neg ha]
  by_cases h0 : k = 0
  · rw [if_pos h0] at hX4
    have hz := hk0 h0
    subst hX4
    subst h0
    subst hz
    obtain ⟨x1, x2, x3, x4, x5, x6, x7, x8, x9, x10, x11, x12, x13⟩ := kmk_nt (T := T2) (k := 0) (c := c)
    refine ⟨⟨x1, x2, x3, x4, x5, x6, x7, x8, x9, x10, x11, x12, x13⟩, fun j a1 a2 a3 a4 => ?_, fun a ha => ?_⟩
    · rw [e30, if_neg a4, if_neg a3]
      exact kmk_30 a1 a2
    · rw [eo a ha.1]
      exact kmk_cell ha
  · rw [if_neg h0] at hX4
    subst hX4
    obtain ⟨x1, x2, x3, x4, x5, x6, x7, x8, x9, x10, x11, x12, x13⟩ := kmk_nt (T := T2) (k := k) (c := c)
    refine ⟨⟨x1, x2, x3, x4, x5, fun j => ?_, x7, x8, x9, x10, x11, x12, x13⟩, fun j a1 a2 a3 a4 => ?_, fun a ha => ?_⟩
    · show (if j = c then z else kmk T2 k c 35 j) = _
      rw [x6]
      by_cases e : j = c
      · rw [if_pos e, if_pos e]
      · rw [if_neg e, if_neg e, if_neg e]
    · rw [e30, if_neg a4, if_neg a3]
      exact kmk_30 a1 a2
    · rw [eo a ha.1]
      show (if a = 35 then _ else kmk T2 k c a) = _
      rw [if_neg ha.2.2.1]
      exact kmk_cell ha
theorem kst_gt {t : Nat → Int} {n L e a : Nat} {i : Int} (hX : kTx t n L) (hen : e ≤ n) (hpl : kpl t e a = 1) : a < kst t e i a ∧ a < e ∧ ¬ t a = 32 := by
  have h1 := kpl_o t e a
  have h2 := kch_rng hX hen a
  have h3 : ¬ kch t e a = 10 ∧ ¬ kch t e a = 32 ∧ ¬ kch t e a = 58 ∧ ¬ kch t e a = 44 ∧ ¬ kch t e a = 91 ∧ ¬ kch t e a = 93 ∧ ¬ kch t e a = 123 ∧ ¬ kch t e a = 125 := by
    have h4 := ksg_o (kch t e a)
    omega
  have hae : a < e := kch_lt h3.1
  have h5 := kcol_o t e i a
  have h6 := kbk_o (kch t e a)
  have h7 : kst t e i a = kw (fun k => decide (kcol t e i k = 0 ∧ ¬ (i = 1 ∧ kbk (kch t e k) = 1))) e (a + 1) := kw_go hae (decide_eq_true (by omega))
  have h8 : a + 1 ≤ kst t e i a := by rw [h7]; exact kw_rng.1
  refine ⟨by omega, hae, ?_⟩
  rw [← kch_in (t := t) hae]
  exact h3.2.1
theorem ku_comm {S : Nat → Nat → Int} {a k b j : Nat} {x y : Int} (h : ¬ (a = b ∧ k = j)) : ku (ku S a k x) b j y = ku (ku S b j y) a k x := by
  funext p q
  unfold ku kup
  by_cases h1 : p = a
  · by_cases h2 : p = b
    · by_cases h3 : q = k
      · by_cases h4 : q = j
        · exact absurd ⟨h1.symm.trans h2, h3.symm.trans h4⟩ h
        · subst h1; subst h2; subst h3; simp [h4]
      · by_cases h4 : q = j
        · subst h1; subst h2; subst h4; simp [h3]
        · subst h1; subst h2; simp [h3, h4]
    · subst h1; simp [h2]
  · by_cases h2 : p = b
    · subst h2; simp [h1]
    · simp [h1, h2]
theorem ksp1_ku {S : Nat → Nat → Int} {v u k : Nat} {y x : Int} (hk : k ≠ 14) : ksp1 (ku S 30 k x) v y u = ku (ksp1 S v y u) 30 k x := by
  unfold ksp1
  rw [show ku S 30 k x 37 v = S 37 v from rfl, ku_comm (a := 30) (k := k) (b := 38) (j := u) (by omega), ku_comm (a := 30) (k := k) (b := 30) (j := 14) (by omega), ku_comm (a := 30) (k := k) (b := 37) (j := v) (by omega)]
theorem kspl_ku {v k : Nat} {x : Int} (hk : k ≠ 14) : ∀ (cs : List Int) (u : Nat) (S : Nat → Nat → Int), kspl v cs u (ku S 30 k x) = ku (kspl v cs u S) 30 k x
  | [], u, S => rfl
  | y :: cs, u, S => by
    show kspl v cs (u + 1) (ksp1 (ku S 30 k x) v y u) = ku (kspl v cs (u + 1) (ksp1 S v y u)) 30 k x
    rw [ksp1_ku hk, kspl_ku hk cs (u + 1)]
theorem kslh_mem {t : Nat → Int} : ∀ (j p : Nat) (x : Int), x ∈ kslh t j p → ∃ i, i < j ∧ x = t (p + i)
  | 0, p, x, h => by cases h
  | j + 1, p, x, h => by
    rcases List.mem_cons.mp h with z | z
    · exact ⟨0, by omega, z⟩
    · obtain ⟨i, h1, h2⟩ := kslh_mem j (p + 1) x z
      exact ⟨i + 1, by omega, by rw [h2, show p + (i + 1) = p + 1 + i by omega]⟩
