/-! Characters in a row: what a quoted text says, and how it is put to a string. -/
def kuqh (t : Nat → Int) (e : Nat) (q : Int) : Nat → Nat → List Int
  | 0, _ => []
  | j + 1, p => if e ≤ p then [] else if kpr q (kch t e p) (kch t e (p + 1)) = 1 then (if kch t e (p + 1) = 110 then 10 else kch t e (p + 1)) :: kuqh t e q j (p + 2) else if kch t e p = q then [] else if q = 34 ∧ kch t e p = 92 then [] else kch t e p :: kuqh t e q j (p + 1)
/-- the characters that a quoted text says whose inside begins at p -/
def kuq (t : Nat → Int) (e : Nat) (q : Int) (p : Nat) : List Int := kuqh t e q (e + 1 - p) p
theorem kuqh_fuel (t : Nat → Int) (e : Nat) (q : Int) : ∀ (j k p : Nat), e + 1 - p ≤ j → e + 1 - p ≤ k → kuqh t e q j p = kuqh t e q k p := by
  intro j
  induction j with
  | zero =>
    intro k p h1 h2
    cases k with
    | zero => rfl
    | succ k => unfold kuqh; rw [if_pos (by omega)]
  | succ j ih =>
    intro k p h1 h2
    cases k with
    | zero => unfold kuqh; rw [if_pos (by omega)]
    | succ k =>
      unfold kuqh
      split
      · rfl
      · rw [ih k (p + 2) (by omega) (by omega), ih k (p + 1) (by omega) (by omega)]
theorem kuq_end {t : Nat → Int} {e p : Nat} {q : Int} (h : e ≤ p) : kuq t e q p = [] := by
  unfold kuq
  cases hj : e + 1 - p with
  | zero => rfl
  | succ j => unfold kuqh; rw [if_pos h]
theorem kuq_u {t : Nat → Int} {e p : Nat} {q : Int} (h : p < e) : kuq t e q p = if kpr q (kch t e p) (kch t e (p + 1)) = 1 then (if kch t e (p + 1) = 110 then 10 else kch t e (p + 1)) :: kuq t e q (p + 2) else if kch t e p = q then [] else if q = 34 ∧ kch t e p = 92 then [] else kch t e p :: kuq t e q (p + 1) := by
  unfold kuq
  rw [show e + 1 - p = (e - p) + 1 by omega, kuqh, if_neg (by omega), kuqh_fuel t e q (e - p) (e + 1 - (p + 2)) (p + 2) (by omega) (by omega), kuqh_fuel t e q (e - p) (e + 1 - (p + 1)) (p + 1) (by omega) (by omega)]
theorem kuq_len {t : Nat → Int} {e : Nat} {q : Int} : ∀ (j p : Nat), e - p = j → (kuq t e q p).length ≤ e - p ∧ (0 ≤ kbq t e q p → ((kuq t e q p).length : Int) + p + 1 ≤ kbq t e q p) := by
  intro j
  induction j using Nat.strongRecOn with
  | _ j ih =>
    intro p hj
    rcases Nat.lt_or_ge p e with h | h
    · rw [kuq_u h, kbq_u h]
      split
      · have z := ih (e - (p + 2)) (by omega) (p + 2) rfl
        refine ⟨by rw [List.length_cons]; rcases Nat.lt_or_ge (p + 1) e with y | y <;> omega, fun y => ?_⟩
        have w := z.2 y
        rw [List.length_cons]
        omega
      · split
        · exact ⟨by simp, fun y => by simp⟩
        · split
          · exact ⟨by simp, fun y => by omega⟩
          · have z := ih (e - (p + 1)) (by omega) (p + 1) rfl
            refine ⟨by rw [List.length_cons]; omega, fun y => ?_⟩
            have w := z.2 y
            rw [List.length_cons]
            omega
    · rw [kuq_end h, kbq_end h]
      exact ⟨by simp, fun y => by omega⟩
theorem kuq_rng {t : Nat → Int} {n L e : Nat} {q : Int} (hX : kTx t n L) (hen : e ≤ n) : ∀ (j p : Nat), e - p = j → ∀ x ∈ kuq t e q p, x = 10 ∨ 32 ≤ x ∧ x ≤ 126 := by
  intro j
  induction j using Nat.strongRecOn with
  | _ j ih =>
    intro p hj x hx
    rcases Nat.lt_or_ge p e with h | h
    · rw [kuq_u h] at hx
      split at hx
      · rcases List.mem_cons.mp hx with z | z
        · rw [z]
          split
          · exact Or.inl rfl
          · exact kch_rng hX hen _
        · exact ih (e - (p + 2)) (by omega) (p + 2) rfl x z
      · split at hx
        · cases hx
        · split at hx
          · cases hx
          · rcases List.mem_cons.mp hx with z | z
            · rw [z]
              exact kch_rng hX hen _
            · exact ih (e - (p + 1)) (by omega) (p + 1) rfl x z
    · rw [kuq_end h] at hx
      cases hx
/-- the class puts characters to a string; the reference does -/
def kapl (v : Nat) : List Int → Nat → (Nat → Nat → Int) → (Nat → Nat → Int)
  | [], _, S => S
  | x :: cs, u, S => kapl v cs (u + 1) (kapt S v x u)
def kspl (v : Nat) : List Int → Nat → (Nat → Nat → Int) → (Nat → Nat → Int)
  | [], _, S => S
  | x :: cs, u, S => kspl v cs (u + 1) (ksp1 S v x u)
theorem kapl_at (v : Nat) : ∀ (cs : List Int) (u : Nat) (S : Nat → Nat → Int), S 20 7 = (u : Int) → (∀ a k, ¬ (a = 20 ∧ k = 7) → ¬ (a = 22 ∧ k = v) → a ≠ 26 → kapl v cs u S a k = S a k) ∧ kapl v cs u S 20 7 = (u : Int) + cs.length ∧ kapl v cs u S 22 v = S 22 v + cs.length ∧ ∀ j, kapl v cs u S 26 j = if u ≤ j ∧ j < u + cs.length then cs.getD (j - u) 0 else S 26 j
  | [], u, S, hu => ⟨fun _ _ _ _ _ => rfl, by simp [kapl, hu], by simp [kapl], fun j => by rw [if_neg (by rw [List.length_nil]; omega)]; rfl⟩
  | x :: cs, u, S, hu => by
    obtain ⟨h1, h2, h3, h4⟩ := kapl_at v cs (u + 1) (kapt S v x u) rfl
    refine ⟨fun a k e1 e2 e3 => ?_, ?_, ?_, fun j => ?_⟩
    · show kapl v cs (u + 1) (kapt S v x u) a k = S a k
      rw [h1 a k e1 e2 e3]
      unfold kapt ku kup
      by_cases i1 : a = 22
      · by_cases i2 : k = v
        · exact absurd ⟨i1, i2⟩ e2
        · simp [i1, i2]
      · by_cases i3 : a = 20
        · by_cases i4 : k = 7
          · exact absurd ⟨i3, i4⟩ e1
          · simp [i3, i4]
        · simp [i1, i3, e3]
    · show kapl v cs (u + 1) (kapt S v x u) 20 7 = _
      rw [h2]
      simp
      omega
    · show kapl v cs (u + 1) (kapt S v x u) 22 v = _
      rw [h3]
      have : kapt S v x u 22 v = S 22 v + 1 := by simp [kapt, ku, kup]
      rw [this]
      simp
      omega
    · show kapl v cs (u + 1) (kapt S v x u) 26 j = _
      rw [h4 j]
      have e0 : kapt S v x u 26 j = if j = u then x else S 26 j := by simp [kapt, ku, kup]
      rw [e0, List.length_cons]
      by_cases i1 : u + 1 ≤ j ∧ j < u + 1 + cs.length
      · rw [if_pos i1, if_pos (by omega), show j - u = (j - (u + 1)) + 1 by omega]
        rfl
      · rw [if_neg i1]
        by_cases i2 : j = u
        · rw [if_pos i2, if_pos (by omega), i2, Nat.sub_self]
          rfl
        · rw [if_neg i2, if_neg (by omega)]
theorem kspl_at (v : Nat) : ∀ (cs : List Int) (u : Nat) (S : Nat → Nat → Int), S 30 14 = (u : Int) → (∀ a k, ¬ (a = 30 ∧ k = 14) → ¬ (a = 37 ∧ k = v) → a ≠ 38 → kspl v cs u S a k = S a k) ∧ kspl v cs u S 30 14 = (u : Int) + cs.length ∧ kspl v cs u S 37 v = S 37 v + cs.length ∧ ∀ j, kspl v cs u S 38 j = if u ≤ j ∧ j < u + cs.length then cs.getD (j - u) 0 else S 38 j
  | [], u, S, hu => ⟨fun _ _ _ _ _ => rfl, by simp [kspl, hu], by simp [kspl], fun j => by rw [if_neg (by rw [List.length_nil]; omega)]; rfl⟩
  | x :: cs, u, S, hu => by
    obtain ⟨h1, h2, h3, h4⟩ := kspl_at v cs (u + 1) (ksp1 S v x u) rfl
    refine ⟨fun a k e1 e2 e3 => ?_, ?_, ?_, fun j => ?_⟩
    · show kspl v cs (u + 1) (ksp1 S v x u) a k = S a k
      rw [h1 a k e1 e2 e3]
      unfold ksp1 ku kup
      by_cases i1 : a = 37
      · by_cases i2 : k = v
        · exact absurd ⟨i1, i2⟩ e2
        · simp [i1, i2]
      · by_cases i3 : a = 30
        · by_cases i4 : k = 14
          · exact absurd ⟨i3, i4⟩ e1
          · simp [i3, i4]
        · simp [i1, i3, e3]
    · show kspl v cs (u + 1) (ksp1 S v x u) 30 14 = _
      rw [h2]
      simp
      omega
    · show kspl v cs (u + 1) (ksp1 S v x u) 37 v = _
      rw [h3]
      have : ksp1 S v x u 37 v = S 37 v + 1 := by simp [ksp1, ku, kup]
      rw [this]
      simp
      omega
    · show kspl v cs (u + 1) (ksp1 S v x u) 38 j = _
      rw [h4 j]
      have e0 : ksp1 S v x u 38 j = if j = u then x else S 38 j := by simp [ksp1, ku, kup]
      rw [e0, List.length_cons]
      by_cases i1 : u + 1 ≤ j ∧ j < u + 1 + cs.length
      · rw [if_pos i1, if_pos (by omega), show j - u = (j - (u + 1)) + 1 by omega]
        rfl
      · rw [if_neg i1]
        by_cases i2 : j = u
        · rw [if_pos i2, if_pos (by omega), i2, Nat.sub_self]
          rfl
        · rw [if_neg i2, if_neg (by omega)]
/-- the reference's buffer of a quoted text -/
def kqb (S : Nat → Nat → Int) (cs : List Int) : Nat → Nat → Int := kup (ku S 30 34 (cs.length : Int)) 47 (fun j => if j < cs.length then cs.getD j 0 else S 47 j)
theorem kqb_nil {S : Nat → Nat → Int} : kqb S [] = ku S 30 34 0 := by
  funext a k
  unfold kqb kup
  by_cases h : a = 47
  · simp [h, ku, kup]
  · simp [h]
theorem kqb_snoc {S : Nat → Nat → Int} {cs : List Int} {x : Int} : ku (ku (kqb S cs) 47 cs.length x) 30 34 ((cs.length : Int) + 1) = kqb S (cs ++ [x]) := by
  funext a k
  unfold kqb ku kup
  by_cases h1 : a = 30
  · by_cases h2 : k = 34
    · simp [h1, h2]
    · simp [h1, h2]
  · by_cases h3 : a = 47
    · by_cases h4 : k = cs.length
      · simp [h3, h4, List.getD]
      · by_cases h5 : k < cs.length
        · simp [h3, h4, h5, List.getD, List.getElem?_append_left h5, show k < cs.length + 1 by omega]
        · simp [h3, h4, h5, show ¬ k < cs.length + 1 by omega]
    · simp [h1, h3]
