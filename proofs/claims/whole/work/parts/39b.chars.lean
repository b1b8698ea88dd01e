/-! Words for characters and what is read of them, without any machine. -/
def kch (t : Nat → Int) (e p : Nat) : Int := if p < e then t p else 10
theorem kch_in {t : Nat → Int} {e p : Nat} (h : p < e) : kch t e p = t p := if_pos h
theorem kch_out {t : Nat → Int} {e p : Nat} (h : e ≤ p) : kch t e p = 10 := if_neg (by omega)
theorem kch_lt {t : Nat → Int} {e p : Nat} (h : kch t e p ≠ 10) : p < e := by
  apply Classical.byContradiction
  intro z
  exact h (kch_out (by omega))
theorem kch_rng {t : Nat → Int} {n L e : Nat} (hX : kTx t n L) (h : e ≤ n) (p : Nat) : kch t e p = 10 ∨ 32 ≤ kch t e p ∧ kch t e p ≤ 126 := by
  unfold kch
  split
  · exact hX.2.1 p (by omega)
  · exact Or.inl rfl
def khr (t : Nat → Int) (e p : Nat) : Int := if p < e then t p else 0
theorem khr_o (t : Nat → Int) (e p : Nat) : (khr t e p = t p ∧ kch t e p = t p ∧ p < e) ∨ (khr t e p = 0 ∧ kch t e p = 10 ∧ e ≤ p) := by
  unfold khr kch
  by_cases h : p < e
  · rw [if_pos h, if_pos h]
    exact Or.inl ⟨rfl, rfl, h⟩
  · rw [if_neg h, if_neg h]
    exact Or.inr ⟨rfl, rfl, by omega⟩
theorem krk {t : Nat → Int} {n l : Nat} (h : klb t n l ≤ n) : krb t n l < kle t n l ↔ krb t n l < kre t n l := by
  have hr := kln h
  constructor
  · intro h1
    have z : decide (t (krb t n l) = 32) = false := kw_at (p := fun i => decide (t i = 32)) h1
    rcases Nat.lt_or_ge (krb t n l) (kre t n l) with h2 | h2
    · exact h2
    · have y : decide (t (krb t n l) = 32) = true := kb_in (p := fun i => decide (t i = 32)) (by omega) h2 h1
      rw [y] at z
      cases z
  · intro h1
    omega
theorem kln10 {t : Nat → Int} {n l j : Nat} (h1 : klb t n l ≤ j) (h2 : j < kle t n l) : t j ≠ 10 := of_decide_eq_true (kw_in (p := fun i => decide (t i ≠ 10)) h1 h2)
/-- a gap is here -/
def kgap (t : Nat → Int) (e p : Nat) : Int := if e ≤ p ∨ t p = 32 then 1 else 0
theorem kgap_o (t : Nat → Int) (e p : Nat) : (kgap t e p = 1 ∧ (e ≤ p ∨ t p = 32)) ∨ (kgap t e p = 0 ∧ ¬ (e ≤ p ∨ t p = 32)) := by
  unfold kgap
  split
  · rename_i h; exact Or.inl ⟨rfl, h⟩
  · rename_i h; exact Or.inr ⟨rfl, h⟩
/-- the dash of a row -/
def kdash (t : Nat → Int) (e p : Nat) : Int := if kch t e p = 45 ∧ kgap t e (p + 1) = 1 then 1 else 0
theorem kdash_o (t : Nat → Int) (e p : Nat) : (kdash t e p = 1 ∧ (kch t e p = 45 ∧ kgap t e (p + 1) = 1)) ∨ (kdash t e p = 0 ∧ ¬ (kch t e p = 45 ∧ kgap t e (p + 1) = 1)) := by
  unfold kdash
  split
  · rename_i h; exact Or.inl ⟨rfl, h⟩
  · rename_i h; exact Or.inr ⟨rfl, h⟩
def kqu (c : Int) : Int := if c = 34 ∨ c = 39 then 1 else 0
theorem kqu_o (c : Int) : (kqu c = 1 ∧ (c = 34 ∨ c = 39)) ∨ (kqu c = 0 ∧ ¬ (c = 34 ∨ c = 39)) := by
  unfold kqu
  split
  · rename_i h; exact Or.inl ⟨rfl, h⟩
  · rename_i h; exact Or.inr ⟨rfl, h⟩
def kbk (c : Int) : Int := if c = 44 ∨ c = 91 ∨ c = 93 ∨ c = 123 ∨ c = 125 then 1 else 0
theorem kbk_o (c : Int) : (kbk c = 1 ∧ (c = 44 ∨ c = 91 ∨ c = 93 ∨ c = 123 ∨ c = 125)) ∨ (kbk c = 0 ∧ ¬ (c = 44 ∨ c = 91 ∨ c = 93 ∨ c = 123 ∨ c = 125)) := by
  unfold kbk
  split
  · rename_i h; exact Or.inl ⟨rfl, h⟩
  · rename_i h; exact Or.inr ⟨rfl, h⟩
def kpr (q c x : Int) : Int := if (q = 39 ∧ c = 39 ∧ x = 39) ∨ (¬ q = 39 ∧ c = 92 ∧ (x = 92 ∨ x = 34 ∨ x = 110)) then 1 else 0
theorem kpr_o (q c x : Int) : (kpr q c x = 1 ∧ ((q = 39 ∧ c = 39 ∧ x = 39) ∨ (¬ q = 39 ∧ c = 92 ∧ (x = 92 ∨ x = 34 ∨ x = 110)))) ∨ (kpr q c x = 0 ∧ ¬ ((q = 39 ∧ c = 39 ∧ x = 39) ∨ (¬ q = 39 ∧ c = 92 ∧ (x = 92 ∨ x = 34 ∨ x = 110)))) := by
  unfold kpr
  split
  · rename_i h; exact Or.inl ⟨rfl, h⟩
  · rename_i h; exact Or.inr ⟨rfl, h⟩
/-- the colon of a key; i is 1 inside brackets -/
def kcol (t : Nat → Int) (e : Nat) (i : Int) (p : Nat) : Int := if kch t e p = 58 ∧ (kgap t e (p + 1) = 1 ∨ i = 1 ∧ kbk (kch t e (p + 1)) = 1) then 1 else 0
theorem kcol_o (t : Nat → Int) (e : Nat) (i : Int) (p : Nat) : (kcol t e i p = 1 ∧ (kch t e p = 58 ∧ (kgap t e (p + 1) = 1 ∨ i = 1 ∧ kbk (kch t e (p + 1)) = 1))) ∨ (kcol t e i p = 0 ∧ ¬ (kch t e p = 58 ∧ (kgap t e (p + 1) = 1 ∨ i = 1 ∧ kbk (kch t e (p + 1)) = 1))) := by
  unfold kcol
  split
  · rename_i h; exact Or.inl ⟨rfl, h⟩
  · rename_i h; exact Or.inr ⟨rfl, h⟩
def ksg (c : Int) : Int := if c = 95 ∨ c = 46 ∨ c = 43 ∨ c = 47 ∨ c = 126 ∨ c = 40 ∨ c = 60 ∨ c = 61 ∨ c = 36 ∨ c = 94 then 1 else 0
theorem ksg_o (c : Int) : (ksg c = 1 ∧ (c = 95 ∨ c = 46 ∨ c = 43 ∨ c = 47 ∨ c = 126 ∨ c = 40 ∨ c = 60 ∨ c = 61 ∨ c = 36 ∨ c = 94)) ∨ (ksg c = 0 ∧ ¬ (c = 95 ∨ c = 46 ∨ c = 43 ∨ c = 47 ∨ c = 126 ∨ c = 40 ∨ c = 60 ∨ c = 61 ∨ c = 36 ∨ c = 94)) := by
  unfold ksg
  split
  · rename_i h; exact Or.inl ⟨rfl, h⟩
  · rename_i h; exact Or.inr ⟨rfl, h⟩
/-- a plain text may begin here -/
def kpl (t : Nat → Int) (e p : Nat) : Int := if (kch t e p = 45 ∧ kgap t e (p + 1) = 0) ∨ (¬ kch t e p = 45 ∧ ((97 ≤ kch t e p ∧ kch t e p ≤ 122) ∨ (65 ≤ kch t e p ∧ kch t e p ≤ 90) ∨ (48 ≤ kch t e p ∧ kch t e p ≤ 57) ∨ ksg (kch t e p) = 1)) then 1 else 0
theorem kpl_o (t : Nat → Int) (e p : Nat) : (kpl t e p = 1 ∧ ((kch t e p = 45 ∧ kgap t e (p + 1) = 0) ∨ (¬ kch t e p = 45 ∧ ((97 ≤ kch t e p ∧ kch t e p ≤ 122) ∨ (65 ≤ kch t e p ∧ kch t e p ≤ 90) ∨ (48 ≤ kch t e p ∧ kch t e p ≤ 57) ∨ ksg (kch t e p) = 1)))) ∨ (kpl t e p = 0 ∧ ¬ ((kch t e p = 45 ∧ kgap t e (p + 1) = 0) ∨ (¬ kch t e p = 45 ∧ ((97 ≤ kch t e p ∧ kch t e p ≤ 122) ∨ (65 ≤ kch t e p ∧ kch t e p ≤ 90) ∨ (48 ≤ kch t e p ∧ kch t e p ≤ 57) ∨ ksg (kch t e p) = 1)))) := by
  unfold kpl
  split
  · rename_i h; exact Or.inl ⟨rfl, h⟩
  · rename_i h; exact Or.inr ⟨rfl, h⟩
def klt (t : Nat → Int) (e p : Nat) : Int := if 97 ≤ kch t e p ∧ kch t e p ≤ 122 then kch t e p - 97 else -1
theorem klt_o (t : Nat → Int) (e p : Nat) : (klt t e p = kch t e p - 97 ∧ 97 ≤ kch t e p ∧ kch t e p ≤ 122) ∨ (klt t e p = -1 ∧ ¬ (97 ≤ kch t e p ∧ kch t e p ≤ 122)) := by
  unfold klt
  split
  · rename_i h; exact Or.inl ⟨rfl, h⟩
  · rename_i h; exact Or.inr ⟨rfl, h⟩
theorem klt_rng (t : Nat → Int) (e p : Nat) : -1 ≤ klt t e p ∧ klt t e p < 26 := by
  unfold klt
  split <;> omega
def kdg (c : Int) : Int := if 48 ≤ c ∧ c ≤ 57 then c - 48 else if 97 ≤ c ∧ c ≤ 102 then c - 97 + 10 else -1
theorem kdg_o (c : Int) : (kdg c = c - 48 ∧ 48 ≤ c ∧ c ≤ 57) ∨ (kdg c = c - 97 + 10 ∧ 97 ≤ c ∧ c ≤ 102) ∨ (kdg c = -1 ∧ ¬ (48 ≤ c ∧ c ≤ 57) ∧ ¬ (97 ≤ c ∧ c ≤ 102)) := by
  unfold kdg
  split
  · rename_i h; exact Or.inl ⟨rfl, h⟩
  · rename_i h
    split
    · rename_i h1; exact Or.inr (Or.inl ⟨rfl, h1⟩)
    · rename_i h1; exact Or.inr (Or.inr ⟨rfl, h, h1⟩)
theorem kdg_rng (c : Int) : -1 ≤ kdg c ∧ kdg c < 16 := by
  unfold kdg
  split
  · omega
  · split <;> omega
/-- behind the quoted text whose inside begins at p; -1 if it is wrong -/
def kbqh (t : Nat → Int) (e : Nat) (q : Int) : Nat → Nat → Int
  | 0, _ => -1
  | j + 1, p => if e ≤ p then -1 else if kpr q (kch t e p) (kch t e (p + 1)) = 1 then kbqh t e q j (p + 2) else if kch t e p = q then (p : Int) + 1 else if q = 34 ∧ kch t e p = 92 then -1 else kbqh t e q j (p + 1)
def kbq (t : Nat → Int) (e : Nat) (q : Int) (p : Nat) : Int := kbqh t e q (e + 1 - p) p
theorem kbqh_fuel (t : Nat → Int) (e : Nat) (q : Int) : ∀ (j k p : Nat), e + 1 - p ≤ j → e + 1 - p ≤ k → kbqh t e q j p = kbqh t e q k p := by
  intro j
  induction j with
  | zero =>
    intro k p h1 h2
    cases k with
    | zero => rfl
    | succ k => unfold kbqh; rw [if_pos (by omega)]
  | succ j ih =>
    intro k p h1 h2
    cases k with
    | zero => unfold kbqh; rw [if_pos (by omega)]
    | succ k =>
      unfold kbqh
      split
      · rfl
      · rw [ih k (p + 2) (by omega) (by omega), ih k (p + 1) (by omega) (by omega)]
theorem kbq_end {t : Nat → Int} {e p : Nat} {q : Int} (h : e ≤ p) : kbq t e q p = -1 := by
  unfold kbq
  cases hj : e + 1 - p with
  | zero => rfl
  | succ j => unfold kbqh; rw [if_pos h]
theorem kbq_u {t : Nat → Int} {e p : Nat} {q : Int} (h : p < e) : kbq t e q p = if kpr q (kch t e p) (kch t e (p + 1)) = 1 then kbq t e q (p + 2) else if kch t e p = q then (p : Int) + 1 else if q = 34 ∧ kch t e p = 92 then -1 else kbq t e q (p + 1) := by
  unfold kbq
  rw [show e + 1 - p = (e - p) + 1 by omega, kbqh, if_neg (by omega), kbqh_fuel t e q (e - p) (e + 1 - (p + 2)) (p + 2) (by omega) (by omega), kbqh_fuel t e q (e - p) (e + 1 - (p + 1)) (p + 1) (by omega) (by omega)]
theorem kbq_rng {t : Nat → Int} {e : Nat} {q : Int} : ∀ (j p : Nat), e - p = j → kbq t e q p = -1 ∨ (p : Int) + 1 ≤ kbq t e q p ∧ kbq t e q p ≤ e := by
  intro j
  induction j using Nat.strongRecOn with
  | _ j ih =>
    intro p hp
    rcases Nat.lt_or_ge p e with h | h
    · rw [kbq_u h]
      split
      · rcases ih (e - (p + 2)) (by omega) (p + 2) rfl with z | z
        · exact Or.inl z
        · exact Or.inr ⟨by omega, z.2⟩
      · split
        · exact Or.inr ⟨Int.le_refl _, by omega⟩
        · split
          · exact Or.inl rfl
          · rcases ih (e - (p + 1)) (by omega) (p + 1) rfl with z | z
            · exact Or.inl z
            · exact Or.inr ⟨by omega, z.2⟩
    · exact Or.inl (kbq_end h)
/-- where a plain text that begins at p stops: at its colon, at a bracket or comma inside brackets, or at the end -/
def kst (t : Nat → Int) (e : Nat) (i : Int) (p : Nat) : Nat := kw (fun k => decide (kcol t e i k = 0 ∧ ¬ (i = 1 ∧ kbk (kch t e k) = 1))) e p
/-- the colon of the key that begins at p; -1 if none does -/
def kck (t : Nat → Int) (e : Nat) (i : Int) (p : Nat) : Int := if kqu (kch t e p) = 1 then (if 0 ≤ kbq t e (kch t e p) (p + 1) ∧ kcol t e i (kbq t e (kch t e p) (p + 1)).toNat = 1 then kbq t e (kch t e p) (p + 1) else -1) else if kpl t e p = 1 ∧ kcol t e i (kst t e i p) = 1 then (kst t e i p : Int) else -1
/-- digits of a base from p to g -/
def kads (t : Nat → Int) (e p g : Nat) (b : Int) : Int := if ∀ k, k < g - p → 0 ≤ kdg (kch t e (p + k)) ∧ kdg (kch t e (p + k)) < b then 1 else 0
theorem kads_o (t : Nat → Int) (e p g : Nat) (b : Int) : (kads t e p g b = 1 ∧ (∀ k, k < g - p → 0 ≤ kdg (kch t e (p + k)) ∧ kdg (kch t e (p + k)) < b)) ∨ (kads t e p g b = 0 ∧ ¬ (∀ k, k < g - p → 0 ≤ kdg (kch t e (p + k)) ∧ kdg (kch t e (p + k)) < b)) := by
  unfold kads
  split
  · rename_i h; exact Or.inl ⟨rfl, h⟩
  · rename_i h; exact Or.inr ⟨rfl, h⟩
/-- as many digits as there may be -/
def kad (t : Nat → Int) (e p g : Nat) (b o : Int) : Int := if (1 ≤ (g : Int) - p ∧ (g : Int) - p ≤ o) ∧ kads t e p g b = 1 then 1 else 0
theorem kad_o (t : Nat → Int) (e p g : Nat) (b o : Int) : (kad t e p g b o = 1 ∧ ((1 ≤ (g : Int) - p ∧ (g : Int) - p ≤ o) ∧ kads t e p g b = 1)) ∨ (kad t e p g b o = 0 ∧ ¬ ((1 ≤ (g : Int) - p ∧ (g : Int) - p ≤ o) ∧ kads t e p g b = 1)) := by
  unfold kad
  split
  · rename_i h; exact Or.inl ⟨rfl, h⟩
  · rename_i h; exact Or.inr ⟨rfl, h⟩
def kvdh (t : Nat → Int) (e : Nat) (b : Int) : Nat → Nat → Int → Int
  | 0, _, v => v
  | j + 1, p, v => kvdh t e b j (p + 1) (v * b + kdg (kch t e p))
/-- the number that the digits from p to g say -/
def kvd (t : Nat → Int) (e : Nat) (b : Int) (p g : Nat) : Int := kvdh t e b (g - p) p 0
/-- the characters from f to g are these -/
def ksay (t : Nat → Int) (e f g : Nat) (w : List Int) : Int := if g = f + w.length ∧ ∀ i, i < w.length → kch t e (f + i) = w.getD i 0 then 1 else 0
theorem ksay_o (t : Nat → Int) (e f g : Nat) (w : List Int) : (ksay t e f g w = 1 ∧ (g = f + w.length ∧ ∀ i, i < w.length → kch t e (f + i) = w.getD i 0)) ∨ (ksay t e f g w = 0 ∧ ¬ (g = f + w.length ∧ ∀ i, i < w.length → kch t e (f + i) = w.getD i 0)) := by
  unfold ksay
  split
  · rename_i h; exact Or.inl ⟨rfl, h⟩
  · rename_i h; exact Or.inr ⟨rfl, h⟩
