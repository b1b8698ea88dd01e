/-! Class and reference make the same of a plain text. -/
theorem ksay_cons (t : Nat → Int) (e f g : Nat) (x : Int) (w : List Int) : ksay t e f g (x :: w) = 1 ↔ kch t e f = x ∧ ksay t e (f + 1) g w = 1 := by
  unfold ksay
  constructor
  · intro h
    split at h
    · rename_i c
      have h0 := c.2 0 (by simp)
      refine ⟨h0, ?_⟩
      refine if_pos ⟨by have := c.1; simp at this; omega, fun i hi => ?_⟩
      have := c.2 (i + 1) (by simp; omega)
      rw [show f + 1 + i = f + (i + 1) by omega, this]
      rfl
    · cases h
  · intro ⟨h1, h2⟩
    split at h2
    · rename_i c
      refine if_pos ⟨by have := c.1; simp; omega, fun i hi => ?_⟩
      cases i with
      | zero => exact h1
      | succ i =>
        have := c.2 i (by simp at hi; omega)
        rw [show f + (i + 1) = f + 1 + i by omega, this]
        rfl
    · cases h2
theorem ksay_nil (t : Nat → Int) (e f g : Nat) : ksay t e f g [] = 1 ↔ g = f := by
  unfold ksay
  constructor
  · intro h
    split at h
    · rename_i c
      exact c.1
    · cases h
  · intro h
    rw [if_pos ⟨h, fun i hi => by simp at hi⟩]
theorem kdch_all (t : Nat → Int) (b : Int) : ∀ (j p : Nat) (m : Int), kdch t b j p m = m + j ↔ ∀ k, k < j → (48 ≤ t (p + k) ∧ t (p + k) ≤ 57) ∨ (10 < b ∧ (97 ≤ t (p + k) ∧ t (p + k) ≤ 102))
  | 0, p, m => by simp [kdch]
  | j + 1, p, m => by
    unfold kdch
    by_cases h : (48 ≤ t p ∧ t p ≤ 57) ∨ (10 < b ∧ (97 ≤ t p ∧ t p ≤ 102))
    · rw [if_pos h]
      have ih := kdch_all t b j (p + 1) (m + 1)
      constructor
      · intro z k hk
        cases k with
        | zero => exact h
        | succ k =>
          have := ih.mp (by omega) k (by omega)
          rw [show p + (k + 1) = p + 1 + k by omega]
          exact this
      · intro z
        have := ih.mpr (fun k hk => by
          have := z (k + 1) (by omega)
          rw [show p + (k + 1) = p + 1 + k by omega] at this
          exact this)
        omega
    · rw [if_neg h]
      have r := kdch_rng t b j (p + 1) m
      constructor
      · intro z
        omega
      · intro z
        exact absurd (z 0 (by omega)) h
theorem kdg_10 (c : Int) : (0 ≤ kdg c ∧ kdg c < 10) ↔ (48 ≤ c ∧ c ≤ 57) ∨ ((10 : Int) < 10 ∧ (97 ≤ c ∧ c ≤ 102)) := by
  have h := kdg_o c
  omega
theorem kdg_16 (c : Int) : (0 ≤ kdg c ∧ kdg c < 16) ↔ (48 ≤ c ∧ c ≤ 57) ∨ ((10 : Int) < 16 ∧ (97 ≤ c ∧ c ≤ 102)) := by
  have h := kdg_o c
  omega
theorem kads_eq {t : Nat → Int} {e p g : Nat} {b : Int} (hge : g ≤ e) (hb : b = 10 ∨ b = 16) : kads t e p g b = 1 ↔ kdch t b (g - p) p 0 = ((g - p : Nat) : Int) := by
  have h1 := kdch_all t b (g - p) p 0
  rw [Int.zero_add] at h1
  rw [h1]
  have key : ∀ k, k < g - p → ((0 ≤ kdg (kch t e (p + k)) ∧ kdg (kch t e (p + k)) < b) ↔ ((48 ≤ t (p + k) ∧ t (p + k) ≤ 57) ∨ (10 < b ∧ (97 ≤ t (p + k) ∧ t (p + k) ≤ 102)))) := by
    intro k hk
    rw [kch_in (by omega)]
    rcases hb with rfl | rfl
    · exact kdg_10 _
    · exact kdg_16 _
  constructor
  · intro h k hk
    rcases kads_o t e p g b with ⟨_, z⟩ | ⟨z, _⟩
    · exact (key k hk).mp (z k hk)
    · omega
  · intro h
    rcases kads_o t e p g b with ⟨z, _⟩ | ⟨_, z⟩
    · exact z
    · exact absurd (fun k hk => (key k hk).mpr (h k hk)) z
theorem kwoh_eq {t : Nat → Int} {e g : Nat} {b : Int} (hge : g ≤ e) : ∀ (j p : Nat) (v : Int), p + j = g → (∀ k, k < j → 0 ≤ kdg (kch t e (p + k))) → kwoh t b j p v = kvdh t e b j p v
  | 0, p, v, _, _ => rfl
  | j + 1, p, v, hp, hd => by
    unfold kwoh kvdh
    have h0 := hd 0 (by omega)
    rw [Nat.add_zero, kch_in (by omega)] at h0
    have e0 : (if 57 < t p then t p - 97 + 10 else t p - 48) = kdg (kch t e p) := by
      rw [kch_in (by omega)]
      have h1 := kdg_o (t p)
      split <;> omega
    rw [e0]
    exact kwoh_eq hge j (p + 1) _ (by omega) (fun k hk => by
      have := hd (k + 1) (by omega)
      rw [show p + (k + 1) = p + 1 + k by omega] at this
      exact this)
theorem kvdh_bd {t : Nat → Int} {e : Nat} {b : Int} (hb : 0 < b) : ∀ (j p : Nat) (v B : Int), 0 ≤ v → v < B → (∀ k, k < j → 0 ≤ kdg (kch t e (p + k)) ∧ kdg (kch t e (p + k)) < b) → 0 ≤ kvdh t e b j p v ∧ kvdh t e b j p v < B * b ^ j
  | 0, p, v, B, h1, h2, _ => by simp [kvdh, h1, h2]
  | j + 1, p, v, B, h1, h2, hd => by
    unfold kvdh
    have h0 := hd 0 (by omega)
    rw [Nat.add_zero] at h0
    have n1 : 0 ≤ v * b := Int.mul_nonneg h1 (Int.le_of_lt hb)
    have n2 : (v + 1) * b ≤ B * b := Int.mul_le_mul_of_nonneg_right (by omega) (Int.le_of_lt hb)
    rw [Int.add_mul, Int.one_mul] at n2
    have ih := kvdh_bd (t := t) (e := e) hb j (p + 1) (v * b + kdg (kch t e p)) (B * b) (by omega) (by omega) (fun k hk => by
      have := hd (k + 1) (by omega)
      rw [show p + (k + 1) = p + 1 + k by omega] at this
      exact this)
    rw [Int.pow_succ', ← Int.mul_assoc]
    exact ih
theorem kvd_10 {t : Nat → Int} {e p g : Nat} (h : kads t e p g 10 = 1) (hl : g - p ≤ 18) : 0 ≤ kvd t e 10 p g ∧ kvd t e 10 p g < 1000000000000000000 := by
  have hd : ∀ k, k < g - p → 0 ≤ kdg (kch t e (p + k)) ∧ kdg (kch t e (p + k)) < 10 := by
    rcases kads_o t e p g 10 with ⟨_, z⟩ | ⟨z, _⟩
    · exact z
    · omega
  have z := kvdh_bd (t := t) (e := e) (b := 10) (by decide) (g - p) p 0 1 (by decide) (by decide) hd
  have q : ∀ d : Nat, d ≤ 18 → (10 : Int) ^ d ≤ 1000000000000000000 := by decide
  have q := q (g - p) hl
  rw [Int.one_mul] at z
  refine ⟨z.1, ?_⟩
  unfold kvd
  omega
theorem kvd_16 {t : Nat → Int} {e p g : Nat} (h : kads t e p g 16 = 1) (hl : g - p ≤ 14) : 0 ≤ kvd t e 16 p g ∧ kvd t e 16 p g < 1000000000000000000 := by
  have hd : ∀ k, k < g - p → 0 ≤ kdg (kch t e (p + k)) ∧ kdg (kch t e (p + k)) < 16 := by
    rcases kads_o t e p g 16 with ⟨_, z⟩ | ⟨z, _⟩
    · exact z
    · omega
  have z := kvdh_bd (t := t) (e := e) (b := 16) (by decide) (g - p) p 0 1 (by decide) (by decide) hd
  have q : ∀ d : Nat, d ≤ 14 → (16 : Int) ^ d ≤ 1000000000000000000 := by decide
  have q := q (g - p) hl
  rw [Int.one_mul] at z
  refine ⟨z.1, ?_⟩
  unfold kvd
  omega
