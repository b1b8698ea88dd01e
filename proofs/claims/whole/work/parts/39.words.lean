/-! Words for texts, without any machine: walks, lines. -/
theorem kwh_rng (p : Nat → Bool) : ∀ (j k : Nat), k ≤ kwh p j k ∧ kwh p j k ≤ k + j ∧ (∀ i, k ≤ i → i < kwh p j k → p i = true) ∧ (kwh p j k < k + j → p (kwh p j k) = false)
  | 0, k => ⟨Nat.le_refl _, Nat.le_refl _, fun i h1 h2 => by simp [kwh] at h2; omega, fun h => by simp [kwh] at h⟩
  | j + 1, k => by
    unfold kwh
    split
    · rename_i h
      obtain ⟨h1, h2, h3, h4⟩ := kwh_rng p j (k + 1)
      refine ⟨by omega, by omega, fun i hi hj => ?_, fun hj => h4 (by omega)⟩
      rcases Nat.lt_or_ge k i with z | z
      · exact h3 i (by omega) hj
      · rw [show i = k by omega]
        exact h
    · rename_i h
      exact ⟨Nat.le_refl _, by omega, fun i h1 h2 => by omega, fun _ => by cases hk : p k; rfl; exact absurd hk h⟩
theorem kw_rng {p : Nat → Bool} {n k : Nat} : k ≤ kw p n k ∧ (k ≤ n → kw p n k ≤ n) := by
  have h := kwh_rng p (n - k) k
  unfold kw
  exact ⟨h.1, fun hk => by omega⟩
theorem kw_in {p : Nat → Bool} {n k i : Nat} (h1 : k ≤ i) (h2 : i < kw p n k) : p i = true := (kwh_rng p (n - k) k).2.2.1 i h1 h2
theorem kw_at {p : Nat → Bool} {n k : Nat} (h : kw p n k < n) : p (kw p n k) = false := by
  have z := kwh_rng p (n - k) k
  unfold kw at h ⊢
  exact z.2.2.2 (by omega)
theorem kw_eq {p : Nat → Bool} {n k m : Nat} (h1 : k ≤ m) (h2 : ∀ i, k ≤ i → i < m → p i = true) (h3 : m ≤ n) (h4 : m < n → p m = false) : kw p n k = m := by
  have hr := kw_rng (p := p) (n := n) (k := k)
  rcases Nat.lt_trichotomy (kw p n k) m with h | h | h
  · have z := kw_at (p := p) (n := n) (k := k) (by omega)
    rw [h2 _ hr.1 h] at z
    cases z
  · exact h
  · have z := kw_in (p := p) (n := n) (k := k) h1 h
    rw [h4 (by have := hr.2 (by omega); omega)] at z
    cases z
theorem kw_congr {p q : Nat → Bool} {n k : Nat} (h : ∀ j, k ≤ j → j < n → p j = q j) : kw p n k = kw q n k := by
  rcases Nat.lt_or_ge n k with hk | hk
  · rw [kw_no (Or.inl (by omega)), kw_no (Or.inl (by omega))]
  · have hr := kw_rng (p := q) (n := n) (k := k)
    exact kw_eq hr.1 (fun i h1 h2 => by rw [h i h1 (by have := hr.2 hk; omega)]; exact kw_in h1 h2) (hr.2 hk) (fun hj => by rw [h _ hr.1 hj]; exact kw_at hj)
def kbh (p : Nat → Bool) (lo : Nat) : Nat → Nat
  | 0 => lo
  | d + 1 => if p (lo + d) = true then kbh p lo d else lo + d + 1
/-- back from hi to lo while p holds of what lies before -/
def kb (p : Nat → Bool) (lo hi : Nat) : Nat := kbh p lo (hi - lo)
theorem kb_go {p : Nat → Bool} {lo hi : Nat} (h : lo < hi) (hp : p (hi - 1) = true) : kb p lo hi = kb p lo (hi - 1) := by
  unfold kb
  rw [show hi - lo = (hi - 1 - lo) + 1 by omega, kbh, show lo + (hi - 1 - lo) = hi - 1 by omega, if_pos hp]
theorem kb_no {p : Nat → Bool} {lo hi : Nat} (h : lo ≤ hi) (hp : hi ≤ lo ∨ p (hi - 1) = false) : kb p lo hi = hi := by
  unfold kb
  rcases Nat.lt_or_ge lo hi with h1 | h1
  · have hp : p (hi - 1) = false := by rcases hp with z | z; omega; exact z
    rw [show hi - lo = (hi - 1 - lo) + 1 by omega, kbh, show lo + (hi - 1 - lo) = hi - 1 by omega, if_neg (by rw [hp]; decide)]
    omega
  · rw [show hi - lo = 0 by omega, kbh]
    omega
theorem kbh_rng (p : Nat → Bool) (lo : Nat) : ∀ d, lo ≤ kbh p lo d ∧ kbh p lo d ≤ lo + d ∧ (∀ i, kbh p lo d ≤ i → i < lo + d → p i = true) ∧ (lo < kbh p lo d → p (kbh p lo d - 1) = false)
  | 0 => ⟨Nat.le_refl _, Nat.le_refl _, fun i h1 h2 => by simp [kbh] at h1; omega, fun h => by simp [kbh] at h⟩
  | d + 1 => by
    unfold kbh
    split
    · rename_i h
      obtain ⟨h1, h2, h3, h4⟩ := kbh_rng p lo d
      refine ⟨h1, by omega, fun i hi hj => ?_, h4⟩
      rcases Nat.lt_or_ge i (lo + d) with z | z
      · exact h3 i hi z
      · rw [show i = lo + d by omega]
        exact h
    · rename_i h
      refine ⟨by omega, by omega, fun i h1 h2 => by omega, fun _ => ?_⟩
      rw [show lo + d + 1 - 1 = lo + d by omega]
      cases hk : p (lo + d)
      · rfl
      · exact absurd hk h
theorem kb_rng {p : Nat → Bool} {lo hi : Nat} (h : lo ≤ hi) : lo ≤ kb p lo hi ∧ kb p lo hi ≤ hi := by
  have z := kbh_rng p lo (hi - lo)
  unfold kb
  omega
theorem kb_in {p : Nat → Bool} {lo hi i : Nat} (h : lo ≤ hi) (h1 : kb p lo hi ≤ i) (h2 : i < hi) : p i = true := (kbh_rng p lo (hi - lo)).2.2.1 i h1 (by omega)
theorem kb_at {p : Nat → Bool} {lo hi : Nat} (h : lo < kb p lo hi) : p (kb p lo hi - 1) = false := (kbh_rng p lo (hi - lo)).2.2.2 h
/-- begin of line l, its end, begin and end of its rest -/
def klb (t : Nat → Int) (n : Nat) : Nat → Nat
  | 0 => 0
  | l + 1 => kw (fun i => decide (t i ≠ 10)) n (klb t n l) + 1
def kle (t : Nat → Int) (n l : Nat) : Nat := kw (fun i => decide (t i ≠ 10)) n (klb t n l)
def krb (t : Nat → Int) (n l : Nat) : Nat := kw (fun i => decide (t i = 32)) (kle t n l) (klb t n l)
def kre (t : Nat → Int) (n l : Nat) : Nat := kb (fun i => decide (t i = 32)) (krb t n l) (kle t n l)
/-- a text of n characters in L lines -/
def kTx (t : Nat → Int) (n L : Nat) : Prop := n ≤ 200 ∧ (∀ j, j < n → t j = 10 ∨ 32 ≤ t j ∧ t j ≤ 126) ∧ 1 ≤ L ∧ L ≤ 201 ∧ (∀ l, l < L → klb t n l ≤ n) ∧ klb t n L = n + 1
theorem kln {t : Nat → Int} {n l : Nat} (h : klb t n l ≤ n) : klb t n l ≤ krb t n l ∧ krb t n l ≤ kre t n l ∧ kre t n l ≤ kle t n l ∧ kle t n l ≤ n := by
  have h1 : klb t n l ≤ kle t n l ∧ (klb t n l ≤ n → kle t n l ≤ n) := kw_rng
  have h2 : klb t n l ≤ krb t n l ∧ (klb t n l ≤ kle t n l → krb t n l ≤ kle t n l) := kw_rng
  have h3 : krb t n l ≤ kre t n l ∧ kre t n l ≤ kle t n l := kb_rng (h2.2 h1.1)
  have h4 := h1.2 h
  omega
theorem kTx.ln {t : Nat → Int} {n L l : Nat} (hX : kTx t n L) (h : l < L) : klb t n l ≤ krb t n l ∧ krb t n l ≤ kre t n l ∧ kre t n l ≤ kle t n l ∧ kle t n l ≤ n := kln (hX.2.2.2.2.1 l h)
theorem klb_s (t : Nat → Int) (n l : Nat) : klb t n (l + 1) = kle t n l + 1 := rfl
theorem kLx (t : Nat → Int) (n : Nat) : ∀ (j l : Nat), n + 1 - klb t n l = j → (∀ i, i < l → klb t n i ≤ n) → klb t n l ≤ n + 1 → l ≤ klb t n l → ∃ L, l ≤ L ∧ L ≤ n + 1 ∧ (∀ i, i < L → klb t n i ≤ n) ∧ klb t n L = n + 1 := by
  intro j
  induction j using Nat.strongRecOn with
  | _ j ih =>
    intro l hj hl h1 h2
    rcases Nat.lt_or_ge n (klb t n l) with h | h
    · exact ⟨l, Nat.le_refl _, by omega, hl, by omega⟩
    · have h3 := kln h
      have h4 : klb t n (l + 1) = kle t n l + 1 := rfl
      obtain ⟨L, e1, e2, e3, e4⟩ := ih (n + 1 - klb t n (l + 1)) (by omega) (l + 1) rfl (fun i hi => by
        rcases Nat.lt_or_ge i l with z | z
        · exact hl i z
        · rw [show i = l by omega]
          exact h) (by omega) (by omega)
      exact ⟨L, by omega, e2, e3, e4⟩
theorem kTx_ex {t : Nat → Int} {n : Nat} (hn : n ≤ 200) (ht : ∀ j, j < n → t j = 10 ∨ 32 ≤ t j ∧ t j ≤ 126) : ∃ L, kTx t n L := by
  obtain ⟨L, e1, e2, e3, e4⟩ := kLx t n (n + 1) 0 rfl (fun i hi => by omega) (by show (0 : Nat) ≤ n + 1; omega) (Nat.le_refl _)
  refine ⟨L, hn, ht, ?_, by omega, e3, e4⟩
  rcases Nat.eq_zero_or_pos L with z | z
  · rw [z] at e4
    change 0 = n + 1 at e4
    omega
  · exact z
