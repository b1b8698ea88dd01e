/-! Pieces, without any machine. -/
/-- how deep a line is -/
def kdp (t : Nat → Int) (n i : Nat) : Int := (krb t n i : Int) - (klb t n i : Int)
def kInv (t : Nat → Int) (n f k b : Nat) (d w : Int) : Prop := f ≤ b ∧ b ≤ k ∧ (∀ i, b ≤ i → i < k → ¬ krb t n i < kre t n i) ∧ (f < b → krb t n (b - 1) < kre t n (b - 1)) ∧ (b = f → d = -1 ∧ w = 0) ∧ (f < b → ∃ j, f ≤ j ∧ j < b ∧ (∀ i, f ≤ i → i < j → ¬ krb t n i < kre t n i) ∧ krb t n j < kre t n j ∧ d = kdp t n j) ∧ (w = 0 ∨ w = 1) ∧ (w = 1 → ∃ i, f ≤ i ∧ i < b ∧ krb t n i < kre t n i ∧ kdp t n i < d) ∧ (w = 0 → ∀ i, f ≤ i → i < b → krb t n i < kre t n i → d ≤ kdp t n i)
theorem kpA_spec {t : Nat → Int} {n L f : Nat} (hX : kTx t n L) {c : Int} : ∀ (j k b : Nat) (d w : Int) (st bh : Nat) (dp w' : Int), k + j = L → kInv t n f k b d w → kpA t n c j k b d w = (st, bh, dp, w') → kInv t n f st bh dp w' ∧ k ≤ st ∧ st ≤ L ∧ (∀ i, k ≤ i → i < st → ¬ (krb t n i < kre t n i ∧ kdp t n i ≤ c)) ∧ (st < L → krb t n st < kre t n st ∧ kdp t n st ≤ c) := by
  intro j
  induction j with
  | zero =>
    intro k b d w st bh dp w' hk hI he
    unfold kpA at he
    obtain ⟨e1, e2, e3, e4⟩ : k = st ∧ b = bh ∧ d = dp ∧ w = w' := by simpa using he
    subst e1; subst e2; subst e3; subst e4
    exact ⟨hI, Nat.le_refl _, by omega, fun i h1 h2 => by omega, fun h => by omega⟩
  | succ j ih =>
    intro k b d w st bh dp w' hk hI he
    unfold kpA at he
    obtain ⟨i1, i2, i3, i4, i5, i6, i7, i8, i9⟩ := hI
    have hln := hX.ln (l := k) (by omega)
    by_cases hr : krb t n k < kre t n k
    · rw [if_pos hr] at he
      by_cases hc : (krb t n k : Int) - (klb t n k : Int) ≤ c
      · rw [if_pos hc] at he
        obtain ⟨e1, e2, e3, e4⟩ : k = st ∧ b = bh ∧ d = dp ∧ w = w' := by simpa using he
        subst e1; subst e2; subst e3; subst e4
        exact ⟨⟨i1, i2, i3, i4, i5, i6, i7, i8, i9⟩, Nat.le_refl _, by omega, fun i h1 h2 => by omega, fun _ => ⟨hr, hc⟩⟩
      · rw [if_neg hc] at he
        have hI2 : kInv t n f (k + 1) (k + 1) (if d < 0 then (krb t n k : Int) - (klb t n k : Int) else d) (if w = 1 ∨ (0 ≤ d ∧ (krb t n k : Int) - (klb t n k : Int) < d) then 1 else 0) := by
          rcases Nat.lt_or_ge f b with hfb | hfb
          · obtain ⟨j0, a1, a2, a3, a4, a5⟩ := i6 hfb
            have hl0 := hX.ln (l := j0) (by omega)
            have hd0 : ¬ d < 0 := by rw [a5]; unfold kdp; omega
            rw [if_neg hd0]
            refine ⟨by omega, by omega, fun i h1 h2 => by omega, fun _ => hr, fun h => by omega, fun _ => ⟨j0, a1, by omega, a3, a4, a5⟩, ?_, fun h => ?_, fun h i h1 h2 h3 => ?_⟩
            · split
              · exact Or.inr rfl
              · exact Or.inl rfl
            · by_cases hw : w = 1 ∨ (0 ≤ d ∧ (krb t n k : Int) - (klb t n k : Int) < d)
              · rcases hw with hw | hw
                · obtain ⟨i, y1, y2, y3, y4⟩ := i8 hw
                  exact ⟨i, y1, by omega, y3, y4⟩
                · exact ⟨k, by omega, by omega, hr, hw.2⟩
              · rw [if_neg hw] at h
                exact absurd h (by decide)
            · have hw : ¬ (w = 1 ∨ (0 ≤ d ∧ (krb t n k : Int) - (klb t n k : Int) < d)) := fun hw => by
                rw [if_pos hw] at h
                exact absurd h (by decide)
              rcases Nat.lt_or_ge i b with hib | hib
              · exact i9 (by rcases i7 with z | z; exact z; exact absurd (Or.inl z) hw) i h1 hib h3
              · rcases Nat.lt_or_ge i k with hik | hik
                · exact absurd h3 (i3 i hib hik)
                · rw [show i = k by omega]
                  show d ≤ (krb t n k : Int) - (klb t n k : Int)
                  omega
          · have hbf : b = f := by omega
            obtain ⟨a1, a2⟩ := i5 hbf
            rw [a1, a2, if_pos (by decide), if_neg (by omega)]
            refine ⟨by omega, by omega, fun i h1 h2 => by omega, fun _ => hr, fun h => by omega, fun _ => ⟨k, by omega, by omega, fun i h1 h2 => i3 i (by omega) h2, hr, rfl⟩, Or.inl rfl, fun h => absurd h (by decide), fun _ i h1 h2 h3 => ?_⟩
            rcases Nat.lt_or_ge i k with hik | hik
            · exact absurd h3 (i3 i (by omega) hik)
            · rw [show i = k by omega]
              exact Int.le_refl _
        obtain ⟨z1, z2, z3, z4, z5⟩ := ih (k + 1) (k + 1) _ _ st bh dp w' (by omega) hI2 he
        refine ⟨z1, by omega, z3, fun i h1 h2 => ?_, z5⟩
        rcases Nat.lt_or_ge k i with h | h
        · exact z4 i (by omega) h2
        · rw [show i = k by omega]
          exact fun z => hc z.2
    · rw [if_neg hr] at he
      have hI2 : kInv t n f (k + 1) b d w := by
        refine ⟨i1, by omega, fun i h1 h2 => ?_, i4, i5, i6, i7, i8, i9⟩
        rcases Nat.lt_or_ge i k with h | h
        · exact i3 i h1 h
        · rw [show i = k by omega]
          exact hr
      obtain ⟨z1, z2, z3, z4, z5⟩ := ih (k + 1) b d w st bh dp w' (by omega) hI2 he
      refine ⟨z1, by omega, z3, fun i h1 h2 => ?_, z5⟩
      rcases Nat.lt_or_ge k i with h | h
      · exact z4 i (by omega) h2
      · rw [show i = k by omega]
        exact fun z => hr z.1
theorem kpA_all {t : Nat → Int} {n L f : Nat} (hX : kTx t n L) {c : Int} (hf : f ≤ L) {st bh : Nat} {dp w : Int} (he : kpA t n c (L - f) f f (-1) 0 = (st, bh, dp, w)) : kInv t n f st bh dp w ∧ f ≤ st ∧ st ≤ L ∧ (∀ i, f ≤ i → i < st → ¬ (krb t n i < kre t n i ∧ kdp t n i ≤ c)) ∧ (st < L → krb t n st < kre t n st ∧ kdp t n st ≤ c) := kpA_spec hX (L - f) f f (-1) 0 st bh dp w (by omega) ⟨Nat.le_refl _, Nat.le_refl _, fun i h1 h2 => by omega, fun h => by omega, fun _ => ⟨rfl, rfl⟩, fun h => by omega, Or.inl rfl, fun h => absurd h (by decide), fun _ i h1 h2 => by omega⟩ he
/-- the characters as the class takes them -/
def kpC (t : Nat → Int) (n d f : Nat) : Nat → Nat → List Int
  | 0, _ => []
  | j + 1, k => (if f < k then [10] else []) ++ (ksl t (klb t n k + d) (kle t n k) ++ kpC t n d f j (k + 1))
theorem kpC_B (t : Nat → Int) (n d f b : Nat) (kept : Int) (hk : kept = 0 ∨ kept = 1) : ∀ (j k : Nat), k + j = b → f < k → (if f < k ∧ (0 < j ∨ kept = 1) then [10] else []) ++ kpB t n d kept b j k = kpC t n d f j k ++ (if kept = 1 then [10] else []) := by
  intro j
  induction j with
  | zero =>
    intro k hk1 hf
    unfold kpB kpC
    by_cases h : kept = 1
    · rw [if_pos ⟨hf, Or.inr h⟩, if_pos h]
      rfl
    · rw [if_neg (fun z => by omega), if_neg h]
  | succ j ih =>
    intro k hk1 hf
    unfold kpB kpC
    rw [if_pos ⟨hf, Or.inl (by omega)⟩, if_pos hf]
    have z := ih (k + 1) (by omega) (by omega)
    rw [List.append_assoc, List.append_assoc, ← z]
    by_cases h : kept = 1 ∨ k + 1 < b
    · rw [if_pos h, if_pos ⟨by omega, by omega⟩]
    · rw [if_neg h, if_neg (fun z => by omega)]
theorem kpC_all (t : Nat → Int) (n d f b : Nat) (kept : Int) (hk : kept = 0 ∨ kept = 1) (hfb : f < b) : kpB t n d kept b (b - f) f = kpC t n d f (b - f) f ++ (if kept = 1 then [10] else []) := by
  obtain ⟨j, hj⟩ : ∃ j, b - f = j + 1 := ⟨b - f - 1, by omega⟩
  rw [hj]
  unfold kpB kpC
  rw [if_neg (by omega : ¬ f < f)]
  have z := kpC_B t n d f b kept hk j (f + 1) (by omega) (by omega)
  show _ = ([] ++ (ksl t (klb t n f + d) (kle t n f) ++ kpC t n d f j (f + 1))) ++ _
  rw [List.nil_append, List.append_assoc, ← z]
  by_cases h : kept = 1 ∨ f + 1 < b
  · rw [if_pos h, if_pos ⟨by omega, by omega⟩]
  · rw [if_neg h, if_neg (fun z => by omega)]
theorem kpB_len {t : Nat → Int} {n L d b : Nat} (hX : kTx t n L) {kept : Int} : ∀ (j k : Nat), k + j = b → b ≤ L → (kpB t n d kept b j k).length + klb t n k ≤ klb t n b := by
  intro j
  induction j with
  | zero =>
    intro k hk hb
    unfold kpB
    rw [show k = b by omega]
    simp
  | succ j ih =>
    intro k hk hb
    unfold kpB
    have hln := hX.ln (l := k) (by omega)
    have z := ih (k + 1) (by omega) hb
    have hs := klb_s t n k
    have hl : (ksl t (klb t n k + d) (kle t n k)).length = kle t n k - (klb t n k + d) := kslh_len _ _ _
    rw [List.length_append, List.length_append, hl]
    have h1 : (if kept = 1 ∨ k + 1 < b then [(10 : Int)] else []).length ≤ 1 := by
      split <;> simp
    omega
theorem kpB_rng {t : Nat → Int} {n L d b : Nat} (hX : kTx t n L) {kept : Int} : ∀ (j k : Nat), k + j = b → b ≤ L → ∀ x ∈ kpB t n d kept b j k, x = 10 ∨ 32 ≤ x ∧ x ≤ 126 := by
  intro j
  induction j with
  | zero =>
    intro k hk hb x hx
    unfold kpB at hx
    cases hx
  | succ j ih =>
    intro k hk hb x hx
    unfold kpB at hx
    have hln := hX.ln (l := k) (by omega)
    rcases List.mem_append.mp hx with h | h
    · obtain ⟨i, h1, h2⟩ := kslh_mem _ _ _ h
      rw [h2]
      exact hX.2.1 _ (by omega)
    · rcases List.mem_append.mp h with h | h
      · by_cases hc : kept = 1 ∨ k + 1 < b
        · rw [if_pos hc] at h
          rcases List.mem_cons.mp h with h | h
          · exact Or.inl h
          · cases h
        · rw [if_neg hc] at h
          cases h
      · exact ih (k + 1) (by omega) hb x h
theorem kapl_app (v : Nat) : ∀ (xs ys : List Int) (u : Nat) (S : Nat → Nat → Int), kapl v (xs ++ ys) u S = kapl v ys (u + xs.length) (kapl v xs u S)
  | [], ys, u, S => rfl
  | x :: xs, ys, u, S => by
    show kapl v (xs ++ ys) (u + 1) (kapt S v x u) = kapl v ys (u + (xs.length + 1)) (kapl v xs (u + 1) (kapt S v x u))
    rw [kapl_app v xs ys (u + 1), show u + 1 + xs.length = u + (xs.length + 1) by omega]
