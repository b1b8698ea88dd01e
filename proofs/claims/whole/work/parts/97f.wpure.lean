/-! What is written, without any machine: the nodes of a subtree. -/
theorem kIt_nodes {P : Nat → Nat → Nat → Nat → Prop} {S : Nat → Nat → Int} {o : Nat} (hP : ∀ a b x y, P a b x y → a ≤ b ∧ x ≤ y ∧ ∀ j, a < j → j < b → (∃ i, x ≤ i ∧ i < y ∧ S 28 i = (j : Int)) ∨ ∃ i, x ≤ i ∧ i < y ∧ S 29 i = (j : Int)) : ∀ (i k n k' n' : Nat), kIt P S o i k n k' n' → n ≤ n' ∧ ∀ j, k ≤ j → j < k' → (∃ e, n ≤ e ∧ e < n' ∧ S 28 e = (j : Int)) ∨ ∃ e, n ≤ e ∧ e < n' ∧ S 29 e = (j : Int)
  | 0, k, n, k', n', h => ⟨by rw [h.2]; exact Nat.le_refl _, fun j h1 h2 => by have := h.1; omega⟩
  | i + 1, k, n, k', n', h => by
    obtain ⟨k1, k2, n1, v, h1, h2, h3, h4, h5⟩ := h
    obtain ⟨m1, m2⟩ := kIt_nodes hP i k2 (n1 + 1) k' n' h5
    have e2 : k1 ≤ k2 ∧ n ≤ n1 := by
      rcases h2 with ⟨_, q⟩ | ⟨_, q1, q2⟩
      · exact ⟨(hP _ _ _ _ q).1, (hP _ _ _ _ q).2.1⟩
      · omega
    refine ⟨by omega, fun j g1 g2 => ?_⟩
    rcases Nat.lt_or_ge j k1 with g | g
    · rcases h1 with ⟨_, q, _⟩ | ⟨_, q1, q2, _⟩
      · omega
      · exact Or.inl ⟨n1, by omega, by omega, by rw [q2]; omega⟩
    · rcases Nat.lt_or_ge j k2 with g3 | g3
      · rcases h2 with ⟨q1, q⟩ | ⟨_, q1, q2⟩
        · rcases Nat.lt_or_ge k1 j with g4 | g4
          · rcases (hP _ _ _ _ q).2.2 j g4 g3 with ⟨x, z1, z2, z3⟩ | ⟨x, z1, z2, z3⟩
            · exact Or.inl ⟨x, z1, by omega, z3⟩
            · exact Or.inr ⟨x, z1, by omega, z3⟩
          · exact Or.inr ⟨n1, by omega, by omega, by rw [h4]; omega⟩
        · omega
      · rcases m2 j g3 g2 with ⟨x, z1, z2, z3⟩ | ⟨x, z1, z2, z3⟩
        · exact Or.inl ⟨x, by omega, z2, z3⟩
        · exact Or.inr ⟨x, by omega, z2, z3⟩
theorem kSub_nodes {S : Nat → Nat → Int} : ∀ (d c c' n n' : Nat), kSub S d c c' n n' → ∀ j, c < j → j < c' → (∃ i, n ≤ i ∧ i < n' ∧ S 28 i = (j : Int)) ∨ ∃ i, n ≤ i ∧ i < n' ∧ S 29 i = (j : Int)
  | 0, c, c', n, n', h, _, _, _ => absurd h (fun z => z)
  | d + 1, c, c', n, n', h, j, h1, h2 => by
    rcases h with ⟨_, q, _⟩ | ⟨_, i, q⟩
    · omega
    · exact (kIt_nodes (fun a b x y q => by have w := kSub_mono (S' := S) d a b x y q; exact ⟨Nat.le_of_lt w.1, w.2.1, fun j g1 g2 => kSub_nodes d a b x y q j g1 g2⟩) i (c + 1) n c' n' q).2 j (by omega) h2
/-- the owners of a subtree's entries lie in it -/
theorem kIt_owners {P : Nat → Nat → Nat → Nat → Prop} {S : Nat → Nat → Int} {o : Nat} (hP : ∀ a b x y, P a b x y → a ≤ b ∧ x ≤ y ∧ ∀ j, x ≤ j → j < y → (a : Int) ≤ S 27 j ∧ S 27 j < (b : Int)) : ∀ (i k n k' n' : Nat), kIt P S o i k n k' n' → k ≤ k' ∧ n ≤ n' ∧ ∀ j, n ≤ j → j < n' → S 27 j = (o : Int) ∨ (k : Int) ≤ S 27 j ∧ S 27 j < (k' : Int)
  | 0, k, n, k', n', h => ⟨by rw [h.1]; exact Nat.le_refl _, by rw [h.2]; exact Nat.le_refl _, fun j h1 h2 => by have := h.2; omega⟩
  | i + 1, k, n, k', n', h => by
    obtain ⟨k1, k2, n1, v, h1, h2, h3, h4, h5⟩ := h
    obtain ⟨m1, m2, m3⟩ := kIt_owners hP i k2 (n1 + 1) k' n' h5
    have e1 : k ≤ k1 := by rcases h1 with ⟨_, q, _⟩ | ⟨_, q, _⟩ <;> omega
    have e2 : k1 ≤ k2 ∧ n ≤ n1 := by
      rcases h2 with ⟨_, q⟩ | ⟨_, q1, q2⟩
      · exact ⟨(hP _ _ _ _ q).1, (hP _ _ _ _ q).2.1⟩
      · omega
    refine ⟨by omega, by omega, fun j g1 g2 => ?_⟩
    rcases Nat.lt_trichotomy j n1 with g | g | g
    · rcases h2 with ⟨_, q⟩ | ⟨_, q1, q2⟩
      · have z := (hP _ _ _ _ q).2.2 j g1 g
        exact Or.inr (by omega)
      · omega
    · rw [g]
      exact Or.inl h3
    · rcases m3 j (by omega) g2 with z | z
      · exact Or.inl z
      · exact Or.inr (by omega)
theorem kSub_owners {S : Nat → Nat → Int} : ∀ (d c c' n n' : Nat), kSub S d c c' n n' → ∀ j, n ≤ j → j < n' → (c : Int) ≤ S 27 j ∧ S 27 j < (c' : Int)
  | 0, c, c', n, n', h, _, _, _ => absurd h (fun z => z)
  | d + 1, c, c', n, n', h, j, h1, h2 => by
    have w0 := kSub_mono (S' := S) (d + 1) c c' n n' h
    rcases h with ⟨_, _, q⟩ | ⟨_, i, q⟩
    · omega
    · rcases (kIt_owners (fun a b x y q => by have w := kSub_mono (S' := S) d a b x y q; exact ⟨Nat.le_of_lt w.1, w.2.1, fun j g1 g2 => kSub_owners d a b x y q j g1 g2⟩) i (c + 1) n c' n' q).2.2 j h1 h2 with z | z
      · have := w0.1
        omega
      · omega
