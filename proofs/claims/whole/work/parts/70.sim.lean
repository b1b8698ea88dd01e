/-! Class and reference side by side while a line is read: what is kept. -/
/-- names and values: what is new is new, or had a name before -/
def kNm (S S' : Nat → Nat → Int) (c : Nat) : Prop := S 20 11 ≤ S' 20 11 ∧ (∀ j : Nat, (j : Int) < S 20 11 → S' 29 j = S 29 j) ∧ (∀ j, j < 26 → S' 55 j = S 55 j ∨ (c : Int) ≤ S' 55 j) ∧ ∀ i : Nat, S 20 11 ≤ (i : Int) → (i : Int) < S' 20 11 → (c : Int) ≤ S' 29 i ∨ ∃ j, j < 26 ∧ S' 29 i = S 55 j
theorem kNm.same {S S' : Nat → Nat → Int} {c : Nat} (h11 : S' 20 11 = S 20 11) (h29 : S' 29 = S 29) (h55 : S' 55 = S 55) : kNm S S' c := ⟨by rw [h11]; exact Int.le_refl _, fun j _ => by rw [h29], fun j _ => Or.inl (by rw [h55]), fun i h1 h2 => absurd h2 (by rw [h11]; omega)⟩
theorem kNm.node {S Y : Nat → Nat → Int} {k z : Int} {c : Nat} (hY : kNs S Y k z c) : kNm S Y c := by
  obtain ⟨y1, y2, y3, y4, y5, y6, y7, y8, y9, y10, y11, y12, y13, y14⟩ := hY
  refine ⟨by rw [y3]; exact Int.le_refl _, fun j _ => by rw [y12], fun j _ => ?_, fun i h1 h2 => absurd h2 (by rw [y3]; omega)⟩
  rw [y13]
  split
  · exact Or.inr (Int.le_refl _)
  · exact Or.inl rfl
theorem kNm.tr {S S' S'' : Nat → Nat → Int} {c c' : Nat} (h : kNm S S' c) (h' : kNm S' S'' c') (hc : c ≤ c') : kNm S S'' c := by
  obtain ⟨a1, a2, a3, a4⟩ := h
  obtain ⟨b1, b2, b3, b4⟩ := h'
  refine ⟨by omega, fun j hj => (b2 j (by omega)).trans (a2 j hj), fun j hj => ?_, fun i h1 h2 => ?_⟩
  · rcases b3 j hj with h | h
    · rcases a3 j hj with g | g
      · exact Or.inl (h.trans g)
      · exact Or.inr (by omega)
    · exact Or.inr (by omega)
  · rcases Int.lt_or_le (i : Int) (S' 20 11) with g | g
    · rw [b2 i g]
      exact a4 i h1 g
    · rcases b4 i g h2 with h | ⟨j, hj, h⟩
      · exact Or.inl (by omega)
      · rcases a3 j hj with k | k
        · exact Or.inr ⟨j, hj, h.trans k⟩
        · exact Or.inl (by omega)
/-- what was made before stays -/
def kFx (S S' : Nat → Nat → Int) (c n : Nat) : Prop := (∀ j, j < c → S' 21 j = S 21 j) ∧ (∀ j, j < n → S' 27 j = S 27 j ∧ S' 28 j = S 28 j ∧ S' 29 j = S 29 j) ∧ (∀ j, j < c → S 21 j < 4 → S' 22 j = S 22 j ∧ S' 23 j = S 23 j ∧ S' 24 j = S 24 j) ∧ (S 20 7 ≤ S' 20 7 ∧ kNm S S' c) ∧ ∀ j : Nat, (j : Int) < S 20 7 → S' 26 j = S 26 j
theorem kFx.rf {S : Nat → Nat → Int} {c n : Nat} : kFx S S c n := ⟨fun _ _ => rfl, fun _ _ => ⟨rfl, rfl, rfl⟩, fun _ _ _ => ⟨rfl, rfl, rfl⟩, ⟨Int.le_refl _, kNm.same rfl rfl rfl⟩, fun _ _ => rfl⟩
theorem kFx.w {S S' : Nat → Nat → Int} {c n a k : Nat} {v : Int} (h : kFx S S' c n) (ha : 30 ≤ a ∧ a ≠ 55) : kFx S (ku S' a k v) c n := by
  have e : ∀ b, (b < 30 ∨ b = 55) → ku S' a k v b = S' b := fun b hb => if_neg (by omega)
  unfold kFx kNm
  rw [e 20 (by omega), e 21 (by omega), e 22 (by omega), e 23 (by omega), e 24 (by omega), e 26 (by omega), e 27 (by omega), e 28 (by omega), e 29 (by omega), e 55 (by omega)]
  exact h
theorem kFx.tr {S S' S'' : Nat → Nat → Int} {c n c' n' : Nat} (h : kFx S S' c n) (h' : kFx S' S'' c' n') (hc : c ≤ c') (hn : n ≤ n') : kFx S S'' c n := by
  have h4 := h.2.2.2.1
  have h5 := h'.2.2.2.1
  refine ⟨fun j hj => (h'.1 j (by omega)).trans (h.1 j hj), fun j hj => ?_, fun j hj hk => ?_, ⟨by omega, h4.2.tr h5.2 hc⟩, fun j hj => (h'.2.2.2.2 j (by omega)).trans (h.2.2.2.2 j hj)⟩
  · obtain ⟨a1, a2, a3⟩ := h.2.1 j hj
    obtain ⟨b1, b2, b3⟩ := h'.2.1 j (by omega)
    exact ⟨b1.trans a1, b2.trans a2, b3.trans a3⟩
  · obtain ⟨a1, a2, a3⟩ := h.2.2.1 j hj hk
    obtain ⟨b1, b2, b3⟩ := h'.2.2.1 j (by omega) (by rw [h.1 j hj]; exact hk)
    exact ⟨b1.trans a1, b2.trans a2, b3.trans a3⟩
/-- the items of a row or table: so many, from node k and entry n on, to node k' and entry n' -/
def kIt (P : Nat → Nat → Nat → Nat → Prop) (S : Nat → Nat → Int) (o : Nat) : Nat → Nat → Nat → Nat → Nat → Prop
  | 0, k, n, k', n' => k = k' ∧ n = n'
  | i + 1, k, n, k', n' => ∃ (k1 k2 n1 v : Nat), (S 21 o = 4 ∧ k1 = k ∧ S 28 n1 = -1 ∨ S 21 o = 5 ∧ k1 = k + 1 ∧ S 28 n1 = (k : Int) ∧ S 21 k < 4 ∧ P k (k + 1) n n) ∧ (v = k1 ∧ P k1 k2 n n1 ∨ v < k1 ∧ k2 = k1 ∧ n1 = n) ∧ S 27 n1 = (o : Int) ∧ S 29 n1 = (v : Int) ∧ kIt P S o i k2 (n1 + 1) k' n'
/-- a node with all that is under it: nodes c to c', entries n to n' -/
def kSub (S : Nat → Nat → Int) : Nat → Nat → Nat → Nat → Nat → Prop
  | 0, _, _, _, _ => False
  | d + 1, c, c', n, n' => (S 21 c < 4 ∧ c' = c + 1 ∧ n' = n) ∨ (4 ≤ S 21 c ∧ ∃ i, kIt (kSub S d) S c i (c + 1) n c' n')
theorem kIt_mono {P Q : Nat → Nat → Nat → Nat → Prop} {S S' : Nat → Nat → Int} {o : Nat} (hP : ∀ a b x y, P a b x y → a ≤ b ∧ x ≤ y) : ∀ (i k n k' n' : Nat), kIt P S o i k n k' n' → k ≤ k' ∧ n ≤ n' ∧ ((∀ a b x y, b ≤ k' → y ≤ n' → P a b x y → Q a b x y) → S' 21 o = S 21 o → (∀ j, j < k' → S' 21 j = S 21 j) → (∀ j, j < n' → S' 27 j = S 27 j ∧ S' 28 j = S 28 j ∧ S' 29 j = S 29 j) → kIt Q S' o i k n k' n')
  | 0, k, n, k', n', h => ⟨by rw [h.1]; exact Nat.le_refl _, by rw [h.2]; exact Nat.le_refl _, fun _ _ _ _ => h⟩
  | i + 1, k, n, k', n', h => by
    obtain ⟨k1, k2, n1, v, h1, h2, h3, h4, h5⟩ := h
    obtain ⟨m1, m2, m3⟩ := kIt_mono hP i k2 (n1 + 1) k' n' h5
    have e1 : k ≤ k1 := by rcases h1 with ⟨_, q, _⟩ | ⟨_, q, _⟩ <;> omega
    have e2 : k1 ≤ k2 ∧ n ≤ n1 := by
      rcases h2 with ⟨_, q⟩ | ⟨_, q1, q2⟩
      · exact hP _ _ _ _ q
      · omega
    have e3 : k1 = k + 1 → k < k' := fun z => by omega
    refine ⟨by omega, by omega, fun hQ ho hk hn => ⟨k1, k2, n1, v, ?_, ?_, ?_, ?_, m3 hQ ho hk hn⟩⟩
    · rcases h1 with ⟨q1, q2, q3⟩ | ⟨q1, q2, q3, q4⟩
      · exact Or.inl ⟨by rw [ho]; exact q1, q2, by rw [(hn n1 (by omega)).2.1]; exact q3⟩
      · exact Or.inr ⟨by rw [ho]; exact q1, q2, by rw [(hn n1 (by omega)).2.1]; exact q3, by rw [hk k (e3 q2)]; exact q4.1, hQ _ _ _ _ (e3 q2) (by omega) q4.2⟩
    · rcases h2 with ⟨q1, q2⟩ | q
      · exact Or.inl ⟨q1, hQ _ _ _ _ (by omega) (by omega) q2⟩
      · exact Or.inr q
    · rw [(hn n1 (by omega)).1]
      exact h3
    · rw [(hn n1 (by omega)).2.2]
      exact h4
theorem kSub_mono {S S' : Nat → Nat → Int} : ∀ (d c c' n n' : Nat), kSub S d c c' n n' → c < c' ∧ n ≤ n' ∧ ((∀ j, j < c' → S' 21 j = S 21 j) → (∀ j, j < n' → S' 27 j = S 27 j ∧ S' 28 j = S 28 j ∧ S' 29 j = S 29 j) → kSub S' d c c' n n')
  | 0, c, c', n, n', h => absurd h (fun z => z)
  | d + 1, c, c', n, n', h => by
    rcases h with ⟨h1, h2, h3⟩ | ⟨h1, i, h2⟩
    · exact ⟨by omega, by omega, fun hk hn => Or.inl ⟨by rw [hk c (by omega)]; exact h1, h2, h3⟩⟩
    · have hP : ∀ a b x y, kSub S d a b x y → a ≤ b ∧ x ≤ y := fun a b x y h => by
        have z := kSub_mono (S' := S) d a b x y h
        exact ⟨Nat.le_of_lt z.1, z.2.1⟩
      obtain ⟨m1, m2, m3⟩ := kIt_mono (Q := kSub S' d) (S' := S') hP i (c + 1) n c' n' h2
      exact ⟨by omega, m2, fun hk hn => Or.inr ⟨by rw [hk c (by omega)]; exact h1, i, m3 (fun a b x y hb hy q => (kSub_mono (S' := S') d a b x y q).2.2 (fun j hj => hk j (by omega)) (fun j hj => hn j (by omega))) (hk c (by omega)) hk hn⟩⟩
theorem kSub.fx {S S' : Nat → Nat → Int} {d c c' n n' k m : Nat} (h : kSub S d c c' n n') (f : kFx S S' k m) (hk : c' ≤ k) (hm : n' ≤ m) : kSub S' d c c' n n' := (kSub_mono d c c' n n' h).2.2 (fun j hj => f.1 j (by omega)) (fun j hj => f.2.1 j (by omega))
/-- one item more at the end -/
theorem kIt_snoc {P : Nat → Nat → Nat → Nat → Prop} {S : Nat → Nat → Int} {o : Nat} : ∀ (i k n k' n' : Nat), kIt P S o i k n k' n' → ∀ (k1 k2 n1 v : Nat), (S 21 o = 4 ∧ k1 = k' ∧ S 28 n1 = -1 ∨ S 21 o = 5 ∧ k1 = k' + 1 ∧ S 28 n1 = (k' : Int) ∧ S 21 k' < 4 ∧ P k' (k' + 1) n' n') → (v = k1 ∧ P k1 k2 n' n1 ∨ v < k1 ∧ k2 = k1 ∧ n1 = n') → S 27 n1 = (o : Int) → S 29 n1 = (v : Int) → kIt P S o (i + 1) k n k2 (n1 + 1)
  | 0, k, n, k', n', h, k1, k2, n1, v, h1, h2, h3, h4 => by
    obtain ⟨e1, e2⟩ := h
    subst e1
    subst e2
    exact ⟨k1, k2, n1, v, h1, h2, h3, h4, rfl, rfl⟩
  | i + 1, k, n, k', n', h, k1, k2, n1, v, h1, h2, h3, h4 => by
    obtain ⟨a1, a2, a3, a4, g1, g2, g3, g4, g5⟩ := h
    exact ⟨a1, a2, a3, a4, g1, g2, g3, g4, kIt_snoc i a2 (a3 + 1) k' n' g5 k1 k2 n1 v h1 h2 h3 h4⟩
def kCu (S : Nat → Nat → Int) (t : Nat → Int) (n L l a : Nat) : Prop := kCt S t n L ∧ S 53 1 = (l : Int) ∧ S 53 2 = (a : Int) ∧ S 53 3 = (kre t n l : Int)
def kCm (T : Nat → Nat → Int) (t : Nat → Int) (n l a : Nat) : Prop := kRt T t n ∧ T 30 22 = (klb t n l : Int) ∧ T 30 24 = (kle t n l : Int) ∧ T 30 23 = (kre t n l : Int) ∧ T 30 21 = (a : Int)
def kGs (S T : Nat → Nat → Int) : Prop := (∀ j, j < 200 → -2147483648 ≤ S 26 j ∧ S 26 j < 2147483648) ∧ (∀ j, j < 200 → -2147483648 ≤ T 38 j ∧ T 38 j < 2147483648) ∧ (∀ j, j < 9 → -2147483648 ≤ T 43 j ∧ T 43 j < 2147483648)
/-- the nodes that are open -/
def kOp (S T : Nat → Nat → Int) (o c : Nat) : Prop := ∀ j, j < o → 0 ≤ T 44 j ∧ T 44 j < c ∧ (T 43 j = 1 ∨ T 43 j = 3 → S 21 (T 44 j).toNat = 4) ∧ (T 43 j = 2 ∨ T 43 j = 4 → S 21 (T 44 j).toNat = 5)
/-- class and reference at one place of a line -/
def kAt (S T : Nat → Nat → Int) (t : Nat → Int) (n L l a o c u e : Nat) : Prop := l < L ∧ kCu S t n L l a ∧ kCm T t n l a ∧ kRel S T c u e ∧ kWf S c u e ∧ kGs S T ∧ T 30 19 = 0 ∧ T 30 29 = (o : Int) ∧ o ≤ 8 ∧ u + e + o ≤ a ∧ a ≤ kre t n l ∧ kOp S T o c
/-- what lies under stays as it is -/
def kKp (T T' : Nat → Nat → Int) (o : Nat) : Prop := (∀ j, j < o → T' 43 j = T 43 j ∧ T' 44 j = T 44 j ∧ T' 45 j = T 45 j ∧ T' 46 j = T 46 j) ∧ T' 30 28 = T 30 28
theorem kKp.rf {T : Nat → Nat → Int} {o : Nat} : kKp T T o := ⟨fun _ _ => ⟨rfl, rfl, rfl, rfl⟩, rfl⟩
theorem kKp.tr {T T' T'' : Nat → Nat → Int} {o o' : Nat} (h : kKp T T' o) (h' : kKp T' T'' o') (ho : o ≤ o') : kKp T T'' o := by
  refine ⟨fun j hj => ?_, h'.2.trans h.2⟩
  obtain ⟨a1, a2, a3, a4⟩ := h.1 j hj
  obtain ⟨b1, b2, b3, b4⟩ := h'.1 j (by omega)
  exact ⟨b1.trans a1, b2.trans a2, b3.trans a3, b4.trans a4⟩
/-- what the reference's reading does not touch -/
def kFt (T T' : Nat → Nat → Int) : Prop := (∀ a, a ≠ 30 → (a < 34 ∨ 47 < a) → T' a = T a) ∧ ∀ k, (k = 0 ∨ k = 2 ∨ k = 4 ∨ k = 5 ∨ k = 7 ∨ k = 37 ∨ k = 40) → T' 30 k = T 30 k
theorem kFt.rf {T : Nat → Nat → Int} : kFt T T := ⟨fun _ _ _ => rfl, fun _ _ => rfl⟩
theorem kFt.tr {T T' T'' : Nat → Nat → Int} (h : kFt T T') (h' : kFt T' T'') : kFt T T'' := ⟨fun a e1 e2 => (h'.1 a e1 e2).trans (h.1 a e1 e2), fun k hk => (h'.2 k hk).trans (h.2 k hk)⟩
theorem kFt.w {T T' : Nat → Nat → Int} {k : Nat} {v : Int} (h : kFt T T') (hk : ¬ (k = 0 ∨ k = 2 ∨ k = 4 ∨ k = 5 ∨ k = 7 ∨ k = 37 ∨ k = 40)) : kFt T (ku T' 30 k v) := by
  refine ⟨fun a e1 e2 => ?_, fun j hj => ?_⟩
  · rw [← h.1 a e1 e2]
    exact if_neg e1
  · rw [← h.2 j hj]
    show (if j = k then v else T' 30 j) = _
    exact if_neg (fun (z : j = k) => hk (by rw [← z]; exact hj))
theorem kFt.a {T T' : Nat → Nat → Int} {a k : Nat} {v : Int} (h : kFt T T') (ha : 34 ≤ a ∧ a ≤ 47) : kFt T (ku T' a k v) := by
  refine ⟨fun b e1 e2 => ?_, fun j hj => ?_⟩
  · rw [← h.1 b e1 e2]
    exact if_neg (by omega)
  · rw [← h.2 j hj]
    unfold ku kup
    rw [if_neg (by omega)]
