/-! The nodes of class and reference side by side. -/
/-- how often a value stands among the first n -/
def kctn (f : Nat → Int) (x : Int) : Nat → Int
  | 0 => 0
  | n + 1 => kctn f x n + (if f n = x then 1 else 0)
theorem kctn_congr {f g : Nat → Int} {x : Int} : ∀ n, (∀ j, j < n → f j = g j) → kctn f x n = kctn g x n
  | 0, _ => rfl
  | n + 1, h => by
    unfold kctn
    rw [kctn_congr n (fun j hj => h j (by omega)), h n (by omega)]
theorem kctn_zero {f : Nat → Int} {x : Int} : ∀ n, (∀ j, j < n → f j ≠ x) → kctn f x n = 0
  | 0, _ => rfl
  | n + 1, h => by
    unfold kctn
    rw [kctn_zero n (fun j hj => h j (by omega)), if_neg (h n (by omega))]
    rfl
def kRel (S T : Nat → Nat → Int) (c u n : Nat) : Prop :=
  (S 20 5 = c ∧ T 30 8 = c ∧ S 20 7 = u ∧ T 30 14 = u ∧ S 20 11 = n ∧ T 30 15 = n) ∧
  (∀ j, j < c → S 21 j = T 34 j ∧ S 22 j = T 37 j ∧ S 23 j = T 35 j ∧ S 24 j = T 36 j) ∧
  (∀ j, j < u → S 26 j = T 38 j) ∧
  (∀ j, j < n → S 27 j = T 39 j ∧ S 28 j = T 40 j ∧ S 29 j = T 41 j) ∧
  (∀ j, j < 26 → S 55 j + 1 = T 42 j) ∧ S 54 3 = T 30 26
/-- the nodes are sound -/
def kWf (S : Nat → Nat → Int) (c u n : Nat) : Prop :=
  (c ≤ 60 ∧ u ≤ 200 ∧ n ≤ 200 ∧ (∀ j, j < c → S 24 j ≤ u) ∧ (∀ i j, i < n → j < 26 → S 28 i = S 55 j → S 28 i = -1) ∧ (∀ i j, i < n → j < n → S 28 i = S 29 j → S 28 i = -1) ∧ (∀ j, j < u → 0 ≤ S 26 j ∧ S 26 j < 128) ∧ ∀ i j, i < j → j < c → S 24 i + (if S 21 i < 4 then S 22 i else 0) ≤ S 24 j) ∧
  (∀ j, j < c → 0 ≤ S 21 j ∧ S 21 j ≤ 5 ∧ 0 ≤ S 22 j ∧ -999999999999999999 ≤ S 23 j ∧ S 23 j ≤ 999999999999999999 ∧ 0 ≤ S 24 j ∧ (S 21 j < 4 → S 24 j + S 22 j ≤ u) ∧ (4 ≤ S 21 j → S 22 j = kctn (S 27) j n) ∧ S 25 j = (if j = 0 then 1 else 0) + kctn (S 29) j n) ∧
  (∀ j, j < n → 0 ≤ S 27 j ∧ S 27 j < c ∧ 4 ≤ S 21 (S 27 j).toNat ∧ 0 ≤ S 29 j ∧ S 29 j < c ∧ (S 21 (S 27 j).toNat = 4 → S 28 j = -1) ∧ (S 21 (S 27 j).toNat = 5 → 0 ≤ S 28 j ∧ S 28 j < c ∧ S 21 (S 28 j).toNat < 4)) ∧
  (∀ j, j < 26 → -1 ≤ S 55 j ∧ S 55 j < c) ∧ (-1 ≤ S 54 3 ∧ S 54 3 < 26)
/-- a node more: the class; the reference -/
def kNs (S Y : Nat → Nat → Int) (k z : Int) (c : Nat) : Prop :=
  Y 20 5 = (c : Int) + 1 ∧ Y 20 7 = S 20 7 ∧ Y 20 11 = S 20 11 ∧ (∀ j, Y 21 j = if j = c then k else S 21 j) ∧ (∀ j, Y 22 j = if j = c then 0 else S 22 j) ∧ (∀ j, Y 23 j = if j = c then z else S 23 j) ∧ (∀ j, Y 24 j = if j = c then S 20 7 else S 24 j) ∧ (∀ j, Y 25 j = if j = c then (if c = 0 then 1 else 0) else S 25 j) ∧ Y 26 = S 26 ∧ Y 27 = S 27 ∧ Y 28 = S 28 ∧ Y 29 = S 29 ∧ (∀ j, Y 55 j = if ¬ S 54 3 = -1 ∧ j = (S 54 3).toNat then (c : Int) else S 55 j) ∧ Y 54 3 = -1
def kNt (T X : Nat → Nat → Int) (k z : Int) (c : Nat) : Prop :=
  X 30 8 = (c : Int) + 1 ∧ X 30 14 = T 30 14 ∧ X 30 15 = T 30 15 ∧ (∀ j, X 34 j = if j = c then k else T 34 j) ∧ (∀ j, X 37 j = if j = c then 0 else T 37 j) ∧ (∀ j, X 35 j = if j = c then z else T 35 j) ∧ (∀ j, X 36 j = if j = c then T 30 14 else T 36 j) ∧ X 38 = T 38 ∧ X 39 = T 39 ∧ X 40 = T 40 ∧ X 41 = T 41 ∧ (∀ j, X 42 j = if 0 ≤ T 30 26 ∧ j = (T 30 26).toNat then (c : Int) + 1 else T 42 j) ∧ X 30 26 = -1
theorem kWf.k28 {S : Nat → Nat → Int} {c u n i : Nat} (W : kWf S c u n) (hi : i < n) : S 28 i = -1 ∨ 0 ≤ S 28 i ∧ S 28 i < c := by
  obtain ⟨_, wa, wb, _⟩ := W
  obtain ⟨v1, v2, v3, v4, v5, v6, v7⟩ := wb i hi
  have h5 := (wa (S 27 i).toNat (by omega)).2.1
  rcases Int.lt_or_le 4 (S 21 (S 27 i).toNat) with h | h
  · have z := v7 (by omega)
    exact Or.inr ⟨z.1, z.2.1⟩
  · exact Or.inl (v6 (by omega))
theorem kRel.node {S T Y X : Nat → Nat → Int} {c u n : Nat} {k z : Int} (R : kRel S T c u n) (W : kWf S c u n) (hc : c < 60) (hk : 0 ≤ k ∧ k ≤ 5) (hz : -999999999999999999 ≤ z ∧ z ≤ 999999999999999999) (hY : kNs S Y k z c) (hX : kNt T X k z c) : kRel Y X (c + 1) u n ∧ kWf Y (c + 1) u n := by
  obtain ⟨⟨r1, r2, r3, r4, r5, r6⟩, ra, rb, rc, rd, re⟩ := R
  have W0 := W
  obtain ⟨⟨w1, w2, w3⟩, wa, wb, wc, wd⟩ := W
  obtain ⟨y1, y2, y3, y4, y5, y6, y7, y8, y9, y10, y11, y12, y13, y14⟩ := hY
  obtain ⟨x1, x2, x3, x4, x5, x6, x7, x8, x9, x10, x11, x12, x13⟩ := hX
  refine ⟨⟨⟨by rw [y1]; omega, by rw [x1]; omega, by rw [y2, r3], by rw [x2, r4], by rw [y3, r5], by rw [x3, r6]⟩, fun j hj => ?_, fun j hj => by rw [y9, x8]; exact rb j hj, fun j hj => by rw [y10, y11, y12, x9, x10, x11]; exact rc j hj, fun j hj => ?_, by rw [y14, x13]⟩, ⟨by omega, w2, w3.1, fun j hj => by
    rw [y7]
    by_cases e : j = c
    · rw [if_pos e, r3]
      omega
    · rw [if_neg e]
      exact w3.2.1 j (by omega), fun i j hi hj => by
    rw [y11, y13]
    intro h
    by_cases q : ¬ S 54 3 = -1 ∧ j = (S 54 3).toNat
    · rw [if_pos q] at h
      rcases W0.k28 hi with z | z
      · exact z
      · omega
    · rw [if_neg q] at h
      exact w3.2.2.1 i j hi hj h, fun i j hi hj => by
    rw [y11, y12]
    exact w3.2.2.2.1 i j hi hj, by rw [y9]; exact w3.2.2.2.2.1, fun i j hij hj => by
    have hic : ¬ i = c := by omega
    rw [y4, if_neg hic, y5, if_neg hic, y7, if_neg hic, y7]
    by_cases e : j = c
    · rw [if_pos e, r3]
      by_cases q : S 21 i < 4
      · rw [if_pos q]
        exact (wa i (by omega)).2.2.2.2.2.2.1 q
      · rw [if_neg q]
        have z := w3.2.1 i (by omega)
        omega
    · rw [if_neg e]
      exact w3.2.2.2.2.2 i j hij (by omega)⟩, fun j hj => ?_, fun j hj => ?_, fun j hj => ?_, by rw [y14]; decide⟩
  · rw [y4, y5, y6, y7, x4, x5, x6, x7]
    by_cases e : j = c
    · simp only [if_pos e]
      exact ⟨trivial, trivial, trivial, by rw [r3, r4]⟩
    · simp only [if_neg e]
      exact ra j (by omega)
  · rw [y13, x12]
    by_cases e : 0 ≤ T 30 26 ∧ j = (T 30 26).toNat
    · rw [if_pos ⟨by omega, by rw [re]; exact e.2⟩, if_pos e]
    · rw [if_neg (fun q => e ⟨by omega, by rw [← re]; exact q.2⟩), if_neg e]
      exact rd j hj
  · rw [y4, y5, y6, y7, y8, y10, y12]
    by_cases e : j = c
    · simp only [if_pos e]
      have z1 : kctn (S 29) j n = 0 := kctn_zero n (fun i hi => by have := (wb i hi).2.2.2.2.1; omega)
      have z2 : kctn (S 27) j n = 0 := kctn_zero n (fun i hi => by have := (wb i hi).2.1; omega)
      refine ⟨hk.1, hk.2, by decide, hz.1, hz.2, by omega, fun _ => by omega, fun _ => z2.symm, ?_⟩
      rw [z1, e, Int.add_zero]
    · simp only [if_neg e]
      exact wa j (by omega)
  · rw [y10, y11, y12, y4]
    obtain ⟨v1, v2, v3, v4, v5, v6, v7⟩ := wb j hj
    rw [if_neg (show ¬ (S 27 j).toNat = c by omega)]
    refine ⟨v1, by omega, v3, v4, by omega, v6, fun q => ?_⟩
    obtain ⟨q1, q2, q3⟩ := v7 q
    refine ⟨q1, by omega, ?_⟩
    rw [y4, if_neg (show ¬ (S 28 j).toNat = c by omega)]
    exact q3
  · rw [y13]
    have := wc j hj
    split <;> omega
theorem kbeg_ns {S : Nat → Nat → Int} {k z : Int} {c : Nat} : kNs S (kbeg S k z c) k z c := by
  have a1 : ∀ j, kadd S k z c 21 j = if j = c then k else S 21 j := fun j => rfl
  unfold kbeg
  split
  · rename_i h
    exact ⟨rfl, rfl, rfl, fun j => rfl, fun j => rfl, fun j => rfl, fun j => rfl, fun j => rfl, rfl, rfl, rfl, rfl, fun j => by rw [if_neg (fun q => q.1 h)]; rfl, h⟩
  · rename_i h
    refine ⟨rfl, rfl, rfl, fun j => rfl, fun j => rfl, fun j => rfl, fun j => rfl, fun j => rfl, rfl, rfl, rfl, rfl, fun j => ?_, rfl⟩
    show (if j = (S 54 3).toNat then (c : Int) else S 55 j) = _
    by_cases e : j = (S 54 3).toNat
    · rw [if_pos e, if_pos ⟨h, e⟩]
    · rw [if_neg e, if_neg (fun q => e q.2)]
theorem kmk_nt {T : Nat → Nat → Int} {k : Int} {c : Nat} : kNt T (kmk T k c) k 0 c := by
  refine ⟨by rw [kmk_at]; rfl, by rw [kmk_at]; rfl, by rw [kmk_at]; rfl, fun j => by rw [kmk_at]; rfl, fun j => by rw [kmk_at]; rfl, fun j => by rw [kmk_at]; rfl, fun j => by rw [kmk_at]; rfl, kmk_cell (by decide), kmk_cell (by decide), kmk_cell (by decide), kmk_cell (by decide), fun j => by rw [kmk_at]; rfl, by rw [kmk_at]; rfl⟩
/-- what the reference does besides leaves the nodes alone -/
def kVw (X Y : Nat → Nat → Int) : Prop := X 34 = Y 34 ∧ X 35 = Y 35 ∧ X 36 = Y 36 ∧ X 37 = Y 37 ∧ X 38 = Y 38 ∧ X 39 = Y 39 ∧ X 40 = Y 40 ∧ X 41 = Y 41 ∧ X 42 = Y 42 ∧ X 30 8 = Y 30 8 ∧ X 30 14 = Y 30 14 ∧ X 30 15 = Y 30 15 ∧ X 30 26 = Y 30 26
theorem kRel.vw {S T X : Nat → Nat → Int} {c u n : Nat} (R : kRel S T c u n) (h : kVw X T) : kRel S X c u n := by
  obtain ⟨h1, h2, h3, h4, h5, h6, h7, h8, h9, h10, h11, h12, h13⟩ := h
  unfold kRel
  rw [h1, h2, h3, h4, h5, h6, h7, h8, h9, h10, h11, h12, h13]
  exact R
/-- what the class does besides leaves the nodes alone -/
def kVs (Y S : Nat → Nat → Int) : Prop := (∀ a, 21 ≤ a → a < 30 → Y a = S a) ∧ Y 20 5 = S 20 5 ∧ Y 20 7 = S 20 7 ∧ Y 20 11 = S 20 11 ∧ Y 55 = S 55 ∧ Y 54 3 = S 54 3
theorem kRel.vs {S T Y : Nat → Nat → Int} {c u n : Nat} (R : kRel S T c u n) (h : kVs Y S) : kRel Y T c u n := by
  obtain ⟨h1, h2, h3, h4, h5, h6⟩ := h
  unfold kRel
  rw [h1 21 (by decide) (by decide), h1 22 (by decide) (by decide), h1 23 (by decide) (by decide), h1 24 (by decide) (by decide), h1 26 (by decide) (by decide), h1 27 (by decide) (by decide), h1 28 (by decide) (by decide), h1 29 (by decide) (by decide), h2, h3, h4, h5, h6]
  exact R
theorem kWf.vs {S Y : Nat → Nat → Int} {c u n : Nat} (W : kWf S c u n) (h : kVs Y S) : kWf Y c u n := by
  obtain ⟨h1, h2, h3, h4, h5, h6⟩ := h
  unfold kWf
  rw [h1 21 (by decide) (by decide), h1 22 (by decide) (by decide), h1 23 (by decide) (by decide), h1 24 (by decide) (by decide), h1 25 (by decide) (by decide), h1 26 (by decide) (by decide), h1 27 (by decide) (by decide), h1 28 (by decide) (by decide), h1 29 (by decide) (by decide), h5, h6]
  exact W
/-- characters to the node made last -/
theorem kRel.chars {S T : Nat → Nat → Int} {c u n v : Nat} {cs : List Int} (R : kRel S T c u n) (W : kWf S c u n) (hv : v + 1 = c) (hk : S 21 v < 4) (hz : S 22 v = 0) (hb : S 24 v = (u : Int)) (hl : u + cs.length ≤ 200) (hcs : ∀ x ∈ cs, x = 10 ∨ 32 ≤ x ∧ x ≤ 126) : kRel (kapl v cs u S) (kspl v cs u T) c (u + cs.length) n ∧ kWf (kapl v cs u S) c (u + cs.length) n := by
  obtain ⟨⟨r1, r2, r3, r4, r5, r6⟩, ra, rb, rc, rd, re⟩ := R
  obtain ⟨⟨w1, w2, w3⟩, wa, wb, wc, wd⟩ := W
  obtain ⟨a1, a2, a3, a4⟩ := kapl_at v cs u S r3
  obtain ⟨b1, b2, b3, b4⟩ := kspl_at v cs u T r4
  have f21 : ∀ j, kapl v cs u S 21 j = S 21 j := fun j => a1 21 j (by omega) (by omega) (by decide)
  have f22 : ∀ j, kapl v cs u S 22 j = if j = v then S 22 v + cs.length else S 22 j := fun j => by
    by_cases e : j = v
    · rw [if_pos e, e, a3]
    · rw [if_neg e]
      exact a1 22 j (by omega) (fun q => e q.2) (by decide)
  have g37 : ∀ j, kspl v cs u T 37 j = if j = v then T 37 v + cs.length else T 37 j := fun j => by
    by_cases e : j = v
    · rw [if_pos e, e, b3]
    · rw [if_neg e]
      exact b1 37 j (by omega) (fun q => e q.2) (by decide)
  have c27 : kapl v cs u S 27 = S 27 := funext fun j => a1 27 j (by omega) (by omega) (by decide)
  have c28 : kapl v cs u S 28 = S 28 := funext fun j => a1 28 j (by omega) (by omega) (by decide)
  have c29 : kapl v cs u S 29 = S 29 := funext fun j => a1 29 j (by omega) (by omega) (by decide)
  have c55 : kapl v cs u S 55 = S 55 := funext fun j => a1 55 j (by omega) (by omega) (by decide)
  have c54 : kapl v cs u S 54 3 = S 54 3 := a1 54 3 (by omega) (by omega) (by decide)
  refine ⟨⟨⟨by rw [a1 20 5 (by omega) (by omega) (by decide)]; exact r1, by rw [b1 30 8 (by omega) (by omega) (by decide)]; exact r2, by rw [a2]; omega, by rw [b2]; omega, by rw [a1 20 11 (by omega) (by omega) (by decide)]; exact r5, by rw [b1 30 15 (by omega) (by omega) (by decide)]; exact r6⟩, fun j hj => ?_, fun j hj => ?_, fun j hj => ?_, fun j hj => ?_, ?_⟩, ⟨w1, by omega, w3.1, fun j hj => by rw [a1 24 j (by omega) (by omega) (by decide)]; have z := w3.2.1 j hj; omega, by rw [c28, c55]; exact w3.2.2.1, by rw [c28, c29]; exact w3.2.2.2.1, fun j hj => by
    rw [a4]
    by_cases e : u ≤ j ∧ j < u + cs.length
    · rw [if_pos e]
      have hj2 : j - u < cs.length := by omega
      have z := hcs (cs.getD (j - u) 0) (by rw [List.getD_eq_getElem?_getD, List.getElem?_eq_getElem hj2]; exact List.getElem_mem hj2)
      omega
    · rw [if_neg e]
      exact w3.2.2.2.2.1 j (by omega), fun i j hij hj => by
    rw [f21, f22, if_neg (show ¬ i = v by omega), a1 24 i (by omega) (by omega) (by decide), a1 24 j (by omega) (by omega) (by decide)]
    exact w3.2.2.2.2.2 i j hij hj⟩, fun j hj => ?_, fun j hj => ?_, fun j hj => by rw [c55]; exact wc j hj, by rw [c54]; exact wd⟩
  · obtain ⟨q1, q2, q3, q4⟩ := ra j hj
    rw [f21, f22, g37, b1 34 j (by omega) (by omega) (by decide), a1 23 j (by omega) (by omega) (by decide), b1 35 j (by omega) (by omega) (by decide), a1 24 j (by omega) (by omega) (by decide), b1 36 j (by omega) (by omega) (by decide)]
    refine ⟨q1, ?_, q3, q4⟩
    by_cases e : j = v
    · rw [if_pos e, if_pos e, ← e, q2]
    · rw [if_neg e, if_neg e]
      exact q2
  · rw [a4, b4]
    split
    · rfl
    · exact rb j (by omega)
  · rw [c27, c28, c29, b1 39 j (by omega) (by omega) (by decide), b1 40 j (by omega) (by omega) (by decide), b1 41 j (by omega) (by omega) (by decide)]
    exact rc j hj
  · rw [c55, b1 42 j (by omega) (by omega) (by decide)]
    exact rd j hj
  · rw [c54, b1 30 26 (by omega) (by omega) (by decide)]
    exact re
  · obtain ⟨q1, q2, q3, q4, q5, q6, q7, q8, q9⟩ := wa j hj
    rw [f21, f22, a1 23 j (by omega) (by omega) (by decide), a1 24 j (by omega) (by omega) (by decide), a1 25 j (by omega) (by omega) (by decide), c27, c29]
    by_cases e : j = v
    · rw [if_pos e]
      refine ⟨q1, q2, by omega, q4, q5, q6, fun _ => by rw [e, hb, hz]; omega, fun q => absurd q (by rw [e]; omega), q9⟩
    · rw [if_neg e]
      exact ⟨q1, q2, q3, q4, q5, q6, fun q => by have := q7 q; omega, q8, q9⟩
  · rw [c27, c28, c29]
    obtain ⟨v1, v2, v3, v4, v5, v6, v7⟩ := wb j hj
    rw [f21]
    exact ⟨v1, v2, v3, v4, v5, v6, fun q => by obtain ⟨q1, q2, q3⟩ := v7 q; exact ⟨q1, q2, by rw [f21]; exact q3⟩⟩
/-- an entry more: the reference -/
def kEt (T X : Nat → Nat → Int) (o : Nat) (k : Int) (v n : Nat) : Prop :=
  X 30 8 = T 30 8 ∧ X 30 14 = T 30 14 ∧ X 30 15 = (n : Int) + 1 ∧ X 30 26 = T 30 26 ∧ X 34 = T 34 ∧ X 35 = T 35 ∧ X 36 = T 36 ∧ X 38 = T 38 ∧ X 42 = T 42 ∧ (∀ j, X 37 j = if j = o then T 37 o + 1 else T 37 j) ∧ (∀ j, X 39 j = if j = n then (o : Int) else T 39 j) ∧ (∀ j, X 40 j = if j = n then k else T 40 j) ∧ (∀ j, X 41 j = if j = n then (v : Int) else T 41 j)
theorem kRel.entry {S T X : Nat → Nat → Int} {c u n o v : Nat} {k : Int} (R : kRel S T c u n) (W : kWf S c u n) (hn : n < 200) (ho : o < c) (hv : v < c) (hk : 4 ≤ S 21 o) (hk4 : S 21 o = 4 → k = -1) (hk5 : S 21 o = 5 → 0 ≤ k ∧ k < c ∧ S 21 k.toNat < 4) (hX : kEt T X o k v n) (hK : (∀ j, j < 26 → k = S 55 j → k = -1) ∧ (∀ j, j < n → k = S 29 j → k = -1) ∧ (∀ i, i < n → S 28 i = (v : Int) → S 28 i = -1) ∧ (k = (v : Int) → k = -1)) : kRel (kade S o k v n) X c u (n + 1) ∧ kWf (kade S o k v n) c u (n + 1) := by
  obtain ⟨⟨r1, r2, r3, r4, r5, r6⟩, ra, rb, rc, rd, re⟩ := R
  obtain ⟨⟨w1, w2, w3⟩, wa, wb, wc, wd⟩ := W
  obtain ⟨x1, x2, x3, x4, x5, x6, x7, x8, x9, x10, x11, x12, x13⟩ := hX
  have f22 : ∀ j, kade S o k v n 22 j = if j = o then S 22 o + 1 else S 22 j := fun j => rfl
  have f25 : ∀ j, kade S o k v n 25 j = if j = v then S 25 v + 1 else S 25 j := fun j => rfl
  have f27 : ∀ j, kade S o k v n 27 j = if j = n then (o : Int) else S 27 j := fun j => rfl
  have f28 : ∀ j, kade S o k v n 28 j = if j = n then k else S 28 j := fun j => rfl
  have f29 : ∀ j, kade S o k v n 29 j = if j = n then (v : Int) else S 29 j := fun j => rfl
  have t27 : ∀ x : Int, kctn (kade S o k v n 27) x (n + 1) = kctn (S 27) x n + (if (o : Int) = x then 1 else 0) := fun x => by
    show kctn (kade S o k v n 27) x n + (if kade S o k v n 27 n = x then 1 else 0) = _
    rw [f27, if_pos rfl, kctn_congr n (g := S 27) (fun j hj => by rw [f27, if_neg (by omega)])]
  have t29 : ∀ x : Int, kctn (kade S o k v n 29) x (n + 1) = kctn (S 29) x n + (if (v : Int) = x then 1 else 0) := fun x => by
    show kctn (kade S o k v n 29) x n + (if kade S o k v n 29 n = x then 1 else 0) = _
    rw [f29, if_pos rfl, kctn_congr n (g := S 29) (fun j hj => by rw [f29, if_neg (by omega)])]
  refine ⟨⟨⟨r1, by rw [x1]; exact r2, r3, by rw [x2]; exact r4, by show (n : Int) + 1 = _; omega, by rw [x3]; omega⟩, fun j hj => ?_, fun j hj => by rw [x8]; exact rb j hj, fun j hj => ?_, fun j hj => by rw [x9]; exact rd j hj, by rw [x4]; exact re⟩, ⟨w1, w2, by omega, fun j hj => w3.2.1 j hj, fun i j hi hj h => ?_, fun i j hi hj h => ?_, w3.2.2.2.2.1, fun i j hij hj => by
    have old := w3.2.2.2.2.2 i j hij hj
    show S 24 i + (if S 21 i < 4 then (if i = o then S 22 o + 1 else S 22 i) else 0) ≤ S 24 j
    by_cases q : S 21 i < 4
    · rw [if_pos q] at old ⊢
      rw [if_neg (fun h => by rw [h] at q; omega)]
      exact old
    · rw [if_neg q] at old ⊢
      exact old⟩, fun j hj => ?_, fun j hj => ?_, wc, wd⟩
  rotate_left 2
  · rw [f28] at h ⊢
    by_cases e : i = n
    · rw [if_pos e] at h ⊢
      exact hK.1 j hj h
    · rw [if_neg e] at h ⊢
      exact w3.2.2.1 i j (by omega) hj h
  · rw [f28] at h ⊢
    rw [f29] at h
    by_cases e : i = n
    · rw [if_pos e] at h ⊢
      by_cases e2 : j = n
      · rw [if_pos e2] at h
        exact hK.2.2.2 h
      · rw [if_neg e2] at h
        exact hK.2.1 j (by omega) h
    · rw [if_neg e] at h ⊢
      by_cases e2 : j = n
      · rw [if_pos e2] at h
        exact hK.2.2.1 i (by omega) h
      · rw [if_neg e2] at h
        exact w3.2.2.2.1 i j (by omega) (by omega) h
  rotate_left 2
  · obtain ⟨q1, q2, q3, q4⟩ := ra j hj
    rw [f22, x5, x10, x6, x7]
    refine ⟨q1, ?_, q3, q4⟩
    by_cases e : j = o
    · rw [if_pos e, if_pos e, ← e, q2]
    · rw [if_neg e, if_neg e]
      exact q2
  · rw [f27, f28, f29, x11, x12, x13]
    by_cases e : j = n
    · simp [e]
    · simp only [if_neg e]
      exact rc j (by omega)
  · obtain ⟨q1, q2, q3, q4, q5, q6, q7, q8, q9⟩ := wa j hj
    rw [f22, f25, t27, t29]
    have z0 := (wa o ho).2.2.1
    refine ⟨q1, q2, by split <;> omega, q4, q5, q6, fun q => ?_, fun q => ?_, ?_⟩
    · have hne : ¬ j = o := fun e => by rw [← e] at hk; change S 21 j < 4 at q; omega
      rw [if_neg hne]
      exact q7 q
    · have q8 := q8 q
      by_cases e : j = o
      · rw [if_pos e, if_pos (show (o : Int) = (j : Int) by omega), ← e, q8]
      · rw [if_neg e, if_neg (show ¬ (o : Int) = (j : Int) by omega), q8, Int.add_zero]
    · by_cases e : j = v
      · rw [if_pos e, if_pos (show (v : Int) = (j : Int) by omega), ← e, q9]
        omega
      · rw [if_neg e, if_neg (show ¬ (v : Int) = (j : Int) by omega), q9, Int.add_zero]
  · rw [f27, f28, f29]
    show _ ∧ _ ∧ 4 ≤ S 21 _ ∧ _ ∧ _ ∧ (S 21 _ = 4 → _) ∧ (S 21 _ = 5 → _ ∧ _ ∧ S 21 _ < 4)
    by_cases e : j = n
    · simp only [if_pos e]
      rw [show ((o : Int)).toNat = o from rfl]
      exact ⟨by omega, by omega, hk, by omega, by omega, hk4, hk5⟩
    · simp only [if_neg e]
      exact wb j (by omega)
theorem kapm2_et {T : Nat → Nat → Int} {o n v d : Nat} : kEt T (kapm2 T o n v d) d (if T 43 (o - 1) = 2 ∨ T 43 (o - 1) = 4 then T 46 (o - 1) else -1) v n := ⟨rfl, rfl, rfl, rfl, rfl, rfl, rfl, rfl, rfl, fun _ => rfl, fun _ => rfl, fun _ => rfl, fun _ => rfl⟩
