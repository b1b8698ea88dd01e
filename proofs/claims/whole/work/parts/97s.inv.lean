/-! The law's invariant. -/
theorem kStr_ext {L : Nat} {xs : Nat → Int32} (i : Nat) (w : List Int) (hi : i < 10) (h1 : (KSD.getD i ("", 0, [])).2.2 = w.map Int32.ofInt) (h2 : w.length ≤ 20) (h3 : w.all (fun x => decide (0 ≤ x ∧ x < 128)) = true) : kStr (kext L xs) (1000001 + 2 * i) w := by
  refine ⟨by omega, ?_, ⟨fun j => .int ((w.map Int32.ofInt).getD j 0), ?_, fun j hj => ?_⟩, h2, fun j hj => ?_⟩
  · unfold kext
    rw [if_neg (by omega), if_pos (by omega), if_pos (by omega)]
  · unfold kext
    rw [if_neg (by omega), if_pos (by omega), if_neg (by omega), show (1000001 + 2 * i + 1 - 1000001) / 2 = i by omega, h1, List.length_map]
  · show Value.int ((w.map Int32.ofInt).getD j 0) = _
    rw [List.getD_eq_getElem?_getD, List.getElem?_map, List.getD_eq_getElem?_getD, List.getElem?_eq_getElem hj]
    rfl
  · have z := List.all_eq_true.mp h3 (w.getD j 0) (by rw [List.getD_eq_getElem?_getD, List.getElem?_eq_getElem hj]; exact List.getElem_mem hj)
    exact of_decide_eq_true z
theorem kWrd_ext {L : Nat} {xs : Nat → Int32} : kWrd (kext L xs) := ⟨kStr_ext 0 _ (by decide) rfl (by decide) (by decide), kStr_ext 1 _ (by decide) rfl (by decide) (by decide), kStr_ext 2 _ (by decide) rfl (by decide) (by decide), kStr_ext 5 _ (by decide) rfl (by decide) (by decide), kStr_ext 6 _ (by decide) rfl (by decide) (by decide), kStr_ext 7 _ (by decide) rfl (by decide) (by decide), kStr_ext 8 _ (by decide) rfl (by decide) (by decide), kStr_ext 9 _ (by decide) rfl (by decide) (by decide), kStr_ext 3 _ (by decide) rfl (by decide) (by decide), kStr_ext 4 _ (by decide) rfl (by decide) (by decide)⟩
/-- every int as it lies in the heap -/
def nrm (S : Nat → Nat → Int) (a k : Nat) : Int := if (kTq a).1 = 22 then S a k else (Int32.ofInt (S a k)).toInt
section KNR
variable {E : Nat → kC} {S T N : Nat → Nat → Int} {m c u e : Nat}
theorem nrm_id {a k : Nat} (h : -2147483648 ≤ S a k ∧ S a k < 2147483648) : nrm S a k = S a k := by
  unfold nrm
  split
  · rfl
  · exact ku_rng h.1 h.2
theorem nrm_rng {a k : Nat} (h : ¬ (kTq a).1 = 22) : -2147483648 ≤ nrm S a k ∧ nrm S a k < 2147483648 := by
  unfold nrm
  rw [if_neg h]
  exact kxr _
theorem nrm_lng {a : Nat} (h : (kTq a).1 = 22) : nrm S a = S a := by
  funext k
  unfold nrm
  rw [if_pos h]
theorem nrm_fun {a : Nat} (h : (kTq a).1 = 22 ∨ ∀ k, -2147483648 ≤ S a k ∧ S a k < 2147483648) : nrm S a = S a := by
  rcases h with h | h
  · exact nrm_lng h
  · funext k
    exact nrm_id (h k)
theorem hp_nrm : hp m E (nrm S) = hp m E S := by
  funext i
  unfold hp
  split
  · unfold kcell
    refine Prod.ext rfl (Prod.ext rfl ?_)
    funext k
    show kval (kTq i).1 (kTq i).2.1 (kTq i).2.2 k (nrm S i k) = kval (kTq i).1 (kTq i).2.1 (kTq i).2.2 k (S i k)
    unfold kval nrm
    by_cases h1 : (kTq i).1 < 20 ∧ (kTq i).2.1 ≤ k
    · rw [if_pos h1, if_pos h1]
    · rw [if_neg h1, if_neg h1]
      by_cases h2 : (kTq i).1 = 22
      · rw [if_pos h2, if_pos h2, if_pos h2]
      · rw [if_neg h2, if_neg h2, if_neg h2, Int32.ofInt_toInt]
  · rfl
/-- what the nodes are, seen from the cells below the counts -/
def kEq (N N' : Nat → Nat → Int) (c u e : Nat) : Prop := (N' 20 5 = N 20 5 ∧ N' 20 7 = N 20 7 ∧ N' 20 11 = N 20 11) ∧ (∀ j, j < c → N' 21 j = N 21 j ∧ N' 22 j = N 22 j ∧ N' 23 j = N 23 j ∧ N' 24 j = N 24 j ∧ N' 25 j = N 25 j) ∧ (∀ j, j < u → N' 26 j = N 26 j) ∧ (∀ j, j < e → N' 27 j = N 27 j ∧ N' 28 j = N 28 j ∧ N' 29 j = N 29 j) ∧ (∀ j, j < 26 → N' 55 j = N 55 j) ∧ N' 54 3 = N 54 3
theorem kEq.wf {N' : Nat → Nat → Int} (h : kEq N N' c u e) (W : kWf N c u e) : kWf N' c u e := by
  obtain ⟨_, h2, h3, h4, h5, h6⟩ := h
  obtain ⟨⟨w1, w2, w3, w4, w5, w6, w7, w8⟩, wa, wb, wc, wd⟩ := W
  refine ⟨⟨w1, w2, w3, fun j hj => by rw [(h2 j hj).2.2.2.1]; exact w4 j hj, fun i j hi hj => by rw [(h4 i hi).2.1, h5 j hj]; exact w5 i j hi hj, fun i j hi hj => by rw [(h4 i hi).2.1, (h4 j hj).2.2]; exact w6 i j hi hj, fun j hj => by rw [h3 j hj]; exact w7 j hj, fun i j hi hj => by rw [(h2 i (by omega)).2.2.2.1, (h2 i (by omega)).1, (h2 i (by omega)).2.1, (h2 j hj).2.2.2.1]; exact w8 i j hi hj⟩, fun j hj => ?_, fun j hj => ?_, fun j hj => by rw [h5 j hj]; exact wc j hj, by rw [h6]; exact wd⟩
  · obtain ⟨g1, g2, g3, g4, g5⟩ := h2 j hj
    rw [g1, g2, g3, g4, g5, kctn_congr (f := N' 27) (g := N 27) e (fun i hi => (h4 i hi).1), kctn_congr (f := N' 29) (g := N 29) e (fun i hi => (h4 i hi).2.2)]
    exact wa j hj
  · obtain ⟨g1, g2, g3⟩ := h4 j hj
    have v := wb j hj
    rw [g1, g2, g3, (h2 (N 27 j).toNat (by omega)).1]
    refine ⟨v.1, v.2.1, v.2.2.1, v.2.2.2.1, v.2.2.2.2.1, v.2.2.2.2.2.1, fun q => ?_⟩
    have z := v.2.2.2.2.2.2 q
    rw [(h2 (N 28 j).toNat (by omega)).1]
    exact z
theorem kEq.rel {N' : Nat → Nat → Int} (h : kEq N N' c u e) (R : kRel N T c u e) : kRel N' T c u e := by
  obtain ⟨h1, h2, h3, h4, h5, h6⟩ := h
  obtain ⟨⟨r1, r2, r3, r4, r5, r6⟩, ra, rb, rc, rd, re⟩ := R
  refine ⟨⟨by rw [h1.1]; exact r1, r2, by rw [h1.2.1]; exact r3, r4, by rw [h1.2.2]; exact r5, r6⟩, fun j hj => ?_, fun j hj => by rw [h3 j hj]; exact rb j hj, fun j hj => ?_, fun j hj => by rw [h5 j hj]; exact rd j hj, by rw [h6]; exact re⟩
  · obtain ⟨g1, g2, g3, g4, g5⟩ := h2 j hj
    rw [g1, g2, g3, g4]
    exact ra j hj
  · obtain ⟨g1, g2, g3⟩ := h4 j hj
    rw [g1, g2, g3]
    exact rc j hj
theorem kEq.sub {N' : Nat → Nat → Int} {d : Nat} (h : kEq N N' c u e) (H : kSub N d 0 c 0 e) : kSub N' d 0 c 0 e := (kSub_mono d 0 c 0 e H).2.2 (fun j hj => (h.2.1 j hj).1) (fun j hj => h.2.2.2.1 j hj)
theorem kEq_nrm (W : kWf N c u e) (hs : N 20 5 = c ∧ N 20 7 = u ∧ N 20 11 = e) : kEq N (nrm N) c u e := by
  have W0 := W
  obtain ⟨⟨w1, w2, w3, w4, w5, w6, w7, w8⟩, wa, wb, wc, wd⟩ := W
  refine ⟨⟨nrm_id (by omega), nrm_id (by omega), nrm_id (by omega)⟩, fun j hj => ?_, fun j hj => nrm_id (by have := w7 j hj; omega), fun j hj => ?_, fun j hj => nrm_id (by have := wc j hj; omega), nrm_id (by omega)⟩
  · have v := wa j hj
    have v4 := w4 j hj
    have z1 := kctn_rng (f := N 27) (x := (j : Int)) e
    have z2 := kctn_rng (f := N 29) (x := (j : Int)) e
    obtain ⟨v1, v2, v3, v5, v6, v7, v8, v9, v10⟩ := v
    refine ⟨nrm_id (by omega), nrm_id ?_, congrFun (nrm_lng rfl) j, nrm_id (by omega), nrm_id ?_⟩
    · rcases Int.lt_or_le (N 21 j) 4 with q | q
      · have := v8 q
        omega
      · have := v9 q
        omega
    · rw [v10]
      split <;> omega
  · have v := wb j hj
    have k := W0.k28 hj
    exact ⟨nrm_id (by omega), nrm_id (by omega), nrm_id (by omega)⟩
theorem kLg_nrm {szT : Nat × Nat} {t : Nat → Int} {n : Nat} (h : kLg szT E N t n c u e) : kLg szT E (nrm N) t n c u e := by
  obtain ⟨h1, h2, h3, h4, h5, h6, h7⟩ := h
  have q := kEq_nrm h1 h5
  refine ⟨q.wf h1, q.sub h2, h3, h4, ⟨by rw [q.1.1]; exact h5.1, by rw [q.1.2.1]; exact h5.2.1, by rw [q.1.2.2]; exact h5.2.2⟩, fun j hj => nrm_rng (by decide), fun T hT => ?_⟩
  obtain ⟨T', i1, i2, i3, i4⟩ := h7 T hT
  exact ⟨T', i1, i2, q.rel i3, i4⟩
theorem kRel_nrm (W : kWf N c u e) (R : kRel N T c u e) : kRel N (nrm T) c u e := by
  have W0 := W
  obtain ⟨⟨w1, w2, w3, w4, w5, w6, w7, w8⟩, wa, wb, wc, wd⟩ := W
  obtain ⟨⟨r1, r2, r3, r4, r5, r6⟩, ra, rb, rc, rd, re⟩ := R
  refine ⟨⟨r1, by rw [nrm_id (by omega)]; exact r2, r3, by rw [nrm_id (by omega)]; exact r4, r5, by rw [nrm_id (by omega)]; exact r6⟩, fun j hj => ?_, fun j hj => ?_, fun j hj => ?_, fun j hj => ?_, ?_⟩
  · have v := wa j hj
    have v4 := w4 j hj
    have z1 := kctn_rng (f := N 27) (x := (j : Int)) e
    obtain ⟨v1, v2, v3, v5, v6, v7, v8, v9, v10⟩ := v
    obtain ⟨q1, q2, q3, q4⟩ := ra j hj
    have hz : -2147483648 ≤ N 22 j ∧ N 22 j < 2147483648 := by
      rcases Int.lt_or_le (N 21 j) 4 with q | q
      · have := v8 q
        omega
      · have := v9 q
        omega
    exact ⟨by rw [nrm_id (by omega)]; exact q1, by rw [nrm_id (by omega)]; exact q2, by rw [nrm_lng rfl]; exact q3, by rw [nrm_id (by omega)]; exact q4⟩
  · have v := w7 j hj
    have q := rb j hj
    rw [nrm_id (by omega)]
    exact q
  · have v := wb j hj
    have k := W0.k28 hj
    obtain ⟨q1, q2, q3⟩ := rc j hj
    exact ⟨by rw [nrm_id (by omega)]; exact q1, by rw [nrm_id (by omega)]; exact q2, by rw [nrm_id (by omega)]; exact q3⟩
  · have v := wc j hj
    have q := rd j hj
    rw [nrm_id (by omega)]
    exact q
  · rw [nrm_id (by omega)]
    exact re
/-- typed alike; written alike; loaded alike -/
def kTxt (S : Nat → Nat → Int) : Prop := ∃ n : Nat, n ≤ 200 ∧ S 1 5 = (n : Int) ∧ S 30 2 = (n : Int) ∧ ∀ j, j < n → S 2 j = S 31 j ∧ (S 31 j = 10 ∨ 32 ≤ S 31 j ∧ S 31 j ≤ 126)
def kWtr (S : Nat → Nat → Int) : Prop := ∃ w : Nat, w ≤ 2000 ∧ S 7 1 = (w : Int) ∧ S 30 37 = (w : Int) ∧ ∀ j, j < w → Int32.ofInt (S 8 j) = Int32.ofInt (S 48 j)
def kNo (S : Nat → Nat → Int) : Prop := S 30 5 = 0 ∧ S 10 5 = 0 ∧ S 10 11 = 0 ∧ S 30 8 = 0
def kLd (E : Nat → kC) (S N : Nat → Nat → Int) (t : Nat → Int) (n c u e : Nat) : Prop := S 30 5 = 1 ∧ n ≤ 200 ∧ S 30 4 = (n : Int) ∧ (∀ j, j < n → S 32 j = t j ∧ -2147483648 ≤ t j ∧ t j < 2147483648) ∧ kLg (53, 0) E N t n c u e ∧ kRel N S c u e ∧ (∀ a, 20 ≤ a → a < 30 → S (a - 10) = N a) ∧ ∀ a, 20 ≤ a → a < 30 → (kTq a).1 = 22 ∨ ∀ k, -2147483648 ≤ N a k ∧ N a k < 2147483648
def kNds (E : Nat → kC) (S : Nat → Nat → Int) : Prop := kNo S ∨ ∃ N t n c u e, kLd E S N t n c u e
def kIv (E : Nat → kC) (S : Nat → Nat → Int) : Prop := (∀ a k, (kTq a).1 = 22 ∨ -2147483648 ≤ S a k ∧ S a k < 2147483648) ∧ kTxt S ∧ kWtr S ∧ kNds E S
theorem kIv_nrm (h1 : kTxt S) (h2 : kWtr S) (h3 : kNds E S) : kIv E (nrm S) := by
  refine ⟨fun a k => ?_, ?_, ?_, ?_⟩
  · by_cases h : (kTq a).1 = 22
    · exact Or.inl h
    · exact Or.inr (nrm_rng h)
  · obtain ⟨n, g1, g2, g3, g4⟩ := h1
    refine ⟨n, g1, by rw [nrm_id (by omega)]; exact g2, by rw [nrm_id (by omega)]; exact g3, fun j hj => ?_⟩
    have z := g4 j hj
    rw [nrm_id (a := 2) (by omega), nrm_id (a := 31) (by omega)]
    exact z
  · obtain ⟨w, g1, g2, g3, g4⟩ := h2
    refine ⟨w, g1, by rw [nrm_id (by omega)]; exact g2, by rw [nrm_id (by omega)]; exact g3, fun j hj => ?_⟩
    have z := g4 j hj
    have e1 : nrm S 8 j = (Int32.ofInt (S 8 j)).toInt := if_neg (by decide)
    have e2 : nrm S 48 j = (Int32.ofInt (S 48 j)).toInt := if_neg (by decide)
    rw [e1, e2, Int32.ofInt_toInt, Int32.ofInt_toInt]
    exact z
  · rcases h3 with ⟨g1, g2, g3, g4⟩ | ⟨N, t, n, c, u, e, g1, g2, g3, g4, g5, g6, g7, g8⟩
    · exact Or.inl ⟨by rw [nrm_id (by omega)]; exact g1, by rw [nrm_id (by omega)]; exact g2, by rw [nrm_id (by omega)]; exact g3, by rw [nrm_id (by omega)]; exact g4⟩
    · refine Or.inr ⟨N, t, n, c, u, e, by rw [nrm_id (by omega)]; exact g1, g2, by rw [nrm_id (by omega)]; exact g3, fun j hj => ?_, g5, kRel_nrm g5.1 g6, fun a h1 h2 => ?_, g8⟩
      · have z := g4 j hj
        rw [nrm_id (by omega)]
        exact z
      · rw [← g7 a h1 h2]
        apply nrm_fun
        rw [g7 a h1 h2]
        rcases g8 a h1 h2 with z | z
        · left
          have : a = 20 ∨ a = 21 ∨ a = 22 ∨ a = 23 ∨ a = 24 ∨ a = 25 ∨ a = 26 ∨ a = 27 ∨ a = 28 ∨ a = 29 := by omega
          rcases this with q | q | q | q | q | q | q | q | q | q <;> subst q <;> first | rfl | exact absurd z (by decide)
        · exact Or.inr z
/-- nothing but flags and out has changed -/
theorem kIv_look {S2 : Nat → Nat → Int} (h : kIv E S) (h1 : ∀ a, a ≠ 30 → a ≠ 52 → S2 a = S a) (h2 : ∀ k, k ≠ 0 → S2 30 k = S 30 k) : kIv E (nrm S2) := by
  obtain ⟨_, i1, i2, i3⟩ := h
  refine kIv_nrm ?_ ?_ ?_
  · obtain ⟨n, g1, g2, g3, g4⟩ := i1
    exact ⟨n, g1, by rw [h1 1 (by decide) (by decide)]; exact g2, by rw [h2 2 (by decide)]; exact g3, by rw [h1 2 (by decide) (by decide), h1 31 (by decide) (by decide)]; exact g4⟩
  · obtain ⟨w, g1, g2, g3, g4⟩ := i2
    exact ⟨w, g1, by rw [h1 7 (by decide) (by decide)]; exact g2, by rw [h2 37 (by decide)]; exact g3, by rw [h1 8 (by decide) (by decide), h1 48 (by decide) (by decide)]; exact g4⟩
  · rcases i3 with ⟨g1, g2, g3, g4⟩ | ⟨N, t, n, c, u, e, g1, g2, g3, g4, g5, g6, g7, g8⟩
    · exact Or.inl ⟨by rw [h2 5 (by decide)]; exact g1, by rw [h1 10 (by decide) (by decide)]; exact g2, by rw [h1 10 (by decide) (by decide)]; exact g3, by rw [h2 8 (by decide)]; exact g4⟩
    · exact Or.inr ⟨N, t, n, c, u, e, by rw [h2 5 (by decide)]; exact g1, g2, by rw [h2 4 (by decide)]; exact g3, by rw [h1 32 (by decide) (by decide)]; exact g4, g5, g6.vw ⟨h1 34 (by decide) (by decide), h1 35 (by decide) (by decide), h1 36 (by decide) (by decide), h1 37 (by decide) (by decide), h1 38 (by decide) (by decide), h1 39 (by decide) (by decide), h1 40 (by decide) (by decide), h1 41 (by decide) (by decide), h1 42 (by decide) (by decide), h2 8 (by decide), h2 14 (by decide), h2 15 (by decide), h2 26 (by decide)⟩, fun a q1 q2 => by rw [h1 (a - 10) (by omega) (by omega)]; exact g7 a q1 q2, g8⟩
end KNR
