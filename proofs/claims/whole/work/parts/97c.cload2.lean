/-! The class's load, whole, against every walk over that text. -/
theorem kctn_rng {f : Nat → Int} {x : Int} : ∀ n : Nat, 0 ≤ kctn f x n ∧ kctn f x n ≤ n
  | 0 => by
    unfold kctn
    omega
  | n + 1 => by
    have z := kctn_rng (f := f) (x := x) n
    unfold kctn
    split <;> omega
theorem ofInt_inj {a b : Int} (h : Int32.ofInt a = Int32.ofInt b) (r1 : -2147483648 ≤ a ∧ a < 2147483648) (r2 : -2147483648 ≤ b ∧ b < 2147483648) : a = b := by
  have z := congrArg Int32.toInt h
  rw [ku_rng r1.1 r1.2, ku_rng r2.1 r2.2] at z
  exact z
theorem ofInt64_inj {a b : Int} (h : Int64.ofInt a = Int64.ofInt b) (r1 : -999999999999999999 ≤ a ∧ a ≤ 999999999999999999) (r2 : -999999999999999999 ≤ b ∧ b ≤ 999999999999999999) : a = b := by
  have z := congrArg Int64.toInt h
  rw [Int64.toInt_ofInt_of_le (by omega) (by omega), Int64.toInt_ofInt_of_le (by omega) (by omega)] at z
  exact z
section KHV
variable {sz szT : Nat × Nat} {E : Nat → kC} {S S2 T : Nat → Nat → Int} {t : Nat → Int} {n L c u e c2 u2 e2 : Nat}
theorem hp_val {m a k : Nat} {q : Nat × Nat × List (Nat × Nat)} (h : hp m E S = hp m E S2) (ha : a < m) (hq : kTq a = q) (ht : ¬ q.1 = 22) (hn : ¬ (q.1 < 20 ∧ q.2.1 ≤ k)) (hl : q.2.2.lookup k = none) (r1 : -2147483648 ≤ S a k ∧ S a k < 2147483648) (r2 : -2147483648 ≤ S2 a k ∧ S2 a k < 2147483648) : S a k = S2 a k := by
  have h1 : kcell a (S a) = kcell a (S2 a) := by
    have z := congrFun h a
    rw [hp_at ha, hp_at ha] at z
    exact z
  have h2 := congrFun (congrArg (fun c : kC => c.2.2) h1) k
  subst hq
  simp only [kcell, kval, if_neg hn, if_neg ht, hl] at h2
  injection h2 with h3
  exact ofInt_inj h3 r1 r2
theorem hp_lng {m a k : Nat} (h : hp m E S = hp m E S2) (ha : a < m) (ht : (kTq a).1 = 22) (r1 : -999999999999999999 ≤ S a k ∧ S a k ≤ 999999999999999999) (r2 : -999999999999999999 ≤ S2 a k ∧ S2 a k ≤ 999999999999999999) : S a k = S2 a k := by
  have h1 : kcell a (S a) = kcell a (S2 a) := by
    have z := congrFun h a
    rw [hp_at ha, hp_at ha] at z
    exact z
  have h2 := congrFun (congrArg (fun c : kC => c.2.2) h1) k
  have hn : ¬ ((kTq a).1 < 20 ∧ (kTq a).2.1 ≤ k) := by omega
  simp only [kcell, kval, if_neg hn, if_pos ht] at h2
  injection h2 with h3
  exact ofInt64_inj h3 r1 r2
/-- the nodes are alike, whoever reads the heap -/
theorem krel_hp (hh : hp 57 E S = hp 57 E S2) (W : kWf S c u e) (W2 : kWf S2 c2 u2 e2) (hs : S 20 5 = c ∧ S 20 7 = u ∧ S 20 11 = e) (R2 : kRel S2 T c2 u2 e2) (g1 : ∀ j, j < 200 → -2147483648 ≤ S 26 j ∧ S 26 j < 2147483648) (g2 : ∀ j, j < 200 → -2147483648 ≤ S2 26 j ∧ S2 26 j < 2147483648) : kRel S T c u e := by
  obtain ⟨⟨r1, r2, r3, r4, r5, r6⟩, ra, rb, rc, rd, re⟩ := R2
  obtain ⟨⟨w1, w2, w3, w4, _⟩, wa, wb, wc, wd⟩ := W
  obtain ⟨⟨v1, v2, v3, v4, _⟩, va, vb, vc, vd⟩ := W2
  obtain ⟨s1, s2, s3⟩ := hs
  have ec : S 20 5 = S2 20 5 := hp_val hh (by decide) rfl (by decide) (by decide) rfl (by omega) (by omega)
  have eu : S 20 7 = S2 20 7 := hp_val hh (by decide) rfl (by decide) (by decide) rfl (by omega) (by omega)
  have ee : S 20 11 = S2 20 11 := hp_val hh (by decide) rfl (by decide) (by decide) rfl (by omega) (by omega)
  have ec' : c2 = c := by omega
  have eu' : u2 = u := by omega
  have ee' : e2 = e := by omega
  subst ec'
  subst eu'
  subst ee'
  have sz22 : ∀ j, j < c2 → 0 ≤ S 22 j ∧ S 22 j ≤ 200 := fun j hj => by
    obtain ⟨a1, a2, a3, a4, a5, a6, a7, a8, a9⟩ := wa j hj
    have k1 := kctn_rng (f := S 27) (x := (j : Int)) e2
    rcases Int.lt_or_le (S 21 j) 4 with h | h
    · have := a7 h
      omega
    · have := a8 h
      omega
  have sv22 : ∀ j, j < c2 → 0 ≤ S2 22 j ∧ S2 22 j ≤ 200 := fun j hj => by
    obtain ⟨a1, a2, a3, a4, a5, a6, a7, a8, a9⟩ := va j hj
    have k1 := kctn_rng (f := S2 27) (x := (j : Int)) e2
    rcases Int.lt_or_le (S2 21 j) 4 with h | h
    · have := a7 h
      omega
    · have := a8 h
      omega
  have k28 : ∀ (X : Nat → Nat → Int), (∀ j, j < e2 → 0 ≤ X 27 j ∧ X 27 j < c2 ∧ 4 ≤ X 21 (X 27 j).toNat ∧ 0 ≤ X 29 j ∧ X 29 j < c2 ∧ (X 21 (X 27 j).toNat = 4 → X 28 j = -1) ∧ (X 21 (X 27 j).toNat = 5 → 0 ≤ X 28 j ∧ X 28 j < c2 ∧ X 21 (X 28 j).toNat < 4)) → (∀ j, j < c2 → X 21 j ≤ 5) → ∀ j, j < e2 → -1 ≤ X 28 j ∧ X 28 j < 60 := fun X hb h5 j hj => by
    obtain ⟨b1, b2, b3, b4, b5, b6, b7⟩ := hb j hj
    have := h5 (X 27 j).toNat (by omega)
    rcases Int.lt_or_le 4 (X 21 (X 27 j).toNat) with h | h
    · have := b7 (by omega)
      omega
    · have := b6 (by omega)
      omega
  refine ⟨⟨s1, r2, s2, r4, s3, r6⟩, fun j hj => ?_, fun j hj => ?_, fun j hj => ?_, fun j hj => ?_, ?_⟩
  · obtain ⟨p1, p2, p3, p4⟩ := ra j hj
    obtain ⟨a1, a2, a3, a4, a5, a6, a7, a8, a9⟩ := wa j hj
    obtain ⟨b1, b2, b3, b4, b5, b6, b7, b8, b9⟩ := va j hj
    have z1 := sz22 j hj
    have z2 := sv22 j hj
    have z3 := w4 j hj
    have z4 := v4 j hj
    rw [← p1, ← p2, ← p3, ← p4]
    exact ⟨hp_val hh (by decide) rfl (by decide) (fun z => absurd z.1 (by decide)) rfl (by omega) (by omega), hp_val hh (by decide) rfl (by decide) (fun z => absurd z.1 (by decide)) rfl (by omega) (by omega), hp_lng hh (by decide) rfl ⟨a4, a5⟩ ⟨b4, b5⟩, hp_val hh (by decide) rfl (by decide) (fun z => absurd z.1 (by decide)) rfl (by omega) (by omega)⟩
  · rw [← rb j hj]
    exact hp_val hh (by decide) rfl (by decide) (fun z => absurd z.1 (by decide)) rfl (g1 j (by omega)) (g2 j (by omega))
  · obtain ⟨p1, p2, p3⟩ := rc j hj
    obtain ⟨a1, a2, a3, a4, a5, a6, a7⟩ := wb j hj
    obtain ⟨b1, b2, b3, b4, b5, b6, b7⟩ := vb j hj
    have z1 := k28 S wb (fun i hi => (wa i hi).2.1) j hj
    have z2 := k28 S2 vb (fun i hi => (va i hi).2.1) j hj
    rw [← p1, ← p2, ← p3]
    exact ⟨hp_val hh (by decide) rfl (by decide) (fun z => absurd z.1 (by decide)) rfl (by omega) (by omega), hp_val hh (by decide) rfl (by decide) (fun z => absurd z.1 (by decide)) rfl (by omega) (by omega), hp_val hh (by decide) rfl (by decide) (fun z => absurd z.1 (by decide)) rfl (by omega) (by omega)⟩
  · have z1 := wc j hj
    have z2 := vc j hj
    rw [← rd j hj, hp_val (S := S) (S2 := S2) (a := 55) (k := j) hh (by decide) rfl (by decide) (fun z => absurd z.1 (by decide)) rfl (by omega) (by omega)]
  · rw [← re]
    exact hp_val hh (by decide) rfl (by decide) (by decide) rfl (by omega) (by omega)
/-- the reference's object is ready to walk over that text -/
def kTok (T : Nat → Nat → Int) (t : Nat → Int) (n : Nat) : Prop := kRt T t n ∧ (∀ j, j < 200 → -2147483648 ≤ T 38 j ∧ T 38 j < 2147483648) ∧ ∀ j, j < 9 → -2147483648 ≤ T 43 j ∧ T 43 j < 2147483648
/-- the class has loaded the text, and every walk over it gives the same nodes -/
def kLg (szT : Nat × Nat) (E : Nat → kC) (S : Nat → Nat → Int) (t : Nat → Int) (n c u e : Nat) : Prop := kWf S c u e ∧ kSub S 8 0 c 0 e ∧ 1 ≤ c ∧ (u + e ≤ 200 ∧ e ≤ 100) ∧ (S 20 5 = c ∧ S 20 7 = u ∧ S 20 11 = e) ∧ (∀ j, j < 200 → -2147483648 ≤ S 26 j ∧ S 26 j < 2147483648) ∧ ∀ T, kTok T t n → ∃ T', kWk szT E T T' ∧ T' 30 19 = 0 ∧ kRel S T' c u e ∧ kFt T T'
theorem sim_outer2 (hX : kTx t n L) (hWd : kWrd E) (hC : kCt S t n L) (h5 : S 20 5 = 0) (h7 : S 20 7 = 0) (h11 : S 20 11 = 0) (h54 : S 54 3 = -1) (h55 : ∀ j, j < 26 → S 55 j = -1) (hG1 : ∀ j, j < 200 → -2147483648 ≤ S 26 j ∧ S 26 j < 2147483648) : kR 39 90 (blk 90 0) (kent 90 [.ref 56]) [] (sz, hp 57 E S) (fun r => (∃ (S' : Nat → Nat → Int) (c u e : Nat), r = (.inl none, (sz, hp 57 E S')) ∧ kFm S S' ∧ kLg szT E S' t n c u e) ∨ (kTh sz E S r ∧ ∀ T, kTok T t n → ∃ T', kWk szT E T T' ∧ T' 30 19 = 1 ∧ kFt T T')) := by
  have h0 : kTok (fun a k => if a = 30 then (n : Int) else if a = 33 then t k else 0) t n := ⟨⟨rfl, fun j hj => rfl⟩, fun j hj => by show -2147483648 ≤ (0 : Int) ∧ (0 : Int) < 2147483648; decide, fun j hj => by show -2147483648 ≤ (0 : Int) ∧ (0 : Int) < 2147483648; decide⟩
  have kk := kR.all (P := fun T => kTok T t n) (Q := fun T r => kOu sz szT E S T r) _ h0 (fun T hT => sim_outer (sz := sz) (szT := szT) (E := E) (S := S) (T := T) hX hWd hC h5 h7 h11 h54 h55 hG1 hT.1 hT.2.1 hT.2.2)
  refine kR.wk kk (fun r hr => ?_)
  rcases hr _ h0 with ⟨S', T', c, u, e, h1, h2, h3, h4, h6, h8, h9, h10, h12, h13, h14⟩ | ⟨hth, _⟩
  · refine Or.inl ⟨S', c, u, e, h1, h13, h6, h8, h9, h10, ⟨h4.1.1, h4.1.2.2.1, h4.1.2.2.2.2.1⟩, h12, fun T hT => ?_⟩
    rcases hr T hT with ⟨S2, T2, c2, u2, e2, g1, g2, g3, g4, g6, g8, g9, g10, g12, g13, g14⟩ | ⟨⟨S2, g1, _⟩, _⟩
    · have hh : hp 57 E S' = hp 57 E S2 := by
        have z := h1.symm.trans g1
        injection z with z1 z2
        injection z2 with z3 z4
      exact ⟨T2, g2, g3, krel_hp hh h6 g6 ⟨h4.1.1, h4.1.2.2.1, h4.1.2.2.2.2.1⟩ g4 h12 g12, g14⟩
    · have z := h1.symm.trans g1
      injection z with z1 z2
      cases z1
  · refine Or.inr ⟨hth, fun T hT => ?_⟩
    rcases hr T hT with ⟨S2, T2, c2, u2, e2, g1, _⟩ | ⟨_, g⟩
    · obtain ⟨S', h1, _⟩ := hth
      have z := h1.symm.trans g1
      injection z with z1 z2
      cases z1
    · exact g
end KHV
