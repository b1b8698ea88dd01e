/-! The law's loop: load. -/
theorem kTq_pi : (List.range 53).all (fun i => i == 0 || decide (kTq (kpi true 0 i) = ((kTq i).1, (kTq i).2.1, (kTq i).2.2.map (fun q => (q.1, kpi true 0 q.2))))) = true := by decide
theorem klookup_map {π : Nat → Nat} {k : Nat} : ∀ rs : List (Nat × Nat), (rs.map (fun q => (q.1, π q.2))).lookup k = (rs.lookup k).map π
  | [] => rfl
  | (b, v) :: rs => by
    show (match k == b with | true => some (π v) | false => List.lookup k (rs.map (fun q => (q.1, π q.2)))) = Option.map π (match k == b with | true => some v | false => List.lookup k rs)
    cases k == b with
    | true => rfl
    | false => exact klookup_map rs
theorem kdef_pv {π : Nat → Nat} {t k : Nat} : kpv π (kdef t k) = kdef t k := by
  cases h : kdef t k with
  | ref a => exact absurd h (kdef_ref _ _ _)
  | _ => rfl
theorem kcell_pi {i : Nat} {f : Nat → Int} (hi : i < 53) (h0 : i ≠ 0) : kpc (kpi true 0) (kcell i f) = kcell (kpi true 0 i) f := by
  have z := List.all_eq_true.mp kTq_pi i (List.mem_range.mpr hi)
  have z2 : kTq (kpi true 0 i) = ((kTq i).1, (kTq i).2.1, (kTq i).2.2.map (fun q => (q.1, kpi true 0 q.2))) := by
    rcases (Bool.or_eq_true _ _).mp z with y | y
    · exact absurd (beq_iff_eq.mp y) h0
    · exact of_decide_eq_true y
  unfold kcell
  rw [z2]
  refine Prod.ext rfl (Prod.ext rfl ?_)
  funext k
  show kpv (kpi true 0) (kval (kTq i).1 (kTq i).2.1 (kTq i).2.2 k (f k)) = kval (kTq i).1 (kTq i).2.1 ((kTq i).2.2.map (fun q => (q.1, kpi true 0 q.2))) k (f k)
  unfold kval
  by_cases h1 : (kTq i).1 < 20 ∧ (kTq i).2.1 ≤ k
  · rw [if_pos h1, if_pos h1]
    exact kdef_pv
  · rw [if_neg h1, if_neg h1]
    by_cases h2 : (kTq i).1 = 22
    · rw [if_pos h2, if_pos h2]
      rfl
    · rw [if_neg h2, if_neg h2, klookup_map]
      cases (kTq i).2.2.lookup k with
      | none => rfl
      | some a => rfl
theorem kcell_nrm {S : Nat → Nat → Int} {a : Nat} (ha : a < 53) : kcell a (nrm S a) = kcell a (S a) := by
  have z := congrFun (hp_nrm (m := 53) (E := fun _ => (0, 0, fun _ => .null)) (S := S)) a
  rw [hp_at ha, hp_at ha] at z
  exact z
/-- the state behind a good load -/
def kS1 (S' : Nat → Nat → Int) (x : Int) (a : Nat) : Nat → Int := if 10 ≤ a ∧ a < 20 then nrm S' (a + 10) else if 20 ≤ a ∧ a < 30 then S' (a - 10) else if a = 52 then kup (S' 52) 0 x else S' a
theorem kswp_at {E : Nat → kC} {S' : Nat → Nat → Int} {q : kC} {i : Nat} (h0 : i ≠ 0) (h1 : i ≠ 52) : kup (kswp E S') 52 q i = hp 57 E S' i := by
  rw [kup_ne h1]
  unfold kswp
  rw [kup_ne h0]
theorem kS1_hp {E : Nat → kC} {S' : Nat → Nat → Int} {x : Int} (hE : kEo E) (i : Nat) (hi : i < 53 ∨ 1000000 ≤ i) : kup (kswp E S') 52 (kcell 52 (kup (S' 52) 0 x)) (kpi true 0 i) = kpc (kpi true 0) (hp 53 E (kS1 S' x) i) := by
  rcases hi with hi | hi
  · rw [hp_at hi]
    by_cases q0 : i = 0
    · subst q0
      have e0 : kpi true 0 0 = 0 := rfl
      rw [e0]
      show ((1, 4, kup (kup (kcell 0 (S' 0)).2.2 2 (.ref 20)) 3 (.ref 10)) : kC) = _
      refine Prod.ext rfl (Prod.ext rfl ?_)
      funext k
      show kup (kup (kcell 0 (S' 0)).2.2 2 (.ref 20)) 3 (.ref 10) k = kpv (kpi true 0) (kval 1 4 [(0, 1), (1, 7), (2, 10), (3, 20)] k (kS1 S' x 0 k))
      match k with
      | 0 => rfl
      | 1 => rfl
      | 2 => rfl
      | 3 => rfl
      | k + 4 =>
        have e1 : kval 1 4 [(0, 1), (1, 7), (2, 10), (3, 20)] (k + 4) (kS1 S' x 0 (k + 4)) = kdef 1 (k + 4) := if_pos ⟨by decide, by omega⟩
        have e2 : kup (kup (kcell 0 (S' 0)).2.2 2 (.ref 20)) 3 (.ref 10) (k + 4) = kval 1 4 [(0, 1), (1, 7), (2, 10), (3, 20)] (k + 4) (S' 0 (k + 4)) := by
          show (if k + 4 = 3 then _ else (if k + 4 = 2 then _ else _)) = _
          rw [if_neg (by omega), if_neg (by omega)]
          rfl
        have e3 : kval 1 4 [(0, 1), (1, 7), (2, 10), (3, 20)] (k + 4) (S' 0 (k + 4)) = kdef 1 (k + 4) := if_pos ⟨by decide, by omega⟩
        rw [e1, e2, e3]
        exact kdef_pv.symm
    · rw [kcell_pi hi q0]
      by_cases q1 : 10 ≤ i ∧ i < 20
      · have e1 : kpi true 0 i = i + 10 := by unfold kpi; rw [if_pos hi, if_pos ⟨q1.1, q1.2, rfl⟩]
        have e2 : kS1 S' x i = nrm S' (i + 10) := if_pos q1
        rw [e1, e2]
        rw [kswp_at (by omega) (by omega), hp_at (by omega), kcell_nrm (by omega)]
      · by_cases q2 : 20 ≤ i ∧ i < 30
        · have e1 : kpi true 0 i = i - 10 := by unfold kpi; rw [if_pos hi, if_neg (by omega), if_pos ⟨q2.1, q2.2, rfl⟩]
          have e2 : kS1 S' x i = S' (i - 10) := by unfold kS1; rw [if_neg q1, if_pos q2]
          rw [e1, e2]
          rw [kswp_at (by omega) (by omega), hp_at (by omega)]
        · have e1 : kpi true 0 i = i := by unfold kpi; rw [if_pos hi, if_neg (by omega), if_neg (by omega)]
          rw [e1]
          by_cases q3 : i = 52
          · subst q3
            have e2 : kS1 S' x 52 = kup (S' 52) 0 x := rfl
            rw [e2]
            exact if_pos rfl
          · have e2 : kS1 S' x i = S' i := by unfold kS1; rw [if_neg q1, if_neg q2, if_neg q3]
            rw [e2]
            rw [kswp_at q0 q3, hp_at (by omega)]
  · have e1 : kpi true 0 i = i := by unfold kpi; rw [if_neg (by omega), if_neg (by omega)]
    have e2 : ∀ m : Nat, m ≤ 57 → ∀ S, hp m E S i = E i := fun m hm S => by unfold hp; rw [if_neg (by omega), if_pos hi]
    rw [e1, e2 53 (by omega)]
    rw [kswp_at (by omega) (by omega), e2 57 (by omega)]
    refine Prod.ext rfl (Prod.ext rfl ?_)
    funext j
    show (E i).2.2 j = kpv (kpi true 0) ((E i).2.2 j)
    cases hv : (E i).2.2 j with
    | ref a =>
      have ha : 1000000 ≤ a := hE i j a hi hv
      show Value.ref a = Value.ref (kpi true 0 a)
      have hz : ∀ b : Nat, 1000000 ≤ b → kpi true 0 b = b := fun b hb => by unfold kpi; rw [if_neg (by omega), if_neg (by omega)]
      exact congrArg Value.ref (hz a ha).symm
    | _ => rfl
def nr2 (T : Nat → Nat → Int) (a : Nat) : Nat → Int := if a = 38 ∨ a = 43 then nrm T a else T a
theorem hp_nr2 {E : Nat → kC} {T : Nat → Nat → Int} : hp 53 E (nr2 T) = hp 53 E T := by
  funext i
  rcases Nat.lt_or_ge i 53 with hi | hi
  · rw [hp_at hi, hp_at hi]
    unfold nr2
    by_cases q : i = 38 ∨ i = 43
    · rw [if_pos q]
      exact kcell_nrm hi
    · rw [if_neg q]
  · have hi' : ¬ i < 53 := by omega
    unfold hp
    rw [if_neg hi', if_neg hi']
theorem nr2_tok {T : Nat → Nat → Int} {t : Nat → Int} {n : Nat} (h : kRt T t n) : kTok (nr2 T) t n := by
  refine ⟨⟨h.1, h.2⟩, fun j _ => ?_, fun j _ => ?_⟩
  · show -2147483648 ≤ nrm T 38 j ∧ nrm T 38 j < 2147483648
    exact nrm_rng (by decide)
  · show -2147483648 ≤ nrm T 43 j ∧ nrm T 43 j < 2147483648
    exact nrm_rng (by decide)
theorem nr2_ft {T T' : Nat → Nat → Int} (h : kFt (nr2 T) T') : kFt T T' := by
  refine ⟨fun a h1 h2 => ?_, fun k hk => ?_⟩
  · rw [h.1 a h1 h2]
    unfold nr2
    rw [if_neg (by omega)]
  · exact h.2 k hk
theorem nr2_wk {sz : Nat × Nat} {E : Nat → kC} {T T' : Nat → Nat → Int} (h : kWk sz E (nr2 T) T') : kWk sz E T T' := by
  unfold kWk at h ⊢
  rw [hp_nr2] at h
  exact h
section KSL
variable {w : Bool} {c s L i : Nat} {xs : Nat → Int32} {S : Nat → Nat → Int} {h : kH} {Q : kO × kH → Prop} {v5 v6 v7 : Value}
/-- a good load -/
theorem s_2g {S' : Nat → Nat → Int} {n c0 u e : Nat} {h1 : kH} (hc : 200 + c ≤ 1000000) (I : kIv (kext L xs) S) (g1 : n ≤ 200) (g2 : S 1 5 = (n : Int)) (g3 : S 30 2 = (n : Int)) (g4 : ∀ j, j < n → S 2 j = S 31 j) (f1 : ∀ a, a < 53 → a ≠ 1 → ¬ (3 ≤ a ∧ a ≤ 6) → ¬ (20 ≤ a ∧ a < 30) → S' a = S a) (f2 : ∀ k, k ≠ 6 → S' 1 k = S 1 k) (Lg : kLg (53, 0) (kext L xs) S' (S 2) n c0 u e) (gg : kG (kpi w c) 53 c s ((57, 38), kup (kswp (kext L xs) S') 52 (kcell 52 (kup (S' 52) 0 (c0 : Int)))) h1) (G : kGo L xs i c s Q) : ∃ (w1 : Bool) (c1 s1 : Nat) (S1 S2 : Nat → Nat → Int) (b : Int), 100 + c1 ≤ 1000000 ∧ kW w1 c1 s1 (kext L xs) S1 h1 ∧ kR 99 145 (blk 145 0) (kent 145 [.ref 30]) [] ((53, 0), hp 53 (kext L xs) S1) (fun r => r = (.inl (some (.int (Int32.ofInt b))), ((53, 0), hp 53 (kext L xs) S2))) ∧ S2 30 0 = 0 ∧ (S2 52 0 = b ∧ -2147483648 ≤ b ∧ b < 2147483648) ∧ ∀ v5 v6 v7 h2, kW w1 c1 s1 (kext L xs) S2 h2 → kR 100 163 (blk 163 610) [.ref 1000000, .ref 0, .ref 30, .ref 52, .int (Int32.ofInt (i : Int)), v5, v6, v7] [] h2 Q := by
  have rg : ∀ a k, (¬ (kTq a).1 = 22) → -2147483648 ≤ S a k ∧ S a k < 2147483648 := fun a k hq => by
    rcases I.1 a k with z | z
    · exact absurd z hq
    · exact z
  have hw := kW_next (v := true) (g := 4) (k := 38) (S := kS1 S' (c0 : Int)) (kext_o L xs) gg rfl (fun i hi => kS1_hp (kext_o L xs) i hi)
  have Lg2 := kLg_nrm Lg
  have a1 : ∀ a, 30 ≤ a → a < 52 → kS1 S' (c0 : Int) a = S a := fun a h1 h2 => by
    unfold kS1
    rw [if_neg (by omega), if_neg (by omega), if_neg (by omega)]
    exact f1 a (by omega) (by omega) (by omega) (by omega)
  have a2 : ∀ a, a < 10 → kS1 S' (c0 : Int) a = S' a := fun a h1 => by
    unfold kS1
    rw [if_neg (by omega), if_neg (by omega), if_neg (by omega)]
  have a3 : ∀ a, 20 ≤ a → a < 30 → kS1 S' (c0 : Int) (a - 10) = nrm S' a := fun a h1 h2 => by
    unfold kS1
    rw [if_pos (by omega), show a - 10 + 10 = a by omega]
  have k := c_145g (E := kext L xs) (sz := (53, 0)) (S := kS1 S' (c0 : Int)) (t := S 2) (n := n) (P := fun T' => kRel (nrm S') T' c0 u e) g1 (by rw [a1 30 (by decide) (by decide)]; exact g3) (fun j hj => by rw [a1 31 (by decide) (by decide)]; exact (g4 j hj).symm) (fun T hT t1 t2 t3 => by
    obtain ⟨T', i1, i2, i3, i4⟩ := Lg2.2.2.2.2.2.2 T ⟨hT, fun j _ => by rw [t1 38 (by decide) (by decide), a1 38 (by decide) (by decide)]; exact rg 38 j (by decide), fun j _ => by rw [t1 43 (by decide) (by decide), a1 43 (by decide) (by decide)]; exact rg 43 j (by decide)⟩
    exact ⟨T', i1, i2, i4, i3⟩)
  obtain ⟨m, r, hm, S2, T', e1, R, b1, b2, b3, b4, b5, b6, b7, b8⟩ := k
  have W := Lg2.1
  have w1 := W.1.1
  have r8 : T' 30 8 = (c0 : Int) := R.1.2.1
  have e52 : S2 52 0 = (c0 : Int) := by
    rw [b6 52 (by decide) (by decide)]
    rfl
  have k99 : kR 99 145 (blk 145 0) (kent 145 [.ref 30]) [] ((53, 0), hp 53 (kext L xs) (kS1 S' (c0 : Int))) (fun r => r = (.inl (some (.int (Int32.ofInt (c0 : Int)))), ((53, 0), hp 53 (kext L xs) S2))) := by
    rw [r8] at e1
    exact ⟨m, r, fun d hd => hm d (by omega), e1⟩
  refine ⟨w != true, c + 4, s + 38, kS1 S' (c0 : Int), S2, (c0 : Int), by omega, hw, k99, b7, ⟨e52, by omega, by omega⟩, fun v5 v6 v7 h2 hw => G (w != true) (c + 4) (s + 38) S2 (by omega) (by omega) (kIv_nrm ?_ ?_ ?_) v5 v6 v7 h2 hw⟩
  · refine I.2.1.fr ?_ ?_ ?_ ?_
    · rw [b6 1 (by decide) (by decide), a2 1 (by decide)]
      exact f2 5 (by decide)
    · rw [b6 2 (by decide) (by decide), a2 2 (by decide)]
      exact f1 2 (by decide) (by decide) (by decide) (by decide)
    · rw [b6 31 (by decide) (by decide), a1 31 (by decide) (by decide)]
    · rw [b8 2 (by decide), a1 30 (by decide) (by decide)]
  · refine I.2.2.1.fr ?_ ?_ ?_ ?_
    · rw [b6 7 (by decide) (by decide), a2 7 (by decide)]
      exact f1 7 (by decide) (by decide) (by decide) (by decide)
    · rw [b6 8 (by decide) (by decide), a2 8 (by decide)]
      exact f1 8 (by decide) (by decide) (by decide) (by decide)
    · rw [b6 48 (by decide) (by decide), a1 48 (by decide) (by decide)]
    · rw [b8 37 (by decide), a1 30 (by decide) (by decide)]
  · refine Or.inr ⟨nrm S', S 2, n, c0, u, e, b4, g1, b3, fun j hj => ⟨b5 j hj, rg 2 j (by decide)⟩, Lg2, R.vw ⟨b1 34 (by decide) (by decide), b1 35 (by decide) (by decide), b1 36 (by decide) (by decide), b1 37 (by decide) (by decide), b1 38 (by decide) (by decide), b1 39 (by decide) (by decide), b1 40 (by decide) (by decide), b1 41 (by decide) (by decide), b1 42 (by decide) (by decide), b2 8 (by decide) (by decide), b2 14 (by decide) (by decide), b2 15 (by decide) (by decide), b2 26 (by decide) (by decide)⟩, fun a h1 h2 => ?_, fun a h1 h2 => ?_⟩
    · rw [b6 (a - 10) (by omega) (by omega)]
      exact a3 a h1 h2
    · by_cases q : (kTq a).1 = 22
      · exact Or.inl q
      · exact Or.inr (fun k => nrm_rng q)
/-- a bad load -/
theorem s_2b {S' : Nat → Nat → Int} {n : Nat} {h1 : kH} (hc : 200 + c ≤ 1000000) (I : kIv (kext L xs) S) (g1 : n ≤ 200) (g2 : S 1 5 = (n : Int)) (g3 : S 30 2 = (n : Int)) (g4 : ∀ j, j < n → S 2 j = S 31 j) (f1 : ∀ a, a < 53 → a ≠ 1 → ¬ (3 ≤ a ∧ a ≤ 6) → ¬ (20 ≤ a ∧ a < 30) → S' a = S a) (f2 : ∀ k, k ≠ 6 → S' 1 k = S 1 k) (Lb : ∀ T, kTok T (S 2) n → ∃ T', kWk (53, 0) (kext L xs) T T' ∧ T' 30 19 = 1 ∧ kFt T T') (gg : kG (kpi w c) 53 c s (knew ((57, 38), hp 57 (kext L xs) S') 30 6 (fun _ => .null)) h1) (G : kGo L xs i c s Q) : ∃ (w1 : Bool) (c1 s1 : Nat) (S1 S2 : Nat → Nat → Int) (b : Int), 100 + c1 ≤ 1000000 ∧ kW w1 c1 s1 (kext L xs) S1 h1 ∧ kR 99 145 (blk 145 0) (kent 145 [.ref 30]) [] ((53, 0), hp 53 (kext L xs) S1) (fun r => r = (.inl (some (.int (Int32.ofInt b))), ((53, 0), hp 53 (kext L xs) S2))) ∧ S2 30 0 = 1 ∧ ∀ v5 v6 v7 h2, kW w1 c1 s1 (kext L xs) S2 h2 → kR 100 163 (blk 163 610) [.ref 1000000, .ref 0, .ref 30, .ref 52, .int (Int32.ofInt (i : Int)), v5, v6, v7] [] h2 Q := by
  have hw : kW w (c + 5) (s + 44) (kext L xs) S' h1 := by
    have z := kW_next (v := false) (g := 5) (k := 44) (S := S') (kext_o L xs) gg rfl (fun i hi => by
      rw [kpi_id, kpc_id]
      refine (show kup (hp 57 (kext L xs) S') 57 _ i = hp 57 (kext L xs) S' i from kup_ne (by omega)).trans ?_
      unfold hp
      rcases hi with hi | hi
      · have h1 : i < 57 := by omega
        rw [if_pos h1, if_pos hi]
      · have h1 : ¬ i < 57 := by omega
        have h2 : ¬ i < 53 := by omega
        rw [if_neg h1, if_neg h2])
    rw [show (w != false) = w by cases w <;> rfl] at z
    exact z
  have a1 : ∀ a, 30 ≤ a → a < 53 → S' a = S a := fun a h1 h2 => f1 a (by omega) (by omega) (by omega) (by omega)
  have a10 : ∀ a, 7 ≤ a → a < 20 → S' a = S a := fun a h1 h2 => f1 a (by omega) (by omega) (by omega) (by omega)
  have t30 : S' 30 = S 30 := a1 30 (by decide) (by decide)
  have hb : ∀ (P : (Nat → Nat → Int) → Prop) (t0 : Nat → Int) (n0 : Nat), n0 ≤ 200 → (S 30 5 = 0 ∨ S 30 5 = 1) → (S 30 5 = 1 → S 30 4 = (n0 : Int) ∧ (∀ j, j < n0 → S 32 j = t0 j) ∧ ∀ T, kRt T t0 n0 → ∃ T', kWk (53, 0) (kext L xs) T T' ∧ kFt T T' ∧ P T') → (S 30 5 = 0 → ∀ T, T 30 8 = 0 → P T) → ∃ S2 T', kR 99 145 (blk 145 0) (kent 145 [.ref 30]) [] ((53, 0), hp 53 (kext L xs) S') (fun r => r = (.inl (some (.int (Int32.ofInt 0))), ((53, 0), hp 53 (kext L xs) S2))) ∧ P T' ∧ (∀ a, a ≠ 30 → S2 a = T' a) ∧ (∀ k, k ≠ 0 → S2 30 k = T' 30 k) ∧ S2 30 0 = 1 ∧ (∀ a, a ≠ 30 → (a < 33 ∨ 47 < a) → S2 a = S' a) ∧ (∀ k, (k = 2 ∨ k = 4 ∨ k = 5 ∨ k = 37 ∨ k = 40) → S2 30 k = S' 30 k) := by
    intro P t0 n0 q1 q2 q3 q4
    have k := c_145b (E := kext L xs) (sz := (53, 0)) (S := S') (t := S 2) (n := n) (P := P) (t0 := t0) (n0 := n0) g1 (by rw [t30]; exact g3) (fun j hj => by rw [a1 31 (by decide) (by decide)]; exact (g4 j hj).symm) (fun T hT _ _ _ => by
      obtain ⟨T', i1, i2, i3⟩ := Lb (nr2 T) (nr2_tok hT)
      exact ⟨T', nr2_wk i1, i2, nr2_ft i3⟩) (by rw [t30]; exact q2) q1 (by rw [t30, a1 32 (by decide) (by decide)]; exact q3) (by rw [t30]; exact q4)
    obtain ⟨m, r, hm, S2, T', e1, R⟩ := k
    exact ⟨S2, T', ⟨m, r, fun d hd => hm d (by omega), e1⟩, R⟩
  have fin : ∀ S2 T' : Nat → Nat → Int, kR 99 145 (blk 145 0) (kent 145 [.ref 30]) [] ((53, 0), hp 53 (kext L xs) S') (fun r => r = (.inl (some (.int (Int32.ofInt 0))), ((53, 0), hp 53 (kext L xs) S2))) → S2 30 0 = 1 → (∀ a, a ≠ 30 → (a < 33 ∨ 47 < a) → S2 a = S' a) → (∀ k, (k = 2 ∨ k = 4 ∨ k = 5 ∨ k = 37 ∨ k = 40) → S2 30 k = S' 30 k) → kNds (kext L xs) S2 → ∃ (w1 : Bool) (c1 s1 : Nat) (S1 S2 : Nat → Nat → Int) (b : Int), 100 + c1 ≤ 1000000 ∧ kW w1 c1 s1 (kext L xs) S1 h1 ∧ kR 99 145 (blk 145 0) (kent 145 [.ref 30]) [] ((53, 0), hp 53 (kext L xs) S1) (fun r => r = (.inl (some (.int (Int32.ofInt b))), ((53, 0), hp 53 (kext L xs) S2))) ∧ S2 30 0 = 1 ∧ ∀ v5 v6 v7 h2, kW w1 c1 s1 (kext L xs) S2 h2 → kR 100 163 (blk 163 610) [.ref 1000000, .ref 0, .ref 30, .ref 52, .int (Int32.ofInt (i : Int)), v5, v6, v7] [] h2 Q := by
    intro S2 T' k1 b7 b6 b8 hN
    refine ⟨w, c + 5, s + 44, S', S2, 0, by omega, hw, k1, b7, fun v5 v6 v7 h2 hw => G w (c + 5) (s + 44) S2 (by omega) (by omega) (kIv_nrm ?_ ?_ hN) v5 v6 v7 h2 hw⟩
    · refine I.2.1.fr ?_ ?_ ?_ ?_
      · rw [b6 1 (by decide) (by decide)]
        exact f2 5 (by decide)
      · rw [b6 2 (by decide) (by decide)]
        exact f1 2 (by decide) (by decide) (by decide) (by decide)
      · rw [b6 31 (by decide) (by decide), a1 31 (by decide) (by decide)]
      · rw [b8 2 (by decide), t30]
    · refine I.2.2.1.fr ?_ ?_ ?_ ?_
      · rw [b6 7 (by decide) (by decide)]
        exact a10 7 (by decide) (by decide)
      · rw [b6 8 (by decide) (by decide)]
        exact a10 8 (by decide) (by decide)
      · rw [b6 48 (by decide) (by decide), a1 48 (by decide) (by decide)]
      · rw [b8 37 (by decide), t30]
  rcases I.2.2.2 with ⟨d1, d2, d3, d4⟩ | ⟨N, t, n0, c0, u, e, d1, d2, d3, d4, d5, d6, d7, d8⟩
  · obtain ⟨S2, T', k1, p1, b1, b2, b7, b6, b8⟩ := hb (fun T => T 30 8 = 0) (fun _ => 0) 0 (by omega) (Or.inl d1) (fun z => by rw [d1] at z; exact absurd z (by decide)) (fun _ T z => z)
    refine fin S2 T' k1 b7 b6 b8 (Or.inl ⟨?_, ?_, ?_, ?_⟩)
    · rw [b8 5 (by decide), t30]
      exact d1
    · rw [b6 10 (by decide) (by decide), a10 10 (by decide) (by decide)]
      exact d2
    · rw [b6 10 (by decide) (by decide), a10 10 (by decide) (by decide)]
      exact d3
    · rw [b2 8 (by decide)]
      exact p1
  · obtain ⟨S2, T', k1, R, b1, b2, b7, b6, b8⟩ := hb (fun T => kRel N T c0 u e) t n0 d2 (Or.inr d1) (fun _ => ⟨d3, fun j hj => (d4 j hj).1, fun T hT => by
      obtain ⟨T', i1, i2, i3, i4⟩ := d5.2.2.2.2.2.2 (nr2 T) (nr2_tok hT)
      exact ⟨T', nr2_wk i1, nr2_ft i4, i3⟩⟩) (fun z => by rw [d1] at z; exact absurd z (by decide))
    refine fin S2 T' k1 b7 b6 b8 (Or.inr ⟨N, t, n0, c0, u, e, ?_, d2, ?_, ?_, d5, R.vw ⟨b1 34 (by decide), b1 35 (by decide), b1 36 (by decide), b1 37 (by decide), b1 38 (by decide), b1 39 (by decide), b1 40 (by decide), b1 41 (by decide), b1 42 (by decide), b2 8 (by decide), b2 14 (by decide), b2 15 (by decide), b2 26 (by decide)⟩, fun a h1 h2 => ?_, d8⟩)
    · rw [b8 5 (by decide), t30]
      exact d1
    · rw [b8 4 (by decide), t30]
      exact d3
    · rw [b6 32 (by decide) (by decide), a1 32 (by decide) (by decide)]
      exact d4
    · rw [b6 (a - 10) (by omega) (by omega), a10 (a - 10) (by omega) (by omega)]
      exact d7 a h1 h2
theorem s_2 (hW : kW w c s (kext L xs) S h) (hc : 200 + c ≤ 1000000) (hL : L ≤ 2048) (hi : i + 4 ≤ L) (I : kIv (kext L xs) S) (G : kGo L xs i c s Q) : kR 100 163 (blk 163 182) [.ref 1000000, .ref 0, .ref 30, .ref 52, .int (Int32.ofInt (i : Int)), v5, v6, v7] [] h Q := by
  have rg : ∀ a k, (¬ (kTq a).1 = 22) → -2147483648 ≤ S a k ∧ S a k < 2147483648 := fun a k hq => by
    rcases I.1 a k with z | z
    · exact absurd z hq
    · exact z
  obtain ⟨n, g1, g2, g3, g4⟩ := I.2.1
  obtain ⟨LL, hX⟩ := kTx_ex (t := S 2) (n := n) g1 (fun j hj => by rw [(g4 j hj).1]; exact (g4 j hj).2)
  have k1 := c_164 (szT := (53, 0)) (E := kext L xs) (S := S) (t := S 2) (n := n) (L := LL) hX kWrd_ext (fun j _ => rfl) g2 (fun j _ => rg 26 j (by decide))
  refine k_c2 hW (by omega) hL hi (kR.up k1 (by decide)) (fun u hu => ?_) (fun u h1 hu gg => ?_)
  · rcases hu with ⟨S', c0, u0, e0, e1, _⟩ | ⟨S', e1, _⟩
    · subst e1
      exact (by decide : (57 : Nat) ≤ 100)
    · subst e1
      exact (by decide : (58 : Nat) ≤ 100)
  · rcases hu with ⟨S', c0, u0, e0, e1, f1, f2, Lg⟩ | ⟨S', e1, f1, f2, Lb⟩
    · subst e1
      obtain ⟨w1, c1, s1, S1, S2, b, q1, q2, q3, q4, q5, q6⟩ := s_2g hc I g1 g2 g3 (fun j hj => (g4 j hj).1) f1 f2 Lg gg G
      exact ⟨0, w1, c1, s1, S1, S2, b, Or.inl rfl, rfl, q1, q2, q3, q4, fun _ => q5, q6⟩
    · subst e1
      obtain ⟨w1, c1, s1, S1, S2, b, q1, q2, q3, q4, q6⟩ := s_2b hc I g1 g2 g3 (fun j hj => (g4 j hj).1) f1 f2 Lb gg G
      exact ⟨1, w1, c1, s1, S1, S2, b, Or.inr rfl, rfl, q1, q2, q3, q4, fun z => absurd z (by decide), q6⟩
end KSL
