/-! The class's load, whole. -/
/-- the heap behind a good load: the two Nodes have changed places -/
def kswp (E : Nat → kC) (S : Nat → Nat → Int) : Nat → kC := kup (hp 57 E S) 0 (1, 4, kup (kup (kcell 0 (S 0)).2.2 2 (.ref 20)) 3 (.ref 10))
section KC4
variable {szT : Nat × Nat} {E : Nat → kC} {S : Nat → Nat → Int} {t : Nat → Int} {n L : Nat}
theorem c_4 (hX : kTx t n L) (hWd : kWrd E) (hT : ∀ j, j < n → S 2 j = t j) (hn5 : S 1 5 = (n : Int)) (hG1 : ∀ j, j < 200 → -2147483648 ≤ S 26 j ∧ S 26 j < 2147483648) : kR 41 4 (blk 4 0) (kent 4 [.ref 0]) [] ((53, 0), hp 53 E S) (fun r => (∃ (S' : Nat → Nat → Int) (c u e : Nat), r = (.inl (some (.int (Int32.ofInt (S' 20 5)))), ((57, 38), kswp E S')) ∧ (∀ a, a < 53 → a ≠ 1 → ¬ (3 ≤ a ∧ a ≤ 6) → ¬ (20 ≤ a ∧ a < 30) → S' a = S a) ∧ (∀ k, k ≠ 6 → S' 1 k = S 1 k) ∧ kLg szT E S' t n c u e) ∨ (∃ (S' : Nat → Nat → Int), r = (.inr 57, knew ((57, 38), hp 57 E S') 30 6 (fun _ => .null)) ∧ (∀ a, a < 53 → a ≠ 1 → ¬ (3 ≤ a ∧ a ≤ 6) → ¬ (20 ≤ a ∧ a < 30) → S' a = S a) ∧ (∀ k, k ≠ 6 → S' 1 k = S 1 k) ∧ ∀ T, kTok T t n → ∃ T', kWk szT E T T' ∧ T' 30 19 = 1 ∧ kFt T T')) := by
  have hm : 53 ≤ 53 ∧ 53 ≤ 57 := by omega
  show kR 41 4 b4_0 _ _ _ _
  refine kR.s rfl rfl ?_
  refine kR.gr (a := 0) (b := 20) (k := 3) (by omega) rfl rfl rfl (by decide) (by decide) rfl ?_
  refine kR.c0 rfl rfl (kR.up (c_34m (S := S) hm) (by decide)) ?_
  obtain ⟨S1, hS1⟩ : ∃ S1, S1 = ku (ku (ku S 20 5 0) 20 7 0) 20 11 0 := ⟨_, rfl⟩
  rw [← hS1]
  have hS1c : ∀ b, b ≠ 20 → S1 b = S b := fun b hb => by
    rw [hS1]
    unfold ku kup
    rw [if_neg hb, if_neg hb, if_neg hb]
  have hS15 : S1 20 5 = 0 ∧ S1 20 7 = 0 ∧ S1 20 11 = 0 := by
    rw [hS1]
    exact ⟨rfl, rfl, rfl⟩
  refine kR.s rfl rfl ?_
  refine kR.gr (a := 0) (b := 1) (k := 0) (by omega) rfl rfl rfl (by decide) (by decide) rfl ?_
  refine kR.c rfl rfl (kR.up (c_18 (S := S1) (E := E) (sz := (53, 0)) hm hX (fun j hj => by rw [hS1c 2 (by decide)]; exact hT j hj) (by rw [hS1c 1 (by decide)]; exact hn5)) (by decide)) (fun r hr => ?_)
  obtain ⟨S2, e1, p1, p2, p3, p4⟩ := hr
  subst e1
  show kR 41 4 _ _ [] ((53, 0), hp 53 E S2) _
  refine kR.nw (by decide) ?_
  refine kR.s rfl rfl ?_
  refine kR.s rfl rfl ?_
  refine kR.gg (a := 0) (t := 1) (N := 4) (f := (kcell 0 (S2 0)).2.2) (v := .ref 1) rfl rfl (by decide) rfl ?_
  refine kR.c0 rfl rfl (kR.up (c_47 (S := S2) (E := E)) (by decide)) ?_
  refine kR.s rfl rfl ?_
  refine kR.nw (by decide) ?_
  refine kR.s rfl rfl ?_
  refine kR.s rfl rfl ?_
  refine kR.s rfl rfl ?_
  refine kR.gg (a := 0) (t := 1) (N := 4) (f := (kcell 0 (S2 0)).2.2) (v := .ref 20) rfl rfl (by decide) rfl ?_
  refine kR.c rfl rfl (kR.up (c_61 (S := kup S2 53 (fun _ => 0)) (E := E) (Q := fun r => ∃ Y, r = (.inl none, ((56, 0 + kN 5 + kN 6 + 26), hp 56 E Y)) ∧ (∀ k, k < 26 → Y 55 k = -1) ∧ Y 54 = kup (fun _ => 0) 3 (-1) ∧ (∀ b, b < 54 → Y b = kup S2 53 (fun _ => 0) b)) (fun Y y1 y2 y3 => ⟨Y, rfl, y1, y2, y3⟩)) (by decide)) (fun r hr => ?_)
  obtain ⟨Y, e1, y1, y2, y3⟩ := hr
  subst e1
  show kR 41 4 _ _ [.ref 54] ((56, 0 + kN 5 + kN 6 + 26), hp 56 E Y) _
  refine kR.s rfl rfl ?_
  refine kR.nw (by decide) ?_
  refine kR.s rfl rfl ?_
  refine kR.s rfl rfl ?_
  refine kR.gg (a := 0) (t := 1) (N := 4) (f := (kcell 0 (Y 0)).2.2) (v := .ref 1) rfl rfl (by decide) rfl ?_
  refine kR.s rfl rfl ?_
  refine kR.gg (a := 0) (t := 1) (N := 4) (f := (kcell 0 (Y 0)).2.2) (v := .ref 20) rfl rfl (by decide) rfl ?_
  refine kR.s rfl rfl ?_
  refine kR.s rfl rfl ?_
  refine kR.c0 rfl rfl (kR.up (c_89 (S := Y) (E := E)) (by decide)) ?_
  obtain ⟨S3, hS3⟩ : ∃ S3, S3 = kup Y 56 (fun _ => 0) := ⟨_, rfl⟩
  rw [← hS3]
  have hS3b : ∀ b, b < 53 → S3 b = S2 b := fun b hb => by
    rw [hS3]
    show (if b = 56 then _ else Y b) = _
    rw [if_neg (by omega), y3 b (by omega)]
    show (if b = 53 then _ else S2 b) = _
    rw [if_neg (by omega)]
  have hS3x : S3 54 = Y 54 ∧ S3 55 = Y 55 := by
    rw [hS3]
    exact ⟨rfl, rfl⟩
  have hC : kCt S3 t n L := by
    refine ⟨?_, ?_, fun j hj => ?_, fun j hj => ?_⟩
    · rw [hS3b 1 (by decide), p4 5 (by decide), hS1c 1 (by decide)]
      exact hn5
    · rw [hS3b 1 (by decide)]
      exact p1
    · rw [hS3b 2 (by decide), p3 2 (by decide) (by decide) (by decide) (by decide) (by decide), hS1c 2 (by decide)]
      exact hT j hj
    · rw [hS3b 3 (by decide), hS3b 4 (by decide), hS3b 5 (by decide), hS3b 6 (by decide)]
      exact p2 j hj
  have h20 : S3 20 = S1 20 := by rw [hS3b 20 (by decide), p3 20 (by decide) (by decide) (by decide) (by decide) (by decide)]
  have hfr : ∀ a, a < 53 → a ≠ 1 → ¬ (3 ≤ a ∧ a ≤ 6) → ¬ (20 ≤ a ∧ a < 30) → S3 a = S a := fun a h1 h2 h3 h4 => by
    rw [hS3b a h1, p3 a h2 (by omega) (by omega) (by omega) (by omega), hS1c a (by omega)]
  have hf1 : ∀ k, k ≠ 6 → S3 1 k = S 1 k := fun k hk => by
    rw [hS3b 1 (by decide), p4 k hk, hS1c 1 (by decide)]
  have k90 := sim_outer2 (sz := (57, 38)) (szT := szT) (E := E) (S := S3) hX hWd hC (by rw [h20]; exact hS15.1) (by rw [h20]; exact hS15.2.1) (by rw [h20]; exact hS15.2.2) (by rw [hS3x.1, y2]; rfl) (fun j hj => by rw [hS3x.2]; exact y1 j hj) (fun j hj => by rw [hS3b 26 (by decide), p3 26 (by decide) (by decide) (by decide) (by decide) (by decide), hS1c 26 (by decide)]; exact hG1 j hj)
  refine kR.c rfl rfl (kR.up k90 (by decide)) (fun r hr => ?_)
  rcases hr with ⟨S', c, u, e, e1, fm, lg⟩ | ⟨⟨S', e1, fm⟩, hT'⟩
  · subst e1
    show kR 41 4 _ _ [] ((57, 38), hp 57 E S') _
    refine kR.s rfl rfl ?_
    refine kR.gr (a := 0) (b := 10) (k := 2) (by omega) rfl rfl rfl (by decide) (by decide) rfl ?_
    refine kR.s rfl rfl ?_
    refine kR.s rfl rfl ?_
    refine kR.s rfl rfl ?_
    refine kR.gr (a := 0) (b := 20) (k := 3) (by omega) rfl rfl rfl (by decide) (by decide) rfl ?_
    refine kR.pr (a := 0) (b := 20) (t := 1) (N := 4) (f := (kcell 0 (S' 0)).2.2) rfl rfl (by decide) rfl (by decide) ?_
    refine kR.s rfl rfl ?_
    refine kR.s rfl rfl ?_
    refine kR.pr (a := 0) (b := 10) kup_at rfl (by decide) rfl (by decide) ?_
    refine kR.s rfl rfl ?_
    refine kR.gg (a := 0) (v := .ref 20) kup_at rfl (by decide) rfl ?_
    refine kR.gg (a := 20) (t := 4) (N := 12) (f := (kcell 20 (S' 20)).2.2) (v := .int (Int32.ofInt (S' 20 5))) rfl rfl (by decide) rfl ?_
    refine kR.ret rfl rfl ?_
    rw [kup_kup]
    exact Or.inl ⟨S', c, u, e, rfl, fun a h1 h2 h3 h4 => (fm a (by omega)).trans (hfr a h1 h2 h3 h4), fun k hk => by rw [fm 1 (by decide)]; exact hf1 k hk, lg⟩
  · subst e1
    exact (kTh.mk (S := S') kFm.rf : kTh (57, 38) E S' _).tag rfl (Or.inr ⟨S', rfl, fun a h1 h2 h3 h4 => (fm a (by omega)).trans (hfr a h1 h2 h3 h4), fun k hk => by rw [fm 1 (by decide)]; exact hf1 k hk, hT'⟩)
theorem c_164 (hX : kTx t n L) (hWd : kWrd E) (hT : ∀ j, j < n → S 2 j = t j) (hn5 : S 1 5 = (n : Int)) (hG1 : ∀ j, j < 200 → -2147483648 ≤ S 26 j ∧ S 26 j < 2147483648) : kR 42 164 (blk 164 0) (kent 164 [.ref 0, .ref 52]) [] ((53, 0), hp 53 E S) (fun r => (∃ (S' : Nat → Nat → Int) (c u e : Nat), r = (.inl (some (.int (Int32.ofInt 0))), ((57, 38), kup (kswp E S') 52 (kcell 52 (kup (S' 52) 0 (c : Int))))) ∧ (∀ a, a < 53 → a ≠ 1 → ¬ (3 ≤ a ∧ a ≤ 6) → ¬ (20 ≤ a ∧ a < 30) → S' a = S a) ∧ (∀ k, k ≠ 6 → S' 1 k = S 1 k) ∧ kLg szT E S' t n c u e) ∨ (∃ (S' : Nat → Nat → Int), r = (.inl (some (.int (Int32.ofInt 1))), knew ((57, 38), hp 57 E S') 30 6 (fun _ => .null)) ∧ (∀ a, a < 53 → a ≠ 1 → ¬ (3 ≤ a ∧ a ≤ 6) → ¬ (20 ≤ a ∧ a < 30) → S' a = S a) ∧ (∀ k, k ≠ 6 → S' 1 k = S 1 k) ∧ ∀ T, kTok T t n → ∃ T', kWk szT E T T' ∧ T' 30 19 = 1 ∧ kFt T T')) := by
  show kR 42 164 b164_0 _ _ _ _
  refine kR.s rfl rfl ?_
  refine kR.s rfl rfl ?_
  refine kR.s rfl rfl ?_
  refine kR.c rfl rfl (c_4 (szT := szT) hX hWd hT hn5 hG1) (fun r hr => ?_)
  rcases hr with ⟨S', c, u, e, e1, h1, h2, lg⟩ | ⟨S', e1, h1, h2, h3⟩
  · subst e1
    show kR 42 164 _ _ (Value.int (Int32.ofInt (S' 20 5)) :: _) ((57, 38), kswp E S') _
    have hc := lg.2.2.2.2.1.1
    have hcl := lg.1.1.1
    rw [hc]
    refine kR.i2l (by omega) (by omega) ?_
    refine kR.l0 (a := 52) (N := 1) (f := (kcell 52 (S' 52)).2.2) rfl (by decide) ?_
    refine kR.g rfl ?_
    show kR 42 164 b164_14 _ _ _ _
    refine kR.s rfl rfl ?_
    refine kR.ret rfl rfl ?_
    refine Or.inl ⟨S', c, u, e, ?_, h1, h2, lg⟩
    have z := kcell_set (a := 52) (k := 0) (f := S' 52) (v := (c : Int)) (w := .long (Int64.ofInt (c : Int))) rfl
    rw [← z]
    rfl
  · subst e1
    show kR 42 164 (blk 164 11) _ _ _ _
    show kR 42 164 b164_11 _ _ _ _
    refine kR.s rfl rfl ?_
    refine kR.s rfl rfl ?_
    refine kR.ret rfl rfl ?_
    exact Or.inr ⟨S', rfl, h1, h2, h3⟩
end KC4
