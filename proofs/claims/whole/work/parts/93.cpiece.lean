/-! The class: pieces. -/
section KCP
variable {sz : Nat × Nat} {E : Nat → kC} {S : Nat → Nat → Int} {t : Nat → Int} {n L : Nat}
/-- the stop: the first line with a rest that is no deeper -/
theorem l_96a (hX : kTx t n L) (hC : kCt S t n L) {cc dd kp : Int} (hcc : 0 ≤ cc ∧ cc ≤ 200) {f : Nat} {v6 v7 : Value} {Q : kO × kH → Prop} : ∀ (j s : Nat), L - s = j → s ≤ L → (∀ st, s ≤ st → st ≤ L → (∀ i, s ≤ i → i < st → ¬ (krb t n i < kre t n i ∧ kdp t n i ≤ cc)) → (st < L → krb t n st < kre t n st ∧ kdp t n st ≤ cc) → kR 3 96 (blk 96 58) [.ref 56, .int (Int32.ofInt cc), .int (Int32.ofInt dd), .int (Int32.ofInt kp), .int (Int32.ofInt (f : Int)), .int (Int32.ofInt (st : Int)), v6, v7] [] (sz, hp 57 E S) Q) → kR 3 96 (blk 96 15) [.ref 56, .int (Int32.ofInt cc), .int (Int32.ofInt dd), .int (Int32.ofInt kp), .int (Int32.ofInt (f : Int)), .int (Int32.ofInt (s : Int)), v6, v7] [] (sz, hp 57 E S) Q := by
  intro j
  induction j using Nat.strongRecOn with
  | _ j ih =>
    intro s hj hs h
    have hx1 := hX.1
    have hx2 := hX.2.2.2.1
    show kR 3 96 b96_15 _ _ _ _
    refine kR.s rfl rfl ?_
    refine kR.s rfl rfl ?_
    refine kR.gr (a := 56) (b := 1) (k := 0) (by omega) rfl rfl rfl (by decide) (by decide) rfl ?_
    refine kR.gi (a := 1) (k := 6) (v := (L : Int)) (by omega) rfl rfl rfl (by decide) (by decide) rfl (by exact hC.2.1) ?_
    refine kR.jge (by omega) (by omega) (by omega) (by omega) (fun q1 => ?_) (fun q1 => ?_)
    · exact h s (Nat.le_refl _) hs (fun i h1 h2 => by omega) (fun h1 => by omega)
    · have hln := hX.ln (l := s) (by omega)
      have hgo : ¬ (krb t n s < kre t n s ∧ kdp t n s ≤ cc) → kR 3 96 (blk 96 52) [.ref 56, .int (Int32.ofInt cc), .int (Int32.ofInt dd), .int (Int32.ofInt kp), .int (Int32.ofInt (f : Int)), .int (Int32.ofInt (s : Int)), v6, v7] [] (sz, hp 57 E S) Q := fun hno => by
        show kR 3 96 b96_52 _ _ _ _
        refine kR.inc rfl ?_
        refine kR.g rfl ?_
        exact ih (L - (s + 1)) (by omega) (s + 1) rfl (by omega) (fun st h1 h2 h3 h4 => h st (by omega) h2 (fun i g1 g2 => by
          rcases Nat.lt_or_ge s i with g | g
          · exact h3 i (by omega) g2
          · rw [show i = s by omega]
            exact hno) h4)
      refine kR.s rfl rfl ?_
      refine kR.gr (a := 56) (b := 1) (k := 0) (by omega) rfl rfl rfl (by decide) (by decide) rfl ?_
      refine kR.s rfl rfl ?_
      have k20 := c_20 (S := S) (E := E) (sz := sz) hX hC (l := s) (by omega)
      by_cases hr : krb t n s < kre t n s
      · rw [if_pos hr] at k20
        refine kR.cv (v := .int (Int32.ofInt 1)) rfl rfl (kR.up k20 (by decide)) ?_
        refine kR.zeq (by decide) (by decide) (fun q => absurd q (by decide)) (fun _ => ?_)
        refine kR.s rfl rfl ?_
        refine kR.gr (a := 56) (b := 1) (k := 0) (by omega) rfl rfl rfl (by decide) (by decide) rfl ?_
        refine kR.s rfl rfl ?_
        refine kR.cv (v := .int (Int32.ofInt ((krb t n s : Int) - (klb t n s : Int)))) rfl rfl (kR.up (c_22 (S := S) (E := E) (sz := sz) hX hC (l := s) (by omega)) (by decide)) ?_
        refine kR.s rfl rfl ?_
        refine kR.jle (by omega) (by omega) (by omega) (by omega) (fun q2 => ?_) (fun q2 => ?_)
        · exact h s (Nat.le_refl _) hs (fun i h1 h2 => by omega) (fun _ => ⟨hr, q2⟩)
        · refine kR.n ?_
          exact hgo (fun z => absurd z.2 (by unfold kdp; omega))
      · rw [if_neg hr] at k20
        refine kR.cv (v := .int (Int32.ofInt 0)) rfl rfl (kR.up k20 (by decide)) ?_
        refine kR.zeq (by decide) (by decide) (fun _ => ?_) (fun q => absurd rfl q)
        exact hgo (fun z => hr z.1)
/-- and back over lines without a rest -/
theorem l_96b (hX : kTx t n L) (hC : kCt S t n L) {cc dd kp : Int} {f st : Nat} {v7 : Value} {Q : kO × kH → Prop} : ∀ (j b : Nat), b - f = j → f ≤ b → b ≤ L → (∀ bh, f ≤ bh → bh ≤ b → (∀ i, bh ≤ i → i < b → ¬ krb t n i < kre t n i) → (f < bh → krb t n (bh - 1) < kre t n (bh - 1)) → kR 3 96 (blk 96 89) [.ref 56, .int (Int32.ofInt cc), .int (Int32.ofInt dd), .int (Int32.ofInt kp), .int (Int32.ofInt (f : Int)), .int (Int32.ofInt (st : Int)), .int (Int32.ofInt (bh : Int)), v7] [] (sz, hp 57 E S) Q) → kR 3 96 (blk 96 62) [.ref 56, .int (Int32.ofInt cc), .int (Int32.ofInt dd), .int (Int32.ofInt kp), .int (Int32.ofInt (f : Int)), .int (Int32.ofInt (st : Int)), .int (Int32.ofInt (b : Int)), v7] [] (sz, hp 57 E S) Q := by
  intro j
  induction j using Nat.strongRecOn with
  | _ j ih =>
    intro b hj hfb hbL h
    have hx1 := hX.1
    have hx2 := hX.2.2.2.1
    show kR 3 96 b96_62 _ _ _ _
    refine kR.s rfl rfl ?_
    refine kR.s rfl rfl ?_
    refine kR.jle (by omega) (by omega) (by omega) (by omega) (fun q1 => ?_) (fun q1 => ?_)
    · exact h b hfb (Nat.le_refl _) (fun i h1 h2 => by omega) (fun h1 => by omega)
    · refine kR.s rfl rfl ?_
      refine kR.gr (a := 56) (b := 1) (k := 0) (by omega) rfl rfl rfl (by decide) (by decide) rfl ?_
      refine kR.s rfl rfl ?_
      refine kR.s rfl rfl ?_
      refine kR.sub ?_
      rw [show (b : Int) - 1 = ((b - 1 : Nat) : Int) by omega]
      have k20 := c_20 (S := S) (E := E) (sz := sz) hX hC (l := b - 1) (by omega)
      by_cases hr : krb t n (b - 1) < kre t n (b - 1)
      · rw [if_pos hr] at k20
        refine kR.cv (v := .int (Int32.ofInt 1)) rfl rfl (kR.up k20 (by decide)) ?_
        refine kR.zne (by decide) (by decide) (fun _ => ?_) (fun q => absurd q (by decide))
        exact h b hfb (Nat.le_refl _) (fun i h1 h2 => by omega) (fun _ => hr)
      · rw [if_neg hr] at k20
        refine kR.cv (v := .int (Int32.ofInt 0)) rfl rfl (kR.up k20 (by decide)) ?_
        refine kR.zne (by decide) (by decide) (fun q => absurd rfl q) (fun _ => ?_)
        refine kR.inc rfl ?_
        refine kR.g rfl ?_
        have z := ih (b - 1 - f) (by omega) (b - 1) rfl (by omega) (by omega) (fun bh h1 h2 h3 h4 => h bh h1 (by omega) (fun i g1 g2 => by
          rcases Nat.lt_or_ge i (b - 1) with g | g
          · exact h3 i g1 g
          · rw [show i = b - 1 by omega]
            exact hr) h4)
        rw [show ((b - 1 : Nat) : Int) = (b : Int) + -1 by omega] at z
        exact z
/-- the depth of the first line with a rest -/
theorem l_98 (hX : kTx t n L) (hC : kCt S t n L) {f b : Nat} {d : Int} (hbL : b ≤ L) : ∀ (j k : Nat), b - k = j → k ≤ b → ((∃ j0, k ≤ j0 ∧ j0 < b ∧ (∀ i, k ≤ i → i < j0 → ¬ krb t n i < kre t n i) ∧ krb t n j0 < kre t n j0 ∧ d = kdp t n j0) ∨ (d = 0 ∧ ∀ i, k ≤ i → i < b → ¬ krb t n i < kre t n i)) → kR 1 98 (blk 98 2) [.ref 56, .int (Int32.ofInt (f : Int)), .int (Int32.ofInt (b : Int)), .int (Int32.ofInt (k : Int))] [] (sz, hp 57 E S) (fun r => r = (.inl (some (.int (Int32.ofInt d))), (sz, hp 57 E S))) := by
  intro j
  induction j using Nat.strongRecOn with
  | _ j ih =>
    intro k hj hkb h
    have hx1 := hX.1
    have hx2 := hX.2.2.2.1
    show kR 1 98 b98_2 _ _ _ _
    refine kR.s rfl rfl ?_
    refine kR.s rfl rfl ?_
    refine kR.jge (by omega) (by omega) (by omega) (by omega) (fun q1 => ?_) (fun q1 => ?_)
    · show kR 1 98 b98_33 _ _ _ _
      refine kR.s rfl rfl ?_
      refine kR.ret rfl rfl ?_
      rcases h with ⟨j0, h1, h2, _⟩ | ⟨h1, _⟩
      · exfalso
        omega
      · rw [h1]
    · refine kR.s rfl rfl ?_
      refine kR.gr (a := 56) (b := 1) (k := 0) (by omega) rfl rfl rfl (by decide) (by decide) rfl ?_
      refine kR.s rfl rfl ?_
      have k20 := c_20 (S := S) (E := E) (sz := sz) hX hC (l := k) (by omega)
      by_cases hr : krb t n k < kre t n k
      · rw [if_pos hr] at k20
        refine kR.cv (v := .int (Int32.ofInt 1)) rfl rfl (kR.up k20 (by decide)) ?_
        refine kR.zeq (by decide) (by decide) (fun q => absurd q (by decide)) (fun _ => ?_)
        refine kR.s rfl rfl ?_
        refine kR.gr (a := 56) (b := 1) (k := 0) (by omega) rfl rfl rfl (by decide) (by decide) rfl ?_
        refine kR.s rfl rfl ?_
        refine kR.cv (v := .int (Int32.ofInt ((krb t n k : Int) - (klb t n k : Int)))) rfl rfl (kR.up (c_22 (S := S) (E := E) (sz := sz) hX hC (l := k) (by omega)) (by decide)) ?_
        refine kR.ret rfl rfl ?_
        rcases h with ⟨j0, h1, h2, h3, h4, h5⟩ | ⟨_, h1⟩
        · rcases Nat.lt_or_ge k j0 with g | g
          · exact absurd hr (h3 k (Nat.le_refl _) g)
          · rw [h5, show j0 = k by omega]
            rfl
        · exact absurd hr (h1 k (Nat.le_refl _) (by omega))
      · rw [if_neg hr] at k20
        refine kR.cv (v := .int (Int32.ofInt 0)) rfl rfl (kR.up k20 (by decide)) ?_
        refine kR.zeq (by decide) (by decide) (fun _ => ?_) (fun q => absurd rfl q)
        show kR 1 98 b98_27 _ _ _ _
        refine kR.inc rfl ?_
        refine kR.g rfl ?_
        refine ih (b - (k + 1)) (by omega) (k + 1) rfl (by omega) ?_
        rcases h with ⟨j0, h1, h2, h3, h4, h5⟩ | ⟨h0, h1⟩
        · rcases Nat.lt_or_ge k j0 with g | g
          · exact Or.inl ⟨j0, by omega, h2, fun i g1 g2 => h3 i (by omega) g2, h4, h5⟩
          · rw [show j0 = k by omega] at h4
            exact absurd h4 hr
        · exact Or.inr ⟨h0, fun i g1 g2 => h1 i (by omega) g2⟩
theorem c_98 (hX : kTx t n L) (hC : kCt S t n L) {f b : Nat} {d : Int} (hbL : b ≤ L) (hfb : f ≤ b) (h : (∃ j0, f ≤ j0 ∧ j0 < b ∧ (∀ i, f ≤ i → i < j0 → ¬ krb t n i < kre t n i) ∧ krb t n j0 < kre t n j0 ∧ d = kdp t n j0) ∨ (d = 0 ∧ ∀ i, f ≤ i → i < b → ¬ krb t n i < kre t n i)) : kR 1 98 (blk 98 0) (kent 98 [.ref 56, .int (Int32.ofInt (f : Int)), .int (Int32.ofInt (b : Int))]) [] (sz, hp 57 E S) (fun r => r = (.inl (some (.int (Int32.ofInt d))), (sz, hp 57 E S))) := by
  show kR 1 98 b98_0 _ _ _ _
  refine kR.s rfl rfl ?_
  refine kR.s rfl rfl ?_
  refine kR.n ?_
  exact l_98 hX hC hbL (b - f) f rfl hfb h
/-- the characters of a line -/
theorem l_97c (hX : kTx t n L) {v f b d k : Nat} (hv : v < 60) (hk : k < L) {Q : kO × kH → Prop} : ∀ (j p u : Nat) (S : Nat → Nat → Int), kle t n k - p = j → p ≤ 1000 → kCt S t n L → S 20 7 = (u : Int) → u + j ≤ 200 → (∀ p' : Nat, kR 2 97 (blk 97 123) [.ref 56, .int (Int32.ofInt (v : Int)), .int (Int32.ofInt (f : Int)), .int (Int32.ofInt (b : Int)), .int (Int32.ofInt (d : Int)), .int (Int32.ofInt (k : Int)), .int (Int32.ofInt (p' : Int))] [] (sz, hp 57 E (kapl v (kslh t j p) u S)) Q) → kR 2 97 (blk 97 84) [.ref 56, .int (Int32.ofInt (v : Int)), .int (Int32.ofInt (f : Int)), .int (Int32.ofInt (b : Int)), .int (Int32.ofInt (d : Int)), .int (Int32.ofInt (k : Int)), .int (Int32.ofInt (p : Int))] [] (sz, hp 57 E S) Q := by
  intro j
  induction j with
  | zero =>
    intro p u S hj hp1 hC hu hul h
    have hx1 := hX.1
    have hx2 := hX.2.2.2.1
    have hln := hX.ln hk
    show kR 2 97 b97_84 _ _ _ _
    refine kR.s rfl rfl ?_
    refine kR.s rfl rfl ?_
    refine kR.gr (a := 56) (b := 1) (k := 0) (by omega) rfl rfl rfl (by decide) (by decide) rfl ?_
    refine kR.gr (a := 1) (b := 4) (k := 2) (by omega) rfl rfl rfl (by decide) (by decide) rfl ?_
    refine kR.s rfl rfl ?_
    refine kR.ia (a := 4) (v := (kle t n k : Int)) (by omega) rfl (by decide) (by omega) (by omega) (by exact (hC.2.2.2 k hk).2.1) ?_
    refine kR.jge (by omega) (by omega) (by omega) (by omega) (fun q1 => ?_) (fun q1 => ?_)
    · exact h p
    · exfalso
      omega
  | succ j ih =>
    intro p u S hj hp1 hC hu hul h
    have hx1 := hX.1
    have hx2 := hX.2.2.2.1
    have hln := hX.ln hk
    have hch := hX.2.1 p (by omega)
    show kR 2 97 b97_84 _ _ _ _
    refine kR.s rfl rfl ?_
    refine kR.s rfl rfl ?_
    refine kR.gr (a := 56) (b := 1) (k := 0) (by omega) rfl rfl rfl (by decide) (by decide) rfl ?_
    refine kR.gr (a := 1) (b := 4) (k := 2) (by omega) rfl rfl rfl (by decide) (by decide) rfl ?_
    refine kR.s rfl rfl ?_
    refine kR.ia (a := 4) (v := (kle t n k : Int)) (by omega) rfl (by decide) (by omega) (by omega) (by exact (hC.2.2.2 k hk).2.1) ?_
    refine kR.jge (by omega) (by omega) (by omega) (by omega) (fun q1 => ?_) (fun q1 => ?_)
    · exfalso
      omega
    · refine kR.s rfl rfl ?_
      refine kR.gr (a := 56) (b := 20) (k := 1) (by omega) rfl rfl rfl (by decide) (by decide) rfl ?_
      refine kR.s rfl rfl ?_
      refine kR.s rfl rfl ?_
      refine kR.gr (a := 56) (b := 1) (k := 0) (by omega) rfl rfl rfl (by decide) (by decide) rfl ?_
      refine kR.gr (a := 1) (b := 2) (k := 0) (by omega) rfl rfl rfl (by decide) (by decide) rfl ?_
      refine kR.s rfl rfl ?_
      refine kR.ca (a := 2) (v := t p) (by omega) rfl (by decide) (by omega) (by omega) (by exact hC.2.2.1 p (by omega)) ?_
      refine kR.c0 rfl rfl (kR.up (c_38 (S := S) (E := E) (sz := sz) (x := t p) hv (by omega) hu (by omega)) (by decide)) ?_
      refine kR.inc rfl ?_
      refine kR.g rfl ?_
      exact ih (p + 1) (u + 1) (kapt S v (t p) u) (by omega) (by omega) (by exact hC) rfl (by omega) h
theorem kFm.apl {S0 : Nat → Nat → Int} {v : Nat} : ∀ (cs : List Int) (u : Nat) (S : Nat → Nat → Int), kFm S0 S → kFm S0 (kapl v cs u S)
  | [], u, S, h => h
  | x :: xs, u, S, h => kFm.apl xs (u + 1) (kapt S v x u) (((h.w (by decide)).w (by decide)).w (by decide))
theorem kapl_ct {v : Nat} : ∀ (cs : List Int) (u : Nat) (S : Nat → Nat → Int), kCt S t n L → kCt (kapl v cs u S) t n L
  | [], u, S, h => h
  | x :: xs, u, S, h => kapl_ct xs (u + 1) (kapt S v x u) (by exact h)
theorem kapl_u {v : Nat} : ∀ (cs : List Int) (u : Nat) (S : Nat → Nat → Int), S 20 7 = (u : Int) → kapl v cs u S 20 7 = ((u + cs.length : Nat) : Int)
  | [], u, S, h => h
  | x :: xs, u, S, h => by
    have z := kapl_u (v := v) xs (u + 1) (kapt S v x u) rfl
    show kapl v xs (u + 1) (kapt S v x u) 20 7 = ((u + (xs.length + 1) : Nat) : Int)
    rw [z]
    omega
/-- the lines of a piece -/
theorem l_97 (hX : kTx t n L) {v f b d : Nat} (hv : v < 60) (hbL : b ≤ L) (hd : d ≤ 200) {Q : kO × kH → Prop} {S0 : Nat → Nat → Int} : ∀ (j k u : Nat) (S : Nat → Nat → Int) (v6 : Value), b - k = j → f ≤ k → k ≤ b → kCt S t n L → S 20 7 = (u : Int) → u + (kpC t n d f j k).length ≤ 200 → kFm S0 S → ((∀ i, k ≤ i → i < b → krb t n i < kre t n i → (d : Int) ≤ kdp t n i) → Q (.inl none, (sz, hp 57 E (kapl v (kpC t n d f j k) u S)))) → ((∃ i, k ≤ i ∧ i < b ∧ krb t n i < kre t n i ∧ kdp t n i < (d : Int)) → ∀ S', kFm S0 S' → Q (.inr sz.1, knew (sz, hp 57 E S') 30 6 (fun _ => .null))) → kR 2 97 (blk 97 11) [.ref 56, .int (Int32.ofInt (v : Int)), .int (Int32.ofInt (f : Int)), .int (Int32.ofInt (b : Int)), .int (Int32.ofInt (d : Int)), .int (Int32.ofInt (k : Int)), v6] [] (sz, hp 57 E S) Q := by
  intro j
  induction j with
  | zero =>
    intro k u S v6 hj hfk hkb hC hu hul hF hg hb
    have hx1 := hX.1
    have hx2 := hX.2.2.2.1
    show kR 2 97 b97_11 _ _ _ _
    refine kR.s rfl rfl ?_
    refine kR.s rfl rfl ?_
    refine kR.jge (by omega) (by omega) (by omega) (by omega) (fun q1 => ?_) (fun q1 => ?_)
    · show kR 2 97 b97_129 _ _ _ _
      refine kR.ret rfl rfl ?_
      exact hg (fun i h1 h2 => by omega)
    · exfalso
      omega
  | succ j ih =>
    intro k u S v6 hj hfk hkb hC hu hul hF hg hb
    have hx1 := hX.1
    have hx2 := hX.2.2.2.1
    have hln := hX.ln (l := k) (by omega)
    show kR 2 97 b97_11 _ _ _ _
    refine kR.s rfl rfl ?_
    refine kR.s rfl rfl ?_
    refine kR.jge (by omega) (by omega) (by omega) (by omega) (fun q1 => ?_) (fun q1 => ?_)
    · exfalso
      omega
    · have hlen : (kpC t n d f (j + 1) k).length = (if f < k then [(10 : Int)] else []).length + (kle t n k - (klb t n k + d) + (kpC t n d f j (k + 1)).length) := by
        show ((if f < k then [(10 : Int)] else []) ++ (ksl t (klb t n k + d) (kle t n k) ++ kpC t n d f j (k + 1))).length = _
        rw [List.length_append, List.length_append]
        show _ + ((kslh t (kle t n k - (klb t n k + d)) (klb t n k + d)).length + _) = _
        rw [kslh_len]
      have h69 : ∀ (S1 : Nat → Nat → Int) (u1 : Nat), (krb t n k < kre t n k → (d : Int) ≤ kdp t n k) → S1 = kapl v (if f < k then [(10 : Int)] else []) u S → u1 = u + (if f < k then [(10 : Int)] else []).length → kR 2 97 (blk 97 69) [.ref 56, .int (Int32.ofInt (v : Int)), .int (Int32.ofInt (f : Int)), .int (Int32.ofInt (b : Int)), .int (Int32.ofInt (d : Int)), .int (Int32.ofInt (k : Int)), v6] [] (sz, hp 57 E S1) Q := fun S1 u1 hok hS1 hu1 => by
        have hC1 : kCt S1 t n L := by rw [hS1]; exact kapl_ct _ _ _ hC
        have hu2 : S1 20 7 = (u1 : Int) := by rw [hS1, hu1]; exact kapl_u _ _ _ hu
        have hF1 : kFm S0 S1 := by rw [hS1]; exact kFm.apl _ _ _ hF
        show kR 2 97 b97_69 _ _ _ _
        refine kR.s rfl rfl ?_
        refine kR.gr (a := 56) (b := 1) (k := 0) (by omega) rfl rfl rfl (by decide) (by decide) rfl ?_
        refine kR.gr (a := 1) (b := 3) (k := 1) (by omega) rfl rfl rfl (by decide) (by decide) rfl ?_
        refine kR.s rfl rfl ?_
        refine kR.ia (a := 3) (v := (klb t n k : Int)) (by omega) rfl (by decide) (by omega) (by omega) (by exact (hC1.2.2.2 k (by omega)).1) ?_
        refine kR.s rfl rfl ?_
        refine kR.add ?_
        refine kR.s rfl rfl ?_
        refine kR.n ?_
        refine l_97c (f := f) (b := b) (d := d) hX hv (by omega) (kle t n k - (klb t n k + d)) (klb t n k + d) u1 S1 rfl (by omega) hC1 hu2 (by omega) (fun p' => ?_)
        show kR 2 97 b97_123 _ _ _ _
        refine kR.inc rfl ?_
        refine kR.g rfl ?_
        refine ih (k + 1) (u1 + (kslh t (kle t n k - (klb t n k + d)) (klb t n k + d)).length) _ _ (by omega) (by omega) (by omega) (kapl_ct _ _ _ hC1) (kapl_u _ _ _ hu2) (by rw [kslh_len]; omega) (kFm.apl _ _ _ hF1) (fun h => ?_) (fun h => ?_)
        · have z := hg (fun i h1 h2 h3 => by
            rcases Nat.lt_or_ge k i with g | g
            · exact h i (by omega) h2 h3
            · rw [show i = k by omega] at h3 ⊢
              exact hok h3)
          have e : kapl v (kpC t n d f (j + 1) k) u S = kapl v (kpC t n d f j (k + 1)) (u1 + (kslh t (kle t n k - (klb t n k + d)) (klb t n k + d)).length) (kapl v (kslh t (kle t n k - (klb t n k + d)) (klb t n k + d)) u1 S1) := by
            show kapl v ((if f < k then [(10 : Int)] else []) ++ (kslh t (kle t n k - (klb t n k + d)) (klb t n k + d) ++ kpC t n d f j (k + 1))) u S = _
            rw [kapl_app, kapl_app, ← hS1, ← hu1]
          rw [e] at z
          exact z
        · obtain ⟨i, h1, h2, h3, h4⟩ := h
          exact hb ⟨i, by omega, h2, h3, h4⟩
      have h53 : (krb t n k < kre t n k → (d : Int) ≤ kdp t n k) → kR 2 97 (blk 97 53) [.ref 56, .int (Int32.ofInt (v : Int)), .int (Int32.ofInt (f : Int)), .int (Int32.ofInt (b : Int)), .int (Int32.ofInt (d : Int)), .int (Int32.ofInt (k : Int)), v6] [] (sz, hp 57 E S) Q := fun hok => by
        show kR 2 97 b97_53 _ _ _ _
        refine kR.s rfl rfl ?_
        refine kR.s rfl rfl ?_
        refine kR.jle (by omega) (by omega) (by omega) (by omega) (fun q2 => ?_) (fun q2 => ?_)
        · exact h69 S u hok (by rw [if_neg (by omega)]; first | done | rfl) (by rw [if_neg (by omega)]; first | done | rfl)
        · refine kR.s rfl rfl ?_
          refine kR.gr (a := 56) (b := 20) (k := 1) (by omega) rfl rfl rfl (by decide) (by decide) rfl ?_
          refine kR.s rfl rfl ?_
          refine kR.bi rfl ?_
          have hl1 : (if f < k then [(10 : Int)] else []).length = 1 := by rw [if_pos (by omega)]; first | done | rfl
          refine kR.c0 rfl rfl (kR.up (c_38 (S := S) (E := E) (sz := sz) (x := 10) hv (by omega) hu (by omega)) (by decide)) ?_
          refine kR.n ?_
          exact h69 (kapt S v 10 u) (u + 1) hok (by rw [if_pos (by omega)]; first | done | rfl) (by rw [if_pos (by omega)]; first | done | rfl)
      refine kR.s rfl rfl ?_
      refine kR.gr (a := 56) (b := 1) (k := 0) (by omega) rfl rfl rfl (by decide) (by decide) rfl ?_
      refine kR.s rfl rfl ?_
      have k20 := c_20 (S := S) (E := E) (sz := sz) hX hC (l := k) (by omega)
      by_cases hr : krb t n k < kre t n k
      · rw [if_pos hr] at k20
        refine kR.cv (v := .int (Int32.ofInt 1)) rfl rfl (kR.up k20 (by decide)) ?_
        refine kR.zeq (by decide) (by decide) (fun q => absurd q (by decide)) (fun _ => ?_)
        refine kR.s rfl rfl ?_
        refine kR.gr (a := 56) (b := 1) (k := 0) (by omega) rfl rfl rfl (by decide) (by decide) rfl ?_
        refine kR.s rfl rfl ?_
        refine kR.cv (v := .int (Int32.ofInt ((krb t n k : Int) - (klb t n k : Int)))) rfl rfl (kR.up (c_22 (S := S) (E := E) (sz := sz) hX hC (l := k) (by omega)) (by decide)) ?_
        refine kR.s rfl rfl ?_
        refine kR.jge (by omega) (by omega) (by omega) (by omega) (fun q2 => ?_) (fun q2 => ?_)
        · exact h53 (fun _ => q2)
        · refine kR.t rfl rfl (Nat.le_of_ble_eq_true rfl) ?_
          exact hb ⟨k, Nat.le_refl _, by omega, hr, q2⟩ S hF
      · rw [if_neg hr] at k20
        refine kR.cv (v := .int (Int32.ofInt 0)) rfl rfl (kR.up k20 (by decide)) ?_
        refine kR.zeq (by decide) (by decide) (fun _ => ?_) (fun q => absurd rfl q)
        exact h53 (fun h => absurd h hr)
theorem c_97 (hX : kTx t n L) {v f b d u : Nat} (hv : v < 60) (hfb : f ≤ b) (hbL : b ≤ L) (hd : d ≤ 200) {Q : kO × kH → Prop} (hC : kCt S t n L) (hu : S 20 7 = (u : Int)) (hul : u + (kpC t n d f (b - f) f).length ≤ 200) (h : (∃ j0, f ≤ j0 ∧ j0 < b ∧ (∀ i, f ≤ i → i < j0 → ¬ krb t n i < kre t n i) ∧ krb t n j0 < kre t n j0 ∧ (d : Int) = kdp t n j0) ∨ ((d : Int) = 0 ∧ ∀ i, f ≤ i → i < b → ¬ krb t n i < kre t n i)) (hg : (∀ i, f ≤ i → i < b → krb t n i < kre t n i → (d : Int) ≤ kdp t n i) → Q (.inl none, (sz, hp 57 E (kapl v (kpC t n d f (b - f) f) u S)))) (hb : (∃ i, f ≤ i ∧ i < b ∧ krb t n i < kre t n i ∧ kdp t n i < (d : Int)) → ∀ S', kFm S S' → Q (.inr sz.1, knew (sz, hp 57 E S') 30 6 (fun _ => .null))) : kR 2 97 (blk 97 0) (kent 97 [.ref 56, .int (Int32.ofInt (v : Int)), .int (Int32.ofInt (f : Int)), .int (Int32.ofInt (b : Int))]) [] (sz, hp 57 E S) Q := by
  show kR 2 97 b97_0 _ _ _ _
  refine kR.s rfl rfl ?_
  refine kR.s rfl rfl ?_
  refine kR.s rfl rfl ?_
  refine kR.cv (v := .int (Int32.ofInt (d : Int))) rfl rfl (kR.up (c_98 (S := S) (E := E) (sz := sz) hX hC hbL hfb h) (by decide)) ?_
  refine kR.s rfl rfl ?_
  refine kR.s rfl rfl ?_
  refine kR.s rfl rfl ?_
  refine kR.n ?_
  exact l_97 hX hv hbL hd (b - f) f u S _ rfl (Nat.le_refl _) hfb hC hu hul kFm.rf hg hb
/-- from the place where both ends are known -/
theorem l_96c (hX : kTx t n L) {cc dd kp : Int} (hkp : kp = 0 ∨ kp = 1) {f st bh u v : Nat} {dp w : Int} (hI : kInv t n f st bh dp w) (hst : st ≤ L) {v7 : Value} {B : Nat → Nat → Int} {Q : kO × kH → Prop} (k62 : kR 1 62 (blk 62 0) (kent 62 [.ref 54, .int (Int32.ofInt 3), .long (Int64.ofInt 0), .int (Int32.ofInt dd)]) [] (sz, hp 57 E S) (fun r => r = (.inl (some (.int (Int32.ofInt (v : Int)))), (sz, hp 57 E B)))) (hv : v < 60) (hC : kCt B t n L) (hu : B 20 7 = (u : Int)) (hul : u + (kpB t n dp.toNat kp bh (bh - f) f).length ≤ 200) (hg : w = 0 → Q (.inl (some (.int (Int32.ofInt (v : Int)))), (sz, hp 57 E (kgo (kapl v (kpB t n dp.toNat kp bh (bh - f) f) u B) t n L (kVd t n L st))))) (hb : w = 1 → ∀ S', kFm B S' → Q (.inr sz.1, knew (sz, hp 57 E S') 30 6 (fun _ => .null))) : kR 3 96 (blk 96 89) [.ref 56, .int (Int32.ofInt cc), .int (Int32.ofInt dd), .int (Int32.ofInt kp), .int (Int32.ofInt (f : Int)), .int (Int32.ofInt (st : Int)), .int (Int32.ofInt (bh : Int)), v7] [] (sz, hp 57 E S) Q := by
  obtain ⟨i1, i2, i3, i4, i5, i6, i7, i8, i9⟩ := hI
  have hx1 := hX.1
  have hx2 := hX.2.2.2.1
  have hend : ∀ (Z : Nat → Nat → Int), kCt Z t n L → (w = 0 → Q (.inl (some (.int (Int32.ofInt (v : Int)))), (sz, hp 57 E (kgo Z t n L (kVd t n L st))))) → w = 0 → kR 3 96 (blk 96 133) [.ref 56, .int (Int32.ofInt cc), .int (Int32.ofInt dd), .int (Int32.ofInt kp), .int (Int32.ofInt (f : Int)), .int (Int32.ofInt (st : Int)), .int (Int32.ofInt (bh : Int)), .int (Int32.ofInt (v : Int))] [] (sz, hp 57 E Z) Q := fun Z hZ hq hw => by
    show kR 3 96 b96_133 _ _ _ _
    refine kR.s rfl rfl ?_
    refine kR.gr (a := 56) (b := 53) (k := 2) (by omega) rfl rfl rfl (by decide) (by decide) rfl ?_
    refine kR.s rfl rfl ?_
    refine kR.c0 rfl rfl (kR.up (c_48 (S := Z) (E := E) (sz := sz) hX hZ (f := st) hst) (by decide)) ?_
    refine kR.s rfl rfl ?_
    refine kR.ret rfl rfl ?_
    exact hq hw
  show kR 3 96 b96_89 _ _ _ _
  refine kR.s rfl rfl ?_
  refine kR.gr (a := 56) (b := 54) (k := 3) (by omega) rfl rfl rfl (by decide) (by decide) rfl ?_
  refine kR.s rfl rfl ?_
  refine kR.s rfl rfl ?_
  refine kR.s rfl rfl ?_
  refine kR.cv rfl rfl (kR.up k62 (by decide)) ?_
  refine kR.s rfl rfl ?_
  refine kR.s rfl rfl ?_
  refine kR.s rfl rfl ?_
  refine kR.s rfl rfl ?_
  refine kR.s rfl rfl ?_
  rcases Nat.lt_or_ge f bh with hfb | hfb
  · obtain ⟨j0, a1, a2, a3, a4, a5⟩ := i6 hfb
    have hl0 := hX.ln (l := j0) (by omega)
    obtain ⟨d, hd⟩ : ∃ d : Nat, dp = (d : Int) := ⟨dp.toNat, by rw [a5]; unfold kdp; omega⟩
    have hdt : dp.toNat = d := by rw [hd]; rfl
    have hd2 : d ≤ 200 := by
      have : (d : Int) = (krb t n j0 : Int) - (klb t n j0 : Int) := by rw [← hd]; exact a5
      omega
    rw [hdt, kpC_all t n d f bh kp hkp hfb] at hul hg
    rw [List.length_append] at hul
    rcases i7 with hw | hw
    · have k97 := c_97 (S := B) (E := E) (sz := sz) (Q := fun r => r = (.inl none, (sz, hp 57 E (kapl v (kpC t n d f (bh - f) f) u B)))) hX hv i1 (by omega) hd2 hC hu (by omega) (Or.inl ⟨j0, a1, a2, a3, a4, by rw [← hd]; exact a5⟩) (fun _ => rfl) (fun ⟨i, h1, h2, h3, h4⟩ => by have z := i9 hw i h1 h2 h3; exact absurd h4 (by omega))
      refine kR.c0 rfl rfl (kR.up k97 (by decide)) ?_
      refine kR.s rfl rfl ?_
      rcases hkp with hkp | hkp
      · subst hkp
        refine kR.zeq (by decide) (by decide) (fun _ => ?_) (fun q => absurd rfl q)
        rw [if_neg (by decide), List.append_nil] at hg
        exact hend _ (kapl_ct _ _ _ hC) hg hw
      · subst hkp
        refine kR.zeq (by decide) (by decide) (fun q => absurd q (by decide)) (fun _ => ?_)
        refine kR.s rfl rfl ?_
        refine kR.s rfl rfl ?_
        refine kR.jle (by omega) (by omega) (by omega) (by omega) (fun q2 => absurd q2 (by omega)) (fun q2 => ?_)
        refine kR.s rfl rfl ?_
        refine kR.gr (a := 56) (b := 20) (k := 1) (by omega) rfl rfl rfl (by decide) (by decide) rfl ?_
        refine kR.s rfl rfl ?_
        refine kR.bi rfl ?_
        rw [if_pos rfl] at hul hg
        refine kR.c0 rfl rfl (kR.up (c_38 (S := kapl v (kpC t n d f (bh - f) f) u B) (E := E) (sz := sz) (x := 10) hv (by omega) (kapl_u _ _ _ hu) (by simp only [List.length_cons, List.length_nil] at hul; omega)) (by decide)) ?_
        refine kR.n ?_
        rw [kapl_app] at hg
        exact hend _ (by exact kapl_ct (v := v) (kpC t n d f (bh - f) f) u B hC) hg hw
    · have k97 := c_97 (S := B) (E := E) (sz := sz) (Q := kTh sz E B) hX hv i1 (by omega) hd2 hC hu (by omega) (Or.inl ⟨j0, a1, a2, a3, a4, by rw [← hd]; exact a5⟩) (fun h => by
        obtain ⟨i, h1, h2, h3, h4⟩ := i8 hw
        have z := h i h1 h2 h3
        exact absurd h4 (by omega)) (fun _ S' hS' => ⟨S', rfl, hS'⟩)
      refine kR.c rfl rfl (kR.up k97 (by decide)) (fun r hr => ?_)
      obtain ⟨S', e1, e2⟩ := hr
      subst e1
      exact (kTh.mk e2 : kTh sz E B _).tag rfl (hb hw S' e2)
  · have hbf : bh = f := by omega
    obtain ⟨b1, b2⟩ := i5 hbf
    have e0 : kpB t n dp.toNat kp bh (bh - f) f = [] := by
      rw [show bh - f = 0 by omega]
      rfl
    rw [e0] at hul hg
    have e1 : kpC t n 0 f (bh - f) f = [] := by
      rw [show bh - f = 0 by omega]
      rfl
    have k97 := c_97 (S := B) (E := E) (sz := sz) (d := 0) (Q := fun r => r = (.inl none, (sz, hp 57 E (kapl v (kpC t n 0 f (bh - f) f) u B)))) hX hv i1 (by omega) (by omega) hC hu (by rw [e1]; exact hul) (Or.inr ⟨rfl, fun i h1 h2 => by omega⟩) (fun _ => rfl) (fun ⟨i, h1, h2, h3, h4⟩ => absurd h2 (by omega))
    rw [e1] at k97
    refine kR.c0 rfl rfl (kR.up k97 (by decide)) ?_
    refine kR.s rfl rfl ?_
    rcases hkp with hkp | hkp
    · subst hkp
      refine kR.zeq (by decide) (by decide) (fun _ => ?_) (fun q => absurd rfl q)
      exact hend _ hC hg b2
    · subst hkp
      refine kR.zeq (by decide) (by decide) (fun q => absurd q (by decide)) (fun _ => ?_)
      refine kR.s rfl rfl ?_
      refine kR.s rfl rfl ?_
      refine kR.jle (by omega) (by omega) (by omega) (by omega) (fun q2 => ?_) (fun q2 => absurd q2 (by omega))
      exact hend _ hC hg b2
/-- whoever stops so, stops there -/
theorem stop_uniq {cc : Int} {f st bh st' bh' : Nat} {dp w : Int} (hI : kInv t n f st bh dp w) (h1 : f ≤ st) (h2 : st ≤ L) (h3 : ∀ i, f ≤ i → i < st → ¬ (krb t n i < kre t n i ∧ kdp t n i ≤ cc)) (h4 : st < L → krb t n st < kre t n st ∧ kdp t n st ≤ cc) (g1 : f ≤ st') (g2 : st' ≤ L) (g3 : ∀ i, f ≤ i → i < st' → ¬ (krb t n i < kre t n i ∧ kdp t n i ≤ cc)) (g4 : st' < L → krb t n st' < kre t n st' ∧ kdp t n st' ≤ cc) (b1 : f ≤ bh') (b2 : bh' ≤ st') (b3 : ∀ i, bh' ≤ i → i < st' → ¬ krb t n i < kre t n i) (b4 : f < bh' → krb t n (bh' - 1) < kre t n (bh' - 1)) : st' = st ∧ bh' = bh := by
  obtain ⟨i1, i2, i3, i4, _⟩ := hI
  have hs : st' = st := by
    rcases Nat.lt_trichotomy st st' with h | h | h
    · exact absurd (h4 (by omega)) (g3 st h1 h)
    · exact h.symm
    · exact absurd (g4 (by omega)) (h3 st' g1 h)
  subst hs
  refine ⟨rfl, ?_⟩
  rcases Nat.lt_trichotomy bh bh' with h | h | h
  · exact absurd (b4 (by omega)) (i3 (bh' - 1) (by omega) (by omega))
  · exact h.symm
  · exact absurd (i4 (by omega)) (b3 (bh - 1) (by omega) (by omega))
/-- to the place where both ends are known -/
theorem c_96 (hX : kTx t n L) (hC : kCt S t n L) {l : Nat} (hl : l < L) (h1 : S 53 1 = (l : Int)) {cc dd kp : Int} (hcc : 0 ≤ cc ∧ cc ≤ 200) {st bh : Nat} {dp w : Int} (hka : kpA t n cc (L - (l + 1)) (l + 1) (l + 1) (-1) 0 = (st, bh, dp, w)) {Q : kO × kH → Prop} (h : ∀ v7 : Value, kR 3 96 (blk 96 89) [.ref 56, .int (Int32.ofInt cc), .int (Int32.ofInt dd), .int (Int32.ofInt kp), .int (Int32.ofInt ((l + 1 : Nat) : Int)), .int (Int32.ofInt (st : Int)), .int (Int32.ofInt (bh : Int)), v7] [] (sz, hp 57 E S) Q) : kR 3 96 (blk 96 0) (kent 96 [.ref 56, .int (Int32.ofInt cc), .int (Int32.ofInt dd), .int (Int32.ofInt kp)]) [] (sz, hp 57 E S) Q := by
  obtain ⟨hI, s1, s2, s3, s4⟩ := kpA_all hX (by omega) hka
  have hx2 := hX.2.2.2.1
  show kR 3 96 b96_0 _ _ _ _
  refine kR.s rfl rfl ?_
  refine kR.gr (a := 56) (b := 53) (k := 2) (by omega) rfl rfl rfl (by decide) (by decide) rfl ?_
  refine kR.gi (a := 53) (k := 1) (v := (l : Int)) (by omega) rfl rfl rfl (by decide) (by decide) rfl (by exact h1) ?_
  refine kR.s rfl rfl ?_
  refine kR.add ?_
  refine kR.s rfl rfl ?_
  refine kR.s rfl rfl ?_
  refine kR.s rfl rfl ?_
  refine kR.n ?_
  refine l_96a (f := l + 1) hX hC hcc (L - (l + 1)) (l + 1) rfl (by omega) (fun st' g1 g2 g3 g4 => ?_)
  show kR 3 96 b96_58 _ _ _ _
  refine kR.s rfl rfl ?_
  refine kR.s rfl rfl ?_
  refine kR.n ?_
  refine l_96b (f := l + 1) (st := st') hX hC (st' - (l + 1)) st' rfl g1 g2 (fun bh' b1 b2 b3 b4 => ?_)
  obtain ⟨e1, e2⟩ := stop_uniq hI s1 s2 s3 s4 g1 g2 g3 g4 b1 b2 b3 b4
  rw [e1, e2]
  exact h _
end KCP
