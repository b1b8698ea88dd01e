/-! The class: split. By program (wip/gen/gen67.py). -/
theorem l_19b {m : Nat} {E : Nat → kC} {S : Nat → Nat → Int} {sz : Nat × Nat} (hm : 53 ≤ m ∧ m ≤ 57) {t : Nat → Int} {n L : Nat} (hX : kTx t n L) (hT : ∀ j, j < n → S 2 j = t j) {l : Nat} (hl : l < L) (hl6 : S 1 6 = (l : Int)) : ∀ (j k : Nat), k = j → krb t n l ≤ k → k ≤ kle t n l → kre t n l = kb (fun i => decide (t i = 32)) (krb t n l) k → kR 0 19 (blk 19 27) [.ref 1, .int (Int32.ofInt (klb t n l : Int)), .int (Int32.ofInt (kle t n l : Int)), .int (Int32.ofInt ((krb t n l) : Int)), .int (Int32.ofInt (k : Int))] [] (sz, hp m E S) (fun r => r = (.inl none, (sz, hp m E (ku (ku (ku (ku (ku S 3 l (klb t n l : Int)) 4 l (kle t n l : Int)) 5 l (krb t n l : Int)) 6 l (kre t n l : Int)) 1 6 ((l : Int) + 1))))) := by
  intro j
  induction j using Nat.strongRecOn with
  | _ j ih =>
    intro k hj hk1 hk2 hke
    have hx1 := hX.1
    have hx7 := hX.ln hl
    have hx2 := hX.2.2.2.1
    have z0 := hX.2.1 (k - 1)
    show kR 0 19 b19_27 _ _ _ _
    refine kR.s rfl rfl ?_
    refine kR.s rfl rfl ?_
    refine kR.jle (by omega) (by omega) (by omega) (by omega) (fun q1 => ?_) (fun q1 => ?_)
    · skip
      rw [kb_no (by omega) (by first | (left; omega) | (right; exact decide_eq_false ‹_›))] at hke
      show kR 0 19 b19_53 _ _ _ _
      refine kR.s rfl rfl ?_
      refine kR.gr (a := 1) (b := 3) (k := 1) (by omega) rfl rfl rfl (by decide) (by decide) rfl ?_
      refine kR.s rfl rfl ?_
      refine kR.gi (a := 1) (k := 6) (v := (l : Int)) (by omega) rfl rfl rfl (by decide) (by decide) rfl (by exact hl6) ?_
      refine kR.s rfl rfl ?_
      refine kR.ist (a := 3) (by omega) rfl (by decide) (by omega) (by omega) ?_
      refine kR.s rfl rfl ?_
      refine kR.gr (a := 1) (b := 4) (k := 2) (by omega) rfl rfl rfl (by decide) (by decide) rfl ?_
      refine kR.s rfl rfl ?_
      refine kR.gi (a := 1) (k := 6) (v := (l : Int)) (by omega) rfl rfl rfl (by decide) (by decide) rfl (by exact hl6) ?_
      refine kR.s rfl rfl ?_
      refine kR.ist (a := 4) (by omega) rfl (by decide) (by omega) (by omega) ?_
      refine kR.s rfl rfl ?_
      refine kR.gr (a := 1) (b := 5) (k := 3) (by omega) rfl rfl rfl (by decide) (by decide) rfl ?_
      refine kR.s rfl rfl ?_
      refine kR.gi (a := 1) (k := 6) (v := (l : Int)) (by omega) rfl rfl rfl (by decide) (by decide) rfl (by exact hl6) ?_
      refine kR.s rfl rfl ?_
      refine kR.ist (a := 5) (by omega) rfl (by decide) (by omega) (by omega) ?_
      refine kR.s rfl rfl ?_
      refine kR.gr (a := 1) (b := 6) (k := 4) (by omega) rfl rfl rfl (by decide) (by decide) rfl ?_
      refine kR.s rfl rfl ?_
      refine kR.gi (a := 1) (k := 6) (v := (l : Int)) (by omega) rfl rfl rfl (by decide) (by decide) rfl (by exact hl6) ?_
      refine kR.s rfl rfl ?_
      refine kR.ist (a := 6) (by omega) rfl (by decide) (by omega) (by omega) ?_
      refine kR.s rfl rfl ?_
      refine kR.s rfl rfl ?_
      refine kR.gi (a := 1) (k := 6) (v := (l : Int)) (by omega) rfl rfl rfl (by decide) (by decide) rfl (by exact hl6) ?_
      refine kR.s rfl rfl ?_
      refine kR.add ?_
      refine kR.pi (a := 1) (k := 6) (by omega) rfl rfl rfl (by decide) (by decide) rfl rfl ?_
      refine kR.ret rfl rfl ?_
      rw [hke]
      rfl
    · skip
      refine kR.s rfl rfl ?_
      refine kR.gr (a := 1) (b := 2) (k := 0) (by omega) rfl rfl rfl (by decide) (by decide) rfl ?_
      refine kR.s rfl rfl ?_
      refine kR.s rfl rfl ?_
      refine kR.sub ?_
      rw [show (k : Int) - 1 = ((k - 1 : Nat) : Int) by omega]
      refine kR.ca (a := 2) (v := t (k - 1)) (by omega) rfl (by decide) (by omega) (by omega) (by exact hT _ (by omega)) ?_
      refine kR.bi rfl ?_
      refine kR.jne (by omega) (by omega) (by omega) (by omega) (fun q2 => ?_) (fun q2 => ?_)
      · skip
        rw [kb_no (by omega) (by first | (left; omega) | (right; exact decide_eq_false ‹_›))] at hke
        show kR 0 19 b19_53 _ _ _ _
        refine kR.s rfl rfl ?_
        refine kR.gr (a := 1) (b := 3) (k := 1) (by omega) rfl rfl rfl (by decide) (by decide) rfl ?_
        refine kR.s rfl rfl ?_
        refine kR.gi (a := 1) (k := 6) (v := (l : Int)) (by omega) rfl rfl rfl (by decide) (by decide) rfl (by exact hl6) ?_
        refine kR.s rfl rfl ?_
        refine kR.ist (a := 3) (by omega) rfl (by decide) (by omega) (by omega) ?_
        refine kR.s rfl rfl ?_
        refine kR.gr (a := 1) (b := 4) (k := 2) (by omega) rfl rfl rfl (by decide) (by decide) rfl ?_
        refine kR.s rfl rfl ?_
        refine kR.gi (a := 1) (k := 6) (v := (l : Int)) (by omega) rfl rfl rfl (by decide) (by decide) rfl (by exact hl6) ?_
        refine kR.s rfl rfl ?_
        refine kR.ist (a := 4) (by omega) rfl (by decide) (by omega) (by omega) ?_
        refine kR.s rfl rfl ?_
        refine kR.gr (a := 1) (b := 5) (k := 3) (by omega) rfl rfl rfl (by decide) (by decide) rfl ?_
        refine kR.s rfl rfl ?_
        refine kR.gi (a := 1) (k := 6) (v := (l : Int)) (by omega) rfl rfl rfl (by decide) (by decide) rfl (by exact hl6) ?_
        refine kR.s rfl rfl ?_
        refine kR.ist (a := 5) (by omega) rfl (by decide) (by omega) (by omega) ?_
        refine kR.s rfl rfl ?_
        refine kR.gr (a := 1) (b := 6) (k := 4) (by omega) rfl rfl rfl (by decide) (by decide) rfl ?_
        refine kR.s rfl rfl ?_
        refine kR.gi (a := 1) (k := 6) (v := (l : Int)) (by omega) rfl rfl rfl (by decide) (by decide) rfl (by exact hl6) ?_
        refine kR.s rfl rfl ?_
        refine kR.ist (a := 6) (by omega) rfl (by decide) (by omega) (by omega) ?_
        refine kR.s rfl rfl ?_
        refine kR.s rfl rfl ?_
        refine kR.gi (a := 1) (k := 6) (v := (l : Int)) (by omega) rfl rfl rfl (by decide) (by decide) rfl (by exact hl6) ?_
        refine kR.s rfl rfl ?_
        refine kR.add ?_
        refine kR.pi (a := 1) (k := 6) (by omega) rfl rfl rfl (by decide) (by decide) rfl rfl ?_
        refine kR.ret rfl rfl ?_
        rw [hke]
        rfl
      · skip
        refine kR.inc rfl ?_
        refine kR.g rfl ?_
        rw [kb_go (by omega) (decide_eq_true ‹_›)] at hke
        have z := ih (k - 1) (by omega) (k - 1) rfl (by omega) (by omega) hke
        rw [show ((k - 1 : Nat) : Int) = (k : Int) + -1 by omega] at z
        exact z
theorem l_19a {m : Nat} {E : Nat → kC} {S : Nat → Nat → Int} {sz : Nat × Nat} (hm : 53 ≤ m ∧ m ≤ 57) {t : Nat → Int} {n L : Nat} (hX : kTx t n L) (hT : ∀ j, j < n → S 2 j = t j) {l : Nat} (hl : l < L) (hl6 : S 1 6 = (l : Int)) {v4 : Value} : ∀ (j k : Nat), kle t n l - k = j → klb t n l ≤ k → k ≤ kle t n l → krb t n l = kw (fun i => decide (t i = 32)) (kle t n l) k → kR 0 19 (blk 19 2) [.ref 1, .int (Int32.ofInt (klb t n l : Int)), .int (Int32.ofInt (kle t n l : Int)), .int (Int32.ofInt (k : Int)), v4] [] (sz, hp m E S) (fun r => r = (.inl none, (sz, hp m E (ku (ku (ku (ku (ku S 3 l (klb t n l : Int)) 4 l (kle t n l : Int)) 5 l (krb t n l : Int)) 6 l (kre t n l : Int)) 1 6 ((l : Int) + 1))))) := by
  intro j
  induction j using Nat.strongRecOn with
  | _ j ih =>
    intro k hj hk1 hk2 hkb
    have hx1 := hX.1
    have hx7 := hX.ln hl
    have hx2 := hX.2.2.2.1
    have z0 := hX.2.1 k
    show kR 0 19 b19_2 _ _ _ _
    refine kR.s rfl rfl ?_
    refine kR.s rfl rfl ?_
    refine kR.jge (by omega) (by omega) (by omega) (by omega) (fun q1 => ?_) (fun q1 => ?_)
    · skip
      rw [kw_no (by first | (left; omega) | (right; exact decide_eq_false ‹_›))] at hkb
      rw [← hkb]
      show kR 0 19 b19_24 _ _ _ _
      refine kR.s rfl rfl ?_
      refine kR.s rfl rfl ?_
      refine kR.n ?_
      exact l_19b hm hX hT hl hl6 (kle t n l) (kle t n l) rfl (by omega) (by omega) rfl
    · skip
      refine kR.s rfl rfl ?_
      refine kR.gr (a := 1) (b := 2) (k := 0) (by omega) rfl rfl rfl (by decide) (by decide) rfl ?_
      refine kR.s rfl rfl ?_
      refine kR.ca (a := 2) (v := t k) (by omega) rfl (by decide) (by omega) (by omega) (by exact (hT _ (by omega))) ?_
      refine kR.bi rfl ?_
      refine kR.jne (by omega) (by omega) (by omega) (by omega) (fun q2 => ?_) (fun q2 => ?_)
      · skip
        rw [kw_no (by first | (left; omega) | (right; exact decide_eq_false ‹_›))] at hkb
        rw [← hkb]
        show kR 0 19 b19_24 _ _ _ _
        refine kR.s rfl rfl ?_
        refine kR.s rfl rfl ?_
        refine kR.n ?_
        exact l_19b hm hX hT hl hl6 (kle t n l) (kle t n l) rfl (by omega) (by omega) rfl
      · skip
        refine kR.inc rfl ?_
        refine kR.g rfl ?_
        rw [kw_go (by omega) (decide_eq_true ‹_›)] at hkb
        exact ih (kle t n l - (k + 1)) (by omega) (k + 1) rfl (by omega) (by omega) hkb
theorem c_19 {m : Nat} {E : Nat → kC} {S : Nat → Nat → Int} {sz : Nat × Nat} (hm : 53 ≤ m ∧ m ≤ 57) {t : Nat → Int} {n L : Nat} (hX : kTx t n L) (hT : ∀ j, j < n → S 2 j = t j) {l : Nat} (hl : l < L) (hl6 : S 1 6 = (l : Int)) : kR 0 19 (blk 19 0) (kent 19 [.ref 1, .int (Int32.ofInt (klb t n l : Int)), .int (Int32.ofInt (kle t n l : Int))]) [] (sz, hp m E S) (fun r => r = (.inl none, (sz, hp m E (ku (ku (ku (ku (ku S 3 l (klb t n l : Int)) 4 l (kle t n l : Int)) 5 l (krb t n l : Int)) 6 l (kre t n l : Int)) 1 6 ((l : Int) + 1))))) := by
  have hx7 := hX.ln hl
  show kR 0 19 b19_0 _ _ _ _
  refine kR.s rfl rfl ?_
  refine kR.s rfl rfl ?_
  refine kR.n ?_
  exact l_19a hm hX hT hl hl6 (kle t n l - klb t n l) (klb t n l) rfl (by omega) (by omega) rfl
/-- so far split: l lines; all else as it was -/
def kSp (S S1 : Nat → Nat → Int) (t : Nat → Int) (n l : Nat) : Prop := S1 1 6 = (l : Int) ∧ (∀ j, j < l → S1 3 j = klb t n j ∧ S1 4 j = kle t n j ∧ S1 5 j = krb t n j ∧ S1 6 j = kre t n j) ∧ (∀ a, a ≠ 1 → a ≠ 3 → a ≠ 4 → a ≠ 5 → a ≠ 6 → S1 a = S a) ∧ (∀ k, k ≠ 6 → S1 1 k = S 1 k)
theorem kSp.add {S S1 : Nat → Nat → Int} {t : Nat → Int} {n l : Nat} (h : kSp S S1 t n l) : kSp S (ku (ku (ku (ku (ku S1 3 l (klb t n l : Int)) 4 l (kle t n l : Int)) 5 l (krb t n l : Int)) 6 l (kre t n l : Int)) 1 6 ((l : Int) + 1)) t n (l + 1) := by
  obtain ⟨h1, h2, h3, h4⟩ := h
  refine ⟨rfl, fun j hj => ?_, fun a e1 e3 e4 e5 e6 => ?_, fun k hk => ?_⟩
  · show (if j = l then (klb t n l : Int) else S1 3 j) = _ ∧ (if j = l then (kle t n l : Int) else S1 4 j) = _ ∧ (if j = l then (krb t n l : Int) else S1 5 j) = _ ∧ (if j = l then (kre t n l : Int) else S1 6 j) = _
    by_cases e : j = l
    · subst e
      simp
    · simp only [if_neg e]
      exact h2 j (by omega)
  · rw [← h3 a e1 e3 e4 e5 e6]
    unfold ku kup
    simp [e1, e3, e4, e5, e6]
  · rw [← h4 k hk]
    show (if k = 6 then _ else S1 1 k) = _
    rw [if_neg hk]
theorem l_18 {m : Nat} {E : Nat → kC} {S : Nat → Nat → Int} {sz : Nat × Nat} (hm : 53 ≤ m ∧ m ≤ 57) {t : Nat → Int} {n L : Nat} (hX : kTx t n L) (hT : ∀ j, j < n → S 2 j = t j) (hn5 : S 1 5 = (n : Int)) : ∀ (j p l : Nat) (S1 : Nat → Nat → Int), n + 1 - p = j → p ≤ n + 1 → l ≤ L → klb t n l ≤ p → (p ≤ n → l < L ∧ p ≤ kle t n l) → (p = n + 1 → klb t n l = n + 1) → kSp S S1 t n l → kR 1 18 (blk 18 9) [.ref 1, .int (Int32.ofInt (klb t n l : Int)), .int (Int32.ofInt (p : Int))] [] (sz, hp m E S1) (fun r => ∃ S2, r = (.inl none, (sz, hp m E S2)) ∧ kSp S S2 t n L) := by
  intro j
  induction j using Nat.strongRecOn with
  | _ j ih =>
    intro p l S1 hj hpn hlL hlp hp1 hp2 hS
    have hx1 := hX.1
    have z0 := hX.2.1 p
    have hx7 : l < L → klb t n l ≤ krb t n l ∧ krb t n l ≤ kre t n l ∧ kre t n l ≤ kle t n l ∧ kle t n l ≤ n := fun z => hX.ln z
    have hT1 : ∀ j, j < n → S1 2 j = t j := fun j hj => by rw [hS.2.2.1 2 (by decide) (by decide) (by decide) (by decide) (by decide)]; exact hT j hj
    have hn1 : S1 1 5 = (n : Int) := by rw [hS.2.2.2 5 (by decide)]; exact hn5
    have hkl : klb t n (l + 1) = kle t n l + 1 := rfl
    have hke : p ≤ n → (p = n ∨ t p = 10) → p = kle t n l := fun z y => by
      have w := hp1 z
      rcases Nat.lt_or_ge p (kle t n l) with q | q
      · exact absurd (kln10 hlp q) (by rcases y with y | y; (have := hx7 w.1; omega); (intro q2; exact q2 y))
      · omega
    have hkn : l < L → l + 1 < L ∨ klb t n (l + 1) = n + 1 := fun z => by
      rcases Nat.lt_or_ge (l + 1) L with q | q
      · exact Or.inl q
      · right
        rw [show l + 1 = L by omega]
        exact hX.2.2.2.2.2
    show kR 1 18 b18_9 _ _ _ _
    refine kR.s rfl rfl ?_
    refine kR.s rfl rfl ?_
    refine kR.gi (a := 1) (k := 5) (v := (n : Int)) (by omega) rfl rfl rfl (by decide) (by decide) rfl (by exact hn1) ?_
    refine kR.jgt (by omega) (by omega) (by omega) (by omega) (fun q1 => ?_) (fun q1 => ?_)
    · skip
      have hlast : l = L := by
        have e1 := hp2 (by omega)
        rcases Nat.lt_or_ge l L with q | q
        · have := klb_lt (t := t) (n := n) q
          have := hX.2.2.2.2.2
          omega
        · omega
      subst hlast
      show kR 1 18 b18_52 _ _ _ _
      refine kR.ret rfl rfl ?_
      exact ⟨S1, rfl, hS⟩
    · skip
      refine kR.s rfl rfl ?_
      refine kR.s rfl rfl ?_
      refine kR.gi (a := 1) (k := 5) (v := (n : Int)) (by omega) rfl rfl rfl (by decide) (by decide) rfl (by exact hn1) ?_
      refine kR.jeq (by omega) (by omega) (by omega) (by omega) (fun q2 => ?_) (fun q2 => ?_)
      · skip
        show kR 1 18 b18_36 _ _ _ _
        refine kR.s rfl rfl ?_
        refine kR.s rfl rfl ?_
        refine kR.s rfl rfl ?_
        have hpk := hke (by omega) (by omega)
        rw [hpk]
        refine kR.c0 (kargs_m hm (by decide) rfl) rfl (c_19 hm hX hT1 (hp1 (by omega)).1 hS.1) ?_
        rw [← hpk]
        refine kR.s rfl rfl ?_
        refine kR.s rfl rfl ?_
        refine kR.add ?_
        refine kR.s rfl rfl ?_
        refine kR.n ?_
        show kR 1 18 b18_46 [.ref 1, .int (Int32.ofInt ((p : Int) + 1)), .int (Int32.ofInt (p : Int))] [] _ _
        rw [show (p : Int) + 1 = (klb t n (l + 1) : Int) by rw [hkl]; omega]
        show kR 1 18 b18_46 _ _ _ _
        refine kR.inc rfl ?_
        refine kR.g rfl ?_
        have hkk := hkn (hp1 (by omega)).1
        have hl2 := (hp1 (by omega)).1
        have hlb : l + 1 < L → klb t n (l + 1) ≤ kle t n (l + 1) := fun z => by have := hX.ln z; omega
        refine ih (n + 1 - (p + 1)) (by omega) (p + 1) (l + 1) _ rfl (by omega) (by omega) (by omega) (fun z => ⟨by omega, by omega⟩) (fun z => by omega) (by have z := hS.add; rw [← hpk] at z; exact z)
      · skip
        refine kR.s rfl rfl ?_
        refine kR.gr (a := 1) (b := 2) (k := 0) (by omega) rfl rfl rfl (by decide) (by decide) rfl ?_
        refine kR.s rfl rfl ?_
        refine kR.ca (a := 2) (v := t p) (by omega) rfl (by decide) (by omega) (by omega) (by exact (hT1 _ (by omega))) ?_
        refine kR.bi rfl ?_
        refine kR.jne (by omega) (by omega) (by omega) (by omega) (fun q3 => ?_) (fun q3 => ?_)
        · skip
          show kR 1 18 b18_46 _ _ _ _
          refine kR.inc rfl ?_
          refine kR.g rfl ?_
          have hne : p < kle t n l := by
            rcases Nat.lt_or_ge p (kle t n l) with q | q
            · exact q
            · have w := (hp1 (by omega))
              have e1 : p = kle t n l := by omega
              have e2 : kle t n l < n := by omega
              have e3 : decide (t (kle t n l) ≠ 10) = false := kw_at (p := fun i => decide (t i ≠ 10)) e2
              have e4 := of_decide_eq_false e3
              rw [← e1] at e4
              exact absurd ‹_› e4
          exact ih (n + 1 - (p + 1)) (by omega) (p + 1) l S1 rfl (by omega) hlL (by omega) (fun z => ⟨(hp1 (by omega)).1, by omega⟩) (fun z => by have := hx7 (hp1 (by omega)).1; omega) hS
        · skip
          refine kR.n ?_
          show kR 1 18 b18_36 _ _ _ _
          refine kR.s rfl rfl ?_
          refine kR.s rfl rfl ?_
          refine kR.s rfl rfl ?_
          have hpk := hke (by omega) (by omega)
          rw [hpk]
          refine kR.c0 (kargs_m hm (by decide) rfl) rfl (c_19 hm hX hT1 (hp1 (by omega)).1 hS.1) ?_
          rw [← hpk]
          refine kR.s rfl rfl ?_
          refine kR.s rfl rfl ?_
          refine kR.add ?_
          refine kR.s rfl rfl ?_
          refine kR.n ?_
          show kR 1 18 b18_46 [.ref 1, .int (Int32.ofInt ((p : Int) + 1)), .int (Int32.ofInt (p : Int))] [] _ _
          rw [show (p : Int) + 1 = (klb t n (l + 1) : Int) by rw [hkl]; omega]
          show kR 1 18 b18_46 _ _ _ _
          refine kR.inc rfl ?_
          refine kR.g rfl ?_
          have hkk := hkn (hp1 (by omega)).1
          have hl2 := (hp1 (by omega)).1
          have hlb : l + 1 < L → klb t n (l + 1) ≤ kle t n (l + 1) := fun z => by have := hX.ln z; omega
          refine ih (n + 1 - (p + 1)) (by omega) (p + 1) (l + 1) _ rfl (by omega) (by omega) (by omega) (fun z => ⟨by omega, by omega⟩) (fun z => by omega) (by have z := hS.add; rw [← hpk] at z; exact z)
theorem c_18 {m : Nat} {E : Nat → kC} {S : Nat → Nat → Int} {sz : Nat × Nat} (hm : 53 ≤ m ∧ m ≤ 57) {t : Nat → Int} {n L : Nat} (hX : kTx t n L) (hT : ∀ j, j < n → S 2 j = t j) (hn5 : S 1 5 = (n : Int)) : kR 1 18 (blk 18 0) (kent 18 [.ref 1]) [] (sz, hp m E S) (fun r => ∃ S2, r = (.inl none, (sz, hp m E S2)) ∧ kSp S S2 t n L) := by
  have hx3 := hX.2.2.1
  have hl0 := hX.ln (show 0 < L by omega)
  show kR 1 18 b18_0 _ _ _ _
  refine kR.s rfl rfl ?_
  refine kR.s rfl rfl ?_
  refine kR.pi (a := 1) (k := 6) (by omega) rfl rfl rfl (by decide) (by decide) rfl rfl ?_
  refine kR.s rfl rfl ?_
  refine kR.s rfl rfl ?_
  refine kR.s rfl rfl ?_
  refine kR.s rfl rfl ?_
  refine kR.n ?_
  exact l_18 hm hX hT hn5 (n + 1) 0 0 _ rfl (by omega) (by omega) (by show (0 : Nat) ≤ 0; omega) (fun _ => ⟨by omega, by omega⟩) (fun z => by omega) ⟨rfl, fun j hj => by omega, fun a e1 e3 e4 e5 e6 => if_neg e1, fun k hk => if_neg hk⟩
