/-! The class's Text and Cursor. By program (wip/gen/gen40.py). -/
/-- the class's text lies split into its lines -/
def kCt (S : Nat → Nat → Int) (t : Nat → Int) (n L : Nat) : Prop := S 1 5 = n ∧ S 1 6 = L ∧ (∀ j, j < n → S 2 j = t j) ∧ (∀ l, l < L → S 3 l = klb t n l ∧ S 4 l = kle t n l ∧ S 5 l = krb t n l ∧ S 6 l = kre t n l)
theorem c_20 {E : Nat → kC} {S : Nat → Nat → Int} {sz : Nat × Nat} {t : Nat → Int} {n L : Nat} (hX : kTx t n L) (hC : kCt S t n L) {l : Nat} (hl : l < L) : kR 0 20 (blk 20 0) (kent 20 [.ref 1, .int (Int32.ofInt ((l : Int)))]) [] (sz, hp 57 E S) (fun r => r = (.inl (some (.int (Int32.ofInt (if krb t n l < kre t n l then 1 else 0)))), (sz, hp 57 E S))) := by
  have hm : 53 ≤ 57 ∧ 57 ≤ 57 := by omega
  have hr := hX.ln hl
  have hx1 := hX.1
  have hx2 := hX.2.2.2.1
  show kR 0 20 b20_0 _ _ _ _
  refine kR.s rfl rfl ?_
  refine kR.gr (a := 1) (b := 5) (k := 3) (by omega) rfl rfl rfl (by decide) (by decide) rfl ?_
  refine kR.s rfl rfl ?_
  refine kR.ia (a := 5) (v := (krb t n l : Int)) (by omega) rfl (by decide) (by omega) (by omega) (by exact (hC.2.2.2 _ (by omega)).2.2.1) ?_
  refine kR.s rfl rfl ?_
  refine kR.gr (a := 1) (b := 6) (k := 4) (by omega) rfl rfl rfl (by decide) (by decide) rfl ?_
  refine kR.s rfl rfl ?_
  refine kR.ia (a := 6) (v := (kre t n l : Int)) (by omega) rfl (by decide) (by omega) (by omega) (by exact (hC.2.2.2 _ (by omega)).2.2.2) ?_
  refine kR.jge (by omega) (by omega) (by omega) (by omega) (fun q1 => ?_) (fun q1 => ?_)
  · skip
    show kR 0 20 b20_19 _ _ _ _
    refine kR.s rfl rfl ?_
    refine kR.n ?_
    show kR 0 20 b20_20 _ _ _ _
    refine kR.ret rfl rfl ?_
    first | (rw [if_pos (by omega)]; done) | (rw [if_neg (by omega)]; done) | (exfalso; omega)
  · skip
    refine kR.s rfl rfl ?_
    refine kR.g rfl ?_
    show kR 0 20 b20_20 _ _ _ _
    refine kR.ret rfl rfl ?_
    first | (rw [if_pos (by omega)]; done) | (rw [if_neg (by omega)]; done) | (exfalso; omega)
theorem c_21 {E : Nat → kC} {S : Nat → Nat → Int} {sz : Nat × Nat} {t : Nat → Int} {n L : Nat} (hX : kTx t n L) (hC : kCt S t n L) {l : Nat} (hl : l < L) : kR 1 21 (blk 21 0) (kent 21 [.ref 1, .int (Int32.ofInt ((l : Int)))]) [] (sz, hp 57 E S) (fun r => r = (.inl (some (.int (Int32.ofInt (if (¬ krb t n l < kre t n l ∨ t (krb t n l) = 35) then 1 else 0)))), (sz, hp 57 E S))) := by
  have hm : 53 ≤ 57 ∧ 57 ≤ 57 := by omega
  have hr := hX.ln hl
  have hx1 := hX.1
  have hx2 := hX.2.2.2.1
  have hx3 := hX.2.1 (krb t n l)
  show kR 1 21 b21_0 _ _ _ _
  refine kR.s rfl rfl ?_
  refine kR.s rfl rfl ?_
  refine kR.cb (P := krb t n l < kre t n l) rfl rfl (kR.up (c_20 hX hC (l := l) (by omega)) (by decide)) (fun q1 => ?_) (fun q1 => ?_)
  · skip
    refine kR.zeq (by decide) (by decide) (fun q2 => absurd q2 (by decide)) (fun q2 => ?_)
    refine kR.s rfl rfl ?_
    refine kR.gr (a := 1) (b := 2) (k := 0) (by omega) rfl rfl rfl (by decide) (by decide) rfl ?_
    refine kR.s rfl rfl ?_
    refine kR.gr (a := 1) (b := 5) (k := 3) (by omega) rfl rfl rfl (by decide) (by decide) rfl ?_
    refine kR.s rfl rfl ?_
    refine kR.ia (a := 5) (v := (krb t n l : Int)) (by omega) rfl (by decide) (by omega) (by omega) (by exact (hC.2.2.2 _ (by omega)).2.2.1) ?_
    refine kR.ca (a := 2) (v := t (krb t n l)) (by omega) rfl (by decide) (by omega) (by omega) (by exact (hC.2.2.1 _ (by omega))) ?_
    refine kR.bi rfl ?_
    refine kR.jne (by omega) (by omega) (by omega) (by omega) (fun q3 => ?_) (fun q3 => ?_)
    · skip
      show kR 1 21 b21_28 _ _ _ _
      refine kR.s rfl rfl ?_
      refine kR.n ?_
      show kR 1 21 b21_29 _ _ _ _
      refine kR.ret rfl rfl ?_
      first | (rw [if_pos (by omega)]; done) | (rw [if_neg (by omega)]; done) | (exfalso; omega)
    · skip
      refine kR.n ?_
      show kR 1 21 b21_24 _ _ _ _
      refine kR.s rfl rfl ?_
      refine kR.g rfl ?_
      show kR 1 21 b21_29 _ _ _ _
      refine kR.ret rfl rfl ?_
      first | (rw [if_pos (by omega)]; done) | (rw [if_neg (by omega)]; done) | (exfalso; omega)
  · skip
    refine kR.zeq (by decide) (by decide) (fun q4 => ?_) (fun q4 => absurd q4 (by decide))
    show kR 1 21 b21_24 _ _ _ _
    refine kR.s rfl rfl ?_
    refine kR.g rfl ?_
    show kR 1 21 b21_29 _ _ _ _
    refine kR.ret rfl rfl ?_
    first | (rw [if_pos (by omega)]; done) | (rw [if_neg (by omega)]; done) | (exfalso; omega)
theorem c_22 {E : Nat → kC} {S : Nat → Nat → Int} {sz : Nat × Nat} {t : Nat → Int} {n L : Nat} (hX : kTx t n L) (hC : kCt S t n L) {l : Nat} (hl : l < L) : kR 0 22 (blk 22 0) (kent 22 [.ref 1, .int (Int32.ofInt ((l : Int)))]) [] (sz, hp 57 E S) (fun r => r = (.inl (some (.int (Int32.ofInt ((krb t n l : Int) - (klb t n l : Int))))), (sz, hp 57 E S))) := by
  have hm : 53 ≤ 57 ∧ 57 ≤ 57 := by omega
  have hr := hX.ln hl
  have hx1 := hX.1
  have hx2 := hX.2.2.2.1
  show kR 0 22 b22_0 _ _ _ _
  refine kR.s rfl rfl ?_
  refine kR.gr (a := 1) (b := 5) (k := 3) (by omega) rfl rfl rfl (by decide) (by decide) rfl ?_
  refine kR.s rfl rfl ?_
  refine kR.ia (a := 5) (v := (krb t n l : Int)) (by omega) rfl (by decide) (by omega) (by omega) (by exact (hC.2.2.2 _ (by omega)).2.2.1) ?_
  refine kR.s rfl rfl ?_
  refine kR.gr (a := 1) (b := 3) (k := 1) (by omega) rfl rfl rfl (by decide) (by decide) rfl ?_
  refine kR.s rfl rfl ?_
  refine kR.ia (a := 3) (v := (klb t n l : Int)) (by omega) rfl (by decide) (by omega) (by omega) (by exact (hC.2.2.2 _ (by omega)).1) ?_
  refine kR.sub ?_
  refine kR.ret rfl rfl ?_
  rfl
theorem c_49 {E : Nat → kC} {S : Nat → Nat → Int} {sz : Nat × Nat} {t : Nat → Int} {n L : Nat} (hX : kTx t n L) (hC : kCt S t n L) {l : Nat} (hl : S 53 1 = (l : Int)) (hlL : l ≤ 300) : kR 0 49 (blk 49 0) (kent 49 [.ref 53]) [] (sz, hp 57 E S) (fun r => r = (.inl (some (.int (Int32.ofInt (if L ≤ l then 1 else 0)))), (sz, hp 57 E S))) := by
  have hm : 53 ≤ 57 ∧ 57 ≤ 57 := by omega
  have hx1 := hX.1
  have hx2 := hX.2.2.2.1
  show kR 0 49 b49_0 _ _ _ _
  refine kR.s rfl rfl ?_
  refine kR.gi (a := 53) (k := 1) (v := (l : Int)) (by omega) rfl rfl rfl (by decide) (by decide) rfl (by exact hl) ?_
  refine kR.s rfl rfl ?_
  refine kR.gr (a := 53) (b := 1) (k := 0) (by omega) rfl rfl rfl (by decide) (by decide) rfl ?_
  refine kR.gi (a := 1) (k := 6) (v := (L : Int)) (by omega) rfl rfl rfl (by decide) (by decide) rfl (by exact hC.2.1) ?_
  refine kR.jlt (by omega) (by omega) (by omega) (by omega) (fun q1 => ?_) (fun q1 => ?_)
  · skip
    show kR 0 49 b49_18 _ _ _ _
    refine kR.s rfl rfl ?_
    refine kR.n ?_
    show kR 0 49 b49_19 _ _ _ _
    refine kR.ret rfl rfl ?_
    first | (rw [if_pos (by omega)]; done) | (rw [if_neg (by omega)]; done) | (exfalso; omega)
  · skip
    refine kR.s rfl rfl ?_
    refine kR.g rfl ?_
    show kR 0 49 b49_19 _ _ _ _
    refine kR.ret rfl rfl ?_
    first | (rw [if_pos (by omega)]; done) | (rw [if_neg (by omega)]; done) | (exfalso; omega)
theorem c_50 {E : Nat → kC} {S : Nat → Nat → Int} {sz : Nat × Nat} {t : Nat → Int} {n L : Nat} (hX : kTx t n L) (hC : kCt S t n L) {l : Nat} (hl : S 53 1 = (l : Int)) (hlL : l ≤ 300) : kR 1 50 (blk 50 0) (kent 50 [.ref 53]) [] (sz, hp 57 E S) (fun r => r = (.inl (some (.int (Int32.ofInt (if L ≤ l then -1 else (krb t n l : Int) - (klb t n l : Int))))), (sz, hp 57 E S))) := by
  have hm : 53 ≤ 57 ∧ 57 ≤ 57 := by omega
  have hx1 := hX.1
  have hx2 := hX.2.2.2.1
  show kR 1 50 b50_0 _ _ _ _
  refine kR.s rfl rfl ?_
  refine kR.cb (P := L ≤ l) rfl rfl (kR.up (c_49 hX hC (l := l) (by exact hl) (by omega)) (by decide)) (fun q1 => ?_) (fun q1 => ?_)
  · skip
    refine kR.zeq (by decide) (by decide) (fun q2 => absurd q2 (by decide)) (fun q2 => ?_)
    refine kR.s rfl rfl ?_
    refine kR.g rfl ?_
    show kR 1 50 b50_22 _ _ _ _
    refine kR.ret rfl rfl ?_
    first | (rw [if_pos (by omega)]; done) | (rw [if_neg (by omega)]; done) | (exfalso; omega)
  · skip
    refine kR.zeq (by decide) (by decide) (fun q3 => ?_) (fun q3 => absurd q3 (by decide))
    show kR 1 50 b50_11 _ _ _ _
    refine kR.s rfl rfl ?_
    refine kR.gr (a := 53) (b := 1) (k := 0) (by omega) rfl rfl rfl (by decide) (by decide) rfl ?_
    refine kR.s rfl rfl ?_
    refine kR.gi (a := 53) (k := 1) (v := (l : Int)) (by omega) rfl rfl rfl (by decide) (by decide) rfl (by exact hl) ?_
    refine kR.cv (v := .int (Int32.ofInt ((krb t n l : Int) - (klb t n l : Int)))) rfl rfl (kR.up (c_22 hX hC (l := l) (by omega)) (by decide)) ?_
    refine kR.n ?_
    show kR 1 50 b50_22 _ _ _ _
    refine kR.ret rfl rfl ?_
    first | (rw [if_pos (by omega)]; done) | (rw [if_neg (by omega)]; done) | (exfalso; omega)
theorem c_51 {E : Nat → kC} {S : Nat → Nat → Int} {sz : Nat × Nat} {t : Nat → Int} {n L : Nat} (hX : kTx t n L) (hC : kCt S t n L) {l : Nat} (hl : S 53 1 = (l : Int)) (hlL : l ≤ 300) {a : Nat} (ha : S 53 2 = (a : Int)) (han : a ≤ 200) : kR 1 51 (blk 51 0) (kent 51 [.ref 53]) [] (sz, hp 57 E S) (fun r => r = (.inl (some (.int (Int32.ofInt (if L ≤ l then 0 else (a : Int) - (klb t n l : Int))))), (sz, hp 57 E S))) := by
  have hm : 53 ≤ 57 ∧ 57 ≤ 57 := by omega
  have hx1 := hX.1
  have hx2 := hX.2.2.2.1
  have hr : l < L → _ := fun z => hX.ln z
  show kR 1 51 b51_0 _ _ _ _
  refine kR.s rfl rfl ?_
  refine kR.cb (P := L ≤ l) rfl rfl (kR.up (c_49 hX hC (l := l) (by exact hl) (by omega)) (by decide)) (fun q1 => ?_) (fun q1 => ?_)
  · skip
    refine kR.zeq (by decide) (by decide) (fun q2 => absurd q2 (by decide)) (fun q2 => ?_)
    refine kR.s rfl rfl ?_
    refine kR.g rfl ?_
    show kR 1 51 b51_28 _ _ _ _
    refine kR.ret rfl rfl ?_
    first | (rw [if_pos (by omega)]; done) | (rw [if_neg (by omega)]; done) | (exfalso; omega)
  · skip
    refine kR.zeq (by decide) (by decide) (fun q3 => ?_) (fun q3 => absurd q3 (by decide))
    show kR 1 51 b51_11 _ _ _ _
    refine kR.s rfl rfl ?_
    refine kR.gi (a := 53) (k := 2) (v := (a : Int)) (by omega) rfl rfl rfl (by decide) (by decide) rfl (by exact ha) ?_
    refine kR.s rfl rfl ?_
    refine kR.gr (a := 53) (b := 1) (k := 0) (by omega) rfl rfl rfl (by decide) (by decide) rfl ?_
    refine kR.gr (a := 1) (b := 3) (k := 1) (by omega) rfl rfl rfl (by decide) (by decide) rfl ?_
    refine kR.s rfl rfl ?_
    refine kR.gi (a := 53) (k := 1) (v := (l : Int)) (by omega) rfl rfl rfl (by decide) (by decide) rfl (by exact hl) ?_
    refine kR.ia (a := 3) (v := (klb t n l : Int)) (by omega) rfl (by decide) (by omega) (by omega) (by exact (hC.2.2.2 _ (by omega)).1) ?_
    refine kR.sub ?_
    refine kR.n ?_
    show kR 1 51 b51_28 _ _ _ _
    refine kR.ret rfl rfl ?_
    first | (rw [if_pos (by omega)]; done) | (rw [if_neg (by omega)]; done) | (exfalso; omega)
/-- the cursor at a line -/
def kgo (S : Nat → Nat → Int) (t : Nat → Int) (n L l : Nat) : Nat → Nat → Int := ku (ku (ku S 53 1 (l : Int)) 53 2 (if L ≤ l then (n : Int) else (krb t n l : Int))) 53 3 (if L ≤ l then (n : Int) else (kre t n l : Int))
theorem ku_ku (S : Nat → Nat → Int) (a k : Nat) (u v : Int) : ku (ku S a k u) a k v = ku S a k v := by
  funext i j
  unfold ku kup
  by_cases h1 : i = a
  · by_cases h2 : j = k
    · simp [h1, h2]
    · simp [h1, h2]
  · simp [h1]
theorem l_48 {E : Nat → kC} {S : Nat → Nat → Int} {sz : Nat × Nat} {t : Nat → Int} {n L : Nat} (hX : kTx t n L) (hC : kCt S t n L) {f0 : Int} : ∀ (j k : Nat) (S1 : Nat → Nat → Int), L - k = j → k ≤ L → S1 = ku S 53 1 (k : Int) → kR 2 48 (blk 48 5) [.ref 53, .int (Int32.ofInt f0)] [] (sz, hp 57 E S1) (fun r => r = (.inl none, (sz, hp 57 E (kgo S t n L (kw (fun i => decide (¬ krb t n i < kre t n i ∨ t (krb t n i) = 35)) L k))))) := by
  have hm : 53 ≤ 57 ∧ 57 ≤ 57 := by omega
  intro j
  induction j using Nat.strongRecOn with
  | _ j ih =>
    intro k S1 hj hk hS1
    subst hS1
    have hx1 := hX.1
    have hx2 := hX.2.2.2.1
    show kR 2 48 b48_5 _ _ _ _
    refine kR.s rfl rfl ?_
    refine kR.gi (a := 53) (k := 1) (v := (k : Int)) (by omega) rfl rfl rfl (by decide) (by decide) rfl (by rfl) ?_
    refine kR.s rfl rfl ?_
    refine kR.gr (a := 53) (b := 1) (k := 0) (by omega) rfl rfl rfl (by decide) (by decide) rfl ?_
    refine kR.gi (a := 1) (k := 6) (v := (L : Int)) (by omega) rfl rfl rfl (by decide) (by decide) rfl (by exact hC.2.1) ?_
    refine kR.jge (by omega) (by omega) (by omega) (by omega) (fun q1 => ?_) (fun q1 => ?_)
    · skip
      rw [kw_no (by first | (left; omega) | (right; exact decide_eq_false ‹_›))]
      show kR 2 48 b48_46 _ _ _ _
      refine kR.s rfl rfl ?_
      refine kR.s rfl rfl ?_
      refine kR.cb (P := L ≤ k) rfl rfl (kR.up (c_49 (S := ku S 53 1 (k : Int)) hX hC (l := k) (by rfl) (by omega)) (by decide)) (fun q2 => ?_) (fun q2 => ?_)
      · skip
        refine kR.zeq (by decide) (by decide) (fun q3 => absurd q3 (by decide)) (fun q3 => ?_)
        refine kR.s rfl rfl ?_
        refine kR.gr (a := 53) (b := 1) (k := 0) (by omega) rfl rfl rfl (by decide) (by decide) rfl ?_
        refine kR.gi (a := 1) (k := 5) (v := (n : Int)) (by omega) rfl rfl rfl (by decide) (by decide) rfl (by exact hC.1) ?_
        refine kR.g rfl ?_
        show kR 2 48 b48_76 _ _ _ _
        refine kR.pi (a := 53) (k := 2) (by omega) rfl rfl rfl (by decide) (by decide) rfl rfl ?_
        refine kR.s rfl rfl ?_
        refine kR.s rfl rfl ?_
        refine kR.cb (P := L ≤ k) rfl rfl (kR.up (c_49 (S := ku (ku S 53 1 (k : Int)) 53 2 (n : Int)) hX hC (l := k) (by rfl) (by omega)) (by decide)) (fun q4 => ?_) (fun q4 => ?_)
        · skip
          refine kR.zeq (by decide) (by decide) (fun q5 => absurd q5 (by decide)) (fun q5 => ?_)
          refine kR.s rfl rfl ?_
          refine kR.gr (a := 53) (b := 1) (k := 0) (by omega) rfl rfl rfl (by decide) (by decide) rfl ?_
          refine kR.gi (a := 1) (k := 5) (v := (n : Int)) (by omega) rfl rfl rfl (by decide) (by decide) rfl (by exact hC.1) ?_
          refine kR.g rfl ?_
          show kR 2 48 b48_109 _ _ _ _
          refine kR.pi (a := 53) (k := 3) (by omega) rfl rfl rfl (by decide) (by decide) rfl rfl ?_
          refine kR.ret rfl rfl ?_
          first | (exfalso; omega) | (unfold kgo; rw [if_pos (by omega), if_pos (by omega)]; done) | (unfold kgo; rw [if_neg (by omega), if_neg (by omega)]; done)
        · skip
          refine kR.zeq (by decide) (by decide) (fun q6 => ?_) (fun q6 => absurd q6 (by decide))
          show kR 2 48 b48_97 _ _ _ _
          refine kR.s rfl rfl ?_
          refine kR.gr (a := 53) (b := 1) (k := 0) (by omega) rfl rfl rfl (by decide) (by decide) rfl ?_
          refine kR.gr (a := 1) (b := 6) (k := 4) (by omega) rfl rfl rfl (by decide) (by decide) rfl ?_
          refine kR.s rfl rfl ?_
          refine kR.gi (a := 53) (k := 1) (v := (k : Int)) (by omega) rfl rfl rfl (by decide) (by decide) rfl (by rfl) ?_
          refine kR.ia (a := 6) (v := (kre t n k : Int)) (by omega) rfl (by decide) (by omega) (by omega) (by exact (hC.2.2.2 _ (by omega)).2.2.2) ?_
          refine kR.n ?_
          show kR 2 48 b48_109 _ _ _ _
          refine kR.pi (a := 53) (k := 3) (by omega) rfl rfl rfl (by decide) (by decide) rfl rfl ?_
          refine kR.ret rfl rfl ?_
          first | (exfalso; omega) | (unfold kgo; rw [if_pos (by omega), if_pos (by omega)]; done) | (unfold kgo; rw [if_neg (by omega), if_neg (by omega)]; done)
      · skip
        refine kR.zeq (by decide) (by decide) (fun q7 => ?_) (fun q7 => absurd q7 (by decide))
        show kR 2 48 b48_64 _ _ _ _
        refine kR.s rfl rfl ?_
        refine kR.gr (a := 53) (b := 1) (k := 0) (by omega) rfl rfl rfl (by decide) (by decide) rfl ?_
        refine kR.gr (a := 1) (b := 5) (k := 3) (by omega) rfl rfl rfl (by decide) (by decide) rfl ?_
        refine kR.s rfl rfl ?_
        refine kR.gi (a := 53) (k := 1) (v := (k : Int)) (by omega) rfl rfl rfl (by decide) (by decide) rfl (by rfl) ?_
        refine kR.ia (a := 5) (v := (krb t n k : Int)) (by omega) rfl (by decide) (by omega) (by omega) (by exact (hC.2.2.2 _ (by omega)).2.2.1) ?_
        refine kR.n ?_
        show kR 2 48 b48_76 _ _ _ _
        refine kR.pi (a := 53) (k := 2) (by omega) rfl rfl rfl (by decide) (by decide) rfl rfl ?_
        refine kR.s rfl rfl ?_
        refine kR.s rfl rfl ?_
        refine kR.cb (P := L ≤ k) rfl rfl (kR.up (c_49 (S := ku (ku S 53 1 (k : Int)) 53 2 (krb t n k : Int)) hX hC (l := k) (by rfl) (by omega)) (by decide)) (fun q8 => ?_) (fun q8 => ?_)
        · skip
          refine kR.zeq (by decide) (by decide) (fun q9 => absurd q9 (by decide)) (fun q9 => ?_)
          refine kR.s rfl rfl ?_
          refine kR.gr (a := 53) (b := 1) (k := 0) (by omega) rfl rfl rfl (by decide) (by decide) rfl ?_
          refine kR.gi (a := 1) (k := 5) (v := (n : Int)) (by omega) rfl rfl rfl (by decide) (by decide) rfl (by exact hC.1) ?_
          refine kR.g rfl ?_
          show kR 2 48 b48_109 _ _ _ _
          refine kR.pi (a := 53) (k := 3) (by omega) rfl rfl rfl (by decide) (by decide) rfl rfl ?_
          refine kR.ret rfl rfl ?_
          first | (exfalso; omega) | (unfold kgo; rw [if_pos (by omega), if_pos (by omega)]; done) | (unfold kgo; rw [if_neg (by omega), if_neg (by omega)]; done)
        · skip
          refine kR.zeq (by decide) (by decide) (fun q10 => ?_) (fun q10 => absurd q10 (by decide))
          show kR 2 48 b48_97 _ _ _ _
          refine kR.s rfl rfl ?_
          refine kR.gr (a := 53) (b := 1) (k := 0) (by omega) rfl rfl rfl (by decide) (by decide) rfl ?_
          refine kR.gr (a := 1) (b := 6) (k := 4) (by omega) rfl rfl rfl (by decide) (by decide) rfl ?_
          refine kR.s rfl rfl ?_
          refine kR.gi (a := 53) (k := 1) (v := (k : Int)) (by omega) rfl rfl rfl (by decide) (by decide) rfl (by rfl) ?_
          refine kR.ia (a := 6) (v := (kre t n k : Int)) (by omega) rfl (by decide) (by omega) (by omega) (by exact (hC.2.2.2 _ (by omega)).2.2.2) ?_
          refine kR.n ?_
          show kR 2 48 b48_109 _ _ _ _
          refine kR.pi (a := 53) (k := 3) (by omega) rfl rfl rfl (by decide) (by decide) rfl rfl ?_
          refine kR.ret rfl rfl ?_
          first | (exfalso; omega) | (unfold kgo; rw [if_pos (by omega), if_pos (by omega)]; done) | (unfold kgo; rw [if_neg (by omega), if_neg (by omega)]; done)
    · skip
      refine kR.s rfl rfl ?_
      refine kR.gr (a := 53) (b := 1) (k := 0) (by omega) rfl rfl rfl (by decide) (by decide) rfl ?_
      refine kR.s rfl rfl ?_
      refine kR.gi (a := 53) (k := 1) (v := (k : Int)) (by omega) rfl rfl rfl (by decide) (by decide) rfl (by rfl) ?_
      refine kR.cb (P := (¬ krb t n k < kre t n k ∨ t (krb t n k) = 35)) rfl rfl (kR.up (c_21 (S := ku S 53 1 (k : Int)) hX hC (l := k) (by omega)) (by decide)) (fun q11 => ?_) (fun q11 => ?_)
      · skip
        refine kR.zeq (by decide) (by decide) (fun q12 => absurd q12 (by decide)) (fun q12 => ?_)
        refine kR.s rfl rfl ?_
        refine kR.s rfl rfl ?_
        refine kR.gi (a := 53) (k := 1) (v := (k : Int)) (by omega) rfl rfl rfl (by decide) (by decide) rfl (by rfl) ?_
        refine kR.s rfl rfl ?_
        refine kR.add ?_
        refine kR.pi (a := 53) (k := 1) (by omega) rfl rfl rfl (by decide) (by decide) rfl rfl ?_
        refine kR.g rfl ?_
        rw [kw_go (by omega) (decide_eq_true ‹_›), ku_ku]
        exact ih (L - (k + 1)) (by omega) (k + 1) _ rfl (by omega) rfl
      · skip
        refine kR.zeq (by decide) (by decide) (fun q13 => ?_) (fun q13 => absurd q13 (by decide))
        rw [kw_no (by first | (left; omega) | (right; exact decide_eq_false ‹_›))]
        show kR 2 48 b48_46 _ _ _ _
        refine kR.s rfl rfl ?_
        refine kR.s rfl rfl ?_
        refine kR.cb (P := L ≤ k) rfl rfl (kR.up (c_49 (S := ku S 53 1 (k : Int)) hX hC (l := k) (by rfl) (by omega)) (by decide)) (fun q14 => ?_) (fun q14 => ?_)
        · skip
          refine kR.zeq (by decide) (by decide) (fun q15 => absurd q15 (by decide)) (fun q15 => ?_)
          refine kR.s rfl rfl ?_
          refine kR.gr (a := 53) (b := 1) (k := 0) (by omega) rfl rfl rfl (by decide) (by decide) rfl ?_
          refine kR.gi (a := 1) (k := 5) (v := (n : Int)) (by omega) rfl rfl rfl (by decide) (by decide) rfl (by exact hC.1) ?_
          refine kR.g rfl ?_
          show kR 2 48 b48_76 _ _ _ _
          refine kR.pi (a := 53) (k := 2) (by omega) rfl rfl rfl (by decide) (by decide) rfl rfl ?_
          refine kR.s rfl rfl ?_
          refine kR.s rfl rfl ?_
          refine kR.cb (P := L ≤ k) rfl rfl (kR.up (c_49 (S := ku (ku S 53 1 (k : Int)) 53 2 (n : Int)) hX hC (l := k) (by rfl) (by omega)) (by decide)) (fun q16 => ?_) (fun q16 => ?_)
          · skip
            refine kR.zeq (by decide) (by decide) (fun q17 => absurd q17 (by decide)) (fun q17 => ?_)
            refine kR.s rfl rfl ?_
            refine kR.gr (a := 53) (b := 1) (k := 0) (by omega) rfl rfl rfl (by decide) (by decide) rfl ?_
            refine kR.gi (a := 1) (k := 5) (v := (n : Int)) (by omega) rfl rfl rfl (by decide) (by decide) rfl (by exact hC.1) ?_
            refine kR.g rfl ?_
            show kR 2 48 b48_109 _ _ _ _
            refine kR.pi (a := 53) (k := 3) (by omega) rfl rfl rfl (by decide) (by decide) rfl rfl ?_
            refine kR.ret rfl rfl ?_
            first | (exfalso; omega) | (unfold kgo; rw [if_pos (by omega), if_pos (by omega)]; done) | (unfold kgo; rw [if_neg (by omega), if_neg (by omega)]; done)
          · skip
            refine kR.zeq (by decide) (by decide) (fun q18 => ?_) (fun q18 => absurd q18 (by decide))
            show kR 2 48 b48_97 _ _ _ _
            refine kR.s rfl rfl ?_
            refine kR.gr (a := 53) (b := 1) (k := 0) (by omega) rfl rfl rfl (by decide) (by decide) rfl ?_
            refine kR.gr (a := 1) (b := 6) (k := 4) (by omega) rfl rfl rfl (by decide) (by decide) rfl ?_
            refine kR.s rfl rfl ?_
            refine kR.gi (a := 53) (k := 1) (v := (k : Int)) (by omega) rfl rfl rfl (by decide) (by decide) rfl (by rfl) ?_
            refine kR.ia (a := 6) (v := (kre t n k : Int)) (by omega) rfl (by decide) (by omega) (by omega) (by exact (hC.2.2.2 _ (by omega)).2.2.2) ?_
            refine kR.n ?_
            show kR 2 48 b48_109 _ _ _ _
            refine kR.pi (a := 53) (k := 3) (by omega) rfl rfl rfl (by decide) (by decide) rfl rfl ?_
            refine kR.ret rfl rfl ?_
            first | (exfalso; omega) | (unfold kgo; rw [if_pos (by omega), if_pos (by omega)]; done) | (unfold kgo; rw [if_neg (by omega), if_neg (by omega)]; done)
        · skip
          refine kR.zeq (by decide) (by decide) (fun q19 => ?_) (fun q19 => absurd q19 (by decide))
          show kR 2 48 b48_64 _ _ _ _
          refine kR.s rfl rfl ?_
          refine kR.gr (a := 53) (b := 1) (k := 0) (by omega) rfl rfl rfl (by decide) (by decide) rfl ?_
          refine kR.gr (a := 1) (b := 5) (k := 3) (by omega) rfl rfl rfl (by decide) (by decide) rfl ?_
          refine kR.s rfl rfl ?_
          refine kR.gi (a := 53) (k := 1) (v := (k : Int)) (by omega) rfl rfl rfl (by decide) (by decide) rfl (by rfl) ?_
          refine kR.ia (a := 5) (v := (krb t n k : Int)) (by omega) rfl (by decide) (by omega) (by omega) (by exact (hC.2.2.2 _ (by omega)).2.2.1) ?_
          refine kR.n ?_
          show kR 2 48 b48_76 _ _ _ _
          refine kR.pi (a := 53) (k := 2) (by omega) rfl rfl rfl (by decide) (by decide) rfl rfl ?_
          refine kR.s rfl rfl ?_
          refine kR.s rfl rfl ?_
          refine kR.cb (P := L ≤ k) rfl rfl (kR.up (c_49 (S := ku (ku S 53 1 (k : Int)) 53 2 (krb t n k : Int)) hX hC (l := k) (by rfl) (by omega)) (by decide)) (fun q20 => ?_) (fun q20 => ?_)
          · skip
            refine kR.zeq (by decide) (by decide) (fun q21 => absurd q21 (by decide)) (fun q21 => ?_)
            refine kR.s rfl rfl ?_
            refine kR.gr (a := 53) (b := 1) (k := 0) (by omega) rfl rfl rfl (by decide) (by decide) rfl ?_
            refine kR.gi (a := 1) (k := 5) (v := (n : Int)) (by omega) rfl rfl rfl (by decide) (by decide) rfl (by exact hC.1) ?_
            refine kR.g rfl ?_
            show kR 2 48 b48_109 _ _ _ _
            refine kR.pi (a := 53) (k := 3) (by omega) rfl rfl rfl (by decide) (by decide) rfl rfl ?_
            refine kR.ret rfl rfl ?_
            first | (exfalso; omega) | (unfold kgo; rw [if_pos (by omega), if_pos (by omega)]; done) | (unfold kgo; rw [if_neg (by omega), if_neg (by omega)]; done)
          · skip
            refine kR.zeq (by decide) (by decide) (fun q22 => ?_) (fun q22 => absurd q22 (by decide))
            show kR 2 48 b48_97 _ _ _ _
            refine kR.s rfl rfl ?_
            refine kR.gr (a := 53) (b := 1) (k := 0) (by omega) rfl rfl rfl (by decide) (by decide) rfl ?_
            refine kR.gr (a := 1) (b := 6) (k := 4) (by omega) rfl rfl rfl (by decide) (by decide) rfl ?_
            refine kR.s rfl rfl ?_
            refine kR.gi (a := 53) (k := 1) (v := (k : Int)) (by omega) rfl rfl rfl (by decide) (by decide) rfl (by rfl) ?_
            refine kR.ia (a := 6) (v := (kre t n k : Int)) (by omega) rfl (by decide) (by omega) (by omega) (by exact (hC.2.2.2 _ (by omega)).2.2.2) ?_
            refine kR.n ?_
            show kR 2 48 b48_109 _ _ _ _
            refine kR.pi (a := 53) (k := 3) (by omega) rfl rfl rfl (by decide) (by decide) rfl rfl ?_
            refine kR.ret rfl rfl ?_
            first | (exfalso; omega) | (unfold kgo; rw [if_pos (by omega), if_pos (by omega)]; done) | (unfold kgo; rw [if_neg (by omega), if_neg (by omega)]; done)
theorem c_48 {E : Nat → kC} {S : Nat → Nat → Int} {sz : Nat × Nat} {t : Nat → Int} {n L : Nat} (hX : kTx t n L) (hC : kCt S t n L) {f : Nat} (hf : f ≤ L) : kR 2 48 (blk 48 0) (kent 48 [.ref 53, .int (Int32.ofInt (f : Int))]) [] (sz, hp 57 E S) (fun r => r = (.inl none, (sz, hp 57 E (kgo S t n L (kw (fun i => decide (¬ krb t n i < kre t n i ∨ t (krb t n i) = 35)) L f))))) := by
  have hm : 53 ≤ 57 ∧ 57 ≤ 57 := by omega
  show kR 2 48 b48_0 _ _ _ _
  refine kR.s rfl rfl ?_
  refine kR.s rfl rfl ?_
  refine kR.pi (a := 53) (k := 1) (by omega) rfl rfl rfl (by decide) (by decide) rfl rfl ?_
  refine kR.n ?_
  exact l_48 hX hC _ f _ rfl hf rfl
theorem c_52 {E : Nat → kC} {S : Nat → Nat → Int} {sz : Nat × Nat} {t : Nat → Int} {n L : Nat} (hX : kTx t n L) (hC : kCt S t n L) {e : Nat} (he : S 53 3 = (e : Int)) (hen : e ≤ n) {p : Nat} (hpp : p ≤ 1000) : kR 0 52 (blk 52 0) (kent 52 [.ref 53, .int (Int32.ofInt ((p : Int)))]) [] (sz, hp 57 E S) (fun r => r = (.inl (some (.int (Int32.ofInt (kch t e p)))), (sz, hp 57 E S))) := by
  have hm : 53 ≤ 57 ∧ 57 ≤ 57 := by omega
  have hx1 := hX.1
  have hx2 := hX.2.2.2.1
  have hx3 := hX.2.1 p
  show kR 0 52 b52_0 _ _ _ _
  refine kR.s rfl rfl ?_
  refine kR.zlt (by omega) (by omega) (fun q1 => ?_) (fun q1 => ?_)
  · skip
    show kR 0 52 b52_24 _ _ _ _
    refine kR.bi rfl ?_
    refine kR.n ?_
    show kR 0 52 b52_26 _ _ _ _
    refine kR.retc rfl (by omega) (by omega) ?_
    unfold kch
    first | (rw [if_pos (by omega)]; done) | (rw [if_neg (by omega)]; done) | (exfalso; omega)
  · skip
    refine kR.s rfl rfl ?_
    refine kR.s rfl rfl ?_
    refine kR.gi (a := 53) (k := 3) (v := (e : Int)) (by omega) rfl rfl rfl (by decide) (by decide) rfl (by exact he) ?_
    refine kR.jge (by omega) (by omega) (by omega) (by omega) (fun q2 => ?_) (fun q2 => ?_)
    · skip
      show kR 0 52 b52_24 _ _ _ _
      refine kR.bi rfl ?_
      refine kR.n ?_
      show kR 0 52 b52_26 _ _ _ _
      refine kR.retc rfl (by omega) (by omega) ?_
      unfold kch
      first | (rw [if_pos (by omega)]; done) | (rw [if_neg (by omega)]; done) | (exfalso; omega)
    · skip
      refine kR.s rfl rfl ?_
      refine kR.gr (a := 53) (b := 1) (k := 0) (by omega) rfl rfl rfl (by decide) (by decide) rfl ?_
      refine kR.gr (a := 1) (b := 2) (k := 0) (by omega) rfl rfl rfl (by decide) (by decide) rfl ?_
      refine kR.s rfl rfl ?_
      refine kR.ca (a := 2) (v := t p) (by omega) rfl (by decide) (by omega) (by omega) (by exact (hC.2.2.1 _ (by omega))) ?_
      refine kR.g rfl ?_
      show kR 0 52 b52_26 _ _ _ _
      refine kR.retc rfl (by omega) (by omega) ?_
      unfold kch
      first | (rw [if_pos (by omega)]; done) | (rw [if_neg (by omega)]; done) | (exfalso; omega)
theorem c_53 {E : Nat → kC} {S : Nat → Nat → Int} {sz : Nat × Nat} {t : Nat → Int} {n L : Nat} (hX : kTx t n L) (hC : kCt S t n L) {e : Nat} (he : S 53 3 = (e : Int)) (hen : e ≤ n) {a : Nat} (ha : S 53 2 = (a : Int)) (han : a ≤ 200) : kR 1 53 (blk 53 0) (kent 53 [.ref 53]) [] (sz, hp 57 E S) (fun r => r = (.inl (some (.int (Int32.ofInt (kch t e a)))), (sz, hp 57 E S))) := by
  have hm : 53 ≤ 57 ∧ 57 ≤ 57 := by omega
  have hx1 := hX.1
  have hx2 := hX.2.2.2.1
  have hx3 := hX.2.1 a
  show kR 1 53 b53_0 _ _ _ _
  refine kR.s rfl rfl ?_
  refine kR.s rfl rfl ?_
  refine kR.gi (a := 53) (k := 2) (v := (a : Int)) (by omega) rfl rfl rfl (by decide) (by decide) rfl (by exact ha) ?_
  have f1_0 := kch_rng hX hen a
  refine kR.cv (v := .int (Int32.ofInt (kch t e a))) rfl rfl (kR.up (c_52 hX hC he hen (p := a) (by omega)) (by decide)) ?_
  refine kR.retc rfl (by omega) (by omega) ?_
  rfl
theorem c_54 {E : Nat → kC} {S : Nat → Nat → Int} {sz : Nat × Nat} {t : Nat → Int} {n L : Nat} (hX : kTx t n L) (hC : kCt S t n L) {e : Nat} (he : S 53 3 = (e : Int)) (hen : e ≤ n) {a : Nat} (ha : S 53 2 = (a : Int)) (han : a ≤ 200) : kR 0 54 (blk 54 0) (kent 54 [.ref 53]) [] (sz, hp 57 E S) (fun r => r = (.inl (some (.int (Int32.ofInt (if e ≤ a then 1 else 0)))), (sz, hp 57 E S))) := by
  have hm : 53 ≤ 57 ∧ 57 ≤ 57 := by omega
  have hx1 := hX.1
  have hx2 := hX.2.2.2.1
  show kR 0 54 b54_0 _ _ _ _
  refine kR.s rfl rfl ?_
  refine kR.gi (a := 53) (k := 2) (v := (a : Int)) (by omega) rfl rfl rfl (by decide) (by decide) rfl (by exact ha) ?_
  refine kR.s rfl rfl ?_
  refine kR.gi (a := 53) (k := 3) (v := (e : Int)) (by omega) rfl rfl rfl (by decide) (by decide) rfl (by exact he) ?_
  refine kR.jlt (by omega) (by omega) (by omega) (by omega) (fun q1 => ?_) (fun q1 => ?_)
  · skip
    show kR 0 54 b54_15 _ _ _ _
    refine kR.s rfl rfl ?_
    refine kR.n ?_
    show kR 0 54 b54_16 _ _ _ _
    refine kR.ret rfl rfl ?_
    first | (rw [if_pos (by omega)]; done) | (rw [if_neg (by omega)]; done) | (exfalso; omega)
  · skip
    refine kR.s rfl rfl ?_
    refine kR.g rfl ?_
    show kR 0 54 b54_16 _ _ _ _
    refine kR.ret rfl rfl ?_
    first | (rw [if_pos (by omega)]; done) | (rw [if_neg (by omega)]; done) | (exfalso; omega)
theorem c_56 {E : Nat → kC} {S : Nat → Nat → Int} {sz : Nat × Nat} {t : Nat → Int} {n L : Nat} (hX : kTx t n L) (hC : kCt S t n L) {e : Nat} (he : S 53 3 = (e : Int)) (hen : e ≤ n) {p : Nat} (hpp : p ≤ 1000) : kR 0 56 (blk 56 0) (kent 56 [.ref 53, .int (Int32.ofInt ((p : Int)))]) [] (sz, hp 57 E S) (fun r => r = (.inl (some (.int (Int32.ofInt (kgap t e p)))), (sz, hp 57 E S))) := by
  have hm : 53 ≤ 57 ∧ 57 ≤ 57 := by omega
  have hx1 := hX.1
  have hx2 := hX.2.2.2.1
  have hx3 := hX.2.1 p
  show kR 0 56 b56_0 _ _ _ _
  refine kR.s rfl rfl ?_
  refine kR.zlt (by omega) (by omega) (fun q1 => ?_) (fun q1 => ?_)
  · skip
    show kR 0 56 b56_26 _ _ _ _
    refine kR.s rfl rfl ?_
    refine kR.g rfl ?_
    show kR 0 56 b56_31 _ _ _ _
    refine kR.ret rfl rfl ?_
    refine kfin (by have z := kgap_o t e p; omega) rfl
  · skip
    refine kR.s rfl rfl ?_
    refine kR.s rfl rfl ?_
    refine kR.gi (a := 53) (k := 3) (v := (e : Int)) (by omega) rfl rfl rfl (by decide) (by decide) rfl (by exact he) ?_
    refine kR.jge (by omega) (by omega) (by omega) (by omega) (fun q2 => ?_) (fun q2 => ?_)
    · skip
      show kR 0 56 b56_26 _ _ _ _
      refine kR.s rfl rfl ?_
      refine kR.g rfl ?_
      show kR 0 56 b56_31 _ _ _ _
      refine kR.ret rfl rfl ?_
      refine kfin (by have z := kgap_o t e p; omega) rfl
    · skip
      refine kR.s rfl rfl ?_
      refine kR.gr (a := 53) (b := 1) (k := 0) (by omega) rfl rfl rfl (by decide) (by decide) rfl ?_
      refine kR.gr (a := 1) (b := 2) (k := 0) (by omega) rfl rfl rfl (by decide) (by decide) rfl ?_
      refine kR.s rfl rfl ?_
      refine kR.ca (a := 2) (v := t p) (by omega) rfl (by decide) (by omega) (by omega) (by exact (hC.2.2.1 _ (by omega))) ?_
      refine kR.bi rfl ?_
      refine kR.jne (by omega) (by omega) (by omega) (by omega) (fun q3 => ?_) (fun q3 => ?_)
      · skip
        show kR 0 56 b56_30 _ _ _ _
        refine kR.s rfl rfl ?_
        refine kR.n ?_
        show kR 0 56 b56_31 _ _ _ _
        refine kR.ret rfl rfl ?_
        refine kfin (by have z := kgap_o t e p; omega) rfl
      · skip
        refine kR.n ?_
        show kR 0 56 b56_26 _ _ _ _
        refine kR.s rfl rfl ?_
        refine kR.g rfl ?_
        show kR 0 56 b56_31 _ _ _ _
        refine kR.ret rfl rfl ?_
        refine kfin (by have z := kgap_o t e p; omega) rfl
theorem c_57 {E : Nat → kC} {S : Nat → Nat → Int} {sz : Nat × Nat} {t : Nat → Int} {n L : Nat} (hX : kTx t n L) (hC : kCt S t n L) {e : Nat} (he : S 53 3 = (e : Int)) (hen : e ≤ n) {a : Nat} (ha : S 53 2 = (a : Int)) (han : a ≤ 200) : kR 2 57 (blk 57 0) (kent 57 [.ref 53]) [] (sz, hp 57 E S) (fun r => r = (.inl (some (.int (Int32.ofInt (kdash t e a)))), (sz, hp 57 E S))) := by
  have hm : 53 ≤ 57 ∧ 57 ≤ 57 := by omega
  have hx1 := hX.1
  have hx2 := hX.2.2.2.1
  have hx3 := hX.2.1 a
  show kR 2 57 b57_0 _ _ _ _
  refine kR.s rfl rfl ?_
  have f1_0 := kch_rng hX hen a
  refine kR.cv (v := .int (Int32.ofInt (kch t e a))) rfl rfl (kR.up (c_53 hX hC he hen (a := a) (by exact ha) (by omega)) (by decide)) ?_
  refine kR.bi rfl ?_
  refine kR.jne (by omega) (by omega) (by omega) (by omega) (fun q2 => ?_) (fun q2 => ?_)
  · skip
    show kR 2 57 b57_26 _ _ _ _
    refine kR.s rfl rfl ?_
    refine kR.n ?_
    show kR 2 57 b57_27 _ _ _ _
    refine kR.ret rfl rfl ?_
    refine kfin (by have z := kdash_o t e a; omega) rfl
  · skip
    refine kR.s rfl rfl ?_
    refine kR.s rfl rfl ?_
    refine kR.gi (a := 53) (k := 2) (v := (a : Int)) (by omega) rfl rfl rfl (by decide) (by decide) rfl (by exact ha) ?_
    refine kR.s rfl rfl ?_
    refine kR.add ?_
    have f3_0 := kgap_o t e (a + 1)
    refine kR.cv (v := .int (Int32.ofInt (kgap t e (a + 1)))) rfl rfl (kR.up (c_56 hX hC he hen (p := (a + 1)) (by omega)) (by decide)) ?_
    refine kR.zeq (by omega) (by omega) (fun q4 => ?_) (fun q4 => ?_)
    · skip
      show kR 2 57 b57_26 _ _ _ _
      refine kR.s rfl rfl ?_
      refine kR.n ?_
      show kR 2 57 b57_27 _ _ _ _
      refine kR.ret rfl rfl ?_
      refine kfin (by have z := kdash_o t e a; omega) rfl
    · skip
      refine kR.s rfl rfl ?_
      refine kR.g rfl ?_
      show kR 2 57 b57_27 _ _ _ _
      refine kR.ret rfl rfl ?_
      refine kfin (by have z := kdash_o t e a; omega) rfl
theorem l_55 {E : Nat → kC} {S : Nat → Nat → Int} {sz : Nat × Nat} {t : Nat → Int} {n L : Nat} (hX : kTx t n L) (hC : kCt S t n L) {e : Nat} (he : S 53 3 = (e : Int)) (hen : e ≤ n) : ∀ (j k : Nat) (S1 : Nat → Nat → Int), 200 - k = j → k ≤ 200 → S1 = ku S 53 2 (k : Int) → kR 0 55 (blk 55 0) [.ref 53] [] (sz, hp 57 E S1) (fun r => r = (.inl none, (sz, hp 57 E (ku S 53 2 ((kw (fun i => decide (t i = 32)) e k : Nat) : Int))))) := by
  have hm : 53 ≤ 57 ∧ 57 ≤ 57 := by omega
  intro j
  induction j using Nat.strongRecOn with
  | _ j ih =>
    intro k S1 hj hk hS1
    subst hS1
    have hx1 := hX.1
    have hx3 := hX.2.1 k
    show kR 0 55 b55_0 _ _ _ _
    refine kR.s rfl rfl ?_
    refine kR.gi (a := 53) (k := 2) (v := (k : Int)) (by omega) rfl rfl rfl (by decide) (by decide) rfl (by rfl) ?_
    refine kR.s rfl rfl ?_
    refine kR.gi (a := 53) (k := 3) (v := (e : Int)) (by omega) rfl rfl rfl (by decide) (by decide) rfl (by exact he) ?_
    refine kR.jge (by omega) (by omega) (by omega) (by omega) (fun q1 => ?_) (fun q1 => ?_)
    · skip
      show kR 0 55 b55_41 _ _ _ _
      refine kR.ret rfl rfl ?_
      rw [kw_no (by first | (left; omega) | (right; exact decide_eq_false ‹_›))]
    · skip
      refine kR.s rfl rfl ?_
      refine kR.gr (a := 53) (b := 1) (k := 0) (by omega) rfl rfl rfl (by decide) (by decide) rfl ?_
      refine kR.gr (a := 1) (b := 2) (k := 0) (by omega) rfl rfl rfl (by decide) (by decide) rfl ?_
      refine kR.s rfl rfl ?_
      refine kR.gi (a := 53) (k := 2) (v := (k : Int)) (by omega) rfl rfl rfl (by decide) (by decide) rfl (by rfl) ?_
      refine kR.ca (a := 2) (v := t k) (by omega) rfl (by decide) (by omega) (by omega) (by exact (hC.2.2.1 _ (by omega))) ?_
      refine kR.bi rfl ?_
      refine kR.jne (by omega) (by omega) (by omega) (by omega) (fun q2 => ?_) (fun q2 => ?_)
      · skip
        show kR 0 55 b55_41 _ _ _ _
        refine kR.ret rfl rfl ?_
        rw [kw_no (by first | (left; omega) | (right; exact decide_eq_false ‹_›))]
      · skip
        refine kR.s rfl rfl ?_
        refine kR.s rfl rfl ?_
        refine kR.gi (a := 53) (k := 2) (v := (k : Int)) (by omega) rfl rfl rfl (by decide) (by decide) rfl (by rfl) ?_
        refine kR.s rfl rfl ?_
        refine kR.add ?_
        refine kR.pi (a := 53) (k := 2) (by omega) rfl rfl rfl (by decide) (by decide) rfl rfl ?_
        refine kR.g rfl ?_
        rw [kw_go (by omega) (decide_eq_true ‹_›), ku_ku]
        exact ih (200 - (k + 1)) (by omega) (k + 1) _ rfl (by omega) rfl
theorem ku_eta {S : Nat → Nat → Int} {a k : Nat} {v : Int} (h : S a k = v) : ku S a k v = S := by
  funext i j
  unfold ku kup
  by_cases h1 : i = a
  · by_cases h2 : j = k
    · simp [h1, h2, h]
    · simp [h1, h2]
  · simp [h1]
theorem c_55 {E : Nat → kC} {S : Nat → Nat → Int} {sz : Nat × Nat} {t : Nat → Int} {n L : Nat} (hX : kTx t n L) (hC : kCt S t n L) {e : Nat} (he : S 53 3 = (e : Int)) (hen : e ≤ n) {a : Nat} (ha : S 53 2 = (a : Int)) (han : a ≤ 200) : kR 0 55 (blk 55 0) (kent 55 [.ref 53]) [] (sz, hp 57 E S) (fun r => r = (.inl none, (sz, hp 57 E (ku S 53 2 ((kw (fun i => decide (t i = 32)) e a : Nat) : Int))))) := by
  have hm : 53 ≤ 57 ∧ 57 ≤ 57 := by omega
  exact l_55 hX hC he hen _ a S rfl han (ku_eta ha).symm
theorem l_60 {E : Nat → kC} {S : Nat → Nat → Int} {sz : Nat × Nat} {t : Nat → Int} {n L : Nat} (hX : kTx t n L) (hC : kCt S t n L) {e : Nat} (he : S 53 3 = (e : Int)) (hen : e ≤ n) {f g : Nat} (hg : g ≤ e) : ∀ (j k : Nat), k = j → f ≤ k → k ≤ g → kR 1 60 (blk 60 2) [.ref 53, .int (Int32.ofInt ((f : Int))), .int (Int32.ofInt ((g : Int))), .int (Int32.ofInt ((k : Int)))] [] (sz, hp 57 E S) (fun r => r = (.inl (some (.int (Int32.ofInt ((kb (fun i => decide (t i = 32)) f k : Nat) : Int)))), (sz, hp 57 E S))) := by
  have hm : 53 ≤ 57 ∧ 57 ≤ 57 := by omega
  intro j
  induction j using Nat.strongRecOn with
  | _ j ih =>
    intro k hj hk1 hk2
    have hx1 := hX.1
    have hx3 := hX.2.1 (k - 1)
    show kR 1 60 b60_2 _ _ _ _
    refine kR.s rfl rfl ?_
    refine kR.s rfl rfl ?_
    refine kR.jle (by omega) (by omega) (by omega) (by omega) (fun q1 => ?_) (fun q1 => ?_)
    · skip
      show kR 1 60 b60_25 _ _ _ _
      refine kR.s rfl rfl ?_
      refine kR.ret rfl rfl ?_
      rw [kb_no (by omega) (by first | (left; omega) | (right; exact decide_eq_false ‹_›))]
    · skip
      refine kR.s rfl rfl ?_
      refine kR.s rfl rfl ?_
      refine kR.s rfl rfl ?_
      refine kR.sub ?_
      rw [show (k : Int) - 1 = ((k - 1 : Nat) : Int) by omega]
      refine kR.cv (v := .int (Int32.ofInt (t (k - 1)))) rfl rfl (kR.up (kch_in (t := t) (show k - 1 < e by omega) ▸ c_52 hX hC he hen (p := k - 1) (by omega)) (by decide)) ?_
      refine kR.bi rfl ?_
      refine kR.jne (by omega) (by omega) (by omega) (by omega) (fun q2 => ?_) (fun q2 => ?_)
      · skip
        show kR 1 60 b60_25 _ _ _ _
        refine kR.s rfl rfl ?_
        refine kR.ret rfl rfl ?_
        rw [kb_no (by omega) (by first | (left; omega) | (right; exact decide_eq_false ‹_›))]
      · skip
        refine kR.inc rfl ?_
        refine kR.g rfl ?_
        rw [kb_go (by omega) (decide_eq_true ‹_›)]
        have z := ih (k - 1) (by omega) (k - 1) rfl (by omega) (by omega)
        rw [show ((k - 1 : Nat) : Int) = (k : Int) + -1 by omega] at z
        exact z
theorem c_60 {E : Nat → kC} {S : Nat → Nat → Int} {sz : Nat × Nat} {t : Nat → Int} {n L : Nat} (hX : kTx t n L) (hC : kCt S t n L) {e : Nat} (he : S 53 3 = (e : Int)) (hen : e ≤ n) {f g : Nat} (hg : g ≤ e) (hf : f ≤ g) : kR 1 60 (blk 60 0) (kent 60 [.ref 53, .int (Int32.ofInt ((f : Int))), .int (Int32.ofInt ((g : Int)))]) [] (sz, hp 57 E S) (fun r => r = (.inl (some (.int (Int32.ofInt (((kb (fun i => decide (t i = 32)) f g : Nat) : Int))))), (sz, hp 57 E S))) := by
  have hm : 53 ≤ 57 ∧ 57 ≤ 57 := by omega
  show kR 1 60 b60_0 _ _ _ _
  refine kR.s rfl rfl ?_
  refine kR.s rfl rfl ?_
  refine kR.n ?_
  exact l_60 hX hC he hen hg g g rfl hf (Nat.le_refl _)
