/-! The reference: piece. By program (wip/gen/gen65.py). -/
/-- from line k on: where the piece stops, behind which line it ends, its column, whether a line is not deep enough -/
def kpA (t : Nat → Int) (n : Nat) (c : Int) : Nat → Nat → Nat → Int → Int → Nat × Nat × Int × Int
  | 0, k, b, d, w => (k, b, d, w)
  | j + 1, k, b, d, w => if krb t n k < kre t n k then (if ((krb t n k : Int) - (klb t n k : Int)) ≤ c then (k, b, d, w) else kpA t n c j (k + 1) (k + 1) (if d < 0 then ((krb t n k : Int) - (klb t n k : Int)) else d) (if w = 1 ∨ (0 ≤ d ∧ ((krb t n k : Int) - (klb t n k : Int)) < d) then 1 else 0)) else kpA t n c j (k + 1) b d w
/-- the characters of a piece from line k on, j lines, up to line b -/
def kpB (t : Nat → Int) (n : Nat) (d : Nat) (kept : Int) (b : Nat) : Nat → Nat → List Int
  | 0, _ => []
  | j + 1, k => ksl t (klb t n k + d) (kle t n k) ++ ((if kept = 1 ∨ k + 1 < b then [10] else []) ++ kpB t n d kept b j (k + 1))
theorem l_135a {m : Nat} {E : Nat → kC} {S : Nat → Nat → Int} {sz : Nat × Nat} (hm : 53 ≤ m ∧ m ≤ 57) {t : Nat → Int} {n L : Nat} (hX : kTx t n L) (hR : kRt S t n) {kept cc : Int} (hcc : 0 ≤ cc ∧ cc ≤ 200) {f : Nat} {Q : kO × kH → Prop} : ∀ (j k b : Nat) (d w : Int) (v8 v9 v10 v11 : Value) (S1 : Nat → Nat → Int), L - k = j → k ≤ L → b ≤ k → -1 ≤ d ∧ d ≤ 200 → (w = 0 ∨ w = 1) → S1 = ku S 30 19 w → (∀ v8 v9 v10 v11 mo, kR 3 135 (blk 135 170) [.ref 30, .int (Int32.ofInt kept), .int (Int32.ofInt cc), .int (Int32.ofInt (klb t n f : Int)), .int (Int32.ofInt ((klb t n (kpA t n cc (L - k) k b d w).1 : Int))), .int (Int32.ofInt ((klb t n (kpA t n cc (L - k) k b d w).2.1 : Int))), .int (Int32.ofInt ((kpA t n cc (L - k) k b d w).2.2.1)), .int (Int32.ofInt (mo)), v8, v9, v10, v11] [] (sz, hp m E (ku S 30 19 (kpA t n cc (L - k) k b d w).2.2.2)) Q) → kR 3 135 (blk 135 31) [.ref 30, .int (Int32.ofInt kept), .int (Int32.ofInt cc), .int (Int32.ofInt (klb t n f : Int)), .int (Int32.ofInt ((klb t n k : Int))), .int (Int32.ofInt ((klb t n b : Int))), .int (Int32.ofInt (d)), .int (Int32.ofInt (1)), v8, v9, v10, v11] [] (sz, hp m E S1) Q := by
  intro j
  induction j using Nat.strongRecOn with
  | _ j ih =>
    intro k b d w v8 v9 v10 v11 S1 hj hkL hbk hd hw hS1 h170
    subst hS1
    have hx1 := hX.1
    have hx4 : k < L → klb t n k ≤ n := hX.2.2.2.2.1 k
    have hx6 : k = L → klb t n k = n + 1 := fun z => by rw [z]; exact hX.2.2.2.2.2
    have hx7 : k < L → klb t n k ≤ krb t n k ∧ krb t n k ≤ kre t n k ∧ kre t n k ≤ kle t n k ∧ kle t n k ≤ n := fun z => hX.ln z
    have hx8 : k < L → (krb t n k < kle t n k ↔ krb t n k < kre t n k) := fun z => krk (hx4 z)
    have hx9 : b < L → klb t n b ≤ n := hX.2.2.2.2.1 b
    have hx10 : b = L → klb t n b = n + 1 := fun z => by rw [z]; exact hX.2.2.2.2.2
    rcases Nat.lt_or_ge k L with hk | hk
    · rw [show L - k = L - (k + 1) + 1 by omega] at h170
      unfold kpA at h170
      show kR 3 135 b135_31 _ _ _ _
      refine kR.s rfl rfl ?_
      refine kR.zeq (by decide) (by decide) (fun q1 => absurd q1 (by decide)) (fun q1 => ?_)
      refine kR.s rfl rfl ?_
      refine kR.s rfl rfl ?_
      refine kR.gi (a := 30) (k := 7) (v := (n : Int)) (by omega) rfl rfl rfl (by decide) (by decide) rfl (by exact hR.1) ?_
      refine kR.jgt (by omega) (by omega) (by omega) (by omega) (fun q2 => ?_) (fun q2 => ?_)
      · skip
        exfalso
        omega
      · skip
        refine kR.s rfl rfl ?_
        refine kR.s rfl rfl ?_
        refine kR.cv (v := .int (Int32.ofInt ((kle t n k : Int)))) (kargs_m hm (by decide) rfl) rfl (kR.up (c_105t (S := ku S 30 19 w) hm hX hR (a := klb t n k) (by omega)) (by decide)) ?_
        refine kR.s rfl rfl ?_
        refine kR.s rfl rfl ?_
        refine kR.s rfl rfl ?_
        refine kR.s rfl rfl ?_
        refine kR.cv (v := .int (Int32.ofInt ((krb t n k : Int) - (klb t n k : Int)))) (kargs_m hm (by decide) rfl) rfl (kR.up (c_104t (S := ku S 30 19 w) hm hX hR (a := klb t n k) (g := kle t n k) (by omega) (by omega)) (by decide)) ?_
        refine kR.s rfl rfl ?_
        refine kR.s rfl rfl ?_
        refine kR.s rfl rfl ?_
        refine kR.add ?_
        rw [show (klb t n k : Int) + ((krb t n k : Int) - (klb t n k : Int)) = (krb t n k : Int) by omega]
        refine kR.s rfl rfl ?_
        refine kR.jge (by omega) (by omega) (by omega) (by omega) (fun q5 => ?_) (fun q5 => ?_)
        · skip
          show kR 3 135 b135_77 _ _ _ _
          refine kR.s rfl rfl ?_
          refine kR.n ?_
          show kR 3 135 b135_78 _ _ _ _
          refine kR.s rfl rfl ?_
          refine kR.s rfl rfl ?_
          refine kR.zeq (by decide) (by decide) (fun q6 => ?_) (fun q6 => absurd q6 (by decide))
          show kR 3 135 b135_91 _ _ _ _
          refine kR.s rfl rfl ?_
          refine kR.g rfl ?_
          show kR 3 135 b135_96 _ _ _ _
          refine kR.s rfl rfl ?_
          refine kR.s rfl rfl ?_
          refine kR.zeq (by decide) (by decide) (fun q7 => absurd q7 (by decide)) (fun q7 => ?_)
          refine kR.s rfl rfl ?_
          refine kR.zeq (by decide) (by decide) (fun q8 => ?_) (fun q8 => absurd q8 (by decide))
          show kR 3 135 b135_151 _ _ _ _
          refine kR.s rfl rfl ?_
          refine kR.zeq (by decide) (by decide) (fun q9 => absurd q9 (by decide)) (fun q9 => ?_)
          refine kR.s rfl rfl ?_
          refine kR.s rfl rfl ?_
          refine kR.add ?_
          refine kR.g rfl ?_
          show kR 3 135 b135_165 _ _ _ _
          refine kR.s rfl rfl ?_
          refine kR.g rfl ?_
          rw [if_neg (by omega : ¬ krb t n k < kre t n k)] at h170
          exact ih (L - (k + 1)) (by omega) (k + 1) b d w _ _ _ _ _ rfl (by omega) (by omega) hd hw rfl h170
        · skip
          refine kR.s rfl rfl ?_
          refine kR.g rfl ?_
          show kR 3 135 b135_78 _ _ _ _
          refine kR.s rfl rfl ?_
          refine kR.s rfl rfl ?_
          refine kR.zeq (by decide) (by decide) (fun q10 => absurd q10 (by decide)) (fun q10 => ?_)
          refine kR.s rfl rfl ?_
          refine kR.s rfl rfl ?_
          refine kR.jle (by omega) (by omega) (by omega) (by omega) (fun q11 => ?_) (fun q11 => ?_)
          · skip
            show kR 3 135 b135_95 _ _ _ _
            refine kR.s rfl rfl ?_
            refine kR.n ?_
            show kR 3 135 b135_96 _ _ _ _
            refine kR.s rfl rfl ?_
            refine kR.s rfl rfl ?_
            refine kR.zeq (by decide) (by decide) (fun q12 => ?_) (fun q12 => absurd q12 (by decide))
            show kR 3 135 b135_151 _ _ _ _
            refine kR.s rfl rfl ?_
            refine kR.zeq (by decide) (by decide) (fun q13 => ?_) (fun q13 => absurd q13 (by decide))
            show kR 3 135 b135_163 _ _ _ _
            refine kR.s rfl rfl ?_
            refine kR.n ?_
            show kR 3 135 b135_165 _ _ _ _
            refine kR.s rfl rfl ?_
            refine kR.g rfl ?_
            rw [if_pos (by omega : krb t n k < kre t n k), if_pos (by omega : ((krb t n k : Int) - (klb t n k : Int)) ≤ cc)] at h170
            show kR 3 135 b135_31 _ _ _ _
            refine kR.s rfl rfl ?_
            refine kR.zeq (by decide) (by decide) (fun q14 => ?_) (fun q14 => absurd q14 (by decide))
            exact h170 _ _ _ _ _
          · skip
            refine kR.n ?_
            show kR 3 135 b135_91 _ _ _ _
            refine kR.s rfl rfl ?_
            refine kR.g rfl ?_
            show kR 3 135 b135_96 _ _ _ _
            refine kR.s rfl rfl ?_
            refine kR.s rfl rfl ?_
            refine kR.zeq (by decide) (by decide) (fun q15 => absurd q15 (by decide)) (fun q15 => ?_)
            refine kR.s rfl rfl ?_
            refine kR.zeq (by decide) (by decide) (fun q16 => absurd q16 (by decide)) (fun q16 => ?_)
            refine kR.s rfl rfl ?_
            refine kR.zge (by omega) (by omega) (fun q17 => ?_) (fun q17 => ?_)
            · skip
              show kR 3 135 b135_118 _ _ _ _
              refine kR.s rfl rfl ?_
              refine kR.n ?_
              show kR 3 135 b135_120 _ _ _ _
              refine kR.s rfl rfl ?_
              refine kR.s rfl rfl ?_
              refine kR.s rfl rfl ?_
              refine kR.gi (a := 30) (k := 19) (v := w) (by omega) rfl rfl rfl (by decide) (by decide) rfl (by rfl) ?_
              refine kR.zne (by omega) (by omega) (fun q18 => ?_) (fun q18 => ?_)
              · skip
                show kR 3 135 b135_137 _ _ _ _
                refine kR.s rfl rfl ?_
                refine kR.g rfl ?_
                show kR 3 135 b135_142 _ _ _ _
                refine kR.pi (a := 30) (k := 19) (by omega) rfl rfl rfl (by decide) (by decide) rfl (by first | rfl | assumption | simp [kfit, *]) ?_
                refine kR.s rfl rfl ?_
                refine kR.s rfl rfl ?_
                refine kR.add ?_
                refine kR.s rfl rfl ?_
                refine kR.n ?_
                show kR 3 135 b135_151 _ _ _ _
                refine kR.s rfl rfl ?_
                refine kR.zeq (by decide) (by decide) (fun q19 => absurd q19 (by decide)) (fun q19 => ?_)
                refine kR.s rfl rfl ?_
                refine kR.s rfl rfl ?_
                refine kR.add ?_
                refine kR.g rfl ?_
                show kR 3 135 b135_165 _ _ _ _
                refine kR.s rfl rfl ?_
                refine kR.g rfl ?_
                rw [if_pos (by omega : krb t n k < kre t n k), if_neg (by omega : ¬ ((krb t n k : Int) - (klb t n k : Int)) ≤ cc)] at h170
                rw [show (if d < 0 then ((krb t n k : Int) - (klb t n k : Int)) else d) = d from if_neg (by omega)] at h170
                rw [show (if w = 1 ∨ (0 ≤ d ∧ ((krb t n k : Int) - (klb t n k : Int)) < d) then (1 : Int) else 0) = 1 from if_pos (by omega)] at h170
                rw [ku_ku]
                exact ih (L - (k + 1)) (by omega) (k + 1) (k + 1) _ _ _ _ _ _ _ rfl (by omega) (by omega) (by omega) (by omega) rfl h170
              · skip
                refine kR.s rfl rfl ?_
                refine kR.s rfl rfl ?_
                refine kR.jge (by omega) (by omega) (by omega) (by omega) (fun q20 => ?_) (fun q20 => ?_)
                · skip
                  show kR 3 135 b135_141 _ _ _ _
                  refine kR.s rfl rfl ?_
                  refine kR.n ?_
                  show kR 3 135 b135_142 _ _ _ _
                  refine kR.pi (a := 30) (k := 19) (by omega) rfl rfl rfl (by decide) (by decide) rfl (by first | rfl | assumption | simp [kfit, *]) ?_
                  refine kR.s rfl rfl ?_
                  refine kR.s rfl rfl ?_
                  refine kR.add ?_
                  refine kR.s rfl rfl ?_
                  refine kR.n ?_
                  show kR 3 135 b135_151 _ _ _ _
                  refine kR.s rfl rfl ?_
                  refine kR.zeq (by decide) (by decide) (fun q21 => absurd q21 (by decide)) (fun q21 => ?_)
                  refine kR.s rfl rfl ?_
                  refine kR.s rfl rfl ?_
                  refine kR.add ?_
                  refine kR.g rfl ?_
                  show kR 3 135 b135_165 _ _ _ _
                  refine kR.s rfl rfl ?_
                  refine kR.g rfl ?_
                  rw [if_pos (by omega : krb t n k < kre t n k), if_neg (by omega : ¬ ((krb t n k : Int) - (klb t n k : Int)) ≤ cc)] at h170
                  rw [show (if d < 0 then ((krb t n k : Int) - (klb t n k : Int)) else d) = d from if_neg (by omega)] at h170
                  rw [show (if w = 1 ∨ (0 ≤ d ∧ ((krb t n k : Int) - (klb t n k : Int)) < d) then (1 : Int) else 0) = 0 from if_neg (by omega)] at h170
                  rw [ku_ku]
                  exact ih (L - (k + 1)) (by omega) (k + 1) (k + 1) _ _ _ _ _ _ _ rfl (by omega) (by omega) (by omega) (by omega) rfl h170
                · skip
                  refine kR.n ?_
                  show kR 3 135 b135_137 _ _ _ _
                  refine kR.s rfl rfl ?_
                  refine kR.g rfl ?_
                  show kR 3 135 b135_142 _ _ _ _
                  refine kR.pi (a := 30) (k := 19) (by omega) rfl rfl rfl (by decide) (by decide) rfl (by first | rfl | assumption | simp [kfit, *]) ?_
                  refine kR.s rfl rfl ?_
                  refine kR.s rfl rfl ?_
                  refine kR.add ?_
                  refine kR.s rfl rfl ?_
                  refine kR.n ?_
                  show kR 3 135 b135_151 _ _ _ _
                  refine kR.s rfl rfl ?_
                  refine kR.zeq (by decide) (by decide) (fun q22 => absurd q22 (by decide)) (fun q22 => ?_)
                  refine kR.s rfl rfl ?_
                  refine kR.s rfl rfl ?_
                  refine kR.add ?_
                  refine kR.g rfl ?_
                  show kR 3 135 b135_165 _ _ _ _
                  refine kR.s rfl rfl ?_
                  refine kR.g rfl ?_
                  rw [if_pos (by omega : krb t n k < kre t n k), if_neg (by omega : ¬ ((krb t n k : Int) - (klb t n k : Int)) ≤ cc)] at h170
                  rw [show (if d < 0 then ((krb t n k : Int) - (klb t n k : Int)) else d) = d from if_neg (by omega)] at h170
                  rw [show (if w = 1 ∨ (0 ≤ d ∧ ((krb t n k : Int) - (klb t n k : Int)) < d) then (1 : Int) else 0) = 1 from if_pos (by omega)] at h170
                  rw [ku_ku]
                  exact ih (L - (k + 1)) (by omega) (k + 1) (k + 1) _ _ _ _ _ _ _ rfl (by omega) (by omega) (by omega) (by omega) rfl h170
            · skip
              refine kR.s rfl rfl ?_
              refine kR.g rfl ?_
              show kR 3 135 b135_120 _ _ _ _
              refine kR.s rfl rfl ?_
              refine kR.s rfl rfl ?_
              refine kR.s rfl rfl ?_
              refine kR.gi (a := 30) (k := 19) (v := w) (by omega) rfl rfl rfl (by decide) (by decide) rfl (by rfl) ?_
              refine kR.zne (by omega) (by omega) (fun q23 => ?_) (fun q23 => ?_)
              · skip
                show kR 3 135 b135_137 _ _ _ _
                refine kR.s rfl rfl ?_
                refine kR.g rfl ?_
                show kR 3 135 b135_142 _ _ _ _
                refine kR.pi (a := 30) (k := 19) (by omega) rfl rfl rfl (by decide) (by decide) rfl (by first | rfl | assumption | simp [kfit, *]) ?_
                refine kR.s rfl rfl ?_
                refine kR.s rfl rfl ?_
                refine kR.add ?_
                refine kR.s rfl rfl ?_
                refine kR.n ?_
                show kR 3 135 b135_151 _ _ _ _
                refine kR.s rfl rfl ?_
                refine kR.zeq (by decide) (by decide) (fun q24 => absurd q24 (by decide)) (fun q24 => ?_)
                refine kR.s rfl rfl ?_
                refine kR.s rfl rfl ?_
                refine kR.add ?_
                refine kR.g rfl ?_
                show kR 3 135 b135_165 _ _ _ _
                refine kR.s rfl rfl ?_
                refine kR.g rfl ?_
                rw [if_pos (by omega : krb t n k < kre t n k), if_neg (by omega : ¬ ((krb t n k : Int) - (klb t n k : Int)) ≤ cc)] at h170
                rw [show (if d < 0 then ((krb t n k : Int) - (klb t n k : Int)) else d) = ((krb t n k : Int) - (klb t n k : Int)) from if_pos (by omega)] at h170
                rw [show (if w = 1 ∨ (0 ≤ d ∧ ((krb t n k : Int) - (klb t n k : Int)) < d) then (1 : Int) else 0) = 1 from if_pos (by omega)] at h170
                rw [ku_ku]
                exact ih (L - (k + 1)) (by omega) (k + 1) (k + 1) _ _ _ _ _ _ _ rfl (by omega) (by omega) (by omega) (by omega) rfl h170
              · skip
                refine kR.s rfl rfl ?_
                refine kR.s rfl rfl ?_
                refine kR.jge (by omega) (by omega) (by omega) (by omega) (fun q25 => ?_) (fun q25 => ?_)
                · skip
                  show kR 3 135 b135_141 _ _ _ _
                  refine kR.s rfl rfl ?_
                  refine kR.n ?_
                  show kR 3 135 b135_142 _ _ _ _
                  refine kR.pi (a := 30) (k := 19) (by omega) rfl rfl rfl (by decide) (by decide) rfl (by first | rfl | assumption | simp [kfit, *]) ?_
                  refine kR.s rfl rfl ?_
                  refine kR.s rfl rfl ?_
                  refine kR.add ?_
                  refine kR.s rfl rfl ?_
                  refine kR.n ?_
                  show kR 3 135 b135_151 _ _ _ _
                  refine kR.s rfl rfl ?_
                  refine kR.zeq (by decide) (by decide) (fun q26 => absurd q26 (by decide)) (fun q26 => ?_)
                  refine kR.s rfl rfl ?_
                  refine kR.s rfl rfl ?_
                  refine kR.add ?_
                  refine kR.g rfl ?_
                  show kR 3 135 b135_165 _ _ _ _
                  refine kR.s rfl rfl ?_
                  refine kR.g rfl ?_
                  rw [if_pos (by omega : krb t n k < kre t n k), if_neg (by omega : ¬ ((krb t n k : Int) - (klb t n k : Int)) ≤ cc)] at h170
                  rw [show (if d < 0 then ((krb t n k : Int) - (klb t n k : Int)) else d) = ((krb t n k : Int) - (klb t n k : Int)) from if_pos (by omega)] at h170
                  rw [show (if w = 1 ∨ (0 ≤ d ∧ ((krb t n k : Int) - (klb t n k : Int)) < d) then (1 : Int) else 0) = 0 from if_neg (by omega)] at h170
                  rw [ku_ku]
                  exact ih (L - (k + 1)) (by omega) (k + 1) (k + 1) _ _ _ _ _ _ _ rfl (by omega) (by omega) (by omega) (by omega) rfl h170
                · skip
                  refine kR.n ?_
                  show kR 3 135 b135_137 _ _ _ _
                  refine kR.s rfl rfl ?_
                  refine kR.g rfl ?_
                  show kR 3 135 b135_142 _ _ _ _
                  refine kR.pi (a := 30) (k := 19) (by omega) rfl rfl rfl (by decide) (by decide) rfl (by first | rfl | assumption | simp [kfit, *]) ?_
                  refine kR.s rfl rfl ?_
                  refine kR.s rfl rfl ?_
                  refine kR.add ?_
                  refine kR.s rfl rfl ?_
                  refine kR.n ?_
                  show kR 3 135 b135_151 _ _ _ _
                  refine kR.s rfl rfl ?_
                  refine kR.zeq (by decide) (by decide) (fun q27 => absurd q27 (by decide)) (fun q27 => ?_)
                  refine kR.s rfl rfl ?_
                  refine kR.s rfl rfl ?_
                  refine kR.add ?_
                  refine kR.g rfl ?_
                  show kR 3 135 b135_165 _ _ _ _
                  refine kR.s rfl rfl ?_
                  refine kR.g rfl ?_
                  rw [if_pos (by omega : krb t n k < kre t n k), if_neg (by omega : ¬ ((krb t n k : Int) - (klb t n k : Int)) ≤ cc)] at h170
                  rw [show (if d < 0 then ((krb t n k : Int) - (klb t n k : Int)) else d) = ((krb t n k : Int) - (klb t n k : Int)) from if_pos (by omega)] at h170
                  rw [show (if w = 1 ∨ (0 ≤ d ∧ ((krb t n k : Int) - (klb t n k : Int)) < d) then (1 : Int) else 0) = 1 from if_pos (by omega)] at h170
                  rw [ku_ku]
                  exact ih (L - (k + 1)) (by omega) (k + 1) (k + 1) _ _ _ _ _ _ _ rfl (by omega) (by omega) (by omega) (by omega) rfl h170
    · rw [show L - k = 0 by omega] at h170
      unfold kpA at h170
      show kR 3 135 b135_31 _ _ _ _
      refine kR.s rfl rfl ?_
      refine kR.zeq (by decide) (by decide) (fun q1 => absurd q1 (by decide)) (fun q1 => ?_)
      refine kR.s rfl rfl ?_
      refine kR.s rfl rfl ?_
      refine kR.gi (a := 30) (k := 7) (v := (n : Int)) (by omega) rfl rfl rfl (by decide) (by decide) rfl (by exact hR.1) ?_
      refine kR.jgt (by omega) (by omega) (by omega) (by omega) (fun q2 => ?_) (fun q2 => ?_)
      · skip
        exact h170 _ _ _ _ _
      · skip
        exfalso
        omega
theorem kspl_app (v : Nat) : ∀ (xs ys : List Int) (u : Nat) (S : Nat → Nat → Int), kspl v (xs ++ ys) u S = kspl v ys (u + xs.length) (kspl v xs u S)
  | [], ys, u, S => rfl
  | x :: xs, ys, u, S => by
    show kspl v (xs ++ ys) (u + 1) (ksp1 S v x u) = _
    rw [kspl_app v xs ys (u + 1) (ksp1 S v x u), List.length_cons, show u + 1 + xs.length = u + (xs.length + 1) by omega]
    rfl
theorem kspl_rt {v : Nat} {xs : List Int} {u : Nat} {S : Nat → Nat → Int} {t : Nat → Int} {n : Nat} (h : kRt S t n) (hu : S 30 14 = (u : Int)) : kRt (kspl v xs u S) t n := by
  have z := (kspl_at v xs u S hu).1
  exact ⟨(z 30 7 (by omega) (by omega) (by decide)).trans h.1, fun j hj => (z 33 j (by omega) (by omega) (by decide)).trans (h.2 j hj)⟩
theorem l_135c {m : Nat} {E : Nat → kC} {sz : Nat × Nat} (hm : 53 ≤ m ∧ m ≤ 57) {t : Nat → Int} {n L : Nat} (hX : kTx t n L) {kept : Int} {v g : Nat} (hv : v < 60) (hgn : g ≤ n) {Q : kO × kH → Prop} {v2 v3 v4 v5 v6 v7 v9 : Value} : ∀ (j p u : Nat) (S : Nat → Nat → Int), g - p = j → p ≤ 500 → kRt S t n → S 30 14 = (u : Int) → u + j ≤ 500 → (∀ q : Nat, kR 3 135 (blk 135 235) [.ref 30, .int (Int32.ofInt kept), v2, v3, v4, v5, v6, v7, .int (Int32.ofInt (v : Int)), v9, .int (Int32.ofInt (g : Int)), .int (Int32.ofInt (q : Int))] [] (sz, hp m E (kspl v (kslh t j p) u S)) Q) → kR 3 135 (blk 135 209) [.ref 30, .int (Int32.ofInt kept), v2, v3, v4, v5, v6, v7, .int (Int32.ofInt (v : Int)), v9, .int (Int32.ofInt (g : Int)), .int (Int32.ofInt (p : Int))] [] (sz, hp m E S) Q := by
  intro j
  induction j with
  | zero =>
    intro p u S hj hpp hR hu hul h235
    have hx1 := hX.1
    show kR 3 135 b135_209 _ _ _ _
    refine kR.s rfl rfl ?_
    refine kR.s rfl rfl ?_
    refine kR.jge (by omega) (by omega) (by omega) (by omega) (fun q1 => ?_) (fun q1 => ?_)
    · skip
      exact h235 p
    · skip
      exfalso
      omega
  | succ j ih =>
    intro p u S hj hpp hR hu hul h235
    have hx1 := hX.1
    have z0 := hX.2.1 p
    show kR 3 135 b135_209 _ _ _ _
    refine kR.s rfl rfl ?_
    refine kR.s rfl rfl ?_
    refine kR.jge (by omega) (by omega) (by omega) (by omega) (fun q1 => ?_) (fun q1 => ?_)
    · skip
      exfalso
      omega
    · skip
      refine kR.s rfl rfl ?_
      refine kR.s rfl rfl ?_
      refine kR.s rfl rfl ?_
      refine kR.gr (a := 30) (b := 33) (k := 6) (by omega) rfl rfl rfl (by decide) (by decide) rfl ?_
      refine kR.s rfl rfl ?_
      refine kR.ia (a := 33) (v := t p) (by omega) rfl (by decide) (by omega) (by omega) (by exact (hR.2 _ (by omega))) ?_
      refine kR.c0 (kargs_m hm (by decide) rfl) rfl (kR.up (c_111 hm (v := v) (x := t p) hv hu (by omega)) (by decide)) ?_
      refine kR.inc rfl ?_
      refine kR.g rfl ?_
      exact ih (p + 1) (u + 1) (ksp1 S v (t p) u) (by omega) (by omega) hR rfl (by omega) h235
theorem klb_lt {t : Nat → Int} {n : Nat} : ∀ {a b : Nat}, a < b → klb t n a < klb t n b := by
  intro a b h
  induction b with
  | zero => omega
  | succ b ih =>
    have h1 : klb t n b ≤ kle t n b := (kw_rng (p := fun i => decide (t i ≠ 10)) (n := n) (k := klb t n b)).1
    have h2 : klb t n (b + 1) = kle t n b + 1 := rfl
    rcases Nat.lt_or_ge a b with z | z
    · have := ih z
      omega
    · rw [show a = b by omega]
      omega
theorem klb_mono {t : Nat → Int} {n a b : Nat} (h : a ≤ b) : klb t n a ≤ klb t n b := by
  rcases Nat.lt_or_ge a b with z | z
  · exact Nat.le_of_lt (klb_lt z)
  · rw [show a = b by omega]
    exact Nat.le_refl _
theorem l_135b {m : Nat} {E : Nat → kC} {sz : Nat × Nat} (hm : 53 ≤ m ∧ m ≤ 57) {t : Nat → Int} {n L : Nat} (hX : kTx t n L) {kept st : Int} (hkp : kept = 0 ∨ kept = 1) {v b d : Nat} (hv : v < 60) (hbL : b ≤ L) (hd : d ≤ 200) {Q : kO × kH → Prop} {v2 v3 v7 : Value} : ∀ (j k u : Nat) (S : Nat → Nat → Int) (v10 v11 : Value), b - k = j → k ≤ b → kRt S t n → S 30 19 = 0 → S 30 14 = (u : Int) → u + (kpB t n d kept b j k).length ≤ 500 → (∀ v10 v11, kR 3 135 (blk 135 265) [.ref 30, .int (Int32.ofInt kept), v2, v3, .int (Int32.ofInt st), .int (Int32.ofInt (klb t n b : Int)), .int (Int32.ofInt (d : Int)), v7, .int (Int32.ofInt (v : Int)), .int (Int32.ofInt (klb t n b : Int)), v10, v11] [] (sz, hp m E (kspl v (kpB t n d kept b j k) u S)) Q) → kR 3 135 (blk 135 180) [.ref 30, .int (Int32.ofInt kept), v2, v3, .int (Int32.ofInt st), .int (Int32.ofInt (klb t n b : Int)), .int (Int32.ofInt (d : Int)), v7, .int (Int32.ofInt (v : Int)), .int (Int32.ofInt (klb t n k : Int)), v10, v11] [] (sz, hp m E S) Q := by
  intro j
  induction j with
  | zero =>
    intro k u S v10 v11 hj hkb hR hwr hu hul h265
    have hx1 := hX.1
    have hkb2 : k = b := by omega
    subst hkb2
    have hx9 : k < L → klb t n k ≤ n := hX.2.2.2.2.1 k
    have hx10 : k = L → klb t n k = n + 1 := fun z => by rw [z]; exact hX.2.2.2.2.2
    show kR 3 135 b135_180 _ _ _ _
    refine kR.s rfl rfl ?_
    refine kR.s rfl rfl ?_
    refine kR.jge (by omega) (by omega) (by omega) (by omega) (fun q1 => ?_) (fun q1 => ?_)
    · skip
      exact h265 _ _
    · skip
      exfalso
      omega
  | succ j ih =>
    intro k u S v10 v11 hj hkb hR hwr hu hul h265
    have hx1 := hX.1
    have hx4 : klb t n k ≤ n := hX.2.2.2.2.1 k (by omega)
    have hx7 := hX.ln (show k < L by omega)
    have hx9 : b < L → klb t n b ≤ n := hX.2.2.2.2.1 b
    have hx10 : b = L → klb t n b = n + 1 := fun z => by rw [z]; exact hX.2.2.2.2.2
    have hmo : klb t n (k + 1) ≤ klb t n b := klb_mono (by omega)
    have hs1 : klb t n (k + 1) = kle t n k + 1 := rfl
    have hlt : k + 1 < b → klb t n (k + 1) < klb t n b := fun z => klb_lt (by omega)
    have heq : k + 1 = b → klb t n (k + 1) = klb t n b := fun z => by rw [z]
    unfold kpB at hul h265
    rw [List.length_append, List.length_append, show (ksl t (klb t n k + d) (kle t n k)).length = kle t n k - (klb t n k + d) from kslh_len _ _ _] at hul
    have hat := kspl_at v (ksl t (klb t n k + d) (kle t n k)) u S hu
    have hat2 := hat.2.1
    rw [show (ksl t (klb t n k + d) (kle t n k)).length = kle t n k - (klb t n k + d) from kslh_len _ _ _] at hat2
    show kR 3 135 b135_180 _ _ _ _
    refine kR.s rfl rfl ?_
    refine kR.s rfl rfl ?_
    refine kR.jge (by omega) (by omega) (by omega) (by omega) (fun q1 => ?_) (fun q1 => ?_)
    · skip
      exfalso
      omega
    · skip
      refine kR.s rfl rfl ?_
      refine kR.gi (a := 30) (k := 19) (v := 0) (by omega) rfl rfl rfl (by decide) (by decide) rfl (by exact hwr) ?_
      refine kR.zne (by decide) (by decide) (fun q2 => absurd q2 (by decide)) (fun q2 => ?_)
      refine kR.s rfl rfl ?_
      refine kR.s rfl rfl ?_
      refine kR.cv (v := .int (Int32.ofInt ((kle t n k : Int)))) (kargs_m hm (by decide) rfl) rfl (kR.up (c_105t hm hX hR (a := klb t n k) (by omega)) (by decide)) ?_
      refine kR.s rfl rfl ?_
      refine kR.s rfl rfl ?_
      refine kR.s rfl rfl ?_
      refine kR.add ?_
      refine kR.s rfl rfl ?_
      refine kR.n ?_
      refine l_135c hm hX hv (by omega) (kle t n k - (klb t n k + d)) (klb t n k + d) u S rfl (by omega) hR hu (by omega) (fun q => ?_)
      obtain ⟨X, hXe⟩ : ∃ X, X = kspl v (ksl t (klb t n k + d) (kle t n k)) u S := ⟨_, rfl⟩
      obtain ⟨w, hw⟩ : ∃ w : Nat, w = u + (kle t n k - (klb t n k + d)) := ⟨_, rfl⟩
      have hXu : X 30 14 = (w : Int) := by rw [hXe, hat2, hw]; omega
      have hXR : kRt X t n := by rw [hXe]; exact kspl_rt hR hu
      have hXw : X 30 19 = 0 := by rw [hXe, hat.1 30 19 (by omega) (by omega) (by decide)]; exact hwr
      simp only [kspl_app, show (ksl t (klb t n k + d) (kle t n k)).length = kle t n k - (klb t n k + d) from kslh_len _ _ _, ← hXe, ← hw] at h265
      show kR 3 135 (blk 135 235) _ _ (sz, hp m E (kspl v (ksl t (klb t n k + d) (kle t n k)) u S)) _
      rw [← hXe]
      show kR 3 135 b135_235 _ _ _ _
      refine kR.s rfl rfl ?_
      refine kR.zne (by omega) (by omega) (fun q4 => ?_) (fun q4 => ?_)
      · skip
        show kR 3 135 b135_248 _ _ _ _
        refine kR.s rfl rfl ?_
        refine kR.s rfl rfl ?_
        refine kR.bi rfl ?_
        refine kR.c0 (kargs_m hm (by decide) rfl) rfl (kR.up (c_111 (S := X) hm (v := v) (x := 10) hv hXu (by first | omega | (rw [if_pos (by omega)] at hul; simp at hul; omega))) (by decide)) ?_
        refine kR.n ?_
        show kR 3 135 b135_256 _ _ _ _
        refine kR.s rfl rfl ?_
        refine kR.s rfl rfl ?_
        refine kR.add ?_
        refine kR.s rfl rfl ?_
        refine kR.g rfl ?_
        rw [if_pos (by omega)] at hul
        simp only [if_pos (show kept = 1 ∨ k + 1 < b by omega)] at h265
        simp only [List.length_cons, List.length_nil] at hul
        exact ih (k + 1) (w + 1) (ksp1 X v 10 w) _ _ (by omega) (by omega) hXR hXw rfl (by omega) h265
      · skip
        refine kR.s rfl rfl ?_
        refine kR.s rfl rfl ?_
        refine kR.add ?_
        refine kR.s rfl rfl ?_
        refine kR.jge (by omega) (by omega) (by omega) (by omega) (fun q6 => ?_) (fun q6 => ?_)
        · skip
          show kR 3 135 b135_256 _ _ _ _
          refine kR.s rfl rfl ?_
          refine kR.s rfl rfl ?_
          refine kR.add ?_
          refine kR.s rfl rfl ?_
          refine kR.g rfl ?_
          rw [if_neg (by omega)] at hul
          simp only [if_neg (show ¬ (kept = 1 ∨ k + 1 < b) by omega)] at h265
          simp only [List.length_nil] at hul
          exact ih (k + 1) w X _ _ (by omega) (by omega) hXR hXw hXu (by omega) h265
        · skip
          refine kR.n ?_
          show kR 3 135 b135_248 _ _ _ _
          refine kR.s rfl rfl ?_
          refine kR.s rfl rfl ?_
          refine kR.bi rfl ?_
          refine kR.c0 (kargs_m hm (by decide) rfl) rfl (kR.up (c_111 (S := X) hm (v := v) (x := 10) hv hXu (by first | omega | (rw [if_pos (by omega)] at hul; simp at hul; omega))) (by decide)) ?_
          refine kR.n ?_
          show kR 3 135 b135_256 _ _ _ _
          refine kR.s rfl rfl ?_
          refine kR.s rfl rfl ?_
          refine kR.add ?_
          refine kR.s rfl rfl ?_
          refine kR.g rfl ?_
          rw [if_pos (by omega)] at hul
          simp only [if_pos (show kept = 1 ∨ k + 1 < b by omega)] at h265
          simp only [List.length_cons, List.length_nil] at hul
          exact ih (k + 1) (w + 1) (ksp1 X v 10 w) _ _ (by omega) (by omega) hXR hXw rfl (by omega) h265
theorem kpA_rng {t : Nat → Int} {n L : Nat} (hX : kTx t n L) (c : Int) : ∀ (j k b : Nat) (d w : Int), k + j ≤ L → b ≤ k → -1 ≤ d ∧ d ≤ 200 → (w = 0 ∨ w = 1) → b ≤ (kpA t n c j k b d w).2.1 ∧ (kpA t n c j k b d w).2.1 ≤ (kpA t n c j k b d w).1 ∧ k ≤ (kpA t n c j k b d w).1 ∧ (kpA t n c j k b d w).1 ≤ k + j ∧ (-1 ≤ (kpA t n c j k b d w).2.2.1 ∧ (kpA t n c j k b d w).2.2.1 ≤ 200) ∧ (b < (kpA t n c j k b d w).2.1 → 0 ≤ (kpA t n c j k b d w).2.2.1) ∧ (0 ≤ d → (kpA t n c j k b d w).2.2.1 = d) ∧ ((kpA t n c j k b d w).2.2.2 = 0 ∨ (kpA t n c j k b d w).2.2.2 = 1)
  | 0, k, b, d, w, h1, h2, h3, h4 => ⟨Nat.le_refl _, h2, Nat.le_refl _, Nat.le_refl _, h3, fun z => absurd z (Nat.lt_irrefl _), fun _ => rfl, h4⟩
  | j + 1, k, b, d, w, h1, h2, h3, h4 => by
    have hl := hX.ln (show k < L by omega)
    have hn := hX.1
    unfold kpA
    split
    · split
      · exact ⟨Nat.le_refl _, h2, Nat.le_refl _, by omega, h3, fun z => absurd z (Nat.lt_irrefl _), fun _ => rfl, h4⟩
      · have e1 : -1 ≤ (if d < 0 then ((krb t n k : Int) - (klb t n k : Int)) else d) ∧ (if d < 0 then ((krb t n k : Int) - (klb t n k : Int)) else d) ≤ 200 := by split <;> omega
        have e2 : 0 ≤ (if d < 0 then ((krb t n k : Int) - (klb t n k : Int)) else d) := by split <;> omega
        obtain ⟨a1, a2, a3, a4, a5, a6, a7, a8⟩ := kpA_rng hX c j (k + 1) (k + 1) (if d < 0 then ((krb t n k : Int) - (klb t n k : Int)) else d) (if w = 1 ∨ (0 ≤ d ∧ ((krb t n k : Int) - (klb t n k : Int)) < d) then 1 else 0) (by omega) (Nat.le_refl _) e1 (by split <;> simp)
        exact ⟨by omega, a2, by omega, by omega, a5, fun _ => by rw [a7 e2]; exact e2, fun z => by rw [a7 e2, if_neg (by omega)], a8⟩
    · obtain ⟨a1, a2, a3, a4, a5, a6, a7, a8⟩ := kpA_rng hX c j (k + 1) b d w (by omega) (by omega) h3 h4
      exact ⟨a1, a2, by omega, by omega, a5, a6, a7, a8⟩
theorem c_135w {m : Nat} {E : Nat → kC} {S : Nat → Nat → Int} {sz : Nat × Nat} (hm : 53 ≤ m ∧ m ≤ 57) {t : Nat → Int} {n L : Nat} (hX : kTx t n L) (hR : kRt S t n) {kept : Int} (hkp : kept = 0 ∨ kept = 1) {o : Nat} (ho : S 30 29 = (o : Int)) (hol : 1 ≤ o ∧ o ≤ 8) {cc : Int} (hcl : S 45 (o - 1) = cc) (hcc : 0 ≤ cc ∧ cc ≤ 200) {f : Nat} (hf : f ≤ L) (hle : S 30 24 + 1 = (klb t n f : Int)) (hwr : S 30 19 = 0) {st bh : Nat} {dp w : Int} (hka : (kpA t n cc (L - f) f f (-1) 0) = (st, bh, dp, w)) {S1 : Nat → Nat → Int} {v u : Nat} (hv : v < 60) (hmk : kR 0 110 (blk 110 0) (kent 110 [.ref 30, .int (Int32.ofInt 3)]) [] (sz, hp m E (ku S 30 19 w)) (fun r => r = (.inl (some (.int (Int32.ofInt (v : Int)))), (sz, hp m E S1)))) (hR1 : kRt S1 t n) (h19 : S1 30 19 = 1) : kR 4 135 (blk 135 0) (kent 135 [.ref 30, .int (Int32.ofInt kept)]) [] (sz, hp m E S) (fun r => r = (.inl none, (sz, hp m E (ku (ku (ku S1 30 24 ((klb t n st : Int) - 1)) 30 27 (v : Int)) 30 20 4)))) := by
  have hx1 := hX.1
  have ho1 : (o : Int) - 1 = ((o - 1 : Nat) : Int) := by omega
  have hrg := kpA_rng hX cc (L - f) f f (-1) 0 (by omega) (Nat.le_refl _) (by omega) (by omega)
  rw [hka] at hrg
  obtain ⟨g1, g2, g3, g4, g5, g6, g7, g8⟩ := hrg
  change f ≤ bh at g1
  change bh ≤ st at g2
  change st ≤ f + (L - f) at g4
  change f < bh → 0 ≤ dp at g6
  change -1 ≤ dp ∧ dp ≤ 200 at g5
  have hs1 : klb t n st ≤ n + 1 := by rw [← hX.2.2.2.2.2]; exact klb_mono (by omega)
  have hs2 : klb t n bh ≤ n + 1 := by rw [← hX.2.2.2.2.2]; exact klb_mono (by omega)
  have hs3 : klb t n f ≤ n + 1 := by rw [← hX.2.2.2.2.2]; exact klb_mono (by omega)
  have hs4 : klb t n f ≤ klb t n bh := klb_mono g1
  show kR 4 135 b135_0 _ _ _ _
  refine kR.s rfl rfl ?_
  refine kR.gr (a := 30) (b := 45) (k := 32) (by omega) rfl rfl rfl (by decide) (by decide) rfl ?_
  refine kR.s rfl rfl ?_
  refine kR.gi (a := 30) (k := 29) (v := (o : Int)) (by omega) rfl rfl rfl (by decide) (by decide) rfl (by exact ho) ?_
  refine kR.s rfl rfl ?_
  refine kR.sub ?_
  rw [ho1]
  refine kR.ia (a := 45) (v := cc) (by omega) rfl (by decide) (by omega) (by omega) (by exact hcl) ?_
  refine kR.s rfl rfl ?_
  refine kR.s rfl rfl ?_
  refine kR.gi (a := 30) (k := 24) (v := S 30 24) (by omega) rfl rfl rfl (by decide) (by decide) rfl (by rfl) ?_
  refine kR.s rfl rfl ?_
  refine kR.add ?_
  rw [hle]
  refine kR.s rfl rfl ?_
  refine kR.s rfl rfl ?_
  refine kR.s rfl rfl ?_
  refine kR.s rfl rfl ?_
  refine kR.s rfl rfl ?_
  refine kR.s rfl rfl ?_
  refine kR.s rfl rfl ?_
  refine kR.s rfl rfl ?_
  refine kR.s rfl rfl ?_
  refine kR.n ?_
  refine kR.up (l_135a hm hX hR hcc (L - f) f f (-1) 0 _ _ _ _ S rfl hf (Nat.le_refl _) (by omega) (Or.inl rfl) (ku_eta hwr).symm (fun v8 v9 v10 v11 mo => ?_)) (by decide)
  rw [hka]
  show kR 3 135 (blk 135 170) [.ref 30, .int (Int32.ofInt kept), .int (Int32.ofInt cc), .int (Int32.ofInt (klb t n f : Int)), .int (Int32.ofInt ((klb t n st : Int))), .int (Int32.ofInt ((klb t n bh : Int))), .int (Int32.ofInt (dp)), .int (Int32.ofInt (mo)), v8, v9, v10, v11] [] (sz, hp m E (ku S 30 19 w)) _
  show kR 3 135 b135_170 _ _ _ _
  refine kR.s rfl rfl ?_
  refine kR.s rfl rfl ?_
  refine kR.cv (v := .int (Int32.ofInt ((v : Int)))) (kargs_m hm (by decide) rfl) rfl (kR.up ((hmk)) (by decide)) ?_
  refine kR.s rfl rfl ?_
  refine kR.s rfl rfl ?_
  refine kR.s rfl rfl ?_
  refine kR.n ?_
  show kR 3 135 b135_180 _ _ _ _
  refine kR.s rfl rfl ?_
  refine kR.s rfl rfl ?_
  refine kR.jge (by omega) (by omega) (by omega) (by omega) (fun q2 => ?_) (fun q2 => ?_)
  · skip
    show kR 3 135 b135_265 _ _ _ _
    refine kR.s rfl rfl ?_
    refine kR.s rfl rfl ?_
    refine kR.s rfl rfl ?_
    refine kR.sub ?_
    refine kR.pi (a := 30) (k := 24) (by omega) rfl rfl rfl (by decide) (by decide) rfl rfl ?_
    refine kR.s rfl rfl ?_
    refine kR.s rfl rfl ?_
    refine kR.c0 (kargs_m hm (by decide) rfl) rfl (kR.up (c_113 (S := ku S1 30 24 ((klb t n st : Int) - 1)) hm) (by decide)) ?_
    refine kR.ret rfl rfl ?_
    rfl
  · skip
    refine kR.s rfl rfl ?_
    refine kR.gi (a := 30) (k := 19) (v := 1) (by omega) rfl rfl rfl (by decide) (by decide) rfl (by exact h19) ?_
    refine kR.zne (by decide) (by decide) (fun q4 => ?_) (fun q4 => absurd q4 (by decide))
    show kR 3 135 b135_265 _ _ _ _
    refine kR.s rfl rfl ?_
    refine kR.s rfl rfl ?_
    refine kR.s rfl rfl ?_
    refine kR.sub ?_
    refine kR.pi (a := 30) (k := 24) (by omega) rfl rfl rfl (by decide) (by decide) rfl rfl ?_
    refine kR.s rfl rfl ?_
    refine kR.s rfl rfl ?_
    refine kR.c0 (kargs_m hm (by decide) rfl) rfl (kR.up (c_113 (S := ku S1 30 24 ((klb t n st : Int) - 1)) hm) (by decide)) ?_
    refine kR.ret rfl rfl ?_
    rfl
theorem c_135e {m : Nat} {E : Nat → kC} {S : Nat → Nat → Int} {sz : Nat × Nat} (hm : 53 ≤ m ∧ m ≤ 57) {t : Nat → Int} {n L : Nat} (hX : kTx t n L) (hR : kRt S t n) {kept : Int} (hkp : kept = 0 ∨ kept = 1) {o : Nat} (ho : S 30 29 = (o : Int)) (hol : 1 ≤ o ∧ o ≤ 8) {cc : Int} (hcl : S 45 (o - 1) = cc) (hcc : 0 ≤ cc ∧ cc ≤ 200) {f : Nat} (hf : f ≤ L) (hle : S 30 24 + 1 = (klb t n f : Int)) (hwr : S 30 19 = 0) {st bh : Nat} {dp w : Int} (hka : (kpA t n cc (L - f) f f (-1) 0) = (st, bh, dp, w)) {S1 : Nat → Nat → Int} {v u : Nat} (hv : v < 60) (hmk : kR 0 110 (blk 110 0) (kent 110 [.ref 30, .int (Int32.ofInt 3)]) [] (sz, hp m E (ku S 30 19 w)) (fun r => r = (.inl (some (.int (Int32.ofInt (v : Int)))), (sz, hp m E S1)))) (hR1 : kRt S1 t n) (h19 : S1 30 19 = 0) (hbf : bh = f) : kR 4 135 (blk 135 0) (kent 135 [.ref 30, .int (Int32.ofInt kept)]) [] (sz, hp m E S) (fun r => r = (.inl none, (sz, hp m E (ku (ku (ku S1 30 24 ((klb t n st : Int) - 1)) 30 27 (v : Int)) 30 20 4)))) := by
  have hx1 := hX.1
  have ho1 : (o : Int) - 1 = ((o - 1 : Nat) : Int) := by omega
  have hrg := kpA_rng hX cc (L - f) f f (-1) 0 (by omega) (Nat.le_refl _) (by omega) (by omega)
  rw [hka] at hrg
  obtain ⟨g1, g2, g3, g4, g5, g6, g7, g8⟩ := hrg
  change f ≤ bh at g1
  change bh ≤ st at g2
  change st ≤ f + (L - f) at g4
  change f < bh → 0 ≤ dp at g6
  change -1 ≤ dp ∧ dp ≤ 200 at g5
  have hs1 : klb t n st ≤ n + 1 := by rw [← hX.2.2.2.2.2]; exact klb_mono (by omega)
  have hs2 : klb t n bh ≤ n + 1 := by rw [← hX.2.2.2.2.2]; exact klb_mono (by omega)
  have hs3 : klb t n f ≤ n + 1 := by rw [← hX.2.2.2.2.2]; exact klb_mono (by omega)
  have hs4 : klb t n f ≤ klb t n bh := klb_mono g1
  show kR 4 135 b135_0 _ _ _ _
  refine kR.s rfl rfl ?_
  refine kR.gr (a := 30) (b := 45) (k := 32) (by omega) rfl rfl rfl (by decide) (by decide) rfl ?_
  refine kR.s rfl rfl ?_
  refine kR.gi (a := 30) (k := 29) (v := (o : Int)) (by omega) rfl rfl rfl (by decide) (by decide) rfl (by exact ho) ?_
  refine kR.s rfl rfl ?_
  refine kR.sub ?_
  rw [ho1]
  refine kR.ia (a := 45) (v := cc) (by omega) rfl (by decide) (by omega) (by omega) (by exact hcl) ?_
  refine kR.s rfl rfl ?_
  refine kR.s rfl rfl ?_
  refine kR.gi (a := 30) (k := 24) (v := S 30 24) (by omega) rfl rfl rfl (by decide) (by decide) rfl (by rfl) ?_
  refine kR.s rfl rfl ?_
  refine kR.add ?_
  rw [hle]
  refine kR.s rfl rfl ?_
  refine kR.s rfl rfl ?_
  refine kR.s rfl rfl ?_
  refine kR.s rfl rfl ?_
  refine kR.s rfl rfl ?_
  refine kR.s rfl rfl ?_
  refine kR.s rfl rfl ?_
  refine kR.s rfl rfl ?_
  refine kR.s rfl rfl ?_
  refine kR.n ?_
  refine kR.up (l_135a hm hX hR hcc (L - f) f f (-1) 0 _ _ _ _ S rfl hf (Nat.le_refl _) (by omega) (Or.inl rfl) (ku_eta hwr).symm (fun v8 v9 v10 v11 mo => ?_)) (by decide)
  rw [hka]
  show kR 3 135 (blk 135 170) [.ref 30, .int (Int32.ofInt kept), .int (Int32.ofInt cc), .int (Int32.ofInt (klb t n f : Int)), .int (Int32.ofInt ((klb t n st : Int))), .int (Int32.ofInt ((klb t n bh : Int))), .int (Int32.ofInt (dp)), .int (Int32.ofInt (mo)), v8, v9, v10, v11] [] (sz, hp m E (ku S 30 19 w)) _
  show kR 3 135 b135_170 _ _ _ _
  refine kR.s rfl rfl ?_
  refine kR.s rfl rfl ?_
  refine kR.cv (v := .int (Int32.ofInt ((v : Int)))) (kargs_m hm (by decide) rfl) rfl (kR.up ((hmk)) (by decide)) ?_
  refine kR.s rfl rfl ?_
  refine kR.s rfl rfl ?_
  refine kR.s rfl rfl ?_
  refine kR.n ?_
  show kR 3 135 b135_180 _ _ _ _
  refine kR.s rfl rfl ?_
  refine kR.s rfl rfl ?_
  refine kR.jge (by omega) (by omega) (by omega) (by omega) (fun q2 => ?_) (fun q2 => ?_)
  · skip
    show kR 3 135 b135_265 _ _ _ _
    refine kR.s rfl rfl ?_
    refine kR.s rfl rfl ?_
    refine kR.s rfl rfl ?_
    refine kR.sub ?_
    refine kR.pi (a := 30) (k := 24) (by omega) rfl rfl rfl (by decide) (by decide) rfl rfl ?_
    refine kR.s rfl rfl ?_
    refine kR.s rfl rfl ?_
    refine kR.c0 (kargs_m hm (by decide) rfl) rfl (kR.up (c_113 (S := ku S1 30 24 ((klb t n st : Int) - 1)) hm) (by decide)) ?_
    refine kR.ret rfl rfl ?_
    rfl
  · skip
    exfalso
    rw [hbf] at *
    omega
theorem c_135s {m : Nat} {E : Nat → kC} {S : Nat → Nat → Int} {sz : Nat × Nat} (hm : 53 ≤ m ∧ m ≤ 57) {t : Nat → Int} {n L : Nat} (hX : kTx t n L) (hR : kRt S t n) {kept : Int} (hkp : kept = 0 ∨ kept = 1) {o : Nat} (ho : S 30 29 = (o : Int)) (hol : 1 ≤ o ∧ o ≤ 8) {cc : Int} (hcl : S 45 (o - 1) = cc) (hcc : 0 ≤ cc ∧ cc ≤ 200) {f : Nat} (hf : f ≤ L) (hle : S 30 24 + 1 = (klb t n f : Int)) (hwr : S 30 19 = 0) {st bh : Nat} {dp w : Int} (hka : (kpA t n cc (L - f) f f (-1) 0) = (st, bh, dp, w)) {S1 : Nat → Nat → Int} {v u : Nat} (hv : v < 60) (hmk : kR 0 110 (blk 110 0) (kent 110 [.ref 30, .int (Int32.ofInt 3)]) [] (sz, hp m E (ku S 30 19 w)) (fun r => r = (.inl (some (.int (Int32.ofInt (v : Int)))), (sz, hp m E S1)))) (hR1 : kRt S1 t n) (h19 : S1 30 19 = 0) (hu : S1 30 14 = (u : Int)) (hbf : f < bh) (hul : u + (kpB t n dp.toNat kept bh (bh - f) f).length ≤ 500) : kR 4 135 (blk 135 0) (kent 135 [.ref 30, .int (Int32.ofInt kept)]) [] (sz, hp m E S) (fun r => r = (.inl none, (sz, hp m E (ku (ku (ku (kspl v (kpB t n dp.toNat kept bh (bh - f) f) u S1) 30 24 ((klb t n st : Int) - 1)) 30 27 (v : Int)) 30 20 4)))) := by
  have hx1 := hX.1
  have ho1 : (o : Int) - 1 = ((o - 1 : Nat) : Int) := by omega
  have hrg := kpA_rng hX cc (L - f) f f (-1) 0 (by omega) (Nat.le_refl _) (by omega) (by omega)
  rw [hka] at hrg
  obtain ⟨g1, g2, g3, g4, g5, g6, g7, g8⟩ := hrg
  change f ≤ bh at g1
  change bh ≤ st at g2
  change st ≤ f + (L - f) at g4
  change f < bh → 0 ≤ dp at g6
  change -1 ≤ dp ∧ dp ≤ 200 at g5
  have hs1 : klb t n st ≤ n + 1 := by rw [← hX.2.2.2.2.2]; exact klb_mono (by omega)
  have hs2 : klb t n bh ≤ n + 1 := by rw [← hX.2.2.2.2.2]; exact klb_mono (by omega)
  have hs3 : klb t n f ≤ n + 1 := by rw [← hX.2.2.2.2.2]; exact klb_mono (by omega)
  have hs4 : klb t n f ≤ klb t n bh := klb_mono g1
  show kR 4 135 b135_0 _ _ _ _
  refine kR.s rfl rfl ?_
  refine kR.gr (a := 30) (b := 45) (k := 32) (by omega) rfl rfl rfl (by decide) (by decide) rfl ?_
  refine kR.s rfl rfl ?_
  refine kR.gi (a := 30) (k := 29) (v := (o : Int)) (by omega) rfl rfl rfl (by decide) (by decide) rfl (by exact ho) ?_
  refine kR.s rfl rfl ?_
  refine kR.sub ?_
  rw [ho1]
  refine kR.ia (a := 45) (v := cc) (by omega) rfl (by decide) (by omega) (by omega) (by exact hcl) ?_
  refine kR.s rfl rfl ?_
  refine kR.s rfl rfl ?_
  refine kR.gi (a := 30) (k := 24) (v := S 30 24) (by omega) rfl rfl rfl (by decide) (by decide) rfl (by rfl) ?_
  refine kR.s rfl rfl ?_
  refine kR.add ?_
  rw [hle]
  refine kR.s rfl rfl ?_
  refine kR.s rfl rfl ?_
  refine kR.s rfl rfl ?_
  refine kR.s rfl rfl ?_
  refine kR.s rfl rfl ?_
  refine kR.s rfl rfl ?_
  refine kR.s rfl rfl ?_
  refine kR.s rfl rfl ?_
  refine kR.s rfl rfl ?_
  refine kR.n ?_
  refine kR.up (l_135a hm hX hR hcc (L - f) f f (-1) 0 _ _ _ _ S rfl hf (Nat.le_refl _) (by omega) (Or.inl rfl) (ku_eta hwr).symm (fun v8 v9 v10 v11 mo => ?_)) (by decide)
  rw [hka]
  show kR 3 135 (blk 135 170) [.ref 30, .int (Int32.ofInt kept), .int (Int32.ofInt cc), .int (Int32.ofInt (klb t n f : Int)), .int (Int32.ofInt ((klb t n st : Int))), .int (Int32.ofInt ((klb t n bh : Int))), .int (Int32.ofInt (dp)), .int (Int32.ofInt (mo)), v8, v9, v10, v11] [] (sz, hp m E (ku S 30 19 w)) _
  show kR 3 135 b135_170 _ _ _ _
  refine kR.s rfl rfl ?_
  refine kR.s rfl rfl ?_
  refine kR.cv (v := .int (Int32.ofInt ((v : Int)))) (kargs_m hm (by decide) rfl) rfl (kR.up ((hmk)) (by decide)) ?_
  refine kR.s rfl rfl ?_
  refine kR.s rfl rfl ?_
  refine kR.s rfl rfl ?_
  refine kR.n ?_
  obtain ⟨dd, hdd⟩ : ∃ dd : Nat, dp = (dd : Int) := ⟨dp.toNat, by omega⟩
  subst hdd
  rw [show ((dd : Int)).toNat = dd from rfl] at hul ⊢
  refine l_135b hm hX hkp hv (by omega) (by omega) (bh - f) f u S1 _ _ rfl g1 hR1 h19 hu hul (fun v10 v11 => ?_)
  show kR 3 135 b135_265 _ _ _ _
  refine kR.s rfl rfl ?_
  refine kR.s rfl rfl ?_
  refine kR.s rfl rfl ?_
  refine kR.sub ?_
  refine kR.pi (a := 30) (k := 24) (by omega) rfl rfl rfl (by decide) (by decide) rfl rfl ?_
  refine kR.s rfl rfl ?_
  refine kR.s rfl rfl ?_
  refine kR.c0 (kargs_m hm (by decide) rfl) rfl (kR.up (c_113 (S := ku (kspl v (kpB t n dd kept bh (bh - f) f) u S1) 30 24 ((klb t n st : Int) - 1)) hm) (by decide)) ?_
  refine kR.ret rfl rfl ?_
  rfl
