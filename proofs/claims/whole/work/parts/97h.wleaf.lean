/-! Writing: strings. -/
/-- a character as it is written -/
def kes (c : Int) : List Int := (if c = 92 ∨ c = 34 ∨ c = 10 then [92] else []) ++ [if c = 10 then 110 else c]
/-- so many characters from there on -/
def kess (C : Nat → Int) : Nat → Nat → List Int
  | 0, _ => []
  | j + 1, p => kes (C p) ++ kess C j (p + 1)
theorem kes_len (c : Int) : 1 ≤ (kes c).length ∧ (kes c).length ≤ 2 := by
  unfold kes
  rw [List.length_append]
  split <;> simp
theorem kess_len (C : Nat → Int) : ∀ j p, (kess C j p).length ≤ 2 * j
  | 0, p => Nat.le_refl _
  | j + 1, p => by
    have z := kess_len C j (p + 1)
    have z2 := kes_len (C p)
    show (kes (C p) ++ kess C j (p + 1)).length ≤ _
    rw [List.length_append]
    omega
theorem kess_congr {C C' : Nat → Int} : ∀ j p, (∀ i, p ≤ i → i < p + j → C i = C' i) → kess C j p = kess C' j p
  | 0, p, _ => rfl
  | j + 1, p, h => by
    show kes (C p) ++ kess C j (p + 1) = kes (C' p) ++ kess C' j (p + 1)
    rw [h p (by omega) (by omega), kess_congr j (p + 1) (fun i h1 h2 => h i (by omega) (by omega))]
section KWL
variable {E : Nat → kC} {S : Nat → Nat → Int} {sz : Nat × Nat}
theorem l_29 {v z b : Nat} (hv : v < 60) (hbz : b + z ≤ 200) : ∀ (j i w : Nat) (S : Nat → Nat → Int) (v4 : Value), z - i = j → i ≤ z → S 12 v = (z : Int) → S 14 v = (b : Int) → (∀ i, i < z → 0 ≤ S 16 (b + i) ∧ S 16 (b + i) < 128) → S 7 1 = (w : Int) → w + 2 * j + 1 ≤ 2000 → kR 1 29 (blk 29 8) [.ref 7, .ref 10, .int (Int32.ofInt (v : Int)), .int (Int32.ofInt (i : Int)), v4] [] (sz, hp 53 E S) (fun r => r = (.inl none, (sz, hp 53 E (kpts (kess (S 16) j (b + i) ++ [34]) w S)))) := by
  intro j
  induction j with
  | zero =>
    intro i w S v4 hj hi hz hb hc hw hl
    show kR 1 29 b29_8 _ _ _ _
    refine kR.s rfl rfl ?_
    refine kR.s rfl rfl ?_
    refine kR.gr (a := 10) (b := 12) (k := 1) (by omega) rfl rfl rfl (by decide) (by decide) rfl ?_
    refine kR.s rfl rfl ?_
    refine kR.ia (a := 12) (v := (z : Int)) (by omega) rfl (by decide) (by omega) (by omega) (by exact hz) ?_
    refine kR.jge (by omega) (by omega) (by omega) (by omega) (fun _ => ?_) (fun q => absurd q (by omega))
    show kR 1 29 b29_78 _ _ _ _
    refine kR.s rfl rfl ?_
    refine kR.bi rfl ?_
    refine kR.c0 rfl rfl (c_32 (S := S) (x := 34) hw (by omega) (by omega)) ?_
    refine kR.ret rfl rfl ?_
    rfl
  | succ j ih =>
    intro i w S v4 hj hi hz hb hc hw hl
    have hci := hc i (by omega)
    have k43 := c_43h (S := S) (E := E) (sz := sz) (m := 53) (n := (v : Int)) (i := (i : Int)) ⟨by omega, by omega⟩ (by omega) (by omega) (by omega) (by rw [show (v : Int).toNat = v from rfl, hz]; omega) (by rw [show (v : Int).toNat = v from rfl, hb]; omega)
    rw [show (v : Int).toNat = v from rfl, hb, show ((b : Int) + (i : Int)).toNat = b + i by omega] at k43
    obtain ⟨x, hx⟩ : ∃ x, x = S 16 (b + i) := ⟨_, rfl⟩
    rw [← hx] at k43 hci
    have hlist : kess (S 16) (j + 1) (b + i) ++ [34] = kes x ++ (kess (S 16) j (b + (i + 1)) ++ [34]) := by
      show (kes (S 16 (b + i)) ++ kess (S 16) j (b + i + 1)) ++ [34] = _
      rw [← hx, List.append_assoc]
      rfl
    have hnext : ∀ (ys : List Int) (v4 : Value), ys.length ≤ 2 → kR 1 29 (blk 29 8) [.ref 7, .ref 10, .int (Int32.ofInt (v : Int)), .int (Int32.ofInt ((i + 1 : Nat) : Int)), v4] [] (sz, hp 53 E (kpts ys w S)) (fun r => r = (.inl none, (sz, hp 53 E (kpts (ys ++ (kess (S 16) j (b + (i + 1)) ++ [34])) w S)))) := fun ys v4 hy => by
      have h1 : ∀ a, a ≠ 7 ∧ a ≠ 8 → kpts ys w S a = S a := fun a ha => kpts_cell hw ha
      have z := ih (i + 1) (w + ys.length) (kpts ys w S) v4 (by omega) (by omega) (by rw [h1 12 (by decide)]; exact hz) (by rw [h1 14 (by decide)]; exact hb) (by rw [h1 16 (by decide)]; exact hc) (kpts_at ys w S hw).2.1 (by omega)
      rw [h1 16 (by decide)] at z
      rw [kpts_app]
      exact z
    rw [hlist]
    show kR 1 29 b29_8 _ _ _ _
    refine kR.s rfl rfl ?_
    refine kR.s rfl rfl ?_
    refine kR.gr (a := 10) (b := 12) (k := 1) (by omega) rfl rfl rfl (by decide) (by decide) rfl ?_
    refine kR.s rfl rfl ?_
    refine kR.ia (a := 12) (v := (z : Int)) (by omega) rfl (by decide) (by omega) (by omega) (by exact hz) ?_
    refine kR.jge (by omega) (by omega) (by omega) (by omega) (fun q => absurd q (by omega)) (fun _ => ?_)
    refine kR.s rfl rfl ?_
    refine kR.s rfl rfl ?_
    refine kR.s rfl rfl ?_
    refine kR.cv (v := .int (Int32.ofInt x)) rfl rfl (kR.up k43 (by decide)) ?_
    refine kR.chr (by omega) (by omega) ?_
    refine kR.s rfl rfl ?_
    have h48 : x = 92 ∨ x = 34 ∨ x = 10 → kR 1 29 (blk 29 48) [.ref 7, .ref 10, .int (Int32.ofInt (v : Int)), .int (Int32.ofInt (i : Int)), .int (Int32.ofInt x)] [] (sz, hp 53 E S) (fun r => r = (.inl none, (sz, hp 53 E (kpts (kes x ++ (kess (S 16) j (b + (i + 1)) ++ [34])) w S)))) := fun hx3 => by
      show kR 1 29 b29_48 _ _ _ _
      refine kR.s rfl rfl ?_
      refine kR.bi rfl ?_
      refine kR.c0 rfl rfl (c_32 (S := S) (x := 92) hw (by omega) (by omega)) ?_
      refine kR.n ?_
      show kR 1 29 b29_54 _ _ _ _
      refine kR.s rfl rfl ?_
      refine kR.s rfl rfl ?_
      refine kR.bi rfl ?_
      refine kR.jne (by omega) (by omega) (by omega) (by omega) (fun q => ?_) (fun q => ?_)
      · show kR 1 29 b29_67 _ _ _ _
        refine kR.s rfl rfl ?_
        refine kR.n ?_
        show kR 1 29 b29_69 _ _ _ _
        refine kR.c0 rfl rfl (c_32 (S := kpt S w 92) (w := w + 1) (x := x) rfl (by omega) (by omega)) ?_
        refine kR.inc rfl ?_
        refine kR.g rfl ?_
        have e : kes x = [92, x] := by
          unfold kes
          rw [if_pos hx3, if_neg q]
          rfl
        rw [e]
        exact hnext [92, x] _ (Nat.le_of_ble_eq_true rfl)
      · refine kR.bi rfl ?_
        refine kR.g rfl ?_
        show kR 1 29 b29_69 _ _ _ _
        refine kR.c0 rfl rfl (c_32 (S := kpt S w 92) (w := w + 1) (x := 110) rfl (by omega) (by omega)) ?_
        refine kR.inc rfl ?_
        refine kR.g rfl ?_
        have e : kes x = [92, 110] := by
          unfold kes
          rw [if_pos hx3, if_pos q]
          rfl
        rw [e]
        exact hnext [92, 110] _ (Nat.le_of_ble_eq_true rfl)
    refine kR.s rfl rfl ?_
    refine kR.bi rfl ?_
    refine kR.jeq (by omega) (by omega) (by omega) (by omega) (fun q1 => h48 (Or.inl q1)) (fun q1 => ?_)
    refine kR.s rfl rfl ?_
    refine kR.bi rfl ?_
    refine kR.jeq (by omega) (by omega) (by omega) (by omega) (fun q2 => h48 (Or.inr (Or.inl q2))) (fun q2 => ?_)
    refine kR.s rfl rfl ?_
    refine kR.bi rfl ?_
    refine kR.jne (by omega) (by omega) (by omega) (by omega) (fun q3 => ?_) (fun q3 => ?_)
    · show kR 1 29 b29_54 _ _ _ _
      refine kR.s rfl rfl ?_
      refine kR.s rfl rfl ?_
      refine kR.bi rfl ?_
      refine kR.jne (by omega) (by omega) (by omega) (by omega) (fun q => ?_) (fun q => absurd q q3)
      show kR 1 29 b29_67 _ _ _ _
      refine kR.s rfl rfl ?_
      refine kR.n ?_
      show kR 1 29 b29_69 _ _ _ _
      refine kR.c0 rfl rfl (c_32 (S := S) (x := x) hw (by omega) (by omega)) ?_
      refine kR.inc rfl ?_
      refine kR.g rfl ?_
      have e : kes x = [x] := by
        unfold kes
        rw [if_neg (fun z => by omega), if_neg q3]
        rfl
      rw [e]
      exact hnext [x] _ (Nat.le_of_ble_eq_true rfl)
    · refine kR.n ?_
      exact h48 (Or.inr (Or.inr q3))
theorem c_29 {v z b w : Nat} (hv : v < 60) (hbz : b + z ≤ 200) (hz : S 12 v = (z : Int)) (hb : S 14 v = (b : Int)) (hc : ∀ i, i < z → 0 ≤ S 16 (b + i) ∧ S 16 (b + i) < 128) (hw : S 7 1 = (w : Int)) (hl : w + 2 * z + 2 ≤ 2000) : kR 1 29 (blk 29 0) (kent 29 [.ref 7, .ref 10, .int (Int32.ofInt (v : Int))]) [] (sz, hp 53 E S) (fun r => r = (.inl none, (sz, hp 53 E (kpts (34 :: (kess (S 16) z b ++ [34])) w S)))) := by
  show kR 1 29 b29_0 _ _ _ _
  refine kR.s rfl rfl ?_
  refine kR.bi rfl ?_
  refine kR.c0 rfl rfl (c_32 (S := S) (x := 34) hw (by omega) (by omega)) ?_
  refine kR.s rfl rfl ?_
  refine kR.s rfl rfl ?_
  refine kR.n ?_
  exact l_29 hv hbz z 0 (w + 1) (kpt S w 34) _ rfl (by omega) (by exact hz) (by exact hb) (by exact hc) rfl (by omega)
theorem l_158 {v z b : Nat} (hv : v < 60) (hbz : b + z ≤ 200) : ∀ (j i w : Nat) (S : Nat → Nat → Int) (v3 : Value), z - i = j → i ≤ z → S 37 v = (z : Int) → S 36 v = (b : Int) → (∀ i, i < z → 0 ≤ S 38 (b + i) ∧ S 38 (b + i) < 128) → S 30 37 = (w : Int) → w + 2 * j + 1 ≤ 3000 → kR 1 158 (blk 158 8) [.ref 30, .int (Int32.ofInt (v : Int)), .int (Int32.ofInt (i : Int)), v3] [] (sz, hp 53 E S) (fun r => r = (.inl none, (sz, hp 53 E (ksas (kess (S 38) j (b + i) ++ [34]) w S)))) := by
  intro j
  induction j with
  | zero =>
    intro i w S v3 hj hi hz hb hc hw hl
    show kR 1 158 b158_8 _ _ _ _
    refine kR.s rfl rfl ?_
    refine kR.s rfl rfl ?_
    refine kR.gr (a := 30) (b := 37) (k := 12) (by omega) rfl rfl rfl (by decide) (by decide) rfl ?_
    refine kR.s rfl rfl ?_
    refine kR.ia (a := 37) (v := (z : Int)) (by omega) rfl (by decide) (by omega) (by omega) (by exact hz) ?_
    refine kR.jge (by omega) (by omega) (by omega) (by omega) (fun _ => ?_) (fun q => absurd q (by omega))
    show kR 1 158 b158_78 _ _ _ _
    refine kR.s rfl rfl ?_
    refine kR.bi rfl ?_
    refine kR.c0 rfl rfl (c_155 (S := S) (x := 34) hw (by omega)) ?_
    refine kR.ret rfl rfl ?_
    rfl
  | succ j ih =>
    intro i w S v3 hj hi hz hb hc hw hl
    have hci := hc i (by omega)
    obtain ⟨x, hx⟩ : ∃ x, x = S 38 (b + i) := ⟨_, rfl⟩
    rw [← hx] at hci
    have hlist : kess (S 38) (j + 1) (b + i) ++ [34] = kes x ++ (kess (S 38) j (b + (i + 1)) ++ [34]) := by
      show (kes (S 38 (b + i)) ++ kess (S 38) j (b + i + 1)) ++ [34] = _
      rw [← hx, List.append_assoc]
      rfl
    have hnext : ∀ (ys : List Int) (v3 : Value), ys.length ≤ 2 → kR 1 158 (blk 158 8) [.ref 30, .int (Int32.ofInt (v : Int)), .int (Int32.ofInt ((i + 1 : Nat) : Int)), v3] [] (sz, hp 53 E (ksas ys w S)) (fun r => r = (.inl none, (sz, hp 53 E (ksas (ys ++ (kess (S 38) j (b + (i + 1)) ++ [34])) w S)))) := fun ys v3 hy => by
      have h1 : ∀ a, a ≠ 30 ∧ a ≠ 48 → ksas ys w S a = S a := fun a ha => ksas_cell hw ha
      have z := ih (i + 1) (w + ys.length) (ksas ys w S) v3 (by omega) (by omega) (by rw [h1 37 (by decide)]; exact hz) (by rw [h1 36 (by decide)]; exact hb) (by rw [h1 38 (by decide)]; exact hc) (ksas_at ys w S hw).2.1 (by omega)
      rw [h1 38 (by decide)] at z
      rw [ksas_app]
      exact z
    rw [hlist]
    show kR 1 158 b158_8 _ _ _ _
    refine kR.s rfl rfl ?_
    refine kR.s rfl rfl ?_
    refine kR.gr (a := 30) (b := 37) (k := 12) (by omega) rfl rfl rfl (by decide) (by decide) rfl ?_
    refine kR.s rfl rfl ?_
    refine kR.ia (a := 37) (v := (z : Int)) (by omega) rfl (by decide) (by omega) (by omega) (by exact hz) ?_
    refine kR.jge (by omega) (by omega) (by omega) (by omega) (fun q => absurd q (by omega)) (fun _ => ?_)
    refine kR.s rfl rfl ?_
    refine kR.gr (a := 30) (b := 38) (k := 13) (by omega) rfl rfl rfl (by decide) (by decide) rfl ?_
    refine kR.s rfl rfl ?_
    refine kR.gr (a := 30) (b := 36) (k := 11) (by omega) rfl rfl rfl (by decide) (by decide) rfl ?_
    refine kR.s rfl rfl ?_
    refine kR.ia (a := 36) (v := (b : Int)) (by omega) rfl (by decide) (by omega) (by omega) (by exact hb) ?_
    refine kR.s rfl rfl ?_
    refine kR.add ?_
    refine kR.ia (a := 38) (v := x) (by omega) rfl (by decide) (by omega) (by omega) (by rw [show ((b : Int) + (i : Int)).toNat = b + i by omega]; exact hx.symm) ?_
    refine kR.s rfl rfl ?_
    have h50 : x = 92 ∨ x = 34 ∨ x = 10 → kR 1 158 (blk 158 50) [.ref 30, .int (Int32.ofInt (v : Int)), .int (Int32.ofInt (i : Int)), .int (Int32.ofInt x)] [] (sz, hp 53 E S) (fun r => r = (.inl none, (sz, hp 53 E (ksas (kes x ++ (kess (S 38) j (b + (i + 1)) ++ [34])) w S)))) := fun hx3 => by
      show kR 1 158 b158_50 _ _ _ _
      refine kR.s rfl rfl ?_
      refine kR.bi rfl ?_
      refine kR.c0 rfl rfl (c_155 (S := S) (x := 92) hw (by omega)) ?_
      refine kR.n ?_
      show kR 1 158 b158_56 _ _ _ _
      refine kR.s rfl rfl ?_
      refine kR.s rfl rfl ?_
      refine kR.bi rfl ?_
      refine kR.jne (by omega) (by omega) (by omega) (by omega) (fun q => ?_) (fun q => ?_)
      · show kR 1 158 b158_68 _ _ _ _
        refine kR.s rfl rfl ?_
        refine kR.n ?_
        show kR 1 158 b158_69 _ _ _ _
        refine kR.c0 rfl rfl (c_155 (S := ksa S w 92) (w := w + 1) (x := x) rfl (by omega)) ?_
        refine kR.inc rfl ?_
        refine kR.g rfl ?_
        have e : kes x = [92, x] := by
          unfold kes
          rw [if_pos hx3, if_neg q]
          rfl
        rw [e]
        exact hnext [92, x] _ (Nat.le_of_ble_eq_true rfl)
      · refine kR.bi rfl ?_
        refine kR.g rfl ?_
        show kR 1 158 b158_69 _ _ _ _
        refine kR.c0 rfl rfl (c_155 (S := ksa S w 92) (w := w + 1) (x := 110) rfl (by omega)) ?_
        refine kR.inc rfl ?_
        refine kR.g rfl ?_
        have e : kes x = [92, 110] := by
          unfold kes
          rw [if_pos hx3, if_pos q]
          rfl
        rw [e]
        exact hnext [92, 110] _ (Nat.le_of_ble_eq_true rfl)
    refine kR.s rfl rfl ?_
    refine kR.bi rfl ?_
    refine kR.jeq (by omega) (by omega) (by omega) (by omega) (fun q1 => h50 (Or.inr (Or.inr q1))) (fun q1 => ?_)
    refine kR.s rfl rfl ?_
    refine kR.bi rfl ?_
    refine kR.jeq (by omega) (by omega) (by omega) (by omega) (fun q2 => h50 (Or.inr (Or.inl q2))) (fun q2 => ?_)
    refine kR.s rfl rfl ?_
    refine kR.bi rfl ?_
    refine kR.jne (by omega) (by omega) (by omega) (by omega) (fun q3 => ?_) (fun q3 => ?_)
    · show kR 1 158 b158_56 _ _ _ _
      refine kR.s rfl rfl ?_
      refine kR.s rfl rfl ?_
      refine kR.bi rfl ?_
      refine kR.jne (by omega) (by omega) (by omega) (by omega) (fun q => ?_) (fun q => absurd q q1)
      show kR 1 158 b158_68 _ _ _ _
      refine kR.s rfl rfl ?_
      refine kR.n ?_
      show kR 1 158 b158_69 _ _ _ _
      refine kR.c0 rfl rfl (c_155 (S := S) (x := x) hw (by omega)) ?_
      refine kR.inc rfl ?_
      refine kR.g rfl ?_
      have e : kes x = [x] := by
        unfold kes
        rw [if_neg (fun z => by omega), if_neg q1]
        rfl
      rw [e]
      exact hnext [x] _ (Nat.le_of_ble_eq_true rfl)
    · refine kR.n ?_
      exact h50 (Or.inl q3)
theorem c_158 {v z b w : Nat} (hv : v < 60) (hbz : b + z ≤ 200) (hz : S 37 v = (z : Int)) (hb : S 36 v = (b : Int)) (hc : ∀ i, i < z → 0 ≤ S 38 (b + i) ∧ S 38 (b + i) < 128) (hw : S 30 37 = (w : Int)) (hl : w + 2 * z + 2 ≤ 3000) : kR 1 158 (blk 158 0) (kent 158 [.ref 30, .int (Int32.ofInt (v : Int))]) [] (sz, hp 53 E S) (fun r => r = (.inl none, (sz, hp 53 E (ksas (34 :: (kess (S 38) z b ++ [34])) w S)))) := by
  show kR 1 158 b158_0 _ _ _ _
  refine kR.s rfl rfl ?_
  refine kR.bi rfl ?_
  refine kR.c0 rfl rfl (c_155 (S := S) (x := 34) hw (by omega)) ?_
  refine kR.s rfl rfl ?_
  refine kR.s rfl rfl ?_
  refine kR.n ?_
  exact l_158 hv hbz z 0 (w + 1) (ksa S w 34) _ rfl (by omega) (by exact hz) (by exact hb) (by exact hc) rfl (by omega)
end KWL
