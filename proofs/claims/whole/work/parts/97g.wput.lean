/-! Writing: single characters and words. -/
def kpt (S : Nat → Nat → Int) (w : Nat) (x : Int) : Nat → Nat → Int := ku (ku S 8 w x) 7 1 ((w : Int) + 1)
def kpts : List Int → Nat → (Nat → Nat → Int) → (Nat → Nat → Int)
  | [], _, S => S
  | x :: xs, w, S => kpts xs (w + 1) (kpt S w x)
theorem kpts_app : ∀ (xs ys : List Int) (w : Nat) (S : Nat → Nat → Int), kpts (xs ++ ys) w S = kpts ys (w + xs.length) (kpts xs w S)
  | [], ys, w, S => rfl
  | x :: xs, ys, w, S => by
    show kpts (xs ++ ys) (w + 1) (kpt S w x) = kpts ys (w + (xs.length + 1)) (kpts xs (w + 1) (kpt S w x))
    rw [kpts_app xs ys (w + 1), show w + 1 + xs.length = w + (xs.length + 1) by omega]
theorem kpts_at : ∀ (xs : List Int) (w : Nat) (S : Nat → Nat → Int), S 7 1 = (w : Int) → (∀ a k, ¬ (a = 7 ∧ k = 1) → a ≠ 8 → kpts xs w S a k = S a k) ∧ kpts xs w S 7 1 = ((w + xs.length : Nat) : Int) ∧ ∀ j, kpts xs w S 8 j = if w ≤ j ∧ j < w + xs.length then xs.getD (j - w) 0 else S 8 j
  | [], w, S, hu => ⟨fun _ _ _ _ => rfl, hu, fun j => by rw [if_neg (by rw [List.length_nil]; omega)]; rfl⟩
  | x :: xs, w, S, hu => by
    obtain ⟨h1, h2, h4⟩ := kpts_at xs (w + 1) (kpt S w x) rfl
    refine ⟨fun a k e1 e3 => ?_, ?_, fun j => ?_⟩
    · show kpts xs (w + 1) (kpt S w x) a k = S a k
      rw [h1 a k e1 e3]
      unfold kpt ku kup
      by_cases i3 : a = 7
      · by_cases i4 : k = 1
        · exact absurd ⟨i3, i4⟩ e1
        · simp [i3, i4]
      · simp [i3, e3]
    · show kpts xs (w + 1) (kpt S w x) 7 1 = _
      rw [h2, List.length_cons]
      omega
    · show kpts xs (w + 1) (kpt S w x) 8 j = _
      rw [h4 j]
      have e0 : kpt S w x 8 j = if j = w then x else S 8 j := by simp [kpt, ku, kup]
      rw [e0, List.length_cons]
      by_cases i1 : w + 1 ≤ j ∧ j < w + 1 + xs.length
      · rw [if_pos i1, if_pos (by omega), show j - w = (j - (w + 1)) + 1 by omega]
        rfl
      · rw [if_neg i1]
        by_cases i2 : j = w
        · rw [if_pos i2, if_pos (by omega), i2, Nat.sub_self]
          rfl
        · rw [if_neg i2, if_neg (by omega)]
theorem kpts_cell {xs : List Int} {w : Nat} {S : Nat → Nat → Int} (hu : S 7 1 = (w : Int)) {a : Nat} (h : a ≠ 7 ∧ a ≠ 8) : kpts xs w S a = S a := funext fun k => (kpts_at xs w S hu).1 a k (fun z => h.1 z.1) h.2
def ksa (S : Nat → Nat → Int) (w : Nat) (x : Int) : Nat → Nat → Int := ku (ku S 48 w x) 30 37 ((w : Int) + 1)
def ksas : List Int → Nat → (Nat → Nat → Int) → (Nat → Nat → Int)
  | [], _, S => S
  | x :: xs, w, S => ksas xs (w + 1) (ksa S w x)
theorem ksas_app : ∀ (xs ys : List Int) (w : Nat) (S : Nat → Nat → Int), ksas (xs ++ ys) w S = ksas ys (w + xs.length) (ksas xs w S)
  | [], ys, w, S => rfl
  | x :: xs, ys, w, S => by
    show ksas (xs ++ ys) (w + 1) (ksa S w x) = ksas ys (w + (xs.length + 1)) (ksas xs (w + 1) (ksa S w x))
    rw [ksas_app xs ys (w + 1), show w + 1 + xs.length = w + (xs.length + 1) by omega]
theorem ksas_at : ∀ (xs : List Int) (w : Nat) (S : Nat → Nat → Int), S 30 37 = (w : Int) → (∀ a k, ¬ (a = 30 ∧ k = 37) → a ≠ 48 → ksas xs w S a k = S a k) ∧ ksas xs w S 30 37 = ((w + xs.length : Nat) : Int) ∧ ∀ j, ksas xs w S 48 j = if w ≤ j ∧ j < w + xs.length then xs.getD (j - w) 0 else S 48 j
  | [], w, S, hu => ⟨fun _ _ _ _ => rfl, hu, fun j => by rw [if_neg (by rw [List.length_nil]; omega)]; rfl⟩
  | x :: xs, w, S, hu => by
    obtain ⟨h1, h2, h4⟩ := ksas_at xs (w + 1) (ksa S w x) rfl
    refine ⟨fun a k e1 e3 => ?_, ?_, fun j => ?_⟩
    · show ksas xs (w + 1) (ksa S w x) a k = S a k
      rw [h1 a k e1 e3]
      unfold ksa ku kup
      by_cases i3 : a = 30
      · by_cases i4 : k = 37
        · exact absurd ⟨i3, i4⟩ e1
        · simp [i3, i4]
      · simp [i3, e3]
    · show ksas xs (w + 1) (ksa S w x) 30 37 = _
      rw [h2, List.length_cons]
      omega
    · show ksas xs (w + 1) (ksa S w x) 48 j = _
      rw [h4 j]
      have e0 : ksa S w x 48 j = if j = w then x else S 48 j := by simp [ksa, ku, kup]
      rw [e0, List.length_cons]
      by_cases i1 : w + 1 ≤ j ∧ j < w + 1 + xs.length
      · rw [if_pos i1, if_pos (by omega), show j - w = (j - (w + 1)) + 1 by omega]
        rfl
      · rw [if_neg i1]
        by_cases i2 : j = w
        · rw [if_pos i2, if_pos (by omega), i2, Nat.sub_self]
          rfl
        · rw [if_neg i2, if_neg (by omega)]
theorem ksas_cell {xs : List Int} {w : Nat} {S : Nat → Nat → Int} (hu : S 30 37 = (w : Int)) {a : Nat} (h : a ≠ 30 ∧ a ≠ 48) : ksas xs w S a = S a := funext fun k => (ksas_at xs w S hu).1 a k (fun z => h.1 z.1) h.2
section KWP
variable {E : Nat → kC} {S : Nat → Nat → Int} {sz : Nat × Nat}
theorem c_32 {w : Nat} {x : Int} (hw : S 7 1 = (w : Int)) (hwl : w < 2000) (hx : 0 ≤ x ∧ x < 65536) : kR 0 32 (blk 32 0) (kent 32 [.ref 7, .int (Int32.ofInt x)]) [] (sz, hp 53 E S) (fun r => r = (.inl none, (sz, hp 53 E (kpt S w x)))) := by
  show kR 0 32 b32_0 _ _ _ _
  refine kR.s rfl rfl ?_
  refine kR.gi (a := 7) (k := 1) (v := (w : Int)) (by omega) rfl rfl rfl (by decide) (by decide) rfl (by exact hw) ?_
  refine kR.si rfl ?_
  refine kR.jge (by omega) (by omega) (by omega) (by omega) (fun q => absurd q (by omega)) (fun _ => ?_)
  refine kR.s rfl rfl ?_
  refine kR.gr (a := 7) (b := 8) (k := 0) (by omega) rfl rfl rfl (by decide) (by decide) rfl ?_
  refine kR.s rfl rfl ?_
  refine kR.gi (a := 7) (k := 1) (v := (w : Int)) (by omega) rfl rfl rfl (by decide) (by decide) rfl (by exact hw) ?_
  refine kR.s rfl rfl ?_
  refine kR.cst (a := 8) (by omega) rfl (by decide) (by omega) (by omega) (kchar hx.1 hx.2) ?_
  refine kR.s rfl rfl ?_
  refine kR.s rfl rfl ?_
  refine kR.gi (a := 7) (k := 1) (v := (w : Int)) (by omega) rfl rfl rfl (by decide) (by decide) rfl (by exact hw) ?_
  refine kR.s rfl rfl ?_
  refine kR.add ?_
  refine kR.pi (a := 7) (k := 1) (by omega) rfl rfl rfl (by decide) (by decide) rfl rfl ?_
  refine kR.n ?_
  show kR 0 32 b32_30 _ _ _ _
  refine kR.ret rfl rfl ?_
  rfl
theorem c_155 {w : Nat} {x : Int} (hw : S 30 37 = (w : Int)) (hwl : w < 3000) : kR 0 155 (blk 155 0) (kent 155 [.ref 30, .int (Int32.ofInt x)]) [] (sz, hp 53 E S) (fun r => r = (.inl none, (sz, hp 53 E (ksa S w x)))) := by
  show kR 0 155 b155_0 _ _ _ _
  refine kR.s rfl rfl ?_
  refine kR.gr (a := 30) (b := 48) (k := 36) (by omega) rfl rfl rfl (by decide) (by decide) rfl ?_
  refine kR.s rfl rfl ?_
  refine kR.gi (a := 30) (k := 37) (v := (w : Int)) (by omega) rfl rfl rfl (by decide) (by decide) rfl (by exact hw) ?_
  refine kR.s rfl rfl ?_
  refine kR.ist (a := 48) (by omega) rfl (by decide) (by omega) (by omega) ?_
  refine kR.s rfl rfl ?_
  refine kR.s rfl rfl ?_
  refine kR.gi (a := 30) (k := 37) (v := (w : Int)) (by omega) rfl rfl rfl (by decide) (by decide) rfl (by exact hw) ?_
  refine kR.s rfl rfl ?_
  refine kR.add ?_
  refine kR.pi (a := 30) (k := 37) (by omega) rfl rfl rfl (by decide) (by decide) rfl rfl ?_
  refine kR.ret rfl rfl ?_
  rfl
theorem drop_c {ws : List Int} {i : Nat} (h : i < ws.length) : ws.drop i = ws.getD i 0 :: ws.drop (i + 1) := by
  rw [List.drop_eq_getElem_cons h, List.getD_eq_getElem?_getD, List.getElem?_eq_getElem h]
  rfl
theorem l_31 {b : Nat} {ws : List Int} (hs : kStr E b ws) : ∀ (j i w : Nat) (S : Nat → Nat → Int), ws.length - i = j → i ≤ ws.length → S 7 1 = (w : Int) → w + j ≤ 2000 → kR 4 31 (blk 31 2) [.ref 7, .ref b, .int (Int32.ofInt (i : Int))] [] (sz, hp 53 E S) (fun r => r = (.inl none, (sz, hp 53 E (kpts (ws.drop i) w S)))) := by
  intro j
  induction j with
  | zero =>
    intro i w S hj hi hw hl
    have e : i = ws.length := by omega
    have hl2 := hs.2.2.2.1
    show kR 4 31 b31_2 _ _ _ _
    refine kR.s rfl rfl ?_
    refine kR.s rfl rfl ?_
    refine kR.cv (v := .int (Int32.ofInt (ws.length : Int))) (kargs_S (by omega) hs ⟨Nat.le_of_ble_eq_true rfl, Nat.le_of_ble_eq_true rfl, Nat.le_of_ble_eq_true rfl, rfl⟩ (by decide) rfl rfl) rfl (kR.up (c_169 (by decide) hs) (by decide)) ?_
    refine kR.jge (by omega) (by omega) (by omega) (by omega) (fun _ => ?_) (fun q => absurd q (by omega))
    show kR 4 31 b31_25 _ _ _ _
    refine kR.ret rfl rfl ?_
    rw [e, List.drop_length]
    rfl
  | succ j ih =>
    intro i w S hj hi hw hl
    have hl2 := hs.2.2.2.1
    have hc := hs.2.2.2.2 i (by omega)
    show kR 4 31 b31_2 _ _ _ _
    refine kR.s rfl rfl ?_
    refine kR.s rfl rfl ?_
    refine kR.cv (v := .int (Int32.ofInt (ws.length : Int))) (kargs_S (by omega) hs ⟨Nat.le_of_ble_eq_true rfl, Nat.le_of_ble_eq_true rfl, Nat.le_of_ble_eq_true rfl, rfl⟩ (by decide) rfl rfl) rfl (kR.up (c_169 (by decide) hs) (by decide)) ?_
    refine kR.jge (by omega) (by omega) (by omega) (by omega) (fun q => absurd q (by omega)) (fun _ => ?_)
    refine kR.s rfl rfl ?_
    refine kR.s rfl rfl ?_
    refine kR.s rfl rfl ?_
    refine kR.cv (v := .int (Int32.ofInt (ws.getD i 0))) (kargs_S (by omega) hs ⟨Nat.le_of_ble_eq_true rfl, Nat.le_of_ble_eq_true rfl, Nat.le_of_ble_eq_true rfl, rfl⟩ (by decide) rfl rfl) rfl (kR.up (c_170 (by decide) hs (by omega)) (by decide)) ?_
    refine kR.c0 rfl rfl (kR.up (c_32 (S := S) (x := ws.getD i 0) hw (by omega) (by omega)) (by decide)) ?_
    refine kR.inc rfl ?_
    refine kR.g rfl ?_
    rw [drop_c (by omega)]
    exact ih (i + 1) (w + 1) (kpt S w (ws.getD i 0)) (by omega) (by omega) rfl (by omega)
theorem c_31 {b w : Nat} {ws : List Int} (hs : kStr E b ws) (hw : S 7 1 = (w : Int)) (hl : w + ws.length ≤ 2000) : kR 4 31 (blk 31 0) (kent 31 [.ref 7, .ref b]) [] (sz, hp 53 E S) (fun r => r = (.inl none, (sz, hp 53 E (kpts ws w S)))) := by
  show kR 4 31 b31_0 _ _ _ _
  refine kR.s rfl rfl ?_
  refine kR.s rfl rfl ?_
  refine kR.n ?_
  exact l_31 hs ws.length 0 w S rfl (by omega) hw hl
theorem c_156 {w : Nat} {x1 x2 x3 x4 : Int} (hw : S 30 37 = (w : Int)) (hl : w + 4 ≤ 3000) : kR 1 156 (blk 156 0) (kent 156 [.ref 30, .int (Int32.ofInt x1), .int (Int32.ofInt x2), .int (Int32.ofInt x3), .int (Int32.ofInt x4)]) [] (sz, hp 53 E S) (fun r => r = (.inl none, (sz, hp 53 E (ksas [x1, x2, x3, x4] w S)))) := by
  show kR 1 156 b156_0 _ _ _ _
  refine kR.s rfl rfl ?_
  refine kR.s rfl rfl ?_
  refine kR.c0 rfl rfl (c_155 (S := S) (w := w) hw (by omega)) ?_
  refine kR.s rfl rfl ?_
  refine kR.s rfl rfl ?_
  refine kR.c0 rfl rfl (c_155 (S := ksa S w x1) (w := w + 1) rfl (by omega)) ?_
  refine kR.s rfl rfl ?_
  refine kR.s rfl rfl ?_
  refine kR.c0 rfl rfl (c_155 (S := ksa (ksa S w x1) (w + 1) x2) (w := w + 2) rfl (by omega)) ?_
  refine kR.s rfl rfl ?_
  refine kR.s rfl rfl ?_
  refine kR.c0 rfl rfl (c_155 (S := ksa (ksa (ksa S w x1) (w + 1) x2) (w + 2) x3) (w := w + 3) rfl (by omega)) ?_
  refine kR.ret rfl rfl ?_
  rfl
end KWP
