/-! Loops: the reference's walks over the text. By program (wip/gen/gen29.py). -/
def kwh (p : Nat → Bool) : Nat → Nat → Nat
  | 0, k => k
  | j + 1, k => if p k = true then kwh p j (k + 1) else k
/-- the first place from k on, before n, where p fails; else n, or k -/
def kw (p : Nat → Bool) (n k : Nat) : Nat := kwh p (n - k) k
theorem kw_go {p : Nat → Bool} {n k : Nat} (h : k < n) (hp : p k = true) : kw p n k = kw p n (k + 1) := by
  unfold kw
  rw [show n - k = n - (k + 1) + 1 by omega, kwh, if_pos hp]
theorem kw_no {p : Nat → Bool} {n k : Nat} (h : n ≤ k ∨ p k = false) : kw p n k = k := by
  unfold kw
  rcases Nat.lt_or_ge k n with hk | hk
  · have hp : p k = false := by rcases h with h | h; omega; exact h
    rw [show n - k = n - (k + 1) + 1 by omega, kwh, if_neg (by rw [hp]; decide)]
  · rw [show n - k = 0 by omega, kwh]
theorem l_105 {m : Nat} {E : Nat → kC} {S : Nat → Nat → Int} {sz : Nat × Nat} (hm : 53 ≤ m ∧ m ≤ 57) (hn : 0 ≤ S 30 7 ∧ S 30 7 ≤ 200) (ht : ∀ j : Nat, j < 200 → 0 ≤ S 33 j ∧ S 33 j < 128) (w : Int) : ∀ (j k : Nat), 200 - k = j → k ≤ 200 → kR 0 105 (blk 105 2) [.ref 30, .int (Int32.ofInt w), .int (Int32.ofInt (k : Int))] [] (sz, hp m E S) (fun r => r = (.inl (some (.int (Int32.ofInt (kw (fun i => decide (S 33 i ≠ 10)) (S 30 7).toNat k : Int)))), (sz, hp m E S))) := by
  intro j
  induction j using Nat.strongRecOn with
  | _ j ih =>
    intro k hk hk2
    have ht1 := ht k
    show kR 0 105 b105_2 _ _ _ _
    refine kR.s rfl rfl ?_
    refine kR.s rfl rfl ?_
    refine kR.gi (k := 7) (v := S 30 7) (by omega) rfl rfl rfl (by decide) (by decide) rfl (by rfl) ?_
    refine kR.jge (by omega) (by omega) (by omega) (by omega) (fun q1 => ?_) (fun q1 => ?_)
    · skip
      show kR 0 105 b105_27 _ _ _ _
      refine kR.s rfl rfl ?_
      refine kR.ret rfl rfl ?_
      rw [kw_no (by first | (left; omega) | (right; exact decide_eq_false (fun z => z q2)) | (right; exact decide_eq_false q2))]
    · skip
      refine kR.s rfl rfl ?_
      refine kR.gr (k := 6) (by omega) rfl rfl rfl (by decide) (by decide) rfl ?_
      refine kR.s rfl rfl ?_
      refine kR.ia (v := S 33 k) (by omega) rfl (by decide) (by omega) (by omega) (by rfl) ?_
      refine kR.bi rfl ?_
      refine kR.jeq (by omega) (by omega) (by omega) (by omega) (fun q2 => ?_) (fun q2 => ?_)
      · skip
        show kR 0 105 b105_27 _ _ _ _
        refine kR.s rfl rfl ?_
        refine kR.ret rfl rfl ?_
        rw [kw_no (by first | (left; omega) | (right; exact decide_eq_false (fun z => z q2)) | (right; exact decide_eq_false q2))]
      · skip
        refine kR.inc rfl ?_
        refine kR.g rfl ?_
        rw [kw_go (by omega) (decide_eq_true q2)]
        exact ih (200 - (k + 1)) (by omega) (k + 1) rfl (by omega)
theorem c_105 {m : Nat} {E : Nat → kC} {S : Nat → Nat → Int} {sz : Nat × Nat} (hm : 53 ≤ m ∧ m ≤ 57) (hn : 0 ≤ S 30 7 ∧ S 30 7 ≤ 200) (ht : ∀ j : Nat, j < 200 → 0 ≤ S 33 j ∧ S 33 j < 128) {a : Nat} (ha : a ≤ 200) : kR 0 105 (blk 105 0) (kent 105 [.ref 30, .int (Int32.ofInt (a : Int))]) [] (sz, hp m E S) (fun r => r = (.inl (some (.int (Int32.ofInt ((kw (fun i => decide (S 33 i ≠ 10)) (S 30 7).toNat a : Nat))))), (sz, hp m E S))) := by
  show kR 0 105 b105_0 _ _ _ _
  refine kR.s rfl rfl ?_
  refine kR.s rfl rfl ?_
  refine kR.n ?_
  exact l_105 hm hn ht a _ a rfl ha
theorem l_104 {m : Nat} {E : Nat → kC} {S : Nat → Nat → Int} {sz : Nat × Nat} (hm : 53 ≤ m ∧ m ≤ 57) (ht : ∀ j : Nat, j < 200 → 0 ≤ S 33 j ∧ S 33 j < 128) {a n : Nat} (hn : n ≤ 200) : ∀ (j k : Nat), 200 - k = j → k ≤ 200 → kR 0 104 (blk 104 2) [.ref 30, .int (Int32.ofInt (a : Int)), .int (Int32.ofInt (n : Int)), .int (Int32.ofInt (k : Int))] [] (sz, hp m E S) (fun r => r = (.inl (some (.int (Int32.ofInt ((kw (fun i => decide (S 33 i = 32)) n k : Nat) - (a : Int))))), (sz, hp m E S))) := by
  intro j
  induction j using Nat.strongRecOn with
  | _ j ih =>
    intro k hk hk2
    have ht1 := ht k
    show kR 0 104 b104_2 _ _ _ _
    refine kR.s rfl rfl ?_
    refine kR.s rfl rfl ?_
    refine kR.jge (by omega) (by omega) (by omega) (by omega) (fun q1 => ?_) (fun q1 => ?_)
    · skip
      show kR 0 104 b104_24 _ _ _ _
      refine kR.s rfl rfl ?_
      refine kR.s rfl rfl ?_
      refine kR.sub ?_
      refine kR.ret rfl rfl ?_
      rw [kw_no (by first | (left; omega) | (right; exact decide_eq_false (fun z => z q2)) | (right; exact decide_eq_false q2))]
    · skip
      refine kR.s rfl rfl ?_
      refine kR.gr (k := 6) (by omega) rfl rfl rfl (by decide) (by decide) rfl ?_
      refine kR.s rfl rfl ?_
      refine kR.ia (v := S 33 k) (by omega) rfl (by decide) (by omega) (by omega) (by rfl) ?_
      refine kR.bi rfl ?_
      refine kR.jne (by omega) (by omega) (by omega) (by omega) (fun q2 => ?_) (fun q2 => ?_)
      · skip
        show kR 0 104 b104_24 _ _ _ _
        refine kR.s rfl rfl ?_
        refine kR.s rfl rfl ?_
        refine kR.sub ?_
        refine kR.ret rfl rfl ?_
        rw [kw_no (by first | (left; omega) | (right; exact decide_eq_false (fun z => z q2)) | (right; exact decide_eq_false q2))]
      · skip
        refine kR.inc rfl ?_
        refine kR.g rfl ?_
        rw [kw_go (by omega) (decide_eq_true q2)]
        exact ih (200 - (k + 1)) (by omega) (k + 1) rfl (by omega)
theorem c_104 {m : Nat} {E : Nat → kC} {S : Nat → Nat → Int} {sz : Nat × Nat} (hm : 53 ≤ m ∧ m ≤ 57) (ht : ∀ j : Nat, j < 200 → 0 ≤ S 33 j ∧ S 33 j < 128) {a n : Nat} (ha : a ≤ 200) (hn : n ≤ 200) : kR 0 104 (blk 104 0) (kent 104 [.ref 30, .int (Int32.ofInt (a : Int)), .int (Int32.ofInt (n : Int))]) [] (sz, hp m E S) (fun r => r = (.inl (some (.int (Int32.ofInt ((kw (fun i => decide (S 33 i = 32)) n a : Nat) - (a : Int))))), (sz, hp m E S))) := by
  show kR 0 104 b104_0 _ _ _ _
  refine kR.s rfl rfl ?_
  refine kR.s rfl rfl ?_
  refine kR.n ?_
  exact l_104 hm ht hn _ a rfl ha
theorem c_108 {m : Nat} {E : Nat → kC} {S : Nat → Nat → Int} {sz : Nat × Nat} (hm : 53 ≤ m ∧ m ≤ 57) (hr : 0 ≤ S 30 23 ∧ S 30 23 ≤ 200) {i : Int} (hi : 0 ≤ i ∧ i ≤ 100000) : kR 0 108 (blk 108 0) (kent 108 [.ref 30, .int (Int32.ofInt i)]) [] (sz, hp m E S) (fun r => r = (.inl (some (.int (Int32.ofInt (if i < S 30 23 then S 33 i.toNat else 0)))), (sz, hp m E S))) := by
  show kR 0 108 b108_0 _ _ _ _
  refine kR.s rfl rfl ?_
  refine kR.s rfl rfl ?_
  refine kR.gi (k := 23) (v := S 30 23) (by omega) rfl rfl rfl (by decide) (by decide) rfl (by rfl) ?_
  refine kR.jge (by omega) (by omega) (by omega) (by omega) (fun q1 => ?_) (fun q1 => ?_)
  · skip
    show kR 0 108 b108_17 _ _ _ _
    refine kR.s rfl rfl ?_
    refine kR.n ?_
    show kR 0 108 b108_18 _ _ _ _
    refine kR.ret rfl rfl ?_
    refine kfin (by first | rw [if_pos (by omega)] | rw [if_neg (by omega)]) rfl
  · skip
    refine kR.s rfl rfl ?_
    refine kR.gr (k := 6) (by omega) rfl rfl rfl (by decide) (by decide) rfl ?_
    refine kR.s rfl rfl ?_
    refine kR.ia (v := S 33 (i.toNat)) (by omega) rfl (by decide) (by omega) (by omega) (by rfl) ?_
    refine kR.g rfl ?_
    show kR 0 108 b108_18 _ _ _ _
    refine kR.ret rfl rfl ?_
    refine kfin (by first | rw [if_pos (by omega)] | rw [if_neg (by omega)]) rfl
