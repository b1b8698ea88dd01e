/-! The class: brackets' signs and keys. By program (wip/gen/gen72.py). -/
theorem c_70 {E : Nat → kC} {S : Nat → Nat → Int} {sz : Nat × Nat} {t : Nat → Int} {n L : Nat} (hX : kTx t n L) (hC : kCt S t n L) {e : Nat} (he : S 53 3 = (e : Int)) (hen : e ≤ n) {a : Nat} (ha : S 53 2 = (a : Int)) (hae : a < e) {x : Int} (hx : 32 < x ∧ x < 128) : kR 3 70 (blk 70 0) (kent 70 [.ref 54, .int (Int32.ofInt (x))]) [] (sz, hp 57 E S) (fun r => (kch t e (kw (fun i => decide (t i = 32)) e (a + 1)) = x → r = (.inl (some (.int (Int32.ofInt 0))), (sz, hp 57 E (ku (ku (ku S 53 2 ((a : Int) + 1)) 53 2 ((kw (fun i => decide (t i = 32)) e (a + 1)) : Nat)) 53 2 (((kw (fun i => decide (t i = 32)) e (a + 1)) : Nat) + (1 : Int)))))) ∧ (¬ kch t e (kw (fun i => decide (t i = 32)) e (a + 1)) = x → r = (.inl (some (.int (Int32.ofInt 1))), (sz, hp 57 E (ku (ku S 53 2 ((a : Int) + 1)) 53 2 ((kw (fun i => decide (t i = 32)) e (a + 1)) : Nat)))))) := by
  have hm : 53 ≤ 57 ∧ 57 ≤ 57 := by omega
  have hx1 := hX.1
  have hkr : a + 1 ≤ (kw (fun i => decide (t i = 32)) e (a + 1)) ∧ (a + 1 ≤ e → (kw (fun i => decide (t i = 32)) e (a + 1)) ≤ e) := kw_rng
  obtain ⟨pb, hpb⟩ : ∃ pb, pb = (kw (fun i => decide (t i = 32)) e (a + 1)) := ⟨_, rfl⟩
  rw [← hpb] at hkr ⊢
  show kR 3 70 b70_0 _ _ _ _
  refine kR.s rfl rfl ?_
  refine kR.gr (a := 54) (b := 53) (k := 0) (by omega) rfl rfl rfl (by decide) (by decide) rfl ?_
  refine kR.s rfl rfl ?_
  refine kR.gi (a := 53) (k := 2) (v := (a : Int)) (by omega) rfl rfl rfl (by decide) (by decide) rfl (by exact ha) ?_
  refine kR.s rfl rfl ?_
  refine kR.add ?_
  refine kR.pi (a := 53) (k := 2) (by omega) rfl rfl rfl (by decide) (by decide) rfl rfl ?_
  refine kR.s rfl rfl ?_
  refine kR.gr (a := 54) (b := 53) (k := 0) (by omega) rfl rfl rfl (by decide) (by decide) rfl ?_
  refine kR.c0 rfl rfl (kR.up (hpb ▸ c_55 (S := ku S 53 2 ((a : Int) + 1)) hX hC he hen (a := a + 1) rfl (by omega)) (by decide)) ?_
  refine kR.s rfl rfl ?_
  refine kR.s rfl rfl ?_
  refine kR.c rfl rfl (kR.up (c_72 (S := ku (ku S 53 2 ((a : Int) + 1)) 53 2 (pb : Int)) hX hC he hen (a := pb) rfl (by omega) (x := x) (by omega)) (by decide)) (fun u hu => ?_)
  by_cases q2 : kch t e pb = x
  · have hu := hu.1 q2
    subst hu
    show kR 3 70 _ _ _ _ _
    refine kR.zne (by decide) (by decide) (fun q3 => ?_) (fun q3 => absurd q3 (by decide))
    show kR 3 70 b70_32 _ _ _ _
    refine kR.s rfl rfl ?_
    refine kR.n ?_
    show kR 3 70 b70_33 _ _ _ _
    refine kR.ret rfl rfl ?_
    exact ⟨fun _ => rfl, fun z => absurd (by omega) z⟩
  · have hu := hu.2 q2
    subst hu
    show kR 3 70 _ _ _ _ _
    refine kR.zne (by decide) (by decide) (fun q4 => absurd q4 (by decide)) (fun q4 => ?_)
    refine kR.s rfl rfl ?_
    refine kR.g rfl ?_
    show kR 3 70 b70_33 _ _ _ _
    refine kR.ret rfl rfl ?_
    exact ⟨fun z => absurd z (by omega), fun _ => rfl⟩
theorem c_71 {E : Nat → kC} {S : Nat → Nat → Int} {sz : Nat × Nat} {t : Nat → Int} {n L : Nat} (hX : kTx t n L) (hC : kCt S t n L) {e : Nat} (he : S 53 3 = (e : Int)) (hen : e ≤ n) {a : Nat} (ha : S 53 2 = (a : Int)) (hae : a ≤ e) {x : Int} (hx : 32 < x ∧ x < 128) (hx44 : ¬ x = 44) : kR 3 71 (blk 71 0) (kent 71 [.ref 54, .int (Int32.ofInt (x))]) [] (sz, hp 57 E S) (fun r => (kch t e (kw (fun i => decide (t i = 32)) e a) = x → r = (.inl (some (.int (Int32.ofInt 0))), (sz, hp 57 E (ku (ku S 53 2 ((kw (fun i => decide (t i = 32)) e a) : Nat)) 53 2 (((kw (fun i => decide (t i = 32)) e a) : Nat) + (1 : Int)))))) ∧ (kch t e (kw (fun i => decide (t i = 32)) e a) = 44 → r = (.inl (some (.int (Int32.ofInt 1))), (sz, hp 57 E (ku (ku (ku S 53 2 ((kw (fun i => decide (t i = 32)) e a) : Nat)) 53 2 (((kw (fun i => decide (t i = 32)) e a) : Nat) + (1 : Int))) 53 2 ((kw (fun i => decide (t i = 32)) e ((kw (fun i => decide (t i = 32)) e a) + 1)) : Nat))))) ∧ (¬ kch t e (kw (fun i => decide (t i = 32)) e a) = x → ¬ kch t e (kw (fun i => decide (t i = 32)) e a) = 44 → r = (.inr sz.1, knew (sz, hp 57 E (ku S 53 2 ((kw (fun i => decide (t i = 32)) e a) : Nat))) 30 6 (fun _ => .null)))) := by
  have hm : 53 ≤ 57 ∧ 57 ≤ 57 := by omega
  have hx1 := hX.1
  have hkr : a ≤ (kw (fun i => decide (t i = 32)) e a) ∧ (a ≤ e → (kw (fun i => decide (t i = 32)) e a) ≤ e) := kw_rng
  obtain ⟨pb, hpb⟩ : ∃ pb, pb = (kw (fun i => decide (t i = 32)) e a) := ⟨_, rfl⟩
  rw [← hpb] at hkr ⊢
  have hlt : kch t e pb = 44 → pb < e := fun z => kch_lt (t := t) (by omega)
  show kR 3 71 b71_0 _ _ _ _
  refine kR.s rfl rfl ?_
  refine kR.gr (a := 54) (b := 53) (k := 0) (by omega) rfl rfl rfl (by decide) (by decide) rfl ?_
  refine kR.c0 rfl rfl (kR.up (hpb ▸ c_55 (S := S) hX hC he hen (a := a) ha (by omega)) (by decide)) ?_
  refine kR.s rfl rfl ?_
  refine kR.s rfl rfl ?_
  refine kR.c rfl rfl (kR.up (c_72 (S := ku S 53 2 (pb : Int)) hX hC he hen (a := pb) rfl (by omega) (x := x) (by omega)) (by decide)) (fun u hu => ?_)
  by_cases q2 : kch t e pb = x
  · have hu := hu.1 q2
    subst hu
    show kR 3 71 _ _ _ _ _
    refine kR.zeq (by decide) (by decide) (fun q3 => absurd q3 (by decide)) (fun q3 => ?_)
    refine kR.s rfl rfl ?_
    refine kR.ret rfl rfl ?_
    exact ⟨fun _ => rfl, fun z => absurd z (by omega), fun z => absurd (by omega) z⟩
  · have hu := hu.2 q2
    subst hu
    show kR 3 71 _ _ _ _ _
    refine kR.zeq (by decide) (by decide) (fun q4 => ?_) (fun q4 => absurd q4 (by decide))
    show kR 3 71 b71_17 _ _ _ _
    refine kR.s rfl rfl ?_
    refine kR.bi rfl ?_
    refine kR.c rfl rfl (kR.up (c_72 (S := ku S 53 2 (pb : Int)) hX hC he hen (a := pb) rfl (by omega) (x := 44) (by omega)) (by decide)) (fun u hu => ?_)
    by_cases q5 : kch t e pb = 44
    · have hu := hu.1 q5
      subst hu
      show kR 3 71 _ _ _ _ _
      refine kR.zne (by decide) (by decide) (fun q6 => ?_) (fun q6 => absurd q6 (by decide))
      show kR 3 71 b71_36 _ _ _ _
      refine kR.s rfl rfl ?_
      refine kR.gr (a := 54) (b := 53) (k := 0) (by omega) rfl rfl rfl (by decide) (by decide) rfl ?_
      refine kR.c0 rfl rfl (kR.up (c_55 (S := ku (ku S 53 2 (pb : Int)) 53 2 ((pb : Int) + 1)) hX hC he hen (a := pb + 1) rfl (by omega)) (by decide)) ?_
      refine kR.s rfl rfl ?_
      refine kR.ret rfl rfl ?_
      exact ⟨fun z => absurd z (by omega), fun _ => rfl, fun _ z => absurd (by omega) z⟩
    · have hu := hu.2 q5
      subst hu
      show kR 3 71 _ _ _ _ _
      refine kR.zne (by decide) (by decide) (fun q8 => absurd q8 (by decide)) (fun q8 => ?_)
      refine kR.t rfl rfl (Nat.le_of_ble_eq_true rfl) ?_
      exact ⟨fun z => absurd z (by omega), fun z => absurd z (by omega), fun _ _ => rfl⟩
theorem c_74n {E : Nat → kC} {S : Nat → Nat → Int} {sz : Nat × Nat} {t : Nat → Int} {n L : Nat} (hX : kTx t n L) (hC : kCt S t n L) {e : Nat} (he : S 53 3 = (e : Int)) (hen : e ≤ n) {a : Nat} (ha : S 53 2 = (a : Int)) (hae : a ≤ e) {i : Int} (hi : i = 0 ∨ i = 1) (hs : kStr E 1000011 [95, 46, 43, 47, 126, 40, 60, 61, 36, 94]) {d : Int} (hck : kck t e i a = -1) : kR 8 74 (blk 74 0) (kent 74 [.ref 54, .int (Int32.ofInt (d)), .int (Int32.ofInt (i))]) [] (sz, hp 57 E S) (fun r => r = (.inr sz.1, knew (sz, hp 57 E S) 30 6 (fun _ => .null))) := by
  have hm : 53 ≤ 57 ∧ 57 ≤ 57 := by omega
  have hx1 := hX.1
  show kR 8 74 b74_0 _ _ _ _
  refine kR.s rfl rfl ?_
  refine kR.gr (a := 54) (b := 53) (k := 0) (by omega) rfl rfl rfl (by decide) (by decide) rfl ?_
  refine kR.gi (a := 53) (k := 2) (v := (a : Int)) (by omega) rfl rfl rfl (by decide) (by decide) rfl (by exact ha) ?_
  refine kR.s rfl rfl ?_
  refine kR.s rfl rfl ?_
  refine kR.s rfl rfl ?_
  refine kR.cv (v := .int (Int32.ofInt (-1))) rfl rfl (kR.up (hck ▸ c_75 hX hC he hen ha hae hi hs) (by decide)) ?_
  refine kR.s rfl rfl ?_
  refine kR.s rfl rfl ?_
  refine kR.s rfl rfl ?_
  refine kR.jne (by decide) (by decide) (by decide) (by decide) (fun q2 => absurd q2 (by decide)) (fun q2 => ?_)
  refine kR.t rfl rfl (Nat.le_of_ble_eq_true rfl) ?_
  rfl
theorem c_74q {E : Nat → kC} {S : Nat → Nat → Int} {sz : Nat × Nat} {t : Nat → Int} {n L : Nat} (hX : kTx t n L) (hC : kCt S t n L) {e : Nat} (he : S 53 3 = (e : Int)) (hen : e ≤ n) {a : Nat} (ha : S 53 2 = (a : Int)) (hae : a ≤ e) {i : Int} (hi : i = 0 ∨ i = 1) (hs : kStr E 1000011 [95, 46, 43, 47, 126, 40, 60, 61, 36, 94]) {d : Int} {S1 : Nat → Nat → Int} {v : Int} {z : Nat} (hck : kck t e i a = (z : Int)) (hze : z ≤ e) (hqu : kqu (kch t e a) = 1) (k80 : kR 4 80 (blk 80 0) (kent 80 [.ref 54, .int (Int32.ofInt (a : Int)), .int (Int32.ofInt (z : Int)), .int (Int32.ofInt d)]) [] (sz, hp 57 E (ku S 53 2 ((z : Int) + 1))) (fun r => r = (.inl (some (.int (Int32.ofInt v))), (sz, hp 57 E S1)))) : kR 8 74 (blk 74 0) (kent 74 [.ref 54, .int (Int32.ofInt (d)), .int (Int32.ofInt (i))]) [] (sz, hp 57 E S) (fun r => r = (.inl (some (.int (Int32.ofInt v))), (sz, hp 57 E S1))) := by
  have hm : 53 ≤ 57 ∧ 57 ≤ 57 := by omega
  have hx1 := hX.1
  show kR 8 74 b74_0 _ _ _ _
  refine kR.s rfl rfl ?_
  refine kR.gr (a := 54) (b := 53) (k := 0) (by omega) rfl rfl rfl (by decide) (by decide) rfl ?_
  refine kR.gi (a := 53) (k := 2) (v := (a : Int)) (by omega) rfl rfl rfl (by decide) (by decide) rfl (by exact ha) ?_
  refine kR.s rfl rfl ?_
  refine kR.s rfl rfl ?_
  refine kR.s rfl rfl ?_
  refine kR.cv (v := .int (Int32.ofInt ((z : Int)))) rfl rfl (kR.up (hck ▸ c_75 hX hC he hen ha hae hi hs) (by decide)) ?_
  refine kR.s rfl rfl ?_
  refine kR.s rfl rfl ?_
  refine kR.s rfl rfl ?_
  refine kR.jne (by omega) (by omega) (by omega) (by omega) (fun q2 => ?_) (fun q2 => ?_)
  · skip
    show kR 8 74 b74_31 _ _ _ _
    refine kR.s rfl rfl ?_
    refine kR.gr (a := 54) (b := 53) (k := 0) (by omega) rfl rfl rfl (by decide) (by decide) rfl ?_
    refine kR.s rfl rfl ?_
    refine kR.s rfl rfl ?_
    refine kR.add ?_
    refine kR.pi (a := 53) (k := 2) (by omega) rfl rfl rfl (by decide) (by decide) rfl rfl ?_
    refine kR.s rfl rfl ?_
    refine kR.gr (a := 54) (b := 53) (k := 0) (by omega) rfl rfl rfl (by decide) (by decide) rfl ?_
    refine kR.s rfl rfl ?_
    have f3_0 := kch_rng hX hen a
    refine kR.cv (v := .int (Int32.ofInt (kch t e a))) rfl rfl (kR.up (c_52 (S := ku S 53 2 ((z : Int) + 1)) hX hC he hen (p := a) (by omega)) (by decide)) ?_
    refine kR.cv (v := .int (Int32.ofInt (1))) rfl rfl (kR.up (hqu ▸ c_87 (c := kch t e a) (by omega)) (by decide)) ?_
    refine kR.zeq (by decide) (by decide) (fun q5 => absurd q5 (by decide)) (fun q5 => ?_)
    refine kR.s rfl rfl ?_
    refine kR.s rfl rfl ?_
    refine kR.s rfl rfl ?_
    refine kR.s rfl rfl ?_
    refine kR.cv rfl rfl (kR.up k80 (by decide)) ?_
    refine kR.g rfl ?_
    show kR 8 74 b74_75 _ _ _ _
    refine kR.ret rfl rfl ?_
    rfl
  · skip
    refine kR.t rfl rfl (Nat.le_of_ble_eq_true rfl) ?_
    exfalso
    omega
theorem c_74qt {E : Nat → kC} {S : Nat → Nat → Int} {sz : Nat × Nat} {t : Nat → Int} {n L : Nat} (hX : kTx t n L) (hC : kCt S t n L) {e : Nat} (he : S 53 3 = (e : Int)) (hen : e ≤ n) {a : Nat} (ha : S 53 2 = (a : Int)) (hae : a ≤ e) {i : Int} (hi : i = 0 ∨ i = 1) (hs : kStr E 1000011 [95, 46, 43, 47, 126, 40, 60, 61, 36, 94]) {d : Int} {z : Nat} (hck : kck t e i a = (z : Int)) (hze : z ≤ e) (hqu : kqu (kch t e a) = 1) (k80 : kR 4 80 (blk 80 0) (kent 80 [.ref 54, .int (Int32.ofInt (a : Int)), .int (Int32.ofInt (z : Int)), .int (Int32.ofInt d)]) [] (sz, hp 57 E (ku S 53 2 ((z : Int) + 1))) (fun r => r = (.inr sz.1, knew (sz, hp 57 E (ku S 53 2 ((z : Int) + 1))) 30 6 (fun _ => .null)))) : kR 8 74 (blk 74 0) (kent 74 [.ref 54, .int (Int32.ofInt (d)), .int (Int32.ofInt (i))]) [] (sz, hp 57 E S) (fun r => r = (.inr sz.1, knew (sz, hp 57 E (ku S 53 2 ((z : Int) + 1))) 30 6 (fun _ => .null))) := by
  have hm : 53 ≤ 57 ∧ 57 ≤ 57 := by omega
  have hx1 := hX.1
  show kR 8 74 b74_0 _ _ _ _
  refine kR.s rfl rfl ?_
  refine kR.gr (a := 54) (b := 53) (k := 0) (by omega) rfl rfl rfl (by decide) (by decide) rfl ?_
  refine kR.gi (a := 53) (k := 2) (v := (a : Int)) (by omega) rfl rfl rfl (by decide) (by decide) rfl (by exact ha) ?_
  refine kR.s rfl rfl ?_
  refine kR.s rfl rfl ?_
  refine kR.s rfl rfl ?_
  refine kR.cv (v := .int (Int32.ofInt ((z : Int)))) rfl rfl (kR.up (hck ▸ c_75 hX hC he hen ha hae hi hs) (by decide)) ?_
  refine kR.s rfl rfl ?_
  refine kR.s rfl rfl ?_
  refine kR.s rfl rfl ?_
  refine kR.jne (by omega) (by omega) (by omega) (by omega) (fun q2 => ?_) (fun q2 => ?_)
  · skip
    show kR 8 74 b74_31 _ _ _ _
    refine kR.s rfl rfl ?_
    refine kR.gr (a := 54) (b := 53) (k := 0) (by omega) rfl rfl rfl (by decide) (by decide) rfl ?_
    refine kR.s rfl rfl ?_
    refine kR.s rfl rfl ?_
    refine kR.add ?_
    refine kR.pi (a := 53) (k := 2) (by omega) rfl rfl rfl (by decide) (by decide) rfl rfl ?_
    refine kR.s rfl rfl ?_
    refine kR.gr (a := 54) (b := 53) (k := 0) (by omega) rfl rfl rfl (by decide) (by decide) rfl ?_
    refine kR.s rfl rfl ?_
    have f3_0 := kch_rng hX hen a
    refine kR.cv (v := .int (Int32.ofInt (kch t e a))) rfl rfl (kR.up (c_52 (S := ku S 53 2 ((z : Int) + 1)) hX hC he hen (p := a) (by omega)) (by decide)) ?_
    refine kR.cv (v := .int (Int32.ofInt (1))) rfl rfl (kR.up (hqu ▸ c_87 (c := kch t e a) (by omega)) (by decide)) ?_
    refine kR.zeq (by decide) (by decide) (fun q5 => absurd q5 (by decide)) (fun q5 => ?_)
    refine kR.s rfl rfl ?_
    refine kR.s rfl rfl ?_
    refine kR.s rfl rfl ?_
    refine kR.s rfl rfl ?_
    exact kR.cT rfl rfl rfl (kR.up k80 (by decide)) rfl
  · skip
    refine kR.t rfl rfl (Nat.le_of_ble_eq_true rfl) ?_
    exfalso
    omega
theorem c_74p {E : Nat → kC} {S : Nat → Nat → Int} {sz : Nat × Nat} {t : Nat → Int} {n L : Nat} (hX : kTx t n L) (hC : kCt S t n L) {e : Nat} (he : S 53 3 = (e : Int)) (hen : e ≤ n) {a : Nat} (ha : S 53 2 = (a : Int)) (hae : a ≤ e) {i : Int} (hi : i = 0 ∨ i = 1) (hs : kStr E 1000011 [95, 46, 43, 47, 126, 40, 60, 61, 36, 94]) {d : Int} {S1 : Nat → Nat → Int} {v : Int} {z : Nat} (hck : kck t e i a = (z : Int)) (hze : z ≤ e) (hqu : kqu (kch t e a) = 0) (k83 : kR 6 83 (blk 83 0) (kent 83 [.ref 54, .int (Int32.ofInt (a : Int)), .int (Int32.ofInt (z : Int)), .int (Int32.ofInt d)]) [] (sz, hp 57 E (ku S 53 2 ((z : Int) + 1))) (fun r => r = (.inl (some (.int (Int32.ofInt v))), (sz, hp 57 E S1)))) : kR 8 74 (blk 74 0) (kent 74 [.ref 54, .int (Int32.ofInt (d)), .int (Int32.ofInt (i))]) [] (sz, hp 57 E S) (fun r => r = (.inl (some (.int (Int32.ofInt v))), (sz, hp 57 E S1))) := by
  have hm : 53 ≤ 57 ∧ 57 ≤ 57 := by omega
  have hx1 := hX.1
  show kR 8 74 b74_0 _ _ _ _
  refine kR.s rfl rfl ?_
  refine kR.gr (a := 54) (b := 53) (k := 0) (by omega) rfl rfl rfl (by decide) (by decide) rfl ?_
  refine kR.gi (a := 53) (k := 2) (v := (a : Int)) (by omega) rfl rfl rfl (by decide) (by decide) rfl (by exact ha) ?_
  refine kR.s rfl rfl ?_
  refine kR.s rfl rfl ?_
  refine kR.s rfl rfl ?_
  refine kR.cv (v := .int (Int32.ofInt ((z : Int)))) rfl rfl (kR.up (hck ▸ c_75 hX hC he hen ha hae hi hs) (by decide)) ?_
  refine kR.s rfl rfl ?_
  refine kR.s rfl rfl ?_
  refine kR.s rfl rfl ?_
  refine kR.jne (by omega) (by omega) (by omega) (by omega) (fun q2 => ?_) (fun q2 => ?_)
  · skip
    show kR 8 74 b74_31 _ _ _ _
    refine kR.s rfl rfl ?_
    refine kR.gr (a := 54) (b := 53) (k := 0) (by omega) rfl rfl rfl (by decide) (by decide) rfl ?_
    refine kR.s rfl rfl ?_
    refine kR.s rfl rfl ?_
    refine kR.add ?_
    refine kR.pi (a := 53) (k := 2) (by omega) rfl rfl rfl (by decide) (by decide) rfl rfl ?_
    refine kR.s rfl rfl ?_
    refine kR.gr (a := 54) (b := 53) (k := 0) (by omega) rfl rfl rfl (by decide) (by decide) rfl ?_
    refine kR.s rfl rfl ?_
    have f3_0 := kch_rng hX hen a
    refine kR.cv (v := .int (Int32.ofInt (kch t e a))) rfl rfl (kR.up (c_52 (S := ku S 53 2 ((z : Int) + 1)) hX hC he hen (p := a) (by omega)) (by decide)) ?_
    refine kR.cv (v := .int (Int32.ofInt (0))) rfl rfl (kR.up (hqu ▸ c_87 (c := kch t e a) (by omega)) (by decide)) ?_
    refine kR.zeq (by decide) (by decide) (fun q5 => ?_) (fun q5 => absurd q5 (by decide))
    show kR 8 74 b74_67 _ _ _ _
    refine kR.s rfl rfl ?_
    refine kR.s rfl rfl ?_
    refine kR.s rfl rfl ?_
    refine kR.s rfl rfl ?_
    refine kR.cv rfl rfl (kR.up k83 (by decide)) ?_
    refine kR.n ?_
    show kR 8 74 b74_75 _ _ _ _
    refine kR.ret rfl rfl ?_
    rfl
  · skip
    refine kR.t rfl rfl (Nat.le_of_ble_eq_true rfl) ?_
    exfalso
    omega
theorem c_74pt {E : Nat → kC} {S : Nat → Nat → Int} {sz : Nat × Nat} {t : Nat → Int} {n L : Nat} (hX : kTx t n L) (hC : kCt S t n L) {e : Nat} (he : S 53 3 = (e : Int)) (hen : e ≤ n) {a : Nat} (ha : S 53 2 = (a : Int)) (hae : a ≤ e) {i : Int} (hi : i = 0 ∨ i = 1) (hs : kStr E 1000011 [95, 46, 43, 47, 126, 40, 60, 61, 36, 94]) {d : Int} {z : Nat} (hck : kck t e i a = (z : Int)) (hze : z ≤ e) (hqu : kqu (kch t e a) = 0) (k83 : kR 6 83 (blk 83 0) (kent 83 [.ref 54, .int (Int32.ofInt (a : Int)), .int (Int32.ofInt (z : Int)), .int (Int32.ofInt d)]) [] (sz, hp 57 E (ku S 53 2 ((z : Int) + 1))) (fun r => r = (.inr sz.1, knew (sz, hp 57 E (ku S 53 2 ((z : Int) + 1))) 30 6 (fun _ => .null)))) : kR 8 74 (blk 74 0) (kent 74 [.ref 54, .int (Int32.ofInt (d)), .int (Int32.ofInt (i))]) [] (sz, hp 57 E S) (fun r => r = (.inr sz.1, knew (sz, hp 57 E (ku S 53 2 ((z : Int) + 1))) 30 6 (fun _ => .null))) := by
  have hm : 53 ≤ 57 ∧ 57 ≤ 57 := by omega
  have hx1 := hX.1
  show kR 8 74 b74_0 _ _ _ _
  refine kR.s rfl rfl ?_
  refine kR.gr (a := 54) (b := 53) (k := 0) (by omega) rfl rfl rfl (by decide) (by decide) rfl ?_
  refine kR.gi (a := 53) (k := 2) (v := (a : Int)) (by omega) rfl rfl rfl (by decide) (by decide) rfl (by exact ha) ?_
  refine kR.s rfl rfl ?_
  refine kR.s rfl rfl ?_
  refine kR.s rfl rfl ?_
  refine kR.cv (v := .int (Int32.ofInt ((z : Int)))) rfl rfl (kR.up (hck ▸ c_75 hX hC he hen ha hae hi hs) (by decide)) ?_
  refine kR.s rfl rfl ?_
  refine kR.s rfl rfl ?_
  refine kR.s rfl rfl ?_
  refine kR.jne (by omega) (by omega) (by omega) (by omega) (fun q2 => ?_) (fun q2 => ?_)
  · skip
    show kR 8 74 b74_31 _ _ _ _
    refine kR.s rfl rfl ?_
    refine kR.gr (a := 54) (b := 53) (k := 0) (by omega) rfl rfl rfl (by decide) (by decide) rfl ?_
    refine kR.s rfl rfl ?_
    refine kR.s rfl rfl ?_
    refine kR.add ?_
    refine kR.pi (a := 53) (k := 2) (by omega) rfl rfl rfl (by decide) (by decide) rfl rfl ?_
    refine kR.s rfl rfl ?_
    refine kR.gr (a := 54) (b := 53) (k := 0) (by omega) rfl rfl rfl (by decide) (by decide) rfl ?_
    refine kR.s rfl rfl ?_
    have f3_0 := kch_rng hX hen a
    refine kR.cv (v := .int (Int32.ofInt (kch t e a))) rfl rfl (kR.up (c_52 (S := ku S 53 2 ((z : Int) + 1)) hX hC he hen (p := a) (by omega)) (by decide)) ?_
    refine kR.cv (v := .int (Int32.ofInt (0))) rfl rfl (kR.up (hqu ▸ c_87 (c := kch t e a) (by omega)) (by decide)) ?_
    refine kR.zeq (by decide) (by decide) (fun q5 => ?_) (fun q5 => absurd q5 (by decide))
    show kR 8 74 b74_67 _ _ _ _
    refine kR.s rfl rfl ?_
    refine kR.s rfl rfl ?_
    refine kR.s rfl rfl ?_
    refine kR.s rfl rfl ?_
    exact kR.cT rfl rfl rfl (kR.up k83 (by decide)) rfl
  · skip
    refine kR.t rfl rfl (Nat.le_of_ble_eq_true rfl) ?_
    exfalso
    omega
