/-! The class: quoted nodes, namings, signs. By program (wip/gen/gen54.py). -/
theorem l_80 {E : Nat → kC} {sz : Nat × Nat} {t : Nat → Int} {n L : Nat} (hX : kTx t n L) {e f v b : Nat} (hen : e ≤ n) (hv : v < 60) {q : Int} (hq : 0 ≤ q ∧ q < 128) {v3 : Value} : ∀ (j p u : Nat) (S : Nat → Nat → Int) (v7 : Value), e + 2 - p = j → p ≤ e + 1 → kbq t e q p = (b : Int) → kCt S t n L → S 53 3 = (e : Int) → S 20 7 = (u : Int) → u + (kuq t e q p).length ≤ 200 → kR 2 80 (blk 80 24) [.ref 54, .int (Int32.ofInt (f : Int)), .int (Int32.ofInt (b : Int)), v3, .int (Int32.ofInt (v : Int)), .int (Int32.ofInt q), .int (Int32.ofInt (p : Int)), v7] [] (sz, hp 57 E S) (fun r => r = (.inl (some (.int (Int32.ofInt (v : Int)))), (sz, hp 57 E (kapl v (kuq t e q p) u S)))) := by
  intro j
  induction j using Nat.strongRecOn with
  | _ j ih =>
    intro p u S v7 hj hpp hb hC he hu hul
    have hx1 := hX.1
    have hbr := kbq_rng (t := t) (e := e) (q := q) (e - p) p rfl
    have z1 := kch_rng hX hen p
    have z2 := kch_rng hX hen (p + 1)
    have z3 := kpr_o q (kch t e p) (kch t e (p + 1))
    rcases Int.lt_or_le ((p : Int) + 1) (b : Int) with hlt | hge
    · obtain ⟨hpe, hm1, hm2⟩ := kuq_more hb hlt
      show kR 2 80 b80_24 _ _ _ _
      refine kR.s rfl rfl ?_
      refine kR.s rfl rfl ?_
      refine kR.s rfl rfl ?_
      refine kR.sub ?_
      refine kR.jge (by omega) (by omega) (by omega) (by omega) (fun q1 => ?_) (fun q1 => ?_)
      · skip
        exfalso
        omega
      · skip
        refine kR.s rfl rfl ?_
        refine kR.gr (a := 54) (b := 53) (k := 0) (by omega) rfl rfl rfl (by decide) (by decide) rfl ?_
        refine kR.s rfl rfl ?_
        refine kR.cv (v := .int (Int32.ofInt (kch t e p))) rfl rfl (kR.up (c_52 hX hC he hen (p := p) (by omega)) (by decide)) ?_
        refine kR.s rfl rfl ?_
        refine kR.s rfl rfl ?_
        refine kR.s rfl rfl ?_
        refine kR.s rfl rfl ?_
        refine kR.gr (a := 54) (b := 53) (k := 0) (by omega) rfl rfl rfl (by decide) (by decide) rfl ?_
        refine kR.s rfl rfl ?_
        refine kR.s rfl rfl ?_
        refine kR.add ?_
        refine kR.cv (v := .int (Int32.ofInt (kch t e (p + 1)))) rfl rfl (kR.up (c_52 hX hC he hen (p := (p + 1)) (by omega)) (by decide)) ?_
        refine kR.cv (v := .int (Int32.ofInt (kpr q (kch t e p) (kch t e (p + 1))))) rfl rfl (kR.up (c_79 (q := q) (c := kch t e p) (z := kch t e (p + 1)) (by omega) (by omega) (by omega)) (by decide)) ?_
        refine kR.zeq (by omega) (by omega) (fun q5 => ?_) (fun q5 => ?_)
        · skip
          obtain ⟨hl1, hl2⟩ := hm2 (by omega)
          rw [hl1] at hul ⊢
          simp only [List.length_cons] at hul
          show kR 2 80 b80_97 _ _ _ _
          refine kR.s rfl rfl ?_
          refine kR.gr (a := 54) (b := 20) (k := 1) (by omega) rfl rfl rfl (by decide) (by decide) rfl ?_
          refine kR.s rfl rfl ?_
          refine kR.s rfl rfl ?_
          refine kR.c0 rfl rfl (kR.up (c_38 (v := v) (x := kch t e p) hv (by omega) hu (by omega)) (by decide)) ?_
          refine kR.inc rfl ?_
          refine kR.g rfl ?_
          exact ih (e + 2 - (p + 1)) (by omega) (p + 1) (u + 1) (kapt S v (kch t e p) u) _ rfl (by omega) (by exact hl2) hC he rfl (by omega)
        · skip
          refine kR.inc rfl ?_
          refine kR.s rfl rfl ?_
          refine kR.gr (a := 54) (b := 53) (k := 0) (by omega) rfl rfl rfl (by decide) (by decide) rfl ?_
          refine kR.s rfl rfl ?_
          refine kR.cv (v := .int (Int32.ofInt (kch t e (p + 1)))) rfl rfl (kR.up (c_52 hX hC he hen (p := (p + 1)) (by omega)) (by decide)) ?_
          refine kR.bi rfl ?_
          refine kR.jne (by omega) (by omega) (by omega) (by omega) (fun q8 => ?_) (fun q8 => ?_)
          · skip
            show kR 2 80 b80_86 _ _ _ _
            refine kR.s rfl rfl ?_
            refine kR.gr (a := 54) (b := 53) (k := 0) (by omega) rfl rfl rfl (by decide) (by decide) rfl ?_
            refine kR.s rfl rfl ?_
            refine kR.cv (v := .int (Int32.ofInt (kch t e (p + 1)))) rfl rfl (kR.up (c_52 hX hC he hen (p := (p + 1)) (by omega)) (by decide)) ?_
            refine kR.n ?_
            show kR 2 80 b80_95 _ _ _ _
            refine kR.s rfl rfl ?_
            refine kR.n ?_
            obtain ⟨hl1, hl2⟩ := hm1 (by omega)
            rw [hl1] at hul ⊢
            simp only [List.length_cons] at hul
            rw [if_neg (by omega : ¬ kch t e (p + 1) = 110)]
            show kR 2 80 b80_97 _ _ _ _
            refine kR.s rfl rfl ?_
            refine kR.gr (a := 54) (b := 20) (k := 1) (by omega) rfl rfl rfl (by decide) (by decide) rfl ?_
            refine kR.s rfl rfl ?_
            refine kR.s rfl rfl ?_
            refine kR.c0 rfl rfl (kR.up (c_38 (v := v) (x := kch t e (p + 1)) hv (by omega) hu (by omega)) (by decide)) ?_
            refine kR.inc rfl ?_
            refine kR.g rfl ?_
            exact ih (e + 2 - (p + 2)) (by omega) (p + 2) (u + 1) (kapt S v (kch t e (p + 1)) u) _ rfl (by omega) (by exact hl2) hC he rfl (by omega)
          · skip
            refine kR.bi rfl ?_
            refine kR.g rfl ?_
            show kR 2 80 b80_95 _ _ _ _
            refine kR.s rfl rfl ?_
            refine kR.n ?_
            obtain ⟨hl1, hl2⟩ := hm1 (by omega)
            rw [hl1] at hul ⊢
            simp only [List.length_cons] at hul
            rw [if_pos (by omega : kch t e (p + 1) = 110)]
            show kR 2 80 b80_97 _ _ _ _
            refine kR.s rfl rfl ?_
            refine kR.gr (a := 54) (b := 20) (k := 1) (by omega) rfl rfl rfl (by decide) (by decide) rfl ?_
            refine kR.s rfl rfl ?_
            refine kR.s rfl rfl ?_
            refine kR.c0 rfl rfl (kR.up (c_38 (v := v) (x := 10) hv (by omega) hu (by omega)) (by decide)) ?_
            refine kR.inc rfl ?_
            refine kR.g rfl ?_
            exact ih (e + 2 - (p + 2)) (by omega) (p + 2) (u + 1) (kapt S v 10 u) _ rfl (by omega) (by exact hl2) hC he rfl (by omega)
    · rw [kuq_close (by omega) (by omega)]
      show kR 2 80 b80_24 _ _ _ _
      refine kR.s rfl rfl ?_
      refine kR.s rfl rfl ?_
      refine kR.s rfl rfl ?_
      refine kR.sub ?_
      refine kR.jge (by omega) (by omega) (by omega) (by omega) (fun q1 => ?_) (fun q1 => ?_)
      · skip
        show kR 2 80 b80_114 _ _ _ _
        refine kR.s rfl rfl ?_
        refine kR.ret rfl rfl ?_
        rfl
      · skip
        exfalso
        omega
theorem c_80 {E : Nat → kC} {S : Nat → Nat → Int} {sz : Nat × Nat} {t : Nat → Int} {n L : Nat} (hX : kTx t n L) (hC : kCt S t n L) {e : Nat} (he : S 53 3 = (e : Int)) (hen : e ≤ n) {f b : Nat} (hf : f < e) (hb : kbq t e (kch t e f) (f + 1) = (b : Int)) {Bg : Int → Int → Nat → Nat → Int} {v u : Nat} {d : Int} (hv : v < 60) (hbg : ∀ k z : Int, kR 1 62 (blk 62 0) (kent 62 [.ref 54, .int (Int32.ofInt (k)), .long (Int64.ofInt (z)), .int (Int32.ofInt (d))]) [] (sz, hp 57 E S) (fun r => r = (.inl (some (.int (Int32.ofInt (v : Int)))), (sz, hp 57 E (Bg k z))))) (hBt : ∀ k z, kCt (Bg k z) t n L) (hBe : ∀ k z, Bg k z 53 3 = (e : Int)) (hBu : ∀ k z, Bg k z 20 7 = (u : Int)) (hul : u + (kuq t e (kch t e f) (f + 1)).length ≤ 200) : kR 4 80 (blk 80 0) (kent 80 [.ref 54, .int (Int32.ofInt ((f : Int))), .int (Int32.ofInt ((b : Int))), .int (Int32.ofInt (d))]) [] (sz, hp 57 E S) (fun r => r = (.inl (some (.int (Int32.ofInt (v : Int)))), (sz, hp 57 E (kapl v (kuq t e (kch t e f) (f + 1)) u (Bg 3 0))))) := by
  have hm : 53 ≤ 57 ∧ 57 ≤ 57 := by omega
  have hx1 := hX.1
  have hfr := kch_rng hX hen f
  show kR 4 80 b80_0 _ _ _ _
  refine kR.s rfl rfl ?_
  refine kR.s rfl rfl ?_
  refine kR.lcn (c := 0) rfl ?_
  refine kR.s rfl rfl ?_
  refine kR.cv (v := .int (Int32.ofInt ((v : Int)))) rfl rfl (kR.up (hbg _ _) (by decide)) ?_
  refine kR.s rfl rfl ?_
  refine kR.s rfl rfl ?_
  refine kR.gr (a := 54) (b := 53) (k := 0) (by omega) rfl rfl rfl (by decide) (by decide) rfl ?_
  refine kR.s rfl rfl ?_
  refine kR.cv (v := .int (Int32.ofInt (kch t e f))) rfl rfl (kR.up ((c_52 (S := Bg 3 0) hX (hBt 3 0) (hBe 3 0) hen (p := f) (by omega))) (by decide)) ?_
  refine kR.s rfl rfl ?_
  refine kR.s rfl rfl ?_
  refine kR.s rfl rfl ?_
  refine kR.add ?_
  refine kR.s rfl rfl ?_
  refine kR.n ?_
  exact kR.up (l_80 hX hen hv (by omega) (e + 2 - (f + 1)) (f + 1) u (Bg 3 0) _ rfl (by omega) hb (hBt _ _) (hBe _ _) (hBu _ _) hul) (by decide)
theorem c_80b {E : Nat → kC} {S : Nat → Nat → Int} {sz : Nat × Nat} {t : Nat → Int} {n L : Nat} (hX : kTx t n L) (hC : kCt S t n L) {e : Nat} (he : S 53 3 = (e : Int)) (hen : e ≤ n) {f b : Nat} (hf : f < e) {d : Int} (hbg : ∀ k z : Int, kR 1 62 (blk 62 0) (kent 62 [.ref 54, .int (Int32.ofInt (k)), .long (Int64.ofInt (z)), .int (Int32.ofInt (d))]) [] (sz, hp 57 E S) (fun r => r = (.inr sz.1, knew (sz, hp 57 E S) 30 6 (fun _ => .null)))) : kR 4 80 (blk 80 0) (kent 80 [.ref 54, .int (Int32.ofInt ((f : Int))), .int (Int32.ofInt ((b : Int))), .int (Int32.ofInt (d))]) [] (sz, hp 57 E S) (fun r => r = (.inr sz.1, knew (sz, hp 57 E S) 30 6 (fun _ => .null))) := by
  have hm : 53 ≤ 57 ∧ 57 ≤ 57 := by omega
  show kR 4 80 b80_0 _ _ _ _
  refine kR.s rfl rfl ?_
  refine kR.s rfl rfl ?_
  refine kR.lcn (c := 0) rfl ?_
  refine kR.s rfl rfl ?_
  exact kR.cT rfl rfl rfl (kR.up (hbg _ _) (by decide)) rfl
theorem c_64 {E : Nat → kC} {S : Nat → Nat → Int} {sz : Nat × Nat} {t : Nat → Int} {n L : Nat} (hX : kTx t n L) (hC : kCt S t n L) {e : Nat} (he : S 53 3 = (e : Int)) (hen : e ≤ n) {a : Nat} (ha : S 53 2 = (a : Int)) (hae : a ≤ e) {nm : Int} (hnm : S 54 3 = nm) (hnr : -1 ≤ nm ∧ nm < 26) : kR 3 64 (blk 64 0) (kent 64 [.ref 54]) [] (sz, hp 57 E S) (fun r => ((kch t e a = 38 → 0 ≤ klt t e (a + 1) ∧ kgap t e (a + 2) = 1 ∧ nm = -1) → r = (.inl none, (sz, hp 57 E (if kch t e a = 38 then ku (ku S 54 3 (klt t e (a + 1))) 53 2 ((kw (fun i => decide (t i = 32)) e (a + 2) : Nat) : Int) else S)))) ∧ (¬ (kch t e a = 38 → 0 ≤ klt t e (a + 1) ∧ kgap t e (a + 2) = 1 ∧ nm = -1) → r = (.inr sz.1, knew (sz, hp 57 E S) 30 6 (fun _ => .null)))) := by
  have hm : 53 ≤ 57 ∧ 57 ≤ 57 := by omega
  have hx1 := hX.1
  have hl1 := klt_rng t e (a + 1)
  have hl2 : ¬ klt t e (a + 1) = -1 → a + 1 < e := fun z => kch_lt (t := t) (by have w := klt_o t e (a + 1); omega)
  show kR 3 64 b64_0 _ _ _ _
  refine kR.s rfl rfl ?_
  refine kR.gr (a := 54) (b := 53) (k := 0) (by omega) rfl rfl rfl (by decide) (by decide) rfl ?_
  have f1_0 := kch_rng hX hen a
  refine kR.cv (v := .int (Int32.ofInt (kch t e a))) rfl rfl (kR.up (c_53 hX hC he hen (a := a) (by exact ha) (by omega)) (by decide)) ?_
  refine kR.bi rfl ?_
  refine kR.jeq (by omega) (by omega) (by omega) (by omega) (fun q2 => ?_) (fun q2 => ?_)
  · skip
    show kR 3 64 b64_13 _ _ _ _
    refine kR.s rfl rfl ?_
    refine kR.s rfl rfl ?_
    refine kR.gr (a := 54) (b := 53) (k := 0) (by omega) rfl rfl rfl (by decide) (by decide) rfl ?_
    refine kR.gi (a := 53) (k := 2) (v := (a : Int)) (by omega) rfl rfl rfl (by decide) (by decide) rfl (by exact ha) ?_
    refine kR.s rfl rfl ?_
    refine kR.add ?_
    have f3_0 := klt_rng t e (a + 1)
    refine kR.cv (v := .int (Int32.ofInt (klt t e (a + 1)))) rfl rfl (kR.up (c_65 hX hC he hen (p := (a + 1)) (by omega)) (by decide)) ?_
    refine kR.s rfl rfl ?_
    refine kR.s rfl rfl ?_
    refine kR.s rfl rfl ?_
    refine kR.jeq (by omega) (by omega) (by omega) (by omega) (fun q4 => ?_) (fun q4 => ?_)
    · skip
      show kR 3 64 b64_51 _ _ _ _
      refine kR.t rfl rfl (Nat.le_of_ble_eq_true rfl) ?_
      refine ⟨fun z => ?_, fun _ => rfl⟩
      have z := z (by omega)
      exfalso
      omega
    · skip
      refine kR.s rfl rfl ?_
      refine kR.gr (a := 54) (b := 53) (k := 0) (by omega) rfl rfl rfl (by decide) (by decide) rfl ?_
      refine kR.s rfl rfl ?_
      refine kR.gr (a := 54) (b := 53) (k := 0) (by omega) rfl rfl rfl (by decide) (by decide) rfl ?_
      refine kR.gi (a := 53) (k := 2) (v := (a : Int)) (by omega) rfl rfl rfl (by decide) (by decide) rfl (by exact ha) ?_
      refine kR.s rfl rfl ?_
      refine kR.add ?_
      have f5_0 := kgap_o t e (a + 2)
      refine kR.cv (v := .int (Int32.ofInt (kgap t e (a + 2)))) rfl rfl (kR.up (c_56 hX hC he hen (p := (a + 2)) (by omega)) (by decide)) ?_
      refine kR.zne (by omega) (by omega) (fun q6 => ?_) (fun q6 => ?_)
      · skip
        show kR 3 64 b64_61 _ _ _ _
        refine kR.s rfl rfl ?_
        refine kR.gi (a := 54) (k := 3) (v := nm) (by omega) rfl rfl rfl (by decide) (by decide) rfl (by exact hnm) ?_
        refine kR.s rfl rfl ?_
        refine kR.jeq (by omega) (by omega) (by omega) (by omega) (fun q7 => ?_) (fun q7 => ?_)
        · skip
          show kR 3 64 b64_79 _ _ _ _
          refine kR.s rfl rfl ?_
          refine kR.s rfl rfl ?_
          refine kR.pi (a := 54) (k := 3) (by omega) rfl rfl rfl (by decide) (by decide) rfl rfl ?_
          refine kR.s rfl rfl ?_
          refine kR.gr (a := 54) (b := 53) (k := 0) (by omega) rfl rfl rfl (by decide) (by decide) rfl ?_
          refine kR.s rfl rfl ?_
          refine kR.gi (a := 53) (k := 2) (v := (a : Int)) (by omega) rfl rfl rfl (by decide) (by decide) rfl (by exact ha) ?_
          refine kR.s rfl rfl ?_
          refine kR.add ?_
          refine kR.pi (a := 53) (k := 2) (by omega) rfl rfl rfl (by decide) (by decide) rfl rfl ?_
          refine kR.s rfl rfl ?_
          refine kR.gr (a := 54) (b := 53) (k := 0) (by omega) rfl rfl rfl (by decide) (by decide) rfl ?_
          refine kR.c0 rfl rfl (kR.up (c_55 (S := ku (ku S 54 3 (klt t e (a + 1))) 53 2 ((a : Int) + 2)) hX hC he hen (a := a + 2) rfl (by omega)) (by decide)) ?_
          refine kR.ret rfl rfl ?_
          refine ⟨fun _ => ?_, fun z => absurd (fun _ => ⟨by omega, by omega, by omega⟩) z⟩
          rw [if_pos (by omega), ku_ku]
        · skip
          refine kR.t rfl rfl (Nat.le_of_ble_eq_true rfl) ?_
          refine ⟨fun z => ?_, fun _ => rfl⟩
          have z := z (by omega)
          exfalso
          omega
      · skip
        refine kR.n ?_
        show kR 3 64 b64_51 _ _ _ _
        refine kR.t rfl rfl (Nat.le_of_ble_eq_true rfl) ?_
        refine ⟨fun z => ?_, fun _ => rfl⟩
        have z := z (by omega)
        exfalso
        omega
  · skip
    refine kR.ret rfl rfl ?_
    refine ⟨fun _ => ?_, fun z => absurd (fun w => absurd w (by omega)) z⟩
    rw [if_neg (by omega)]
theorem c_67 {E : Nat → kC} {S : Nat → Nat → Int} {sz : Nat × Nat} {t : Nat → Int} {n L : Nat} (hX : kTx t n L) (hC : kCt S t n L) {e : Nat} (he : S 53 3 = (e : Int)) (hen : e ≤ n) {a : Nat} (ha : S 53 2 = (a : Int)) (hae : a ≤ e) {nm : Int} (hnm : S 54 3 = nm) (hnr : -1 ≤ nm ∧ nm < 26) (hnd : ∀ j, j < 26 → -1 ≤ S 55 j ∧ S 55 j < 60) : kR 2 67 (blk 67 0) (kent 67 [.ref 54]) [] (sz, hp 57 E S) (fun r => ((nm = -1 ∧ 0 ≤ klt t e (a + 1) ∧ ¬ S 55 (klt t e (a + 1)).toNat = -1) → r = (.inl (some (.int (Int32.ofInt (S 55 (klt t e (a + 1)).toNat)))), (sz, hp 57 E (ku S 53 2 ((a : Int) + 2))))) ∧ (¬ (nm = -1 ∧ 0 ≤ klt t e (a + 1) ∧ ¬ S 55 (klt t e (a + 1)).toNat = -1) → r = (.inr sz.1, knew (sz, hp 57 E S) 30 6 (fun _ => .null)))) := by
  have hm : 53 ≤ 57 ∧ 57 ≤ 57 := by omega
  have hx1 := hX.1
  have hl1 := klt_rng t e (a + 1)
  have hn1 := hnd (klt t e (a + 1)).toNat
  show kR 2 67 b67_0 _ _ _ _
  refine kR.s rfl rfl ?_
  refine kR.s rfl rfl ?_
  refine kR.gr (a := 54) (b := 53) (k := 0) (by omega) rfl rfl rfl (by decide) (by decide) rfl ?_
  refine kR.gi (a := 53) (k := 2) (v := (a : Int)) (by omega) rfl rfl rfl (by decide) (by decide) rfl (by exact ha) ?_
  refine kR.s rfl rfl ?_
  refine kR.add ?_
  have f1_0 := klt_rng t e (a + 1)
  refine kR.cv (v := .int (Int32.ofInt (klt t e (a + 1)))) rfl rfl (kR.up (c_65 hX hC he hen (p := (a + 1)) (by omega)) (by decide)) ?_
  refine kR.s rfl rfl ?_
  refine kR.s rfl rfl ?_
  refine kR.gi (a := 54) (k := 3) (v := nm) (by omega) rfl rfl rfl (by decide) (by decide) rfl (by exact hnm) ?_
  refine kR.s rfl rfl ?_
  refine kR.jne (by omega) (by omega) (by omega) (by omega) (fun q2 => ?_) (fun q2 => ?_)
  · skip
    show kR 2 67 b67_37 _ _ _ _
    refine kR.t rfl rfl (Nat.le_of_ble_eq_true rfl) ?_
    exact ⟨fun z => absurd z (by omega), fun _ => rfl⟩
  · skip
    refine kR.s rfl rfl ?_
    refine kR.s rfl rfl ?_
    refine kR.jeq (by omega) (by omega) (by omega) (by omega) (fun q3 => ?_) (fun q3 => ?_)
    · skip
      show kR 2 67 b67_37 _ _ _ _
      refine kR.t rfl rfl (Nat.le_of_ble_eq_true rfl) ?_
      exact ⟨fun z => absurd z (by omega), fun _ => rfl⟩
    · skip
      refine kR.s rfl rfl ?_
      refine kR.gr (a := 54) (b := 55) (k := 2) (by omega) rfl rfl rfl (by decide) (by decide) rfl ?_
      refine kR.s rfl rfl ?_
      refine kR.ia (a := 55) (v := S 55 ((klt t e (a + 1)).toNat)) (by omega) rfl (by decide) (by omega) (by omega) (by rfl) ?_
      refine kR.s rfl rfl ?_
      refine kR.jne (by omega) (by omega) (by omega) (by omega) (fun q4 => ?_) (fun q4 => ?_)
      · skip
        show kR 2 67 b67_47 _ _ _ _
        refine kR.s rfl rfl ?_
        refine kR.gr (a := 54) (b := 53) (k := 0) (by omega) rfl rfl rfl (by decide) (by decide) rfl ?_
        refine kR.s rfl rfl ?_
        refine kR.gi (a := 53) (k := 2) (v := (a : Int)) (by omega) rfl rfl rfl (by decide) (by decide) rfl (by exact ha) ?_
        refine kR.s rfl rfl ?_
        refine kR.add ?_
        refine kR.pi (a := 53) (k := 2) (by omega) rfl rfl rfl (by decide) (by decide) rfl rfl ?_
        refine kR.s rfl rfl ?_
        refine kR.gr (a := 54) (b := 55) (k := 2) (by omega) rfl rfl rfl (by decide) (by decide) rfl ?_
        refine kR.s rfl rfl ?_
        refine kR.ia (a := 55) (v := S 55 ((klt t e (a + 1)).toNat)) (by omega) rfl (by decide) (by omega) (by omega) (by rfl) ?_
        refine kR.ret rfl rfl ?_
        exact ⟨fun _ => rfl, fun z => absurd (by omega) z⟩
      · skip
        refine kR.n ?_
        show kR 2 67 b67_37 _ _ _ _
        refine kR.t rfl rfl (Nat.le_of_ble_eq_true rfl) ?_
        exact ⟨fun z => absurd z (by omega), fun _ => rfl⟩
theorem c_72 {E : Nat → kC} {S : Nat → Nat → Int} {sz : Nat × Nat} {t : Nat → Int} {n L : Nat} (hX : kTx t n L) (hC : kCt S t n L) {e : Nat} (he : S 53 3 = (e : Int)) (hen : e ≤ n) {a : Nat} (ha : S 53 2 = (a : Int)) (hae : a ≤ e) {x : Int} (hx : 0 ≤ x ∧ x < 128) : kR 2 72 (blk 72 0) (kent 72 [.ref 54, .int (Int32.ofInt (x))]) [] (sz, hp 57 E S) (fun r => (kch t e a = x → r = (.inl (some (.int (Int32.ofInt 1))), (sz, hp 57 E (ku S 53 2 ((a : Int) + 1))))) ∧ (¬ kch t e a = x → r = (.inl (some (.int (Int32.ofInt 0))), (sz, hp 57 E S)))) := by
  have hm : 53 ≤ 57 ∧ 57 ≤ 57 := by omega
  have hx1 := hX.1
  show kR 2 72 b72_0 _ _ _ _
  refine kR.s rfl rfl ?_
  refine kR.gr (a := 54) (b := 53) (k := 0) (by omega) rfl rfl rfl (by decide) (by decide) rfl ?_
  have f1_0 := kch_rng hX hen a
  refine kR.cv (v := .int (Int32.ofInt (kch t e a))) rfl rfl (kR.up (c_53 hX hC he hen (a := a) (by exact ha) (by omega)) (by decide)) ?_
  refine kR.s rfl rfl ?_
  refine kR.jeq (by omega) (by omega) (by omega) (by omega) (fun q2 => ?_) (fun q2 => ?_)
  · skip
    show kR 2 72 b72_13 _ _ _ _
    refine kR.s rfl rfl ?_
    refine kR.gr (a := 54) (b := 53) (k := 0) (by omega) rfl rfl rfl (by decide) (by decide) rfl ?_
    refine kR.s rfl rfl ?_
    refine kR.gi (a := 53) (k := 2) (v := (a : Int)) (by omega) rfl rfl rfl (by decide) (by decide) rfl (by exact ha) ?_
    refine kR.s rfl rfl ?_
    refine kR.add ?_
    refine kR.pi (a := 53) (k := 2) (by omega) rfl rfl rfl (by decide) (by decide) rfl rfl ?_
    refine kR.s rfl rfl ?_
    refine kR.ret rfl rfl ?_
    first | exact ⟨fun _ => rfl, fun z => absurd (by omega) z⟩ | exact ⟨fun z => absurd z (by omega), fun _ => rfl⟩
  · skip
    refine kR.s rfl rfl ?_
    refine kR.ret rfl rfl ?_
    first | exact ⟨fun _ => rfl, fun z => absurd (by omega) z⟩ | exact ⟨fun z => absurd z (by omega), fun _ => rfl⟩
