/-! The class: words and digits. By program (wip/gen/gen43.py). -/
theorem l_59 {E : Nat → kC} {S : Nat → Nat → Int} {sz : Nat × Nat} {t : Nat → Int} {n L : Nat} (hX : kTx t n L) (hC : kCt S t n L) {e : Nat} (he : S 53 3 = (e : Int)) (hen : e ≤ n) {f g : Nat} (hf : f ≤ 300) (hg : g ≤ 300) {b : Nat} {w : List Int} (hs : kStr E b w) (hgf : g = f + w.length) : ∀ (j k : Nat), w.length - k = j → k ≤ w.length → (∀ i, i < k → kch t e (f + i) = w.getD i 0) → kR 4 59 (blk 59 15) [.ref 53, .int (Int32.ofInt ((f : Int))), .int (Int32.ofInt ((g : Int))), .ref b, .int (Int32.ofInt ((k : Int)))] [] (sz, hp 57 E S) (fun r => r = (.inl (some (.int (Int32.ofInt (ksay t e f g w)))), (sz, hp 57 E S))) := by
  have hm : 53 ≤ 57 ∧ 57 ≤ 57 := by omega
  have hwl := hs.2.2.2.1
  intro j
  induction j using Nat.strongRecOn with
  | _ j ih =>
    intro k hj hk hall
    have hx1 := hX.1
    show kR 4 59 b59_15 _ _ _ _
    refine kR.s rfl rfl ?_
    refine kR.s rfl rfl ?_
    refine kR.cv (v := .int (Int32.ofInt ((w.length : Int)))) (kargs_S (by omega) hs ⟨Nat.le_of_ble_eq_true rfl, Nat.le_of_ble_eq_true rfl, Nat.le_of_ble_eq_true rfl, rfl⟩ (by decide) rfl rfl) rfl (kR.up (c_169 (by omega) hs) (by decide)) ?_
    refine kR.jge (by omega) (by omega) (by omega) (by omega) (fun q2 => ?_) (fun q2 => ?_)
    · skip
      show kR 4 59 b59_49 _ _ _ _
      refine kR.s rfl rfl ?_
      refine kR.ret rfl rfl ?_
      rcases ksay_o t e f g w with ⟨z, z1, z2⟩ | ⟨z, z1⟩
      · rw [z]
      · exact absurd ⟨hgf, fun i hi => hall i (by omega)⟩ z1
    · skip
      refine kR.s rfl rfl ?_
      refine kR.s rfl rfl ?_
      refine kR.s rfl rfl ?_
      refine kR.add ?_
      have f3_0 := kch_rng hX hen (f + k)
      refine kR.cv (v := .int (Int32.ofInt (kch t e (f + k)))) rfl rfl (kR.up (c_52 hX hC he hen (p := f + k) (by omega)) (by decide)) ?_
      refine kR.s rfl rfl ?_
      refine kR.s rfl rfl ?_
      have f4_0 := hs.2.2.2.2 k (by omega)
      refine kR.cv (v := .int (Int32.ofInt (w.getD k 0))) (kargs_S (by omega) hs ⟨Nat.le_of_ble_eq_true rfl, Nat.le_of_ble_eq_true rfl, Nat.le_of_ble_eq_true rfl, rfl⟩ (by decide) rfl rfl) rfl (kR.up (c_170 (by omega) hs (j := k) (by omega)) (by decide)) ?_
      refine kR.jeq (by omega) (by omega) (by omega) (by omega) (fun q5 => ?_) (fun q5 => ?_)
      · skip
        show kR 4 59 b59_43 _ _ _ _
        refine kR.inc rfl ?_
        refine kR.g rfl ?_
        exact ih (w.length - (k + 1)) (by omega) (k + 1) rfl (by omega) (fun i hi => by rcases Nat.lt_or_ge i k with z | z; exact hall i z; rw [show i = k by omega]; assumption)
      · skip
        refine kR.s rfl rfl ?_
        refine kR.ret rfl rfl ?_
        rcases ksay_o t e f g w with ⟨z, z1, z2⟩ | ⟨z, z1⟩
        · exact absurd (z2 k (by omega)) (by omega)
        · rw [z]
theorem c_59 {E : Nat → kC} {S : Nat → Nat → Int} {sz : Nat × Nat} {t : Nat → Int} {n L : Nat} (hX : kTx t n L) (hC : kCt S t n L) {e : Nat} (he : S 53 3 = (e : Int)) (hen : e ≤ n) {f g : Nat} (hf : f ≤ 300) (hg : g ≤ 300) {b : Nat} {w : List Int} (hs : kStr E b w) : kR 4 59 (blk 59 0) (kent 59 [.ref 53, .int (Int32.ofInt ((f : Int))), .int (Int32.ofInt ((g : Int))), .ref b]) [] (sz, hp 57 E S) (fun r => r = (.inl (some (.int (Int32.ofInt (ksay t e f g w)))), (sz, hp 57 E S))) := by
  have hm : 53 ≤ 57 ∧ 57 ≤ 57 := by omega
  have hwl := hs.2.2.2.1
  show kR 4 59 b59_0 _ _ _ _
  refine kR.s rfl rfl ?_
  refine kR.s rfl rfl ?_
  refine kR.sub ?_
  refine kR.s rfl rfl ?_
  refine kR.cv (v := .int (Int32.ofInt ((w.length : Int)))) (kargs_S (by omega) hs ⟨Nat.le_of_ble_eq_true rfl, Nat.le_of_ble_eq_true rfl, Nat.le_of_ble_eq_true rfl, rfl⟩ (by decide) rfl rfl) rfl (kR.up (c_169 (by omega) hs) (by decide)) ?_
  refine kR.jeq (by omega) (by omega) (by omega) (by omega) (fun q2 => ?_) (fun q2 => ?_)
  · skip
    show kR 4 59 b59_12 _ _ _ _
    refine kR.s rfl rfl ?_
    refine kR.s rfl rfl ?_
    refine kR.n ?_
    exact l_59 hX hC he hen hf hg hs (by omega) w.length 0 rfl (by omega) (fun i hi => by omega)
  · skip
    refine kR.s rfl rfl ?_
    refine kR.ret rfl rfl ?_
    rcases ksay_o t e f g w with ⟨z, z1, z2⟩ | ⟨z, z1⟩
    · exact absurd z1 (by omega)
    · rw [z]
theorem c_58 {E : Nat → kC} {S : Nat → Nat → Int} {sz : Nat × Nat} {t : Nat → Int} {n L : Nat} (hX : kTx t n L) (hC : kCt S t n L) {e : Nat} (he : S 53 3 = (e : Int)) (hen : e ≤ n) {a : Nat} (ha : S 53 2 = (a : Int)) (han : a ≤ 200) {b : Nat} {w : List Int} (hs : kStr E b w) : kR 5 58 (blk 58 0) (kent 58 [.ref 53, .ref b]) [] (sz, hp 57 E S) (fun r => r = (.inl (some (.int (Int32.ofInt (ksay t e a e w)))), (sz, hp 57 E S))) := by
  have hm : 53 ≤ 57 ∧ 57 ≤ 57 := by omega
  have hx1 := hX.1
  have hsy : ksay t e a e w = 0 ∨ ksay t e a e w = 1 := by rcases ksay_o t e a e w with z | z; exact Or.inr z.1; exact Or.inl z.1
  show kR 5 58 b58_0 _ _ _ _
  refine kR.s rfl rfl ?_
  refine kR.s rfl rfl ?_
  refine kR.gi (a := 53) (k := 2) (v := (a : Int)) (by omega) rfl rfl rfl (by decide) (by decide) rfl (by exact ha) ?_
  refine kR.s rfl rfl ?_
  refine kR.gi (a := 53) (k := 3) (v := (e : Int)) (by omega) rfl rfl rfl (by decide) (by decide) rfl (by exact he) ?_
  refine kR.s rfl rfl ?_
  refine kR.cv (v := .int (Int32.ofInt (ksay t e a e w))) rfl rfl (kR.up (c_59 hX hC he hen (f := a) (g := e) (by omega) (by omega) hs) (by decide)) ?_
  refine kR.retb rfl (by omega) ?_
  rfl
theorem l_84 {E : Nat → kC} {S : Nat → Nat → Int} {sz : Nat × Nat} {t : Nat → Int} {n L : Nat} (hX : kTx t n L) (hC : kCt S t n L) {e : Nat} (he : S 53 3 = (e : Int)) (hen : e ≤ n) {f g : Nat} (hg : g ≤ 200) {b o : Int} (hb : 0 ≤ b ∧ b ≤ 100) : ∀ (j p : Nat) (v6 : Value), g - p = j → f ≤ p → p ≤ g → (∀ k, k < p - f → 0 ≤ kdg (kch t e (f + k)) ∧ kdg (kch t e (f + k)) < b) → kR 1 84 (blk 84 20) [.ref 54, .int (Int32.ofInt ((f : Int))), .int (Int32.ofInt ((g : Int))), .int (Int32.ofInt (b)), .int (Int32.ofInt (o)), .int (Int32.ofInt ((p : Int))), v6] [] (sz, hp 57 E S) (fun r => r = (.inl (some (.int (Int32.ofInt (kads t e f g b)))), (sz, hp 57 E S))) := by
  have hm : 53 ≤ 57 ∧ 57 ≤ 57 := by omega
  intro j
  induction j using Nat.strongRecOn with
  | _ j ih =>
    intro p v6 hj hp1 hp2 hall
    have hx1 := hX.1
    show kR 1 84 b84_20 _ _ _ _
    refine kR.s rfl rfl ?_
    refine kR.s rfl rfl ?_
    refine kR.jge (by omega) (by omega) (by omega) (by omega) (fun q1 => ?_) (fun q1 => ?_)
    · skip
      show kR 1 84 b84_60 _ _ _ _
      refine kR.s rfl rfl ?_
      refine kR.ret rfl rfl ?_
      rcases kads_o t e f g b with ⟨z, z1⟩ | ⟨z, z1⟩
      · rw [z]
      · exact absurd (fun k hk => hall k (by omega)) z1
    · skip
      refine kR.s rfl rfl ?_
      refine kR.gr (a := 54) (b := 53) (k := 0) (by omega) rfl rfl rfl (by decide) (by decide) rfl ?_
      refine kR.s rfl rfl ?_
      have f2_0 := kch_rng hX hen p
      refine kR.cv (v := .int (Int32.ofInt (kch t e p))) rfl rfl (kR.up (c_52 hX hC he hen (p := p) (by omega)) (by decide)) ?_
      have f3_0 := kdg_rng (kch t e p)
      refine kR.cv (v := .int (Int32.ofInt (kdg (kch t e p)))) rfl rfl (kR.up (c_86 (c := kch t e p) (by omega)) (by decide)) ?_
      refine kR.s rfl rfl ?_
      refine kR.s rfl rfl ?_
      refine kR.s rfl rfl ?_
      refine kR.jeq (by omega) (by omega) (by omega) (by omega) (fun q4 => ?_) (fun q4 => ?_)
      · skip
        show kR 1 84 b84_52 _ _ _ _
        refine kR.s rfl rfl ?_
        refine kR.ret rfl rfl ?_
        rcases kads_o t e f g b with ⟨z, z1⟩ | ⟨z, z1⟩
        · have z2 := z1 (p - f) (by omega)
          rw [show f + (p - f) = p by omega] at z2
          exact absurd z2 (by omega)
        · rw [z]
      · skip
        refine kR.s rfl rfl ?_
        refine kR.s rfl rfl ?_
        refine kR.jlt (by omega) (by omega) (by omega) (by omega) (fun q5 => ?_) (fun q5 => ?_)
        · skip
          show kR 1 84 b84_54 _ _ _ _
          refine kR.inc rfl ?_
          refine kR.g rfl ?_
          exact ih (g - (p + 1)) (by omega) (p + 1) _ rfl (by omega) (by omega) (fun k hk => by rcases Nat.lt_or_ge k (p - f) with z | z; exact hall k z; rw [show f + k = p by omega]; omega)
        · skip
          refine kR.n ?_
          show kR 1 84 b84_52 _ _ _ _
          refine kR.s rfl rfl ?_
          refine kR.ret rfl rfl ?_
          rcases kads_o t e f g b with ⟨z, z1⟩ | ⟨z, z1⟩
          · have z2 := z1 (p - f) (by omega)
            rw [show f + (p - f) = p by omega] at z2
            exact absurd z2 (by omega)
          · rw [z]
theorem c_84 {E : Nat → kC} {S : Nat → Nat → Int} {sz : Nat × Nat} {t : Nat → Int} {n L : Nat} (hX : kTx t n L) (hC : kCt S t n L) {e : Nat} (he : S 53 3 = (e : Int)) (hen : e ≤ n) {f g : Nat} (hg : g ≤ 200) (hf : f ≤ 300) {b o : Int} (hb : 0 ≤ b ∧ b ≤ 100) (ho : 0 ≤ o ∧ o ≤ 100) : kR 1 84 (blk 84 0) (kent 84 [.ref 54, .int (Int32.ofInt ((f : Int))), .int (Int32.ofInt ((g : Int))), .int (Int32.ofInt (b)), .int (Int32.ofInt (o))]) [] (sz, hp 57 E S) (fun r => r = (.inl (some (.int (Int32.ofInt (kad t e f g b o)))), (sz, hp 57 E S))) := by
  have hm : 53 ≤ 57 ∧ 57 ≤ 57 := by omega
  have hko := kad_o t e f g b o
  show kR 1 84 b84_0 _ _ _ _
  refine kR.s rfl rfl ?_
  refine kR.s rfl rfl ?_
  refine kR.sub ?_
  refine kR.s rfl rfl ?_
  refine kR.jlt (by omega) (by omega) (by omega) (by omega) (fun q1 => ?_) (fun q1 => ?_)
  · skip
    show kR 1 84 b84_15 _ _ _ _
    refine kR.s rfl rfl ?_
    refine kR.ret rfl rfl ?_
    refine kfin (by omega) rfl
  · skip
    refine kR.s rfl rfl ?_
    refine kR.s rfl rfl ?_
    refine kR.sub ?_
    refine kR.s rfl rfl ?_
    refine kR.jle (by omega) (by omega) (by omega) (by omega) (fun q2 => ?_) (fun q2 => ?_)
    · skip
      show kR 1 84 b84_17 _ _ _ _
      refine kR.s rfl rfl ?_
      refine kR.s rfl rfl ?_
      refine kR.n ?_
      refine kR.wk (l_84 hX hC he hen hg hb (o := o) (g - f) f kun rfl (Nat.le_refl _) (by omega) (fun k hk => by omega)) (fun u hu => ?_)
      rw [hu]
      refine kfin ?_ rfl
      rcases kads_o t e f g b with ⟨z, z1⟩ | ⟨z, z1⟩ <;> omega
    · skip
      refine kR.n ?_
      show kR 1 84 b84_15 _ _ _ _
      refine kR.s rfl rfl ?_
      refine kR.ret rfl rfl ?_
      refine kfin (by omega) rfl
theorem l_85 {E : Nat → kC} {S : Nat → Nat → Int} {sz : Nat × Nat} {t : Nat → Int} {n L : Nat} (hX : kTx t n L) (hC : kCt S t n L) {e : Nat} (he : S 53 3 = (e : Int)) (hen : e ≤ n) {f g : Nat} (hg : g ≤ 200) {b : Int} (hb : 0 ≤ b ∧ b ≤ 100) : ∀ (j p : Nat) (v : Int), g - p = j → p ≤ g → kR 1 85 (blk 85 6) [.ref 54, .int (Int32.ofInt (f : Int)), .int (Int32.ofInt (g : Int)), .int (Int32.ofInt b), .long (Int64.ofInt v), kun, .int (Int32.ofInt (p : Int))] [] (sz, hp 57 E S) (fun r => r = (.inl (some (.long (Int64.ofInt (kvdh t e b j p v)))), (sz, hp 57 E S))) := by
  have hm : 53 ≤ 57 ∧ 57 ≤ 57 := by omega
  intro j
  induction j with
  | zero =>
    intro p v hj hp
    have hx1 := hX.1
    show kR 1 85 b85_6 _ _ _ _
    refine kR.s rfl rfl ?_
    refine kR.s rfl rfl ?_
    refine kR.jge (by omega) (by omega) (by omega) (by omega) (fun q1 => ?_) (fun q1 => ?_)
    · skip
      show kR 1 85 b85_39 _ _ _ _
      refine kR.s rfl rfl ?_
      refine kR.ret rfl rfl ?_
      rfl
    · skip
      exfalso
      omega
  | succ j ih =>
    intro p v hj hp
    have hx1 := hX.1
    show kR 1 85 b85_6 _ _ _ _
    refine kR.s rfl rfl ?_
    refine kR.s rfl rfl ?_
    refine kR.jge (by omega) (by omega) (by omega) (by omega) (fun q1 => ?_) (fun q1 => ?_)
    · skip
      exfalso
      omega
    · skip
      refine kR.s rfl rfl ?_
      refine kR.s rfl rfl ?_
      refine kR.i2l (by omega) (by omega) ?_
      refine kR.lmul ?_
      refine kR.s rfl rfl ?_
      refine kR.gr (a := 54) (b := 53) (k := 0) (by omega) rfl rfl rfl (by decide) (by decide) rfl ?_
      refine kR.s rfl rfl ?_
      have f2_0 := kch_rng hX hen p
      refine kR.cv (v := .int (Int32.ofInt (kch t e p))) rfl rfl (kR.up (c_52 hX hC he hen (p := p) (by omega)) (by decide)) ?_
      have f3_0 := kdg_rng (kch t e p)
      refine kR.cv (v := .int (Int32.ofInt (kdg (kch t e p)))) rfl rfl (kR.up (c_86 (c := kch t e p) (by omega)) (by decide)) ?_
      refine kR.i2l (by omega) (by omega) ?_
      refine kR.ladd ?_
      refine kR.s rfl rfl ?_
      refine kR.inc rfl ?_
      refine kR.g rfl ?_
      exact ih (p + 1) _ (by omega) (by omega)
theorem c_85 {E : Nat → kC} {S : Nat → Nat → Int} {sz : Nat × Nat} {t : Nat → Int} {n L : Nat} (hX : kTx t n L) (hC : kCt S t n L) {e : Nat} (he : S 53 3 = (e : Int)) (hen : e ≤ n) {f g : Nat} (hg : g ≤ 200) (hf : f ≤ g) {b : Int} (hb : 0 ≤ b ∧ b ≤ 100) : kR 1 85 (blk 85 0) (kent 85 [.ref 54, .int (Int32.ofInt ((f : Int))), .int (Int32.ofInt ((g : Int))), .int (Int32.ofInt (b))]) [] (sz, hp 57 E S) (fun r => r = (.inl (some (.long (Int64.ofInt (kvd t e b f g)))), (sz, hp 57 E S))) := by
  have hm : 53 ≤ 57 ∧ 57 ≤ 57 := by omega
  show kR 1 85 b85_0 _ _ _ _
  refine kR.lcn (c := 0) rfl ?_
  refine kR.s rfl rfl ?_
  refine kR.s rfl rfl ?_
  refine kR.s rfl rfl ?_
  refine kR.n ?_
  exact l_85 hX hC he hen hg hb (g - f) f 0 rfl hf
