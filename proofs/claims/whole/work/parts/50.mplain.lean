/-! The reference: plain texts. By program (wip/gen/gen50.py). -/
def kdch (t : Nat → Int) (b : Int) : Nat → Nat → Int → Int
  | 0, _, m => m
  | j + 1, p, m => kdch t b j (p + 1) (if (48 ≤ t p ∧ t p ≤ 57) ∨ (10 < b ∧ (97 ≤ t p ∧ t p ≤ 102)) then m + 1 else m)
theorem kdch_rng (t : Nat → Int) (b : Int) : ∀ (j p : Nat) (m : Int), m ≤ kdch t b j p m ∧ kdch t b j p m ≤ m + j
  | 0, _, m => by simp [kdch]
  | j + 1, p, m => by
    unfold kdch
    have h := kdch_rng t b j (p + 1) (if (48 ≤ t p ∧ t p ≤ 57) ∨ (10 < b ∧ (97 ≤ t p ∧ t p ≤ 102)) then m + 1 else m)
    split at h <;> split <;> omega
def kwoh (t : Nat → Int) (b : Int) : Nat → Nat → Int → Int
  | 0, _, v => v
  | j + 1, p, v => kwoh t b j (p + 1) (v * b + (if 57 < t p then t p - 97 + 10 else t p - 48))
/-- the characters from f to g -/
def kslh (t : Nat → Int) : Nat → Nat → List Int
  | 0, _ => []
  | j + 1, p => t p :: kslh t j (p + 1)
def ksl (t : Nat → Int) (f g : Nat) : List Int := kslh t (g - f) f
theorem kslh_len (t : Nat → Int) : ∀ (j p : Nat), (kslh t j p).length = j
  | 0, _ => rfl
  | j + 1, p => by simp [kslh, kslh_len t j (p + 1)]
theorem c_122 {m : Nat} {E : Nat → kC} {S : Nat → Nat → Int} {sz : Nat × Nat} (hm : 53 ≤ m ∧ m ≤ 57) {t : Nat → Int} {n L : Nat} (hX : kTx t n L) (hR : kRt S t n) {f g : Nat} (hf : f ≤ 200) (hg : g ≤ n) {a b c d : Int} (h1 : 0 ≤ a ∧ a < 128) (h2 : 0 ≤ b ∧ b < 128) (h3 : 0 ≤ c ∧ c < 128) (h4 : 0 ≤ d ∧ d < 128) : kR 0 122 (blk 122 0) (kent 122 [.ref 30, .int (Int32.ofInt ((f : Int))), .int (Int32.ofInt ((g : Int))), .int (Int32.ofInt (a)), .int (Int32.ofInt (b)), .int (Int32.ofInt (c)), .int (Int32.ofInt (d))]) [] (sz, hp m E S) (fun r => r = (.inl (some (.int (Int32.ofInt (if (g : Int) - (f : Int) = 4 ∧ t f = a ∧ t (f + 1) = b ∧ t (f + 2) = c ∧ t (f + 3) = d then 1 else 0)))), (sz, hp m E S))) := by
  have hx1 := hX.1
  have z0 := hX.2.1 f
  have z1 := hX.2.1 (f + 1)
  have z2 := hX.2.1 (f + 2)
  have z3 := hX.2.1 (f + 3)
  show kR 0 122 b122_0 _ _ _ _
  refine kR.s rfl rfl ?_
  refine kR.s rfl rfl ?_
  refine kR.sub ?_
  refine kR.s rfl rfl ?_
  refine kR.jne (by omega) (by omega) (by omega) (by omega) (fun q1 => ?_) (fun q1 => ?_)
  · skip
    show kR 0 122 b122_60 _ _ _ _
    refine kR.s rfl rfl ?_
    refine kR.n ?_
    show kR 0 122 b122_61 _ _ _ _
    refine kR.ret rfl rfl ?_
    first | (rw [if_pos (by omega)]; done) | (rw [if_neg (by omega)]; done) | (exfalso; omega)
  · skip
    refine kR.s rfl rfl ?_
    refine kR.gr (a := 30) (b := 33) (k := 6) (by omega) rfl rfl rfl (by decide) (by decide) rfl ?_
    refine kR.s rfl rfl ?_
    refine kR.ia (a := 33) (v := t f) (by omega) rfl (by decide) (by omega) (by omega) (by exact (hR.2 _ (by omega))) ?_
    refine kR.s rfl rfl ?_
    refine kR.jne (by omega) (by omega) (by omega) (by omega) (fun q2 => ?_) (fun q2 => ?_)
    · skip
      show kR 0 122 b122_60 _ _ _ _
      refine kR.s rfl rfl ?_
      refine kR.n ?_
      show kR 0 122 b122_61 _ _ _ _
      refine kR.ret rfl rfl ?_
      first | (rw [if_pos (by omega)]; done) | (rw [if_neg (by omega)]; done) | (exfalso; omega)
    · skip
      refine kR.s rfl rfl ?_
      refine kR.gr (a := 30) (b := 33) (k := 6) (by omega) rfl rfl rfl (by decide) (by decide) rfl ?_
      refine kR.s rfl rfl ?_
      refine kR.s rfl rfl ?_
      refine kR.add ?_
      refine kR.ia (a := 33) (v := t (f + 1)) (by omega) rfl (by decide) (by omega) (by omega) (by exact (hR.2 _ (by omega))) ?_
      refine kR.s rfl rfl ?_
      refine kR.jne (by omega) (by omega) (by omega) (by omega) (fun q3 => ?_) (fun q3 => ?_)
      · skip
        show kR 0 122 b122_60 _ _ _ _
        refine kR.s rfl rfl ?_
        refine kR.n ?_
        show kR 0 122 b122_61 _ _ _ _
        refine kR.ret rfl rfl ?_
        first | (rw [if_pos (by omega)]; done) | (rw [if_neg (by omega)]; done) | (exfalso; omega)
      · skip
        refine kR.s rfl rfl ?_
        refine kR.gr (a := 30) (b := 33) (k := 6) (by omega) rfl rfl rfl (by decide) (by decide) rfl ?_
        refine kR.s rfl rfl ?_
        refine kR.s rfl rfl ?_
        refine kR.add ?_
        refine kR.ia (a := 33) (v := t (f + 2)) (by omega) rfl (by decide) (by omega) (by omega) (by exact (hR.2 _ (by omega))) ?_
        refine kR.s rfl rfl ?_
        refine kR.jne (by omega) (by omega) (by omega) (by omega) (fun q4 => ?_) (fun q4 => ?_)
        · skip
          show kR 0 122 b122_60 _ _ _ _
          refine kR.s rfl rfl ?_
          refine kR.n ?_
          show kR 0 122 b122_61 _ _ _ _
          refine kR.ret rfl rfl ?_
          first | (rw [if_pos (by omega)]; done) | (rw [if_neg (by omega)]; done) | (exfalso; omega)
        · skip
          refine kR.s rfl rfl ?_
          refine kR.gr (a := 30) (b := 33) (k := 6) (by omega) rfl rfl rfl (by decide) (by decide) rfl ?_
          refine kR.s rfl rfl ?_
          refine kR.s rfl rfl ?_
          refine kR.add ?_
          refine kR.ia (a := 33) (v := t (f + 3)) (by omega) rfl (by decide) (by omega) (by omega) (by exact (hR.2 _ (by omega))) ?_
          refine kR.s rfl rfl ?_
          refine kR.jne (by omega) (by omega) (by omega) (by omega) (fun q5 => ?_) (fun q5 => ?_)
          · skip
            show kR 0 122 b122_60 _ _ _ _
            refine kR.s rfl rfl ?_
            refine kR.n ?_
            show kR 0 122 b122_61 _ _ _ _
            refine kR.ret rfl rfl ?_
            first | (rw [if_pos (by omega)]; done) | (rw [if_neg (by omega)]; done) | (exfalso; omega)
          · skip
            refine kR.s rfl rfl ?_
            refine kR.g rfl ?_
            show kR 0 122 b122_61 _ _ _ _
            refine kR.ret rfl rfl ?_
            first | (rw [if_pos (by omega)]; done) | (rw [if_neg (by omega)]; done) | (exfalso; omega)
theorem l_123 {m : Nat} {E : Nat → kC} {S : Nat → Nat → Int} {sz : Nat × Nat} (hm : 53 ≤ m ∧ m ≤ 57) {t : Nat → Int} {n L : Nat} (hX : kTx t n L) (hR : kRt S t n) {f g : Nat} (hg : g ≤ n) {b : Int} (hb : 0 ≤ b ∧ b ≤ 100) : ∀ (j p : Nat) (q : Int), g - p = j → p ≤ 300 → kR 1 123 (blk 123 6) [.ref 30, .int (Int32.ofInt ((f : Int))), .int (Int32.ofInt ((g : Int))), .int (Int32.ofInt (b)), .int (Int32.ofInt (q)), .int (Int32.ofInt ((p : Int)))] [] (sz, hp m E S) (fun r => r = (.inl (some (.int (Int32.ofInt (kdch t b j p q)))), (sz, hp m E S))) := by
  intro j
  induction j with
  | zero =>
    intro p q hj hpp
    have hx1 := hX.1
    show kR 1 123 b123_6 _ _ _ _
    refine kR.s rfl rfl ?_
    refine kR.s rfl rfl ?_
    refine kR.jge (by omega) (by omega) (by omega) (by omega) (fun q1 => ?_) (fun q1 => ?_)
    · skip
      show kR 1 123 b123_69 _ _ _ _
      refine kR.s rfl rfl ?_
      refine kR.ret rfl rfl ?_
      rfl
    · skip
      exfalso
      omega
  | succ j ih =>
    intro p q hj hpp
    have hx1 := hX.1
    have z0 := hX.2.1 p
    show kR 1 123 b123_6 _ _ _ _
    refine kR.s rfl rfl ?_
    refine kR.s rfl rfl ?_
    refine kR.jge (by omega) (by omega) (by omega) (by omega) (fun q1 => ?_) (fun q1 => ?_)
    · skip
      exfalso
      omega
    · skip
      refine kR.s rfl rfl ?_
      refine kR.gr (a := 30) (b := 33) (k := 6) (by omega) rfl rfl rfl (by decide) (by decide) rfl ?_
      refine kR.s rfl rfl ?_
      refine kR.ia (a := 33) (v := t p) (by omega) rfl (by decide) (by omega) (by omega) (by exact (hR.2 _ (by omega))) ?_
      refine kR.bi rfl ?_
      refine kR.bi rfl ?_
      refine kR.cb (P := 48 ≤ t p ∧ t p ≤ 57) rfl rfl (kR.up (c_117 (by omega) (by omega) (by omega)) (by decide)) (fun q2 => ?_) (fun q2 => ?_)
      · skip
        refine kR.zne (by decide) (by decide) (fun q3 => ?_) (fun q3 => absurd q3 (by decide))
        show kR 1 123 b123_52 _ _ _ _
        refine kR.s rfl rfl ?_
        refine kR.s rfl rfl ?_
        refine kR.add ?_
        refine kR.g rfl ?_
        show kR 1 123 b123_61 _ _ _ _
        refine kR.s rfl rfl ?_
        refine kR.inc rfl ?_
        refine kR.g rfl ?_
        unfold kdch
        rw [if_pos (by omega)]
        exact ih (p + 1) _ (by omega) (by omega)
      · skip
        refine kR.zne (by decide) (by decide) (fun q4 => absurd q4 (by decide)) (fun q4 => ?_)
        refine kR.s rfl rfl ?_
        refine kR.bi rfl ?_
        refine kR.jle (by omega) (by omega) (by omega) (by omega) (fun q5 => ?_) (fun q5 => ?_)
        · skip
          show kR 1 123 b123_59 _ _ _ _
          refine kR.s rfl rfl ?_
          refine kR.n ?_
          show kR 1 123 b123_61 _ _ _ _
          refine kR.s rfl rfl ?_
          refine kR.inc rfl ?_
          refine kR.g rfl ?_
          unfold kdch
          rw [if_neg (by omega)]
          exact ih (p + 1) _ (by omega) (by omega)
        · skip
          refine kR.s rfl rfl ?_
          refine kR.gr (a := 30) (b := 33) (k := 6) (by omega) rfl rfl rfl (by decide) (by decide) rfl ?_
          refine kR.s rfl rfl ?_
          refine kR.ia (a := 33) (v := t p) (by omega) rfl (by decide) (by omega) (by omega) (by exact (hR.2 _ (by omega))) ?_
          refine kR.bi rfl ?_
          refine kR.bi rfl ?_
          refine kR.cb (P := 97 ≤ t p ∧ t p ≤ 102) rfl rfl (kR.up (c_117 (by omega) (by omega) (by omega)) (by decide)) (fun q6 => ?_) (fun q6 => ?_)
          · skip
            refine kR.zeq (by decide) (by decide) (fun q7 => absurd q7 (by decide)) (fun q7 => ?_)
            refine kR.n ?_
            show kR 1 123 b123_52 _ _ _ _
            refine kR.s rfl rfl ?_
            refine kR.s rfl rfl ?_
            refine kR.add ?_
            refine kR.g rfl ?_
            show kR 1 123 b123_61 _ _ _ _
            refine kR.s rfl rfl ?_
            refine kR.inc rfl ?_
            refine kR.g rfl ?_
            unfold kdch
            rw [if_pos (by omega)]
            exact ih (p + 1) _ (by omega) (by omega)
          · skip
            refine kR.zeq (by decide) (by decide) (fun q8 => ?_) (fun q8 => absurd q8 (by decide))
            show kR 1 123 b123_59 _ _ _ _
            refine kR.s rfl rfl ?_
            refine kR.n ?_
            show kR 1 123 b123_61 _ _ _ _
            refine kR.s rfl rfl ?_
            refine kR.inc rfl ?_
            refine kR.g rfl ?_
            unfold kdch
            rw [if_neg (by omega)]
            exact ih (p + 1) _ (by omega) (by omega)
theorem c_123 {m : Nat} {E : Nat → kC} {S : Nat → Nat → Int} {sz : Nat × Nat} (hm : 53 ≤ m ∧ m ≤ 57) {t : Nat → Int} {n L : Nat} (hX : kTx t n L) (hR : kRt S t n) {f g : Nat} (hf : f ≤ 300) (hg : g ≤ n) {b : Int} (hb : 0 ≤ b ∧ b ≤ 100) : kR 1 123 (blk 123 0) (kent 123 [.ref 30, .int (Int32.ofInt ((f : Int))), .int (Int32.ofInt ((g : Int))), .int (Int32.ofInt (b))]) [] (sz, hp m E S) (fun r => r = (.inl (some (.int (Int32.ofInt (kdch t b (g - f) f 0)))), (sz, hp m E S))) := by
  show kR 1 123 b123_0 _ _ _ _
  refine kR.s rfl rfl ?_
  refine kR.s rfl rfl ?_
  refine kR.s rfl rfl ?_
  refine kR.s rfl rfl ?_
  refine kR.n ?_
  exact l_123 hm hX hR hg hb (g - f) f 0 rfl hf
theorem l_124 {m : Nat} {E : Nat → kC} {S : Nat → Nat → Int} {sz : Nat × Nat} (hm : 53 ≤ m ∧ m ≤ 57) {t : Nat → Int} {n L : Nat} (hX : kTx t n L) (hR : kRt S t n) {f g : Nat} (hg : g ≤ n) {b : Int} (hb : 0 ≤ b ∧ b ≤ 100) : ∀ (j p : Nat) (v : Int), g - p = j → p ≤ 300 → kR 0 124 (blk 124 6) [.ref 30, .int (Int32.ofInt (f : Int)), .int (Int32.ofInt (g : Int)), .int (Int32.ofInt b), .long (Int64.ofInt v), kun, .int (Int32.ofInt (p : Int))] [] (sz, hp m E S) (fun r => r = (.inl (some (.long (Int64.ofInt (kwoh t b j p v)))), (sz, hp m E S))) := by
  intro j
  induction j with
  | zero =>
    intro p v hj hpp
    have hx1 := hX.1
    show kR 0 124 b124_6 _ _ _ _
    refine kR.s rfl rfl ?_
    refine kR.s rfl rfl ?_
    refine kR.jge (by omega) (by omega) (by omega) (by omega) (fun q1 => ?_) (fun q1 => ?_)
    · skip
      show kR 0 124 b124_65 _ _ _ _
      refine kR.s rfl rfl ?_
      refine kR.ret rfl rfl ?_
      rfl
    · skip
      exfalso
      omega
  | succ j ih =>
    intro p v hj hpp
    have hx1 := hX.1
    have z0 := hX.2.1 p
    show kR 0 124 b124_6 _ _ _ _
    refine kR.s rfl rfl ?_
    refine kR.s rfl rfl ?_
    refine kR.jge (by omega) (by omega) (by omega) (by omega) (fun q1 => ?_) (fun q1 => ?_)
    · skip
      exfalso
      omega
    · skip
      refine kR.s rfl rfl ?_
      refine kR.s rfl rfl ?_
      refine kR.i2l (by omega) (by omega) ?_
      refine kR.lmul ?_
      refine kR.s rfl rfl ?_
      refine kR.gr (a := 30) (b := 33) (k := 6) (by omega) rfl rfl rfl (by decide) (by decide) rfl ?_
      refine kR.s rfl rfl ?_
      refine kR.ia (a := 33) (v := t p) (by omega) rfl (by decide) (by omega) (by omega) (by exact (hR.2 _ (by omega))) ?_
      refine kR.bi rfl ?_
      refine kR.jle (by omega) (by omega) (by omega) (by omega) (fun q2 => ?_) (fun q2 => ?_)
      · skip
        show kR 0 124 b124_45 _ _ _ _
        refine kR.s rfl rfl ?_
        refine kR.gr (a := 30) (b := 33) (k := 6) (by omega) rfl rfl rfl (by decide) (by decide) rfl ?_
        refine kR.s rfl rfl ?_
        refine kR.ia (a := 33) (v := t p) (by omega) rfl (by decide) (by omega) (by omega) (by exact (hR.2 _ (by omega))) ?_
        refine kR.bi rfl ?_
        refine kR.sub ?_
        refine kR.n ?_
        show kR 0 124 b124_55 _ _ _ _
        refine kR.i2l (by omega) (by omega) ?_
        refine kR.ladd ?_
        refine kR.s rfl rfl ?_
        refine kR.inc rfl ?_
        refine kR.g rfl ?_
        unfold kwoh
        rw [if_neg (by omega)]
        exact ih (p + 1) _ (by omega) (by omega)
      · skip
        refine kR.s rfl rfl ?_
        refine kR.gr (a := 30) (b := 33) (k := 6) (by omega) rfl rfl rfl (by decide) (by decide) rfl ?_
        refine kR.s rfl rfl ?_
        refine kR.ia (a := 33) (v := t p) (by omega) rfl (by decide) (by omega) (by omega) (by exact (hR.2 _ (by omega))) ?_
        refine kR.bi rfl ?_
        refine kR.sub ?_
        refine kR.bi rfl ?_
        refine kR.add ?_
        refine kR.g rfl ?_
        show kR 0 124 b124_55 _ _ _ _
        refine kR.i2l (by omega) (by omega) ?_
        refine kR.ladd ?_
        refine kR.s rfl rfl ?_
        refine kR.inc rfl ?_
        refine kR.g rfl ?_
        unfold kwoh
        rw [if_pos (by omega)]
        exact ih (p + 1) _ (by omega) (by omega)
theorem c_124 {m : Nat} {E : Nat → kC} {S : Nat → Nat → Int} {sz : Nat × Nat} (hm : 53 ≤ m ∧ m ≤ 57) {t : Nat → Int} {n L : Nat} (hX : kTx t n L) (hR : kRt S t n) {f g : Nat} (hf : f ≤ 300) (hg : g ≤ n) {b : Int} (hb : 0 ≤ b ∧ b ≤ 100) : kR 0 124 (blk 124 0) (kent 124 [.ref 30, .int (Int32.ofInt ((f : Int))), .int (Int32.ofInt ((g : Int))), .int (Int32.ofInt (b))]) [] (sz, hp m E S) (fun r => r = (.inl (some (.long (Int64.ofInt (kwoh t b (g - f) f 0)))), (sz, hp m E S))) := by
  show kR 0 124 b124_0 _ _ _ _
  refine kR.lcn (c := 0) rfl ?_
  refine kR.s rfl rfl ?_
  refine kR.s rfl rfl ?_
  refine kR.s rfl rfl ?_
  refine kR.n ?_
  exact l_124 hm hX hR hg hb (g - f) f 0 rfl hf
