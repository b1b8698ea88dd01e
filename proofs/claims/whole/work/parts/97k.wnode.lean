/-! Writing: a node's beginning, by both. -/
/-- how many of the first are had more than once -/
def kcr (H : Nat → Int) : Nat → Nat
  | 0 => 0
  | k + 1 => kcr H k + (if 1 < H k then 1 else 0)
theorem kcr_le {H : Nat → Int} {a b : Nat} (h : a ≤ b) : kcr H a ≤ kcr H b := by
  induction b with
  | zero => rw [show a = 0 by omega]; exact Nat.le_refl _
  | succ b ih =>
    rcases Nat.lt_or_ge a (b + 1) with g | g
    · have := ih (by omega)
      show _ ≤ kcr H b + _
      omega
    · rw [show a = b + 1 by omega]
      exact Nat.le_refl _
theorem kctn_mono {f : Nat → Int} {x : Int} {a b : Nat} (h : a ≤ b) : kctn f x a ≤ kctn f x b := by
  induction b with
  | zero => rw [show a = 0 by omega]; exact Int.le_refl _
  | succ b ih =>
    rcases Nat.lt_or_ge a (b + 1) with g | g
    · have z := ih (by omega)
      show _ ≤ kctn f x b + _
      split <;> omega
    · rw [show a = b + 1 by omega]
      exact Int.le_refl _
theorem kctn_same {f : Nat → Int} {x : Int} {a b : Nat} (h : a ≤ b) (hn : ∀ i, a ≤ i → i < b → ¬ f i = x) : kctn f x b = kctn f x a := by
  induction b with
  | zero => rw [show a = 0 by omega]
  | succ b ih =>
    rcases Nat.lt_or_ge a (b + 1) with g | g
    · show kctn f x b + _ = _
      rw [if_neg (hn b (by omega) (by omega)), Int.add_zero]
      exact ih (by omega) (fun i h1 h2 => hn i h1 (by omega))
    · rw [show a = b + 1 by omega]
/-- the l-th entry of an owner -/
theorem kfe_spec {f : Nat → Int} {o : Int} {n : Nat} : ∀ (j s e : Nat) (l : Int), e - s = j → s ≤ e → e < n → f e = o → kctn f o e - kctn f o s = l → kfe f o n s l = (e : Int) := by
  intro j
  induction j with
  | zero =>
    intro s e l hj hs he hf hl
    have : s = e := by omega
    subst this
    exact kfe_hit he hf (by omega)
  | succ j ih =>
    intro s e l hj hs he hf hl
    have h1 : kctn f o (s + 1) = kctn f o s + (if f s = o then 1 else 0) := rfl
    have h2 := kctn_mono (f := f) (x := o) (a := s + 1) (b := e) (by omega)
    by_cases q : f s = o
    · rw [if_pos q] at h1
      rw [kfe_dec (by omega) q (by omega)]
      exact ih (s + 1) e (l - 1) (by omega) (by omega) he hf (by omega)
    · rw [if_neg q] at h1
      rw [kfe_skip (by omega) q]
      exact ih (s + 1) e l (by omega) (by omega) he hf (by omega)
def kCx (N S T : Nat → Nat → Int) (c u e : Nat) : Prop := kWf N c u e ∧ kRel N T c u e ∧ (∀ a, 20 ≤ a → a < 30 → S (a - 10) = N a) ∧ (∀ j, j < c → T 49 j = N 25 j) ∧ (kcr (N 25) c ≤ 26 ∧ u + e ≤ 200 ∧ e ≤ 100) ∧ ∀ j, j < 200 → -2147483648 ≤ T 39 j ∧ T 39 j < 2147483648
def kWr (N S T : Nat → Nat → Int) (c k w : Nat) : Prop := (S 7 1 = (w : Int) ∧ T 30 37 = (w : Int) ∧ ∀ j, j < w → S 8 j = T 48 j) ∧ (S 7 3 = (kcr (N 25) k : Int) ∧ T 30 40 = (kcr (N 25) k : Int)) ∧ (∀ j, j < c → S 9 j = if j < k ∧ 1 < N 25 j then (kcr (N 25) j : Int) else -1) ∧ ∀ j, j < c → T 50 j = if j < k ∧ 1 < N 25 j then 97 + (kcr (N 25) j : Int) else 0
def kFs (S S' : Nat → Nat → Int) : Prop := ∀ a, a ≠ 7 → a ≠ 8 → a ≠ 9 → S' a = S a
def kFwr (T T' : Nat → Nat → Int) (o : Nat) : Prop := (∀ a, a ≠ 30 → a ≠ 44 → a ≠ 48 → a ≠ 50 → a ≠ 51 → T' a = T a) ∧ (∀ k, k ≠ 29 → k ≠ 37 → k ≠ 40 → T' 30 k = T 30 k) ∧ ∀ j, j < o → T' 44 j = T 44 j ∧ T' 51 j = T 51 j
theorem kFs.rf {S : Nat → Nat → Int} : kFs S S := fun _ _ _ _ => rfl
theorem kFs.tr {S S' S'' : Nat → Nat → Int} (h : kFs S S') (h' : kFs S' S'') : kFs S S'' := fun a h1 h2 h3 => (h' a h1 h2 h3).trans (h a h1 h2 h3)
theorem kFwr.rf {T : Nat → Nat → Int} {o : Nat} : kFwr T T o := ⟨fun _ _ _ _ _ _ => rfl, fun _ _ _ _ => rfl, fun _ _ => ⟨rfl, rfl⟩⟩
theorem kFwr.tr {T T' T'' : Nat → Nat → Int} {o o' : Nat} (h : kFwr T T' o) (h' : kFwr T' T'' o') (ho : o ≤ o') : kFwr T T'' o := ⟨fun a h1 h2 h3 h4 h5 => (h'.1 a h1 h2 h3 h4 h5).trans (h.1 a h1 h2 h3 h4 h5), fun k h1 h2 h3 => (h'.2.1 k h1 h2 h3).trans (h.2.1 k h1 h2 h3), fun j hj => ⟨(h'.2.2 j (by omega)).1.trans (h.2.2 j hj).1, (h'.2.2 j (by omega)).2.trans (h.2.2 j hj).2⟩⟩
section KWX
variable {N S T S' T' : Nat → Nat → Int} {c u e k w o : Nat}
theorem kCx.fr (C : kCx N S T c u e) (fs : kFs S S') (fr : kFwr T T' o) : kCx N S' T' c u e := by
  obtain ⟨C1, C2, C3, C4, C5, C6⟩ := C
  refine ⟨C1, C2.vw ⟨fr.1 34 (by decide) (by decide) (by decide) (by decide) (by decide), fr.1 35 (by decide) (by decide) (by decide) (by decide) (by decide), fr.1 36 (by decide) (by decide) (by decide) (by decide) (by decide), fr.1 37 (by decide) (by decide) (by decide) (by decide) (by decide), fr.1 38 (by decide) (by decide) (by decide) (by decide) (by decide), fr.1 39 (by decide) (by decide) (by decide) (by decide) (by decide), fr.1 40 (by decide) (by decide) (by decide) (by decide) (by decide), fr.1 41 (by decide) (by decide) (by decide) (by decide) (by decide), fr.1 42 (by decide) (by decide) (by decide) (by decide) (by decide), fr.2.1 8 (by decide) (by decide) (by decide), fr.2.1 14 (by decide) (by decide) (by decide), fr.2.1 15 (by decide) (by decide) (by decide), fr.2.1 26 (by decide) (by decide) (by decide)⟩, fun a h1 h2 => (fs (a - 10) (by omega) (by omega) (by omega)).trans (C3 a h1 h2), fun j hj => ?_, C5, fun j hj => ?_⟩
  · rw [fr.1 49 (by decide) (by decide) (by decide) (by decide) (by decide)]
    exact C4 j hj
  · rw [fr.1 39 (by decide) (by decide) (by decide) (by decide) (by decide)]
    exact C6 j hj
/-- both write the same -/
theorem kWr.app (W : kWr N S T c k w) (xs : List Int) : kWr N (kpts xs w S) (ksas xs w T) c k (w + xs.length) ∧ kFs S (kpts xs w S) ∧ kFwr T (ksas xs w T) o := by
  obtain ⟨⟨a1, a2, a3⟩, ⟨b1, b2⟩, d1, d2⟩ := W
  obtain ⟨p1, p2, p3⟩ := kpts_at xs w S a1
  obtain ⟨s1, s2, s3⟩ := ksas_at xs w T a2
  refine ⟨⟨⟨p2, s2, fun j hj => ?_⟩, ⟨by rw [p1 7 3 (by decide) (by decide)]; exact b1, by rw [s1 30 40 (by decide) (by decide)]; exact b2⟩, fun j hj => by rw [p1 9 j (by omega) (by decide)]; exact d1 j hj, fun j hj => by rw [s1 50 j (by omega) (by decide)]; exact d2 j hj⟩, fun a h1 h2 h3 => kpts_cell a1 ⟨h1, h2⟩, fun a h1 h2 h3 h4 h5 => ksas_cell a2 ⟨h1, h3⟩, fun k h1 h2 h3 => s1 30 k (fun z => h2 z.2) (by decide), fun j hj => ⟨s1 44 j (by omega) (by decide), s1 51 j (by omega) (by decide)⟩⟩
  rw [p3, s3]
  by_cases q : w ≤ j ∧ j < w + xs.length
  · rw [if_pos q, if_pos q]
  · rw [if_neg q, if_neg q]
    exact a3 j (by omega)
def kpre (h : Int) (q : Nat) : List Int := if 1 < h then [38, 97 + (q : Int), 32] else []
def kSpre (S : Nat → Nat → Int) (h : Int) (k q w : Nat) : Nat → Nat → Int := kpts (kpre h q) w (if 1 < h then ku (ku S 9 k (q : Int)) 7 3 ((q : Int) + 1) else S)
def kTpre (T : Nat → Nat → Int) (h : Int) (k q w : Nat) : Nat → Nat → Int := ksas (kpre h q) w (if 1 < h then ku (ku T 50 k (97 + (q : Int))) 30 40 ((q : Int) + 1) else T)
theorem kWr.pre (W : kWr N S T c k w) (hk : k < c) : kWr N (kSpre S (N 25 k) k (kcr (N 25) k) w) (kTpre T (N 25 k) k (kcr (N 25) k) w) c (k + 1) (w + (kpre (N 25 k) (kcr (N 25) k)).length) ∧ kFs S (kSpre S (N 25 k) k (kcr (N 25) k) w) ∧ kFwr T (kTpre T (N 25 k) k (kcr (N 25) k) w) o := by
  have hs : kcr (N 25) (k + 1) = kcr (N 25) k + (if 1 < N 25 k then 1 else 0) := rfl
  unfold kSpre kTpre
  by_cases q : 1 < N 25 k
  · rw [if_pos q] at hs
    rw [if_pos q, if_pos q]
    obtain ⟨⟨a1, a2, a3⟩, ⟨b1, b2⟩, d1, d2⟩ := W
    have W0 : kWr N (ku (ku S 9 k (kcr (N 25) k : Int)) 7 3 ((kcr (N 25) k : Int) + 1)) (ku (ku T 50 k (97 + (kcr (N 25) k : Int))) 30 40 ((kcr (N 25) k : Int) + 1)) c (k + 1) w := by
      refine ⟨⟨a1, a2, a3⟩, ⟨by rw [hs]; rfl, by rw [hs]; rfl⟩, fun j hj => ?_, fun j hj => ?_⟩
      · show (if j = k then (kcr (N 25) k : Int) else S 9 j) = _
        by_cases e : j = k
        · rw [if_pos e, e, if_pos ⟨by omega, q⟩]
        · rw [if_neg e, d1 j hj]
          by_cases g : j < k ∧ 1 < N 25 j
          · rw [if_pos g, if_pos ⟨by omega, g.2⟩]
          · rw [if_neg g, if_neg (fun z => g ⟨by omega, z.2⟩)]
      · show (if j = k then 97 + (kcr (N 25) k : Int) else T 50 j) = _
        by_cases e : j = k
        · rw [if_pos e, e, if_pos ⟨by omega, q⟩]
        · rw [if_neg e, d2 j hj]
          by_cases g : j < k ∧ 1 < N 25 j
          · rw [if_pos g, if_pos ⟨by omega, g.2⟩]
          · rw [if_neg g, if_neg (fun z => g ⟨by omega, z.2⟩)]
    obtain ⟨z1, z2, z3⟩ := W0.app (o := o) (kpre (N 25 k) (kcr (N 25) k))
    have f0 : kFwr T (ku (ku T 50 k (97 + (kcr (N 25) k : Int))) 30 40 ((kcr (N 25) k : Int) + 1)) o := by
      refine ⟨fun a h1 h2 h3 h4 h5 => ?_, fun i h1 h2 h3 => ?_, fun j hj => ⟨rfl, rfl⟩⟩
      · show (if a = 30 then _ else (if a = 50 then _ else T a)) = T a
        rw [if_neg h1, if_neg h4]
      · show (if i = 40 then _ else T 30 i) = T 30 i
        rw [if_neg h3]
    have g0 : kFs S (ku (ku S 9 k (kcr (N 25) k : Int)) 7 3 ((kcr (N 25) k : Int) + 1)) := fun a h1 h2 h3 => by
      show (if a = 7 then _ else (if a = 9 then _ else S a)) = S a
      rw [if_neg h1, if_neg h3]
    exact ⟨z1, g0.tr z2, f0.tr z3 (Nat.le_refl _)⟩
  · rw [if_neg q] at hs
    rw [if_neg q, if_neg q]
    obtain ⟨⟨a1, a2, a3⟩, ⟨b1, b2⟩, d1, d2⟩ := W
    have W0 : kWr N S T c (k + 1) w := by
      refine ⟨⟨a1, a2, a3⟩, ⟨by rw [hs]; exact b1, by rw [hs]; exact b2⟩, fun j hj => ?_, fun j hj => ?_⟩
      · rw [d1 j hj]
        by_cases g : j < k ∧ 1 < N 25 j
        · rw [if_pos g, if_pos ⟨by omega, g.2⟩]
        · rw [if_neg g, if_neg (fun z => by
            rcases Nat.lt_or_ge j k with y | y
            · exact g ⟨y, z.2⟩
            · rw [show j = k by omega] at z
              exact q z.2)]
      · rw [d2 j hj]
        by_cases g : j < k ∧ 1 < N 25 j
        · rw [if_pos g, if_pos ⟨by omega, g.2⟩]
        · rw [if_neg g, if_neg (fun z => by
            rcases Nat.lt_or_ge j k with y | y
            · exact g ⟨y, z.2⟩
            · rw [show j = k by omega] at z
              exact q z.2)]
    exact W0.app (kpre (N 25 k) (kcr (N 25) k))
end KWX
section KWZ
variable {E : Nat → kC} {S T : Nat → Nat → Int} {sz : Nat × Nat}
theorem c_28 {v w q : Nat} {x : Int} (hv : v < 60) (h9 : S 9 v = (q : Int)) (hq : q < 1000) (hw : S 7 1 = (w : Int)) (hl : w + 2 ≤ 2000) (hx : 0 ≤ x ∧ x < 65536) : kR 1 28 (blk 28 0) (kent 28 [.ref 7, .int (Int32.ofInt x), .int (Int32.ofInt (v : Int))]) [] (sz, hp 53 E S) (fun r => r = (.inl none, (sz, hp 53 E (kpts [x, 97 + (q : Int)] w S)))) := by
  show kR 1 28 b28_0 _ _ _ _
  refine kR.s rfl rfl ?_
  refine kR.s rfl rfl ?_
  refine kR.c0 rfl rfl (c_32 (S := S) hw (by omega) hx) ?_
  refine kR.s rfl rfl ?_
  refine kR.bi rfl ?_
  refine kR.s rfl rfl ?_
  refine kR.gr (a := 7) (b := 9) (k := 2) (by omega) rfl rfl rfl (by decide) (by decide) rfl ?_
  refine kR.s rfl rfl ?_
  refine kR.ia (a := 9) (v := (q : Int)) (by omega) rfl (by decide) (by omega) (by omega) (by exact h9) ?_
  refine kR.add ?_
  refine kR.chr (by omega) (by omega) ?_
  refine kR.c0 rfl rfl (c_32 (S := kpt S w x) (w := w + 1) (x := 97 + (q : Int)) rfl (by omega) (by omega)) ?_
  refine kR.ret rfl rfl ?_
  rfl
theorem c_45 {v : Nat} {h : Int} (hv : v < 60) (h15 : S 15 v = h) (hh : 0 ≤ h ∧ h ≤ 1000) : kR 0 45 (blk 45 0) (kent 45 [.ref 10, .int (Int32.ofInt (v : Int))]) [] (sz, hp 53 E S) (fun r => r = (.inl (some (.int (Int32.ofInt (if 1 < h then 1 else 0)))), (sz, hp 53 E S))) := by
  show kR 0 45 b45_0 _ _ _ _
  refine kR.s rfl rfl ?_
  refine kR.gr (a := 10) (b := 15) (k := 4) (by omega) rfl rfl rfl (by decide) (by decide) rfl ?_
  refine kR.s rfl rfl ?_
  refine kR.ia (a := 15) (v := h) (by omega) rfl (by decide) (by omega) (by omega) (by exact h15) ?_
  refine kR.s rfl rfl ?_
  refine kR.jle (by omega) (by omega) (by omega) (by omega) (fun q => ?_) (fun q => ?_)
  · show kR 0 45 b45_14 _ _ _ _
    refine kR.s rfl rfl ?_
    refine kR.n ?_
    show kR 0 45 b45_15 _ _ _ _
    refine kR.ret rfl rfl ?_
    rw [if_neg (by omega)]
  · refine kR.s rfl rfl ?_
    refine kR.g rfl ?_
    show kR 0 45 b45_15 _ _ _ _
    refine kR.ret rfl rfl ?_
    rw [if_pos (by omega)]
/-- the class: a node that was not written before -/
theorem c_25n {k w q D : Nat} {dp h : Int} {S2 : Nat → Nat → Int} (hk : k < 60) (h9 : S 9 k = -1) (hdp : 0 ≤ dp ∧ dp ≤ 8) (h15 : S 15 k = h) (hh : 0 ≤ h ∧ h ≤ 1000) (h7 : S 7 3 = (q : Int)) (hq : q < 1000) (hw : S 7 1 = (w : Int)) (hl : w + 3 ≤ 2000) (k26 : kR D 26 (blk 26 0) (kent 26 [.ref 7, .ref 10, .int (Int32.ofInt (k : Int)), .int (Int32.ofInt dp)]) [] (sz, hp 53 E (kSpre S h k q w)) (fun r => r = (.inl none, (sz, hp 53 E S2)))) (hD : 1 ≤ D) : kR (D + 1) 25 (blk 25 0) (kent 25 [.ref 7, .ref 10, .int (Int32.ofInt (k : Int)), .int (Int32.ofInt dp)]) [] (sz, hp 53 E S) (fun r => r = (.inl none, (sz, hp 53 E S2))) := by
  have k45 := c_45 (sz := sz) (E := E) hk h15 hh
  have h66 : kR (D + 1) 25 (blk 25 66) [.ref 7, .ref 10, .int (Int32.ofInt (k : Int)), .int (Int32.ofInt dp)] [] (sz, hp 53 E (kSpre S h k q w)) (fun r => r = (.inl none, (sz, hp 53 E S2))) := by
    show kR (D + 1) 25 b25_66 _ _ _ _
    refine kR.s rfl rfl ?_
    refine kR.s rfl rfl ?_
    refine kR.s rfl rfl ?_
    refine kR.s rfl rfl ?_
    refine kR.c0 rfl rfl k26 ?_
    refine kR.ret rfl rfl ?_
    rfl
  show kR (D + 1) 25 b25_0 _ _ _ _
  refine kR.s rfl rfl ?_
  refine kR.gr (a := 7) (b := 9) (k := 2) (by omega) rfl rfl rfl (by decide) (by decide) rfl ?_
  refine kR.s rfl rfl ?_
  refine kR.ia (a := 9) (v := -1) (by omega) rfl (by decide) (by omega) (by omega) (by exact h9) ?_
  refine kR.s rfl rfl ?_
  refine kR.jeq (by decide) (by decide) (by decide) (by decide) (fun _ => ?_) (fun q => absurd rfl q)
  show kR (D + 1) 25 b25_18 _ _ _ _
  refine kR.s rfl rfl ?_
  refine kR.bi rfl ?_
  refine kR.jle (by omega) (by omega) (by omega) (by omega) (fun _ => ?_) (fun q => absurd q (by omega))
  show kR (D + 1) 25 b25_25 _ _ _ _
  refine kR.s rfl rfl ?_
  refine kR.s rfl rfl ?_
  by_cases g : 1 < h
  · rw [if_pos g] at k45
    refine kR.cv (v := .int (Int32.ofInt 1)) rfl rfl (kR.up k45 (by omega)) ?_
    refine kR.zeq (by decide) (by decide) (fun q => absurd q (by decide)) (fun _ => ?_)
    refine kR.s rfl rfl ?_
    refine kR.gr (a := 7) (b := 9) (k := 2) (by omega) rfl rfl rfl (by decide) (by decide) rfl ?_
    refine kR.s rfl rfl ?_
    refine kR.s rfl rfl ?_
    refine kR.gi (a := 7) (k := 3) (v := (q : Int)) (by omega) rfl rfl rfl (by decide) (by decide) rfl (by exact h7) ?_
    refine kR.ist (a := 9) (by omega) rfl (by decide) (by omega) (by omega) ?_
    refine kR.s rfl rfl ?_
    refine kR.s rfl rfl ?_
    refine kR.gi (a := 7) (k := 3) (v := (q : Int)) (by omega) rfl rfl rfl (by decide) (by decide) rfl (by exact h7) ?_
    refine kR.s rfl rfl ?_
    refine kR.add ?_
    refine kR.pi (a := 7) (k := 3) (by omega) rfl rfl rfl (by decide) (by decide) rfl rfl ?_
    refine kR.s rfl rfl ?_
    refine kR.bi rfl ?_
    refine kR.s rfl rfl ?_
    refine kR.c0 rfl rfl (kR.up (c_28 (S := ku (ku S 9 k (q : Int)) 7 3 ((q : Int) + 1)) (v := k) (q := q) (w := w) (x := 38) hk (by show (if k = k then (q : Int) else _) = _; rw [if_pos rfl]) hq (by exact hw) (by omega) (by omega)) (by omega)) ?_
    refine kR.s rfl rfl ?_
    refine kR.bi rfl ?_
    refine kR.c0 rfl rfl (kR.up (c_32 (S := kpts [38, 97 + (q : Int)] w (ku (ku S 9 k (q : Int)) 7 3 ((q : Int) + 1))) (w := w + 2) (x := 32) rfl (by omega) (by omega)) (by omega)) ?_
    refine kR.n ?_
    unfold kSpre kpre at h66
    rw [if_pos g, if_pos g] at h66
    exact h66
  · rw [if_neg g] at k45
    refine kR.cv (v := .int (Int32.ofInt 0)) rfl rfl (kR.up k45 (by omega)) ?_
    refine kR.zeq (by decide) (by decide) (fun _ => ?_) (fun q => absurd rfl q)
    unfold kSpre kpre at h66
    rw [if_neg g, if_neg g] at h66
    exact h66
/-- the class: a node that was -/
theorem c_25r {v w q : Nat} {dp : Int} (hv : v < 60) (h9 : S 9 v = (q : Int)) (hq : q < 1000) (hw : S 7 1 = (w : Int)) (hl : w + 2 ≤ 2000) : kR 2 25 (blk 25 0) (kent 25 [.ref 7, .ref 10, .int (Int32.ofInt (v : Int)), .int (Int32.ofInt dp)]) [] (sz, hp 53 E S) (fun r => r = (.inl none, (sz, hp 53 E (kpts [42, 97 + (q : Int)] w S)))) := by
  show kR 2 25 b25_0 _ _ _ _
  refine kR.s rfl rfl ?_
  refine kR.gr (a := 7) (b := 9) (k := 2) (by omega) rfl rfl rfl (by decide) (by decide) rfl ?_
  refine kR.s rfl rfl ?_
  refine kR.ia (a := 9) (v := (q : Int)) (by omega) rfl (by decide) (by omega) (by omega) (by exact h9) ?_
  refine kR.s rfl rfl ?_
  refine kR.jeq (by omega) (by omega) (by decide) (by decide) (fun q => absurd q (by omega)) (fun _ => ?_)
  refine kR.s rfl rfl ?_
  refine kR.bi rfl ?_
  refine kR.s rfl rfl ?_
  refine kR.c0 rfl rfl (c_28 (S := S) (x := 42) hv h9 hq hw hl (by omega)) ?_
  refine kR.ret rfl rfl ?_
  rfl
/-- the reference: a node that was written before -/
theorem c_160r {v w : Nat} {x : Int} (hv : v < 60) (h50 : T 50 v = x) (hx : 0 < x ∧ x < 1000) (hw : T 30 37 = (w : Int)) (hl : w + 2 ≤ 3000) : kR 3 160 (blk 160 0) (kent 160 [.ref 30, .int (Int32.ofInt (v : Int))]) [] (sz, hp 53 E T) (fun r => r = (.inl none, (sz, hp 53 E (ksas [42, x] w T)))) := by
  show kR 3 160 b160_0 _ _ _ _
  refine kR.s rfl rfl ?_
  refine kR.gr (a := 30) (b := 50) (k := 39) (by omega) rfl rfl rfl (by decide) (by decide) rfl ?_
  refine kR.s rfl rfl ?_
  refine kR.ia (a := 50) (v := x) (by omega) rfl (by decide) (by omega) (by omega) (by exact h50) ?_
  refine kR.zle (by omega) (by omega) (fun q => absurd q (by omega)) (fun _ => ?_)
  refine kR.s rfl rfl ?_
  refine kR.bi rfl ?_
  refine kR.c0 rfl rfl (kR.up (c_155 (S := T) (x := 42) hw (by omega)) (by decide)) ?_
  refine kR.s rfl rfl ?_
  refine kR.s rfl rfl ?_
  refine kR.gr (a := 30) (b := 50) (k := 39) (by omega) rfl rfl rfl (by decide) (by decide) rfl ?_
  refine kR.s rfl rfl ?_
  refine kR.ia (a := 50) (v := x) (by omega) rfl (by decide) (by omega) (by omega) (by exact h50) ?_
  refine kR.c0 rfl rfl (kR.up (c_155 (S := ksa T w 42) (w := w + 1) (x := x) rfl (by omega)) (by decide)) ?_
  refine kR.ret rfl rfl ?_
  rfl
/-- the reference: a new node, up to its letter -/
theorem l_160 {k w q : Nat} {h : Int} {Q : kO × kH → Prop} (hk : k < 60) (h50 : T 50 k = 0) (h49 : T 49 k = h) (hh : 0 ≤ h ∧ h ≤ 1000) (h40 : T 30 40 = (q : Int)) (hq : q < 1000) (hw : T 30 37 = (w : Int)) (hl : w + 3 ≤ 3000) (k81 : kR 3 160 (blk 160 81) [.ref 30, .int (Int32.ofInt (k : Int))] [] (sz, hp 53 E (kTpre T h k q w)) Q) : kR 3 160 (blk 160 0) (kent 160 [.ref 30, .int (Int32.ofInt (k : Int))]) [] (sz, hp 53 E T) Q := by
  show kR 3 160 b160_0 _ _ _ _
  refine kR.s rfl rfl ?_
  refine kR.gr (a := 30) (b := 50) (k := 39) (by omega) rfl rfl rfl (by decide) (by decide) rfl ?_
  refine kR.s rfl rfl ?_
  refine kR.ia (a := 50) (v := 0) (by omega) rfl (by decide) (by omega) (by omega) (by exact h50) ?_
  refine kR.zle (by decide) (by decide) (fun _ => ?_) (fun q => absurd q (by decide))
  show kR 3 160 b160_26 _ _ _ _
  refine kR.s rfl rfl ?_
  refine kR.gr (a := 30) (b := 49) (k := 38) (by omega) rfl rfl rfl (by decide) (by decide) rfl ?_
  refine kR.s rfl rfl ?_
  refine kR.ia (a := 49) (v := h) (by omega) rfl (by decide) (by omega) (by omega) (by exact h49) ?_
  refine kR.s rfl rfl ?_
  refine kR.jle (by omega) (by omega) (by omega) (by omega) (fun g => ?_) (fun g => ?_)
  · unfold kTpre kpre at k81
    rw [if_neg (by omega), if_neg (by omega)] at k81
    exact k81
  · refine kR.s rfl rfl ?_
    refine kR.gr (a := 30) (b := 50) (k := 39) (by omega) rfl rfl rfl (by decide) (by decide) rfl ?_
    refine kR.s rfl rfl ?_
    refine kR.bi rfl ?_
    refine kR.s rfl rfl ?_
    refine kR.gi (a := 30) (k := 40) (v := (q : Int)) (by omega) rfl rfl rfl (by decide) (by decide) rfl (by exact h40) ?_
    refine kR.add ?_
    refine kR.ist (a := 50) (by omega) rfl (by decide) (by omega) (by omega) ?_
    refine kR.s rfl rfl ?_
    refine kR.s rfl rfl ?_
    refine kR.gi (a := 30) (k := 40) (v := (q : Int)) (by omega) rfl rfl rfl (by decide) (by decide) rfl (by exact h40) ?_
    refine kR.s rfl rfl ?_
    refine kR.add ?_
    refine kR.pi (a := 30) (k := 40) (by omega) rfl rfl rfl (by decide) (by decide) rfl rfl ?_
    refine kR.s rfl rfl ?_
    refine kR.bi rfl ?_
    refine kR.c0 rfl rfl (kR.up (c_155 (S := ku (ku T 50 k (97 + (q : Int))) 30 40 ((q : Int) + 1)) (w := w) (x := 38) (by exact hw) (by omega)) (by decide)) ?_
    refine kR.s rfl rfl ?_
    refine kR.s rfl rfl ?_
    refine kR.gr (a := 30) (b := 50) (k := 39) (by omega) rfl rfl rfl (by decide) (by decide) rfl ?_
    refine kR.s rfl rfl ?_
    refine kR.ia (a := 50) (v := 97 + (q : Int)) (by omega) rfl (by decide) (by omega) (by omega) (by show (if k = k then 97 + (q : Int) else _) = _; rw [if_pos rfl]) ?_
    refine kR.c0 rfl rfl (kR.up (c_155 (S := ksa (ku (ku T 50 k (97 + (q : Int))) 30 40 ((q : Int) + 1)) w 38) (w := w + 1) (x := 97 + (q : Int)) rfl (by omega)) (by decide)) ?_
    refine kR.s rfl rfl ?_
    refine kR.bi rfl ?_
    refine kR.c0 rfl rfl (kR.up (c_155 (S := ksas [38, 97 + (q : Int)] w (ku (ku T 50 k (97 + (q : Int))) 30 40 ((q : Int) + 1))) (w := w + 2) (x := 32) rfl (by omega)) (by decide)) ?_
    refine kR.n ?_
    unfold kTpre kpre at k81
    rw [if_pos g, if_pos g] at k81
    exact k81
/-- the reference: a leaf behind its letter; a row or table -/
theorem l_160l {k : Nat} {kd : Int} {T2 : Nat → Nat → Int} (hk : k < 60) (h34 : T 34 k = kd) (hkd : 0 ≤ kd ∧ kd < 4) (k159 : kR 2 159 (blk 159 0) (kent 159 [.ref 30, .int (Int32.ofInt (k : Int))]) [] (sz, hp 53 E T) (fun r => r = (.inl none, (sz, hp 53 E T2)))) : kR 3 160 (blk 160 81) [.ref 30, .int (Int32.ofInt (k : Int))] [] (sz, hp 53 E T) (fun r => r = (.inl none, (sz, hp 53 E T2))) := by
  show kR 3 160 b160_81 _ _ _ _
  refine kR.s rfl rfl ?_
  refine kR.gr (a := 30) (b := 34) (k := 9) (by omega) rfl rfl rfl (by decide) (by decide) rfl ?_
  refine kR.s rfl rfl ?_
  refine kR.ia (a := 34) (v := kd) (by omega) rfl (by decide) (by omega) (by omega) (by exact h34) ?_
  refine kR.s rfl rfl ?_
  refine kR.jge (by omega) (by omega) (by omega) (by omega) (fun q => absurd q (by omega)) (fun _ => ?_)
  refine kR.s rfl rfl ?_
  refine kR.s rfl rfl ?_
  refine kR.c0 rfl rfl k159 ?_
  refine kR.ret rfl rfl ?_
  rfl
def kpsh (T : Nat → Nat → Int) (o k : Nat) : Nat → Nat → Int := ku (ku (ku T 44 o (k : Int)) 51 o 0) 30 29 ((o : Int) + 1)
theorem l_160c {k w o : Nat} {kd : Int} (hk : k < 60) (h34 : T 34 k = kd) (hkd : kd = 4 ∨ kd = 5) (hw : T 30 37 = (w : Int)) (hl : w + 1 ≤ 3000) (h29 : T 30 29 = (o : Int)) (ho : o ≤ 8) : kR 3 160 (blk 160 81) [.ref 30, .int (Int32.ofInt (k : Int))] [] (sz, hp 53 E T) (fun r => r = (.inl none, (sz, hp 53 E (kpsh (ksas [if kd = 4 then 91 else 123] w T) o k)))) := by
  have h115 : ∀ x : Int, x = (if kd = 4 then 91 else 123) → kR 3 160 (blk 160 115) [.ref 30, .int (Int32.ofInt (k : Int))] [.int (Int32.ofInt x), .ref 30] (sz, hp 53 E T) (fun r => r = (.inl none, (sz, hp 53 E (kpsh (ksas [if kd = 4 then 91 else 123] w T) o k)))) := fun x hx => by
    rw [← hx]
    show kR 3 160 b160_115 _ _ _ _
    refine kR.c0 rfl rfl (kR.up (c_155 (S := T) (x := x) hw (by omega)) (by decide)) ?_
    refine kR.s rfl rfl ?_
    refine kR.gr (a := 30) (b := 44) (k := 31) (by omega) rfl rfl rfl (by decide) (by decide) rfl ?_
    refine kR.s rfl rfl ?_
    refine kR.gi (a := 30) (k := 29) (v := (o : Int)) (by omega) rfl rfl rfl (by decide) (by decide) rfl (by exact h29) ?_
    refine kR.s rfl rfl ?_
    refine kR.ist (a := 44) (by omega) rfl (by decide) (by omega) (by omega) ?_
    refine kR.s rfl rfl ?_
    refine kR.gr (a := 30) (b := 51) (k := 41) (by omega) rfl rfl rfl (by decide) (by decide) rfl ?_
    refine kR.s rfl rfl ?_
    refine kR.gi (a := 30) (k := 29) (v := (o : Int)) (by omega) rfl rfl rfl (by decide) (by decide) rfl (by exact h29) ?_
    refine kR.s rfl rfl ?_
    refine kR.ist (a := 51) (by omega) rfl (by decide) (by omega) (by omega) ?_
    refine kR.s rfl rfl ?_
    refine kR.s rfl rfl ?_
    refine kR.gi (a := 30) (k := 29) (v := (o : Int)) (by omega) rfl rfl rfl (by decide) (by decide) rfl (by exact h29) ?_
    refine kR.s rfl rfl ?_
    refine kR.add ?_
    refine kR.pi (a := 30) (k := 29) (by omega) rfl rfl rfl (by decide) (by decide) rfl rfl ?_
    refine kR.ret rfl rfl ?_
    rfl
  show kR 3 160 b160_81 _ _ _ _
  refine kR.s rfl rfl ?_
  refine kR.gr (a := 30) (b := 34) (k := 9) (by omega) rfl rfl rfl (by decide) (by decide) rfl ?_
  refine kR.s rfl rfl ?_
  refine kR.ia (a := 34) (v := kd) (by omega) rfl (by decide) (by omega) (by omega) (by exact h34) ?_
  refine kR.s rfl rfl ?_
  refine kR.jge (by omega) (by omega) (by omega) (by omega) (fun _ => ?_) (fun q => absurd q (by omega))
  show kR 3 160 b160_97 _ _ _ _
  refine kR.s rfl rfl ?_
  refine kR.s rfl rfl ?_
  refine kR.gr (a := 30) (b := 34) (k := 9) (by omega) rfl rfl rfl (by decide) (by decide) rfl ?_
  refine kR.s rfl rfl ?_
  refine kR.ia (a := 34) (v := kd) (by omega) rfl (by decide) (by omega) (by omega) (by exact h34) ?_
  refine kR.s rfl rfl ?_
  refine kR.jne (by omega) (by omega) (by omega) (by omega) (fun q => ?_) (fun q => ?_)
  · show kR 3 160 b160_113 _ _ _ _
    refine kR.bi rfl ?_
    refine kR.n ?_
    exact h115 123 (by rw [if_neg q])
  · refine kR.bi rfl ?_
    refine kR.g rfl ?_
    exact h115 91 (by rw [if_pos q])
end KWZ
