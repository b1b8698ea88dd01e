/-! Lines, side by side: what is kept; what goes wrong behind a value. -/
theorem c_128w {m : Nat} {E : Nat → kC} {S S1 : Nat → Nat → Int} {sz : Nat × Nat} (hm : 53 ≤ m ∧ m ≤ 57) {v : Nat} (hmk : kR 0 110 (blk 110 0) (kent 110 [.ref 30, .int (Int32.ofInt 3)]) [] (sz, hp m E S) (fun r => r = (.inl (some (.int (Int32.ofInt (v : Int)))), (sz, hp m E S1)))) {z : Nat} (hq : S1 30 34 = (z : Int)) (hz : z ≤ 200) (hw : S1 30 19 = 1) : kR 1 128 (blk 128 0) (kent 128 [.ref 30]) [] (sz, hp m E S) (fun r => r = (.inl (some (.int (Int32.ofInt (v : Int)))), (sz, hp m E S1))) := by
  show kR 1 128 b128_0 _ _ _ _
  refine kR.s rfl rfl ?_
  refine kR.s rfl rfl ?_
  refine kR.cv (v := .int (Int32.ofInt (v : Int))) (kargs_m hm (by decide) rfl) rfl (kR.up hmk (by decide)) ?_
  refine kR.s rfl rfl ?_
  refine kR.s rfl rfl ?_
  refine kR.s rfl rfl ?_
  refine kR.n ?_
  show kR 1 128 b128_8 _ _ _ _
  refine kR.s rfl rfl ?_
  refine kR.s rfl rfl ?_
  refine kR.gi (a := 30) (k := 34) (v := (z : Int)) (by omega) rfl rfl rfl (by decide) (by decide) rfl (by exact hq) ?_
  refine kR.jge (by omega) (by omega) (by omega) (by omega) (fun q2 => ?_) (fun q2 => ?_)
  · skip
    show kR 1 128 b128_40 _ _ _ _
    refine kR.s rfl rfl ?_
    refine kR.ret rfl rfl ?_
    rfl
  · skip
    refine kR.s rfl rfl ?_
    refine kR.gi (a := 30) (k := 19) (v := 1) (by omega) rfl rfl rfl (by decide) (by decide) rfl (by exact hw) ?_
    refine kR.zne (by decide) (by decide) (fun q3 => ?_) (fun q3 => absurd q3 (by decide))
    show kR 1 128 b128_40 _ _ _ _
    refine kR.s rfl rfl ?_
    refine kR.ret rfl rfl ?_
    rfl
theorem kFt.apm {T X : Nat → Nat → Int} {o n v d : Nat} (f : kFt T X) : kFt T (kapm2 X o n v d) := ((((f.a (by decide)).a (by decide)).a (by decide)).w (by decide)).a (by decide)
theorem kFt.gom {T X : Nat → Nat → Int} {t : Nat → Int} {n k : Nat} (f : kFt T X) : kFt T (kgom X t n k) := (((f.w (by decide)).w (by decide)).w (by decide)).w (by decide)
theorem kFt.bgm {T X : Nat → Nat → Int} {w z : Int} {v o : Nat} (f : kFt T X) : kFt T (kbgm X w v z o) := (((f.a (by decide)).a (by decide)).a (by decide)).w (by decide)
section KLN
variable {sz szT : Nat × Nat} {E : Nat → kC} {x1 : Int} {S T : Nat → Nat → Int} {t : Nat → Int} {n L l a o c u e : Nat}
/-- a make, whatever was before -/
theorem ref_make (k : Int) (h8 : T 30 8 = (c : Int)) (hc : c ≤ 60) (h29 : T 30 29 = (o : Int)) (ho : o ≤ 8) (h26 : -1 ≤ T 30 26 ∧ T 30 26 < 26) : ∃ (S1 : Nat → Nat → Int) (v : Nat), kR 0 110 (blk 110 0) (kent 110 [.ref 30, .int (Int32.ofInt k)]) [] (szT, hp 53 E T) (fun r => r = (.inl (some (.int (Int32.ofInt (v : Int)))), (szT, hp 53 E S1))) ∧ v < 60 ∧ (∀ j, j ≠ 26 → j ≠ 8 → j ≠ 19 → S1 30 j = T 30 j) ∧ (S1 30 19 = T 30 19 ∨ S1 30 19 = 1) ∧ S1 33 = T 33 ∧ kFt T S1 := by
  by_cases hg : c < 60 ∧ o ≤ 7
  · exact ⟨_, _, c_110 (S := T) ⟨by omega, by omega⟩ h8 hc h29 (by omega) h26 hg, hg.1, fun j h1 h2 _ => kmk_30 h1 h2, Or.inl (kmk_30 (by decide) (by decide)), kmk_cell (by decide), kFt.rf.mk k c⟩
  · refine ⟨_, _, ref_mk_bad h8 hc h29 (by omega) hg k, by decide, fun j h1 h2 h3 => ?_, Or.inr rfl, rfl, kFt.rf.w (by decide)⟩
    show (if j = 19 then _ else T 30 j) = _
    rw [if_neg h3]
/-- an entry where it is wrong already -/
theorem ref_ent_w {q z : Nat} {p r : Nat} (hX : kTx t n L) (hR : kRt T t n) (h21 : T 30 21 = (p : Int)) (h23 : T 30 23 = (r : Int)) (hrn : r ≤ n) (hpr : p ≤ r) (h19 : T 30 19 = 1) (h8 : T 30 8 = (c : Int)) (hc : c ≤ 60) (h29 : T 30 29 = (o : Int)) (ho : o ≤ 8) (h26 : -1 ≤ T 30 26 ∧ T 30 26 < 26) (h14 : T 30 14 = (u : Int)) (hu : u ≤ 200) (h34 : kqu (kch t r p) = 1 → T 30 34 = (q : Int) ∧ q ≤ 200) (hz : kck t r 0 p = (z : Int)) : ∃ X5, kR 4 133 (blk 133 0) (kent 133 [.ref 30, .int (Int32.ofInt (z : Int))]) [] (szT, hp 53 E T) (fun r => r = (.inl none, (szT, hp 53 E X5))) ∧ X5 30 19 = 1 ∧ kFt T X5 := by
  have hx1 := hX.1
  have hm : 53 ≤ 53 ∧ 53 ≤ 57 := by omega
  have hco := kcol_o t r 0 z
  rcases kqu_10 (kch t r p) with hqu | hqu
  · obtain ⟨S1, v, k1, k2, k3, k4, k5, k6⟩ := ref_make (szT := szT) (E := E) 3 h8 hc h29 ho h26
    obtain ⟨y1, y2⟩ := kck_q hqu hz
    have hze : z < r := kch_lt (t := t) (by omega)
    have hw1 : S1 30 19 = 1 := by omega
    obtain ⟨h34a, h34b⟩ := h34 hqu
    have k128 := c_128w hm k1 (z := q) (by rw [k3 34 (by decide) (by decide) (by decide)]; exact h34a) h34b hw1
    refine ⟨_, c_133qb (S := T) (E := E) (sz := szT) hm hX hR h23 hrn h21 hpr (z := z) (by omega) hqu (kR.up k128 (by decide)) hw1 rfl ⟨by rw [k3 7 (by decide) (by decide) (by decide)]; exact hR.1, fun j hj => by rw [k5]; exact hR.2 j hj⟩ (by rw [k3 23 (by decide) (by decide) (by decide)]; exact h23), hw1, ((k6.w (by decide)).w (by decide)).w (by decide)⟩
  · obtain ⟨y1, y2, y3⟩ := kck_p hqu hz
    have hze : z < r := kch_lt (t := t) (by omega)
    obtain ⟨j1, j2, j3⟩ := kst_gt (i := 0) hX hrn y1
    rw [y2] at j1
    have hkf : p < kb (fun i => decide (t i = 32)) p z := by
      rcases Nat.lt_or_ge p (kb (fun i => decide (t i = 32)) p z) with h | h
      · exact h
      · exact absurd (of_decide_eq_true (kb_in (p := fun i => decide (t i = 32)) (lo := p) (hi := z) (i := p) (by omega) h (by omega))) j3
    have hkb := kb_rng (p := fun i => decide (t i = 32)) (lo := p) (hi := z) (by omega)
    have key : ∃ (Mk : Int → Nat → Nat → Int) (v : Nat), v < 60 ∧ (∀ k : Int, kR 0 110 (blk 110 0) (kent 110 [.ref 30, .int (Int32.ofInt k)]) [] (szT, hp 53 E T) (fun r => r = (.inl (some (.int (Int32.ofInt (v : Int)))), (szT, hp 53 E (Mk k))))) ∧ (∀ k, kRt (Mk k) t n ∧ Mk k 30 19 = 1 ∧ Mk k 30 14 = (u : Int) ∧ Mk k 30 23 = (r : Int) ∧ kFt T (Mk k)) := by
      by_cases hg : c < 60 ∧ o ≤ 7
      · exact ⟨fun k => kmk T k c, c, hg.1, fun k => c_110 (S := T) hm h8 hc h29 (by omega) h26 hg, fun k => ⟨kRt.mk hR k c, (kmk_30 (by decide) (by decide)).trans h19, (kmk_30 (by decide) (by decide)).trans h14, (kmk_30 (by decide) (by decide)).trans h23, kFt.rf.mk k c⟩⟩
      · exact ⟨fun k => ku T 30 19 1, 0, by decide, fun k => ref_mk_bad h8 hc h29 (by omega) hg k, fun k => ⟨by exact hR, rfl, by exact h14, by exact h23, kFt.rf.w (by decide)⟩⟩
    obtain ⟨Mk, v, hv, hmk, hM⟩ := key
    have k125 := c_125 (S := T) (E := E) (sz := szT) (m := 53) hm hX hR j3 j1 (by omega) (Mk := Mk) (v := v) (u := u) (w := 1) hv (Or.inr rfl) hmk (fun k => (hM k).1) (fun k => (hM k).2.1) (hM 3).2.2.1 (by omega)
    have key2 : kplm t Mk v u 1 p (kb (fun i => decide (t i = 32)) p z) 30 19 = 1 ∧ kRt (kplm t Mk v u 1 p (kb (fun i => decide (t i = 32)) p z)) t n ∧ kplm t Mk v u 1 p (kb (fun i => decide (t i = 32)) p z) 30 23 = (r : Int) ∧ kFt T (kplm t Mk v u 1 p (kb (fun i => decide (t i = 32)) p z)) := by
      rcases kpl_eq hX hrn hkf (by omega : kb (fun i => decide (t i = 32)) p z ≤ r) (fun _ _ => T) Mk v u v u 1 with ⟨k, x, hk, hx2, hx3, e1, e2⟩ | ⟨e1, e2⟩
      · rw [e2]
        split
        · exact ⟨(hM 0).2.1, (hM 0).1, (hM 0).2.2.2.1, (hM 0).2.2.2.2⟩
        · exact ⟨(hM k).2.1, (hM k).1, (hM k).2.2.2.1, (hM k).2.2.2.2.a (by decide)⟩
      · rw [e2, if_pos rfl]
        exact ⟨(hM 3).2.1, (hM 3).1, (hM 3).2.2.2.1, (hM 3).2.2.2.2⟩
    exact ⟨_, c_133pb (S := T) (E := E) (sz := szT) hm hX hR h23 hrn h21 hpr (z := z) (by omega) hqu k125 key2.1 rfl key2.2.1 key2.2.2.1, key2.1, ((key2.2.2.2.w (by decide)).w (by decide)).w (by decide)⟩
/-- all that is open is in lines -/
def kLn (T : Nat → Nat → Int) (o : Nat) : Prop := ∀ j, j < o → (T 43 j = 1 ∨ T 43 j = 2) ∧ 0 ≤ T 45 j ∧ T 45 j ≤ 200
theorem kLn.ins (h : kLn T o) : kins T o = 0 := by
  unfold kins
  by_cases ho : 1 ≤ o
  · have := (h (o - 1) (by omega)).1
    rw [if_neg (fun z => by omega)]
  · rw [if_neg (fun z => by omega)]
def kVd (t : Nat → Int) (n L f : Nat) : Nat := kw (fun i => decide (¬ krb t n i < kre t n i ∨ t (krb t n i) = 35)) L f
/-- class and reference behind a block: the class at line k, the first that is not void from f on -/
def kBh (S T : Nat → Nat → Int) (t : Nat → Int) (n L f k o c u e : Nat) (v : Int) : Prop := (f ≤ L ∧ k = kVd t n L f) ∧ (kCt S t n L ∧ S 53 1 = (k : Int) ∧ S 53 2 = (if L ≤ k then (n : Int) else (krb t n k : Int)) ∧ S 53 3 = (if L ≤ k then (n : Int) else (kre t n k : Int))) ∧ (kRt T t n ∧ T 30 24 + 1 = (klb t n f : Int) ∧ ∃ p r : Nat, T 30 21 = (p : Int) ∧ T 30 23 = (r : Int) ∧ p ≤ 200 ∧ r ≤ 200 ∧ (T 30 28 = 0 ∨ T 30 28 = 1) ∧ (T 30 28 = 0 ∨ p = r)) ∧ kRel S T c u e ∧ kWf S c u e ∧ kGs S T ∧ T 30 19 = 0 ∧ T 30 20 = 4 ∧ T 30 27 = v ∧ T 30 29 = (o : Int) ∧ o ≤ 8 ∧ u + e + o + 1 ≤ klb t n f ∧ kOp S T o c ∧ kLn T o
theorem kVd_rng {f : Nat} (hf : f ≤ L) : f ≤ kVd t n L f ∧ kVd t n L f ≤ L := by
  have z : f ≤ kVd t n L f ∧ (f ≤ L → kVd t n L f ≤ L) := kw_rng
  exact ⟨z.1, z.2 hf⟩
theorem kVd_at {f : Nat} (h : kVd t n L f < L) : krb t n (kVd t n L f) < kre t n (kVd t n L f) := by
  have z := kw_at (p := fun i => decide (¬ krb t n i < kre t n i ∨ t (krb t n i) = 35)) (n := L) (k := f) h
  have z2 := of_decide_eq_false z
  have z3 : ¬ (¬ krb t n (kVd t n L f) < kre t n (kVd t n L f) ∨ t (krb t n (kVd t n L f)) = 35) := z2
  omega
theorem kLb_mono {f k : Nat} (hX : kTx t n L) (hk : k ≤ L) (hfk : f ≤ k) : klb t n f ≤ klb t n k := by
  induction k with
  | zero => rw [show f = 0 by omega]; exact Nat.le_refl _
  | succ k ih =>
    rcases Nat.lt_or_ge f (k + 1) with h | h
    · have h1 := ih (by omega) (by omega)
      have h2 := hX.ln (l := k) (by omega)
      have h3 := klb_s t n k
      omega
    · rw [show f = k + 1 by omega]
      exact Nat.le_refl _
theorem klb_le (hX : kTx t n L) {f : Nat} (hf : f ≤ L) : klb t n f ≤ n + 1 := by
  have h := kLb_mono (f := f) (k := L) hX (Nat.le_refl _) hf
  rw [hX.2.2.2.2.2] at h
  exact h
end KLN
