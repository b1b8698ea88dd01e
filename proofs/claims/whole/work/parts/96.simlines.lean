/-! Rows and tables in lines, side by side: what both share. -/
/-- what is shown at the end of a row's or table's lines -/
def kBw (sz szT : Nat × Nat) (E : Nat → kC) (x1 : Int) (S T : Nat → Nat → Int) (t : Nat → Int) (n L l y o c e d c0 e0 : Nat) (r : kO × kH) : Prop := (∃ (S' T' : Nat → Nat → Int) (f k c' u' e' : Nat), r = (.inl (some (.int (Int32.ofInt (c0 : Int)))), (sz, hp 57 E S')) ∧ kStep szT E x1 T T' ∧ kBh S' T' t n L f k o c' u' e' (c0 : Int) ∧ (l < f ∧ 2 * e' + y ≤ 2 * e + klb t n f) ∧ S' 54 3 = -1 ∧ kFx S S' c e ∧ c ≤ c' ∧ e ≤ e' ∧ kKl T T' o ∧ kFm S S' ∧ kFt T T' ∧ ∃ j, kIt (kSub S' d) S' c0 j (c0 + 1) e0 c' e') ∨ (kTh sz E S r ∧ ∃ T', kStep szT E x1 T T' ∧ T' 30 19 = 1 ∧ kFt T T')
theorem line_lt {L l f k j : Nat} (h1 : L - l = j) (h2 : l < f) (h3 : f ≤ k) (h4 : k < L) : L - k < j := by omega
section KLI
variable {sz szT : Nat × Nat} {E : Nat → kC} {x1 : Int} {S T : Nat → Nat → Int} {t : Nat → Int} {n L l a o c u e : Nat}
theorem kBw.from {S0 T0 : Nat → Nat → Int} {d l0 c1 e1 c0 e0 y y0 : Nat} {r : kO × kH} (h : kBw sz szT E x1 S T t n L l y o c e d c0 e0 r) (hs : kStep szT E x1 T0 T) (fx : kFx S0 S c1 e1) (fm : kFm S0 S) (kp : kKl T0 T o) (ft : kFt T0 T) (hll : l0 ≤ l) (hc : c1 ≤ c) (he : e1 ≤ e) (hyy : 2 * e + y0 ≤ 2 * e1 + y) : kBw sz szT E x1 S0 T0 t n L l0 y0 o c1 e1 d c0 e0 r := by
  rcases h with ⟨S', T', f, k, c', u', e', h1, h2, b1, b2, b3, b4, b5, b6, b7, b8, b9, b10⟩ | ⟨h1, T', h2, h3, h4⟩
  · exact Or.inl ⟨S', T', f, k, c', u', e', h1, hs.tr h2, b1, by omega, b3, fx.tr b4 hc he, by omega, by omega, kp.tr b7 (Nat.le_refl _), fm.tr b8, ft.tr b9, b10⟩
  · exact Or.inr ⟨h1.to fm, T', hs.tr h2, h3, ft.tr h4⟩
theorem dash_P {r P : Nat} (hda : kdash t r a = 1) (hP : P = kw (fun i => decide (t i = 32)) r (a + 1)) : a + 2 ≤ P ∨ r ≤ P ∧ a + 2 ≤ P + 1 := by
  have hdo := kdash_o t r a
  have hgo := kgap_o t r (a + 1)
  have hr1 : a + 1 ≤ kw (fun i => decide (t i = 32)) r (a + 1) := kw_rng.1
  rcases Nat.lt_or_ge (a + 1) r with h | h
  · have h32 : t (a + 1) = 32 := by omega
    have hr2 : a + 1 + 1 ≤ kw (fun i => decide (t i = 32)) r (a + 1 + 1) := kw_rng.1
    rw [kw_go h (decide_eq_true h32)] at hP
    exact Or.inl (by omega)
  · exact Or.inr ⟨by omega, by omega⟩
/-- whether it goes on -/
theorem c_94 {k : Nat} {cc : Int} (hX : kTx t n L) (hC : kCt S t n L) (hk : S 53 1 = (k : Int)) (hkL : k ≤ 300) (hcc : 0 ≤ cc ∧ cc ≤ 200) : kR 2 94 (blk 94 0) (kent 94 [.ref 56, .int (Int32.ofInt cc)]) [] (sz, hp 57 E S) (fun r => (cc < (if L ≤ k then -1 else (krb t n k : Int) - (klb t n k : Int)) → r = (.inr sz.1, knew (sz, hp 57 E S) 30 6 (fun _ => .null))) ∧ ((if L ≤ k then -1 else (krb t n k : Int) - (klb t n k : Int)) = cc → r = (.inl (some (.int (Int32.ofInt 1))), (sz, hp 57 E S))) ∧ ((if L ≤ k then -1 else (krb t n k : Int) - (klb t n k : Int)) < cc → r = (.inl (some (.int (Int32.ofInt 0))), (sz, hp 57 E S)))) := by
  have k50 := c_50 (S := S) (E := E) (sz := sz) hX hC hk hkL
  have hr : -1 ≤ (if L ≤ k then -1 else (krb t n k : Int) - (klb t n k : Int)) ∧ (if L ≤ k then -1 else (krb t n k : Int) - (klb t n k : Int)) ≤ 200 := by
    have hx1 := hX.1
    split
    · omega
    · have hln := hX.ln (l := k) (by omega)
      omega
  obtain ⟨dv, hdv⟩ : ∃ dv, dv = (if L ≤ k then -1 else (krb t n k : Int) - (klb t n k : Int)) := ⟨_, rfl⟩
  rw [← hdv] at k50 hr ⊢
  show kR 2 94 b94_0 _ _ _ _
  refine kR.s rfl rfl ?_
  refine kR.gr (a := 56) (b := 53) (k := 2) (by omega) rfl rfl rfl (by decide) (by decide) rfl ?_
  refine kR.cv (v := .int (Int32.ofInt dv)) rfl rfl (kR.up k50 (by decide)) ?_
  refine kR.s rfl rfl ?_
  refine kR.jle (by omega) (by omega) (by omega) (by omega) (fun q1 => ?_) (fun q1 => ?_)
  · show kR 2 94 b94_21 _ _ _ _
    refine kR.s rfl rfl ?_
    refine kR.gr (a := 56) (b := 53) (k := 2) (by omega) rfl rfl rfl (by decide) (by decide) rfl ?_
    refine kR.cv (v := .int (Int32.ofInt dv)) rfl rfl (kR.up k50 (by decide)) ?_
    refine kR.s rfl rfl ?_
    refine kR.jne (by omega) (by omega) (by omega) (by omega) (fun q2 => ?_) (fun q2 => ?_)
    · show kR 2 94 b94_36 _ _ _ _
      refine kR.s rfl rfl ?_
      refine kR.n ?_
      show kR 2 94 b94_37 _ _ _ _
      refine kR.ret rfl rfl ?_
      exact ⟨fun h => absurd h (by omega), fun h => absurd h (by omega), fun _ => rfl⟩
    · refine kR.s rfl rfl ?_
      refine kR.g rfl ?_
      show kR 2 94 b94_37 _ _ _ _
      refine kR.ret rfl rfl ?_
      exact ⟨fun h => absurd h (by omega), fun _ => rfl, fun h => absurd h (by omega)⟩
  · refine kR.t rfl rfl (Nat.le_of_ble_eq_true rfl) ?_
    exact ⟨fun _ => rfl, fun h => absurd h (by omega), fun h => absurd h (by omega)⟩
/-- an entry more, behind a part -/
theorem kBh.ent {S' T' : Nat → Nat → Int} {f k c' u' e' c0 v : Nat} {key : Int} (hX : kTx t n L) (B : kBh S' T' t n L f k (o + 1) c' u' e' (v : Int)) (hv : v < c') (hc0 : c0 < c') (h44 : T' 44 o = (c0 : Int)) (h21 : S' 21 c0 = 4 ∧ key = -1 ∧ T' 43 o = 1 ∨ S' 21 c0 = 5 ∧ T' 43 o = 2 ∧ T' 46 o = key ∧ 0 ≤ key ∧ key < c' ∧ S' 21 key.toNat < 4) (hK : (∀ j, j < 26 → key = S' 55 j → key = -1) ∧ (∀ j, j < e' → key = S' 29 j → key = -1) ∧ (∀ i, i < e' → S' 28 i = (v : Int) → S' 28 i = -1) ∧ (key = (v : Int) → key = -1)) : kRel (kade S' c0 key v e') (kapm2 (ku (ku T' 30 19 0) 30 28 0) (o + 1) e' v c0) c' u' (e' + 1) ∧ kWf (kade S' c0 key v e') c' u' (e' + 1) ∧ kGs (kade S' c0 key v e') (kapm2 (ku (ku T' 30 19 0) 30 28 0) (o + 1) e' v c0) ∧ kBh (kade S' c0 key v e') (ku (ku (ku (kapm2 (ku (ku T' 30 19 0) 30 28 0) (o + 1) e' v c0) 30 29 ((o + 1 - 1 : Nat) : Int)) 30 27 (c0 : Int)) 30 20 4) t n L f k o c' u' (e' + 1) (c0 : Int) := by
  obtain ⟨⟨hf, hk⟩, ⟨hC, c1, c2, c3⟩, ⟨hR, h24, p, r, hp1, hr1, hpl, hrl, h01, hin⟩, R, W, ⟨g1, g2, g3⟩, q3, q20, q27, q4, q5, q6, q8, qL⟩ := B
  have hkl := klb_le hX hf
  have hx1 := hX.1
  have R2 : kRel S' (ku (ku T' 30 19 0) 30 28 0) c' u' e' := R
  have hki : (if T' 43 o = 2 ∨ T' 43 o = 4 then T' 46 o else -1) = key := by
    rcases h21 with ⟨_, h2, h3⟩ | ⟨_, h2, h3, _⟩
    · rw [if_neg (by omega)]
      exact h2.symm
    · rw [if_pos (Or.inl h2)]
      exact h3
  obtain ⟨RX, WX⟩ := R2.entry (X := kapm2 (ku (ku T' 30 19 0) 30 28 0) (o + 1) e' v c0) (o := c0) (v := v) (k := key) W (by omega) hc0 hv (by omega) (fun h => by
      rcases h21 with ⟨_, h2, _⟩ | ⟨h1, _⟩
      · exact h2
      · omega) (fun h => by
      rcases h21 with ⟨h1, _⟩ | ⟨_, _, _, h2⟩
      · omega
      · exact h2) (by
      have z := kapm2_et (T := ku (ku T' 30 19 0) 30 28 0) (o := o + 1) (n := e') (v := v) (d := c0)
      rw [show o + 1 - 1 = o by omega] at z
      rw [show (if (ku (ku T' 30 19 0) 30 28 0) 43 o = 2 ∨ (ku (ku T' 30 19 0) 30 28 0) 43 o = 4 then (ku (ku T' 30 19 0) 30 28 0) 46 o else -1) = key from hki] at z
      exact z) hK
  refine ⟨RX, WX, ⟨g1, g2, g3⟩, ⟨hf, hk⟩, ⟨hC, c1, c2, c3⟩, ⟨hR, h24, p, r, hp1, hr1, hpl, hrl, Or.inl rfl, Or.inl rfl⟩, RX, WX, ⟨g1, g2, g3⟩, rfl, rfl, rfl, ?_, by omega, by omega, fun j hj => q8 j (by omega), fun j hj => qL j (by omega)⟩
  show (((o + 1 - 1 : Nat) : Nat) : Int) = _
  rw [show o + 1 - 1 = o by omega]
/-- on to the next line, the same node open -/
theorem kBh.cont {S' T' : Nat → Nat → Int} {f k c' u' e' c0 v : Nat} {key : Int} (hX : kTx t n L) (B : kBh S' T' t n L f k (o + 1) c' u' e' (v : Int)) (hkL : k < L) (RX : kRel (kade S' c0 key v e') (kapm2 (ku (ku T' 30 19 0) 30 28 0) (o + 1) e' v c0) c' u' (e' + 1)) (WX : kWf (kade S' c0 key v e') c' u' (e' + 1)) : kAt (kade S' c0 key v e') (kgom (kapm2 (ku (ku T' 30 19 0) 30 28 0) (o + 1) e' v c0) t n k) t n L k (krb t n k) (o + 1) c' u' (e' + 1) := by
  obtain ⟨⟨hf, hk⟩, ⟨hC, c1, c2, c3⟩, ⟨hR, h24, p, r, hp1, hr1, hpl, hrl, h01, hin⟩, R, W, ⟨g1, g2, g3⟩, q3, q20, q27, q4, q5, q6, q8, qL⟩ := B
  have hlk := hX.ln hkL
  have hkr := kVd_rng (t := t) (n := n) hf
  rw [← hk] at hkr
  have hmo := kLb_mono (f := f) (k := k) hX (by omega) hkr.1
  rw [if_neg (by omega)] at c2 c3
  exact ⟨hkL, ⟨hC, c1, c2, c3⟩, ⟨hR, rfl, rfl, rfl, rfl⟩, RX, WX, ⟨g1, g2, g3⟩, rfl, q4, q5, by omega, by omega, q8⟩
theorem kAt.qb {cs : List Int} (A : kAt S T t n L l a o c u e) : kAt S (kqb T cs) t n L l a o c u e := by
  obtain ⟨hl, ⟨hC, c1, c2, c3⟩, ⟨hR, m1, m2, m3, m4⟩, R, W, G, q3, q4, q5, q6, q7, q8⟩ := A
  exact ⟨hl, ⟨hC, c1, c2, c3⟩, ⟨hR, m1, m2, m3, m4⟩, R, W, G, q3, q4, q5, q6, q7, q8⟩
/-- one more is open, the place moved on -/
theorem kAt.pushP {w z : Int} {m P : Nat} (A : kAt S T t n L l a o c u e) (ho : o ≤ 7) (haP : a + 1 ≤ P) (hP : P ≤ kre t n l) (hmc : m < c) (hw : -2147483648 ≤ w ∧ w < 2147483648) (hk : (w = 1 ∨ w = 3 → S 21 m = 4) ∧ (w = 2 ∨ w = 4 → S 21 m = 5)) : kAt (ku S 53 2 (P : Int)) (ku (kbgm T w m z o) 30 21 (P : Int)) t n L l P (o + 1) c u e ∧ kKl T (kbgm T w m z o) o ∧ kFt T (kbgm T w m z o) := by
  obtain ⟨hl, ⟨hC, c1, c2, c3⟩, ⟨hR, m1, m2, m3, m4⟩, R, W, ⟨g1, g2, g3⟩, q3, q4, q5, q6, q7, q8⟩ := A
  have e43 : ∀ j, kbgm T w m z o 43 j = if j = o then w else T 43 j := fun j => rfl
  have e44 : ∀ j, kbgm T w m z o 44 j = if j = o then (m : Int) else T 44 j := fun j => rfl
  have e45 : ∀ j, kbgm T w m z o 45 j = if j = o then z else T 45 j := fun j => rfl
  refine ⟨⟨hl, ⟨hC, c1, rfl, c3⟩, ⟨hR, m1, m2, m3, rfl⟩, R, W, ⟨g1, g2, fun j hj => ?_⟩, q3, rfl, by omega, by omega, hP, fun j hj => ?_⟩, fun j hj => ?_, kFt.rf.bgm⟩
  · show -2147483648 ≤ kbgm T w m z o 43 j ∧ kbgm T w m z o 43 j < 2147483648
    rw [e43]
    split
    · exact hw
    · exact g3 j hj
  · show 0 ≤ kbgm T w m z o 44 j ∧ kbgm T w m z o 44 j < c ∧ (kbgm T w m z o 43 j = 1 ∨ kbgm T w m z o 43 j = 3 → S 21 (kbgm T w m z o 44 j).toNat = 4) ∧ (kbgm T w m z o 43 j = 2 ∨ kbgm T w m z o 43 j = 4 → S 21 (kbgm T w m z o 44 j).toNat = 5)
    rw [e43, e44]
    by_cases e : j = o
    · rw [if_pos e, if_pos e]
      exact ⟨by omega, by omega, hk.1, hk.2⟩
    · rw [if_neg e, if_neg e]
      exact q8 j (by omega)
  · rw [e43, e44, e45, if_neg (by omega), if_neg (by omega), if_neg (by omega)]
    exact ⟨rfl, rfl, rfl, rfl⟩
theorem kLn.push {w z : Int} {m : Nat} (h : kLn T o) (hw : w = 1 ∨ w = 2) (hz : 0 ≤ z ∧ z ≤ 200) : kLn (kbgm T w m z o) (o + 1) := fun j hj => by
  show ((if j = o then w else T 43 j) = 1 ∨ (if j = o then w else T 43 j) = 2) ∧ 0 ≤ (if j = o then z else T 45 j) ∧ (if j = o then z else T 45 j) ≤ 200
  by_cases e : j = o
  · rw [if_pos e, if_pos e]
    exact ⟨hw, hz.1, hz.2⟩
  · rw [if_neg e, if_neg e]
    exact h j (by omega)
end KLI
