/-! A value in its line, side by side. -/
def kKl (T T' : Nat → Nat → Int) (o : Nat) : Prop := ∀ j, j < o → T' 43 j = T 43 j ∧ T' 44 j = T 44 j ∧ T' 45 j = T 45 j ∧ T' 46 j = T 46 j
theorem kKl.rf {T : Nat → Nat → Int} {o : Nat} : kKl T T o := fun _ _ => ⟨rfl, rfl, rfl, rfl⟩
theorem kKl.tr {T T' T'' : Nat → Nat → Int} {o o' : Nat} (h : kKl T T' o) (h' : kKl T' T'' o') (ho : o ≤ o') : kKl T T'' o := by
  intro j hj
  obtain ⟨a1, a2, a3, a4⟩ := h j hj
  obtain ⟨b1, b2, b3, b4⟩ := h' j (by omega)
  exact ⟨b1.trans a1, b2.trans a2, b3.trans a3, b4.trans a4⟩
theorem kLn.kl {T T' : Nat → Nat → Int} {o : Nat} (h : kLn T o) (k : kKl T T' o) : kLn T' o := fun j hj => by
  obtain ⟨a1, a2, a3, a4⟩ := k j hj
  rw [a1, a3]
  exact h j hj
/-- what a block's reading gives -/
def kBr (sz szT : Nat × Nat) (E : Nat → kC) (x1 : Int) (S T : Nat → Nat → Int) (t : Nat → Int) (n L l y o c e d : Nat) (r : kO × kH) : Prop := (∃ (v : Nat) (S' T' : Nat → Nat → Int) (f k c' u' e' : Nat), r = (.inl (some (.int (Int32.ofInt (v : Int)))), (sz, hp 57 E S')) ∧ kStep szT E x1 T T' ∧ kBh S' T' t n L f k o c' u' e' (v : Int) ∧ (l < f ∧ 2 * e' + y ≤ 2 * e + klb t n f) ∧ v < c' ∧ S' 54 3 = -1 ∧ kFx S S' c e ∧ c ≤ c' ∧ e ≤ e' ∧ kKl T T' o ∧ kFm S S' ∧ kFt T T' ∧ (v = c ∧ kSub S' d c c' e e' ∨ v < c ∧ c' = c ∧ e' = e ∧ ∃ j, j < 26 ∧ S' 55 j = (v : Int))) ∨ (kTh sz E S r ∧ ∃ T', kStep szT E x1 T T' ∧ T' 30 19 = 1 ∧ kFt T T')
section KIN
variable {sz szT : Nat × Nat} {E : Nat → kC} {x1 : Int} {S T : Nat → Nat → Int} {t : Nat → Int} {n L l a o c u e : Nat}
theorem kBr.io {r : kO × kH} {d y : Nat} (h : kBr sz szT E x1 S T t n L l y o c e d r) : (∃ v h', r = (.inl (some (.int v)), h')) ∨ ∃ sz E S, kTh sz E S r := by
  rcases h with ⟨v, S', T', f, k, c', u', e', h1, _⟩ | ⟨h1, _⟩
  · exact Or.inl ⟨_, _, h1⟩
  · exact Or.inr ⟨_, _, _, h1⟩
/-- from an earlier state -/
theorem kBr.from {S0 T0 : Nat → Nat → Int} {d l0 y y0 : Nat} {r : kO × kH} (h : kBr sz szT E x1 S T t n L l y o c e d r) (hs : kStep szT E x1 T0 T) (fx : kFx S0 S c e) (fm : kFm S0 S) (kp : kKl T0 T o) (ft : kFt T0 T) (hll : l0 ≤ l) (hyy : y0 ≤ y) : kBr sz szT E x1 S0 T0 t n L l0 y0 o c e d r := by
  rcases h with ⟨v, S', T', f, k, c', u', e', h1, h2, b1, b2, b3, b4, b5, b6, b7, b8, b9, b10, b11⟩ | ⟨h1, T', h2, h3, h4⟩
  · exact Or.inl ⟨v, S', T', f, k, c', u', e', h1, hs.tr h2, b1, by omega, b3, b4, fx.tr b5 (Nat.le_refl _) (Nat.le_refl _), b6, b7, kp.tr b8 (Nat.le_refl _), fm.tr b9, ft.tr b10, b11⟩
  · exact Or.inr ⟨h1.to fm, T', hs.tr h2, h3, ft.tr h4⟩
theorem kgo_cell {b k : Nat} (h : b ≠ 53) : kgo S t n L k b = S b := by
  unfold kgo ku kup
  show (if b = 53 then _ else (if b = 53 then _ else (if b = 53 then _ else S b))) = S b
  rw [if_neg h, if_neg h, if_neg h]
theorem kFx.go {S0 : Nat → Nat → Int} {k : Nat} (h : kFx S0 S c e) : kFx S0 (kgo S t n L k) c e := ((h.w (by decide)).w (by decide)).w (by decide)
theorem kFm.go {S0 : Nat → Nat → Int} {k : Nat} (h : kFm S0 S) : kFm S0 (kgo S t n L k) := ((h.w (by decide)).w (by decide)).w (by decide)
/-- the class goes to the next line; the reference is done -/
theorem kAt.toBh {v : Int} {k : Nat} (hX : kTx t n L) (A : kAt S T t n L l a o c u e) (h20 : T 30 20 = 4) (h27 : T 30 27 = v) (h28 : T 30 28 = 0 ∨ T 30 28 = 1 ∧ a = kre t n l) (hLn : kLn T o) (hk : k = kVd t n L (l + 1)) : kBh (kgo S t n L k) T t n L (l + 1) k o c u e v := by
  obtain ⟨hl, ⟨hC, c1, c2, c3⟩, ⟨hR, m1, m2, m3, m4⟩, R, W, ⟨g1, g2, g3⟩, q3, q4, q5, q6, q7, q8⟩ := A
  have hln := hX.ln hl
  have hx1 := hX.1
  refine ⟨⟨by omega, hk⟩, ⟨hC, rfl, rfl, rfl⟩, ⟨hR, by rw [m2, klb_s]; rfl, a, kre t n l, m4, m3, by omega, by omega, by omega, ?_⟩, R, W, ⟨g1, g2, g3⟩, q3, h20, h27, q4, q5, by rw [klb_s]; omega, q8, hLn⟩
  rcases h28 with h | h
  · exact Or.inl h
  · exact Or.inr h.2
theorem sim_inl {d : Nat} {w : Value} {ml : Int} (hX : kTx t n L) (hWd : kWrd E) (hod : o + d = 8) (A : kAt S T t n L l a o c u e) (h20 : T 30 20 = 2) (h28 : T 30 28 = 1) (hLn : kLn T o) : kR (13 + 3 * d) 91 (blk 91 42) [.ref 56, .int (Int32.ofInt ((o : Int) + 1)), .int (Int32.ofInt ml), w] [] (sz, hp 57 E S) (kBr sz szT E x1 S T t n L l a o c e d) := by
  have k66 := sim_value (sz := sz) (szT := szT) (x1 := x1) hX hWd d o hod S T a c u e A h20
  rw [hLn.ins] at k66
  have hx1 := hX.1
  rw [show 13 + 3 * d = 12 + 3 * d + 1 by omega]
  show kR (12 + 3 * d + 1) 91 b91_42 _ _ _ _
  refine kR.s rfl rfl ?_
  refine kR.gr (a := 56) (b := 54) (k := 3) (by omega) rfl rfl rfl (by decide) (by decide) rfl ?_
  refine kR.s rfl rfl ?_
  refine kR.s rfl rfl ?_
  refine kR.c rfl rfl k66 (fun r hr => ?_)
  rcases hr with ⟨v, S', T', a', c', u', e', h1, h2, b1, b2, b3, b4, b5, b6, b7, b8, b9, b10, b11, b12, b13⟩ | ⟨h1, T', h2, h3, h4⟩
  · subst h1
    show kR (12 + 3 * d + 1) 91 _ _ (Value.int (Int32.ofInt (v : Int)) :: _) (sz, hp 57 E S') _
    have B1 := b1
    obtain ⟨hl, ⟨hC, c1, c2, c3⟩, ⟨hR, m1, m2, m3, m4⟩, R, W, ⟨g1, g2, g3⟩, q3, q4, q5, q6, q7, q8⟩ := b1
    have hln := hX.ln hl
    have kl : kKl T T' o := b10.1
    have h28' : T' 30 28 = 1 := by rw [b10.2]; exact h28
    have k54 := c_54 (S := S') (E := E) (sz := sz) hX hC c3 (by omega) c2 (by omega)
    refine kR.s rfl rfl ?_
    refine kR.s rfl rfl ?_
    refine kR.gr (a := 56) (b := 53) (k := 2) (by omega) rfl rfl rfl (by decide) (by decide) rfl ?_
    by_cases hend : kre t n l ≤ a'
    · rw [if_pos hend] at k54
      refine kR.cv (v := .int (Int32.ofInt 1)) rfl rfl (kR.up k54 (by omega)) ?_
      refine kR.zne (by decide) (by decide) (fun _ => ?_) (fun q => absurd q (by decide))
      show kR (12 + 3 * d + 1) 91 b91_72 _ _ _ _
      refine kR.s rfl rfl ?_
      refine kR.gr (a := 56) (b := 53) (k := 2) (by omega) rfl rfl rfl (by decide) (by decide) rfl ?_
      refine kR.s rfl rfl ?_
      refine kR.gr (a := 56) (b := 53) (k := 2) (by omega) rfl rfl rfl (by decide) (by decide) rfl ?_
      refine kR.gi (a := 53) (k := 1) (v := (l : Int)) (by omega) rfl rfl rfl (by decide) (by decide) rfl (by exact c1) ?_
      refine kR.s rfl rfl ?_
      refine kR.add ?_
      refine kR.c0 rfl rfl (kR.up (c_48 (S := S') (E := E) (sz := sz) hX hC (f := l + 1) (by omega)) (by omega)) ?_
      refine kR.s rfl rfl ?_
      refine kR.ret rfl rfl ?_
      refine Or.inl ⟨v, _, T', l + 1, kVd t n L (l + 1), c', u', e', rfl, h2, B1.toBh hX b2 b3 (Or.inr ⟨h28', by omega⟩) (hLn.kl kl) rfl, ⟨by omega, by rw [klb_s]; omega⟩, b4, by exact b5, b6.go, b7, b8, kl, b11.go, b12, ?_⟩
      rcases b13 with ⟨h3, h4⟩ | h3
      · exact Or.inl ⟨h3, h4.fx (kFx.rf.go (c := c') (e := e')) (Nat.le_refl _) (Nat.le_refl _)⟩
      · exact Or.inr h3
    · rw [if_neg hend] at k54
      refine kR.cv (v := .int (Int32.ofInt 0)) rfl rfl (kR.up k54 (by omega)) ?_
      refine kR.zne (by decide) (by decide) (fun q => absurd q (by decide)) (fun _ => ?_)
      refine kR.t rfl rfl (Nat.le_of_ble_eq_true rfl) ?_
      obtain ⟨T'', k1, k2, k3⟩ := behind_w (szT := szT) (E := E) (x1 := x1) hX B1 b2 h28' (hLn.kl kl) b3 b4 (by omega)
      exact Or.inr ⟨⟨_, rfl, b11⟩, T'', h2.tr k1, k2, b12.tr k3⟩
  · exact h1.tag rfl (Or.inr ⟨h1, T', h2, h3, h4⟩)
end KIN
