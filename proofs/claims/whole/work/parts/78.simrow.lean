/-! A row in brackets, side by side. -/
def kOk (S T S' T' : Nat → Nat → Int) (t : Nat → Int) (n L l a o c e d v a' c' u' e' : Nat) : Prop := kAt S' T' t n L l a' o c' u' e' ∧ T' 30 20 = 4 ∧ T' 30 27 = (v : Int) ∧ v < c' ∧ S' 54 3 = -1 ∧ kFx S S' c e ∧ c ≤ c' ∧ e ≤ e' ∧ (a < a' ∧ 2 * e' + a + 1 ≤ 2 * e + a') ∧ kKp T T' o ∧ kFm S S' ∧ kFt T T' ∧ (v = c ∧ kSub S' d c c' e e' ∨ v < c ∧ c' = c ∧ e' = e ∧ ∃ j, j < 26 ∧ S' 55 j = (v : Int))
/-- what a value's reading gives: both end alike -/
def kRes (sz szT : Nat × Nat) (E : Nat → kC) (x1 : Int) (S T : Nat → Nat → Int) (t : Nat → Int) (n L l a o c e d : Nat) (r : kO × kH) : Prop := (∃ (v : Nat) (S' T' : Nat → Nat → Int) (a' c' u' e' : Nat), r = (.inl (some (.int (Int32.ofInt (v : Int)))), (sz, hp 57 E S')) ∧ kStep szT E x1 T T' ∧ kOk S T S' T' t n L l a o c e d v a' c' u' e') ∨ (kTh sz E S r ∧ ∃ T', kStep szT E x1 T T' ∧ T' 30 19 = 1 ∧ kFt T T')
/-- what is shown at the end of a row's items -/
def kRw (sz szT : Nat × Nat) (E : Nat → kC) (x1 : Int) (S T : Nat → Nat → Int) (t : Nat → Int) (n L l a o c e d c0 e0 : Nat) (r : kO × kH) : Prop := (∃ (S' T' : Nat → Nat → Int) (a' c' u' e' : Nat), r = (.inl (some (.int (Int32.ofInt (c0 : Int)))), (sz, hp 57 E S')) ∧ kStep szT E x1 T T' ∧ kAt S' T' t n L l a' o c' u' e' ∧ T' 30 20 = 4 ∧ T' 30 27 = (c0 : Int) ∧ S' 54 3 = -1 ∧ kFx S S' c e ∧ c ≤ c' ∧ e ≤ e' ∧ (a < a' ∧ 2 * e' + a ≤ 2 * e + a') ∧ kKp T T' o ∧ kFm S S' ∧ kFt T T' ∧ ∃ j, kIt (kSub S' d) S' c0 j (c0 + 1) e0 c' e') ∨ (kTh sz E S r ∧ ∃ T', kStep szT E x1 T T' ∧ T' 30 19 = 1 ∧ kFt T T')
theorem kTh.tag {sz : Nat × Nat} {E : Nat → kC} {S : Nat → Nat → Int} {r : kO × kH} (h : kTh sz E S r) {D y pc : Nat} {cs : List kI} {ls st : List Value} {Q : kO × kH → Prop} (hy : khl y = []) (q : Q r) : kCl D y pc cs ls st Q r := by
  obtain ⟨S', h1, h2⟩ := h
  subst h1
  show (match kfind (khl y) pc _ with
    | some (some t) => kR D y (blk y t) ls _ _ Q
    | some none => Q _
    | none => False)
  rw [hy]
  exact q
theorem kSub_leaf {S : Nat → Nat → Int} {d c n : Nat} (hd : 1 ≤ d) (h : S 21 c < 4) : kSub S d c (c + 1) n n := by
  obtain ⟨d', hd'⟩ : ∃ d', d = d' + 1 := ⟨d - 1, by omega⟩
  subst hd'
  exact Or.inl ⟨h, rfl, rfl⟩
theorem row_lt {r a a' P P2 j : Nat} (h1 : r - a = j) (h2 : a < a') (h3 : a' ≤ P) (h4 : P + 1 ≤ P2) (h5 : P < r) : r - P2 < j := by omega
theorem row_c1 {a a' P e e' : Nat} (h1 : a < a' ∧ 2 * e' + a + 1 ≤ 2 * e + a') (h2 : a' ≤ P) : a < P + 1 ∧ 2 * (e' + 1) + a ≤ 2 * e + (P + 1) := by omega
theorem row_c2 {a a' P P2 a2 e e' e2 : Nat} (h1 : a < a' ∧ 2 * e' + a + 1 ≤ 2 * e + a') (h2 : a' ≤ P) (h3 : P + 1 ≤ P2) (h4 : P2 < a2 ∧ 2 * e2 + P2 ≤ 2 * (e' + 1) + a2) : a < a2 ∧ 2 * e2 + a ≤ 2 * e + a2 := by omega
theorem kSub.ade {S' : Nat → Nat → Int} {o v n d a b x y : Nat} {k : Int} (h : kSub S' d a b x y) (hy : y ≤ n) : kSub (kade S' o k v n) d a b x y := (kSub_mono d a b x y h).2.2 (fun j _ => rfl) (fun j hj => ⟨by show (if j = n then _ else S' 27 j) = _; rw [if_neg (by omega)], by show (if j = n then _ else S' 28 j) = _; rw [if_neg (by omega)], by show (if j = n then _ else S' 29 j) = _; rw [if_neg (by omega)]⟩)
theorem kIt_keys {P : Nat → Nat → Nat → Nat → Prop} {S : Nat → Nat → Int} {o : Nat} (hP : ∀ a b x y, P a b x y → a ≤ b ∧ x ≤ y ∧ ∀ i, x ≤ i → i < y → S 28 i = -1 ∨ (a : Int) < S 28 i) : ∀ (i k n k' n' : Nat), kIt P S o i k n k' n' → k ≤ k' ∧ ∀ e, n ≤ e → e < n' → S 28 e = -1 ∨ (k : Int) ≤ S 28 e
  | 0, k, n, k', n', h => ⟨by rw [h.1]; exact Nat.le_refl _, fun e h1 h2 => by have := h.2; omega⟩
  | i + 1, k, n, k', n', h => by
    obtain ⟨k1, k2, n1, v, h1, h2, h3, h4, h5⟩ := h
    obtain ⟨m1, m2⟩ := kIt_keys hP i k2 (n1 + 1) k' n' h5
    have e1 : k ≤ k1 := by rcases h1 with ⟨_, q, _⟩ | ⟨_, q, _⟩ <;> omega
    have e2 : k1 ≤ k2 := by
      rcases h2 with ⟨_, q⟩ | ⟨_, q1, q2⟩
      · exact (hP _ _ _ _ q).1
      · omega
    refine ⟨by omega, fun e g1 g2 => ?_⟩
    rcases Nat.lt_trichotomy e n1 with g | g | g
    · rcases h2 with ⟨_, q⟩ | ⟨_, q1, q2⟩
      · rcases (hP _ _ _ _ q).2.2 e g1 g with z | z
        · exact Or.inl z
        · exact Or.inr (by omega)
      · omega
    · rw [g]
      rcases h1 with ⟨_, _, q⟩ | ⟨_, _, q, _⟩
      · exact Or.inl q
      · exact Or.inr (by omega)
    · rcases m2 e (by omega) g2 with z | z
      · exact Or.inl z
      · exact Or.inr (by omega)
theorem kSub_keys {S : Nat → Nat → Int} : ∀ (d c c' n n' : Nat), kSub S d c c' n n' → ∀ i, n ≤ i → i < n' → S 28 i = -1 ∨ (c : Int) < S 28 i
  | 0, c, c', n, n', h, _, _, _ => absurd h (fun z => z)
  | d + 1, c, c', n, n', h, j, h1, h2 => by
    rcases h with ⟨_, _, q⟩ | ⟨_, i, q⟩
    · omega
    · rcases (kIt_keys (fun a b x y q => by have w := kSub_mono (S' := S) d a b x y q; exact ⟨Nat.le_of_lt w.1, w.2.1, fun i g1 g2 => kSub_keys d a b x y q i g1 g2⟩) i (c + 1) n c' n' q).2 j h1 h2 with z | z
      · exact Or.inl z
      · exact Or.inr (by omega)
/-- a value is no key -/
theorem val_nokey {S S' : Nat → Nat → Int} {c u e c' u' e' v d : Nat} (W : kWf S c u e) (W' : kWf S' c' u' e') (fx : kFx S S' c e) (hsub : v = c ∧ kSub S' d c c' e e' ∨ v < c ∧ c' = c ∧ e' = e ∧ ∃ j, j < 26 ∧ S' 55 j = (v : Int)) : ∀ i, i < e' → S' 28 i = (v : Int) → S' 28 i = -1 := fun i hi h => by
  rcases hsub with ⟨h1, h2⟩ | ⟨h1, h2, h3, j, hj, h4⟩
  · rcases Nat.lt_or_ge i e with g | g
    · have z := (fx.2.1 i g).2.1
      rcases W.k28 g with q | q
      · rw [z]
        exact q
      · omega
    · rcases kSub_keys d c c' e e' h2 i g hi with q | q
      · exact q
      · omega
  · exact W'.1.2.2.2.2.1 i j hi hj (by rw [h, h4])
theorem val_new {S' : Nat → Nat → Int} {c e c' e' v d : Nat} (hsub : v = c ∧ kSub S' d c c' e e' ∨ v < c ∧ c' = c ∧ e' = e ∧ ∃ j, j < 26 ∧ S' 55 j = (v : Int)) : (c : Int) ≤ (v : Int) ∨ ∃ j, j < 26 ∧ (v : Int) = S' 55 j := by
  rcases hsub with ⟨h1, _⟩ | ⟨_, _, _, j, hj, h4⟩
  · exact Or.inl (by omega)
  · exact Or.inr ⟨j, hj, h4.symm⟩
/-- a key that waited for its value is no name and no value -/
theorem key_ok {S Y S' : Nat → Nat → Int} {c u e c' e' v d : Nat} (W : kWf S c u e) (K2 : kFx S Y c e) (h55 : ∀ j, Y 55 j = S 55 j) (h11 : Y 20 11 = (e : Int)) (fxY : kFx Y S' (c + 1) e) (h11' : S' 20 11 = (e' : Int)) (hsub : v = c + 1 ∧ kSub S' d (c + 1) c' e e' ∨ v < c + 1 ∧ c' = c + 1 ∧ e' = e ∧ ∃ j, j < 26 ∧ S' 55 j = (v : Int)) : (∀ j, j < 26 → (c : Int) = S' 55 j → (c : Int) = -1) ∧ (∀ j, j < e' → (c : Int) = S' 29 j → (c : Int) = -1) ∧ ((c : Int) = (v : Int) → (c : Int) = -1) := by
  obtain ⟨b1, b2, b3, b4⟩ := fxY.2.2.2.1.2
  obtain ⟨_, wa, wb, wc, wd⟩ := W
  have hn : ∀ j, j < 26 → ¬ (c : Int) = S' 55 j := fun j hj h => by
    have z := wc j hj
    rcases b3 j hj with g | g
    · rw [h55] at g
      omega
    · omega
  refine ⟨fun j hj h => absurd h (hn j hj), fun j hj h => ?_, fun h => ?_⟩
  · exfalso
    rcases Nat.lt_or_ge j e with g | g
    · have z1 := (fxY.2.1 j g).2.2
      have z2 := (K2.2.1 j g).2.2
      have z3 := (wb j g).2.2.2.2.1
      omega
    · rcases b4 j (by omega) (by omega) with q | ⟨i, hi, q⟩
      · omega
      · have z := wc i hi
        rw [h55] at q
        omega
  · exfalso
    rcases hsub with ⟨h1, _⟩ | ⟨_, _, _, j, hj, h4⟩
    · omega
    · exact hn j hj (by omega)
theorem kade_fx {S' : Nat → Nat → Int} {o v n c : Nat} {k : Int} (h4 : 4 ≤ S' 21 o) (h11 : S' 20 11 = (n : Int)) (hv : (c : Int) ≤ (v : Int) ∨ ∃ j, j < 26 ∧ (v : Int) = S' 55 j) : kFx S' (kade S' o k v n) c n := ⟨fun j _ => rfl, fun j hj => ⟨by show (if j = n then _ else S' 27 j) = _; rw [if_neg (by omega)], by show (if j = n then _ else S' 28 j) = _; rw [if_neg (by omega)], by show (if j = n then _ else S' 29 j) = _; rw [if_neg (by omega)]⟩, fun j _ hk => ⟨by show (if j = o then _ else S' 22 j) = _; rw [if_neg (fun z => by rw [z] at hk; omega)], rfl, rfl⟩, ⟨Int.le_refl _, by show S' 20 11 ≤ (n : Int) + 1; omega, fun j hj => by show (if j = n then _ else S' 29 j) = _; rw [if_neg (by omega)], fun j _ => Or.inl rfl, fun i h1 h2 => by
    have h3 : (i : Int) < (n : Int) + 1 := h2
    have e : i = n := by omega
    show (c : Int) ≤ (if i = n then (v : Int) else S' 29 i) ∨ ∃ j, j < 26 ∧ (if i = n then (v : Int) else S' 29 i) = S' 55 j
    rw [if_pos e]
    exact hv⟩, fun _ _ => rfl⟩
theorem kade_fm {S' : Nat → Nat → Int} {o v n : Nat} {k : Int} : kFm S' (kade S' o k v n) := ((((((kFm.rf.w (by decide)).w (by decide)).w (by decide)).w (by decide)).w (by decide)).w (by decide))
theorem kIt.fx {S S' : Nat → Nat → Int} {d o i k n k' n' K M : Nat} (h : kIt (kSub S d) S o i k n k' n') (f : kFx S S' K M) (ho : o < K) (hk : k' ≤ K) (hm : n' ≤ M) : kIt (kSub S' d) S' o i k n k' n' := (kIt_mono (Q := kSub S' d) (S' := S') (fun a b x y q => by have w := kSub_mono (S' := S) d a b x y q; exact ⟨Nat.le_of_lt w.1, w.2.1⟩) i k n k' n' h).2.2 (fun _ _ _ _ hb hy q => q.fx f (by omega) (by omega)) (f.1 o ho) (fun j hj => f.1 j (by omega)) (fun j hj => f.2.1 j (by omega))
section KSR2
variable {sz szT : Nat × Nat} {E : Nat → kC} {x1 : Int} {t : Nat → Int} {n L l : Nat}
theorem l_68 (hX : kTx t n L) {o c0 e0 d D : Nat} (ho : o ≤ 7) (hc0 : c0 < 60) (IH : ∀ (S T : Nat → Nat → Int) (a c u e : Nat), kAt S T t n L l a (o + 1) c u e → T 30 20 = 2 → kins T (o + 1) = 1 → S 54 3 = -1 → kR D 66 (blk 66 0) (kent 66 [.ref 54, .int (Int32.ofInt ((o : Int) + 1 + 1)), .int (Int32.ofInt 1)]) [] (sz, hp 57 E S) (kRes sz szT E x1 S T t n L l a (o + 1) c e d)) (hD : 5 ≤ D) : ∀ (j a c u e k : Nat) (S T : Nat → Nat → Int), kre t n l - a = j → kAt S T t n L l a (o + 1) c u e → T 30 20 = 2 → T 43 o = 3 → T 44 o = (c0 : Int) → S 21 c0 = 4 → S 54 3 = -1 → k ≤ e → c0 < c → (∃ i, kIt (kSub S d) S c0 i (c0 + 1) e0 c e) → kR (D + 1) 68 (blk 68 18) [.ref 54, .int (Int32.ofInt ((o : Int) + 1)), .int (Int32.ofInt (c0 : Int)), .int (Int32.ofInt 1), .int (Int32.ofInt (k : Int))] [] (sz, hp 57 E S) (kRw sz szT E x1 S T t n L l a o c e d c0 e0) := by
  intro j
  induction j using Nat.strongRecOn with
  | _ j ih =>
    intro a c u e k S T hj A hs h43 h44 h21 hnm hke hc0c hit
    have A0 := A
    obtain ⟨hl, ⟨hC, b1, b2, b3⟩, ⟨hR, m1, m2, m3, m4⟩, R, W, ⟨g1, g2, g3⟩, q3, q4, q5, q6, q7, q8⟩ := A
    have hln := hX.ln hl
    have hx1 := hX.1
    have hin : kins T (o + 1) = 1 := by
      unfold kins
      rw [if_pos ⟨by omega, Or.inl (by rw [show o + 1 - 1 = o by omega]; exact h43)⟩]
    show kR (D + 1) 68 b68_18 _ _ _ _
    refine kR.s rfl rfl ?_
    refine kR.zeq (by decide) (by decide) (fun q => absurd q (by decide)) (fun _ => ?_)
    refine kR.s rfl rfl ?_
    refine kR.si rfl ?_
    refine kR.jge (by omega) (by omega) (by omega) (by omega) (fun q => absurd q (by omega)) (fun _ => ?_)
    refine kR.s rfl rfl ?_
    refine kR.gr (a := 54) (b := 20) (k := 1) (by omega) rfl rfl rfl (by decide) (by decide) rfl ?_
    refine kR.s rfl rfl ?_
    refine kR.s rfl rfl ?_
    refine kR.s rfl rfl ?_
    refine kR.s rfl rfl ?_
    refine kR.s rfl rfl ?_
    refine kR.add ?_
    refine kR.s rfl rfl ?_
    refine kR.c rfl rfl (IH S T a c u e A0 hs hin hnm) (fun r hr => ?_)
    rcases hr with ⟨v, S', T', a', c', u', e', hr, hst, A1, s4, s27, hvc, hnm', fx, hcc, hee, haa, kp, fm, ft, hsub⟩ | ⟨hth, T', hst, hw, ft⟩
    · subst hr
      show kR (D + 1) 68 _ _ (Value.int (Int32.ofInt (v : Int)) :: _) (sz, hp 57 E S') _
      have A1' := A1
      obtain ⟨_, ⟨hC', b1', b2', b3'⟩, ⟨hR', m1', m2', m3', m4'⟩, R', W', ⟨g1', g2', g3'⟩, q3', q4', q5', q6', q7', q8'⟩ := A1
      have h43' : T' 43 o = 3 := by rw [(kp.1 o (by omega)).1]; exact h43
      have h44' : T' 44 o = (c0 : Int) := by rw [(kp.1 o (by omega)).2.1]; exact h44
      have h21' : S' 21 c0 = 4 := by rw [fx.1 c0 hc0c]; exact h21
      have W0 := W'
      obtain ⟨⟨w1, w2, w3⟩, _⟩ := W0
      have R0 := R'
      obtain ⟨⟨r1, r2, r3, r4, r5, r6⟩, _⟩ := R0
      refine kR.c0 rfl rfl (kR.up (c_39 (S := S') (o := c0) (k := -1) (v := v) (n := e') hc0 (by omega) r5 (by omega)) (by omega)) ?_
      have hin' : kins T' (o + 1) = 1 := by
        unfold kins
        rw [if_pos ⟨by omega, Or.inl (by rw [show o + 1 - 1 = o by omega]; exact h43')⟩]
      have kref := c_142_1 (S := T') (E := E) (sz := szT) (m := 53) ⟨by omega, by omega⟩ hX hR' m3' (by omega) m4' q7' (v := v) (n2 := e') (d := c0) (o := o + 1) s27 r6 (by omega) q4' (by omega) (by rw [show o + 1 - 1 = o by omega]; exact h44') hc0 (by rw [show o + 1 - 1 = o by omega]; exact h43') q3'
      have hM : ∀ Q, kR 8 142 (blk 142 0) (kent 142 [.ref 30]) [] (szT, hp 53 E T') (fun r => ∃ T', r = (.inl none, (szT, hp 53 E T')) ∧ kM szT E x1 T' Q) → kM szT E x1 T' Q := fun Q q => kM_4i q4' (by omega) g3' hin' q3' s4 q
      obtain ⟨RX, WX⟩ := R'.entry (X := kapm2 T' (o + 1) e' v c0) (o := c0) (v := v) (k := -1) W' (by omega) (by omega) hvc (by omega) (fun _ => rfl) (fun z => absurd z (by omega)) (by have z := kapm2_et (T := T') (o := o + 1) (n := e') (v := v) (d := c0); rw [show o + 1 - 1 = o by omega, if_neg (by omega)] at z; exact z) ⟨fun _ _ _ => rfl, fun _ _ _ => rfl, val_nokey W W' fx hsub, fun _ => rfl⟩
      have hfx2 : kFx S (kade S' c0 (-1) v e') c e := fx.tr (kade_fx (by omega) r5 (val_new hsub)) (Nat.le_refl _) hee
      have hit2 : ∃ i, kIt (kSub (kade S' c0 (-1) v e') d) (kade S' c0 (-1) v e') c0 i (c0 + 1) e0 c' (e' + 1) := by
        obtain ⟨i, hi⟩ := hit
        have z := hi.fx hfx2 hc0c (Nat.le_refl _) (Nat.le_refl _)
        refine ⟨i + 1, kIt_snoc i (c0 + 1) e0 c e z c c' e' v (Or.inl ⟨h21', rfl, by show (if e' = e' then (-1 : Int) else _) = _; rw [if_pos rfl]⟩) ?_ (by show (if e' = e' then (c0 : Int) else _) = _; rw [if_pos rfl]) (by show (if e' = e' then (v : Int) else _) = _; rw [if_pos rfl])⟩
        rcases hsub with ⟨h1, h2⟩ | h1
        · exact Or.inl ⟨h1, h2.ade (Nat.le_refl _)⟩
        · exact Or.inr ⟨h1.1, h1.2.1, h1.2.2.1⟩
      have hP : a' ≤ kw (fun i => decide (t i = 32)) (kre t n l) a' ∧ (a' ≤ kre t n l → kw (fun i => decide (t i = 32)) (kre t n l) a' ≤ kre t n l) := kw_rng
      have kcls := c_71 (S := kade S' c0 (-1) v e') (E := E) (sz := sz) hX (by exact hC') (by exact b3') (by omega) (by exact b2') q7' (x := 93) (by omega) (by decide)
      obtain ⟨P, hPd⟩ : ∃ P, P = kw (fun i => decide (t i = 32)) (kre t n l) a' := ⟨_, rfl⟩
      rw [← hPd] at hP kcls kref
      have hGs : kGs (kade S' c0 (-1) v e') (kapm2 T' (o + 1) e' v c0) := ⟨g1', g2', g3'⟩
      refine kR.s rfl rfl ?_
      refine kR.bi rfl ?_
      refine kR.c rfl rfl (kR.up kcls (by omega)) (fun r hr => ?_)
      by_cases p1 : kch t (kre t n l) P = 93
      · have hr := hr.1 p1
        subst hr
        show kR (D + 1) 68 _ _ (Value.int (Int32.ofInt 0) :: _) (sz, hp 57 E _) _
        refine kR.s rfl rfl ?_
        refine kR.inc rfl ?_
        refine kR.g rfl ?_
        show kR (D + 1) 68 b68_18 _ _ _ _
        refine kR.s rfl rfl ?_
        refine kR.zeq (by decide) (by decide) (fun _ => ?_) (fun q => absurd rfl q)
        show kR (D + 1) 68 b68_60 _ _ _ _
        refine kR.s rfl rfl ?_
        refine kR.ret rfl rfl ?_
        have hPl : P < kre t n l := kch_lt (t := t) (by rw [p1]; decide)
        have hstp := hst.tr (kStep.of (x1 := x1) hM (kR.up (kR.wk kref (fun u hu => hu.1 p1)) (by decide)))
        refine Or.inl ⟨_, _, P + 1, c', u', e' + 1, rfl, hstp, ⟨hl, ⟨hC', b1', rfl, b3'⟩, ⟨hR', m1', m2', m3', rfl⟩, RX, WX, hGs, q3', by show (((o + 1 - 1 : Nat) : Nat) : Int) = _; rw [show o + 1 - 1 = o by omega], by omega, by omega, by omega, fun i hi => q8' i (by omega)⟩, rfl, rfl, hnm', (hfx2.w (by decide)).w (by decide), hcc, by omega, row_c1 haa hP.1, ⟨fun i hi => kp.1 i (by omega), kp.2⟩, (fm.tr kade_fm).tr ((kFm.rf.w (by decide)).w (by decide)), ?_, by obtain ⟨i, hi⟩ := hit2; exact ⟨i, hi.fx (K := c') (M := e' + 1) ((kFx.rf.w (by decide)).w (by decide)) (by omega) (Nat.le_refl _) (Nat.le_refl _)⟩⟩
        exact ft.tr ((((((((((kFt.rf.a (by decide)).a (by decide)).a (by decide)).w (by decide)).a (by decide)).w (by decide)).w (by decide)).w (by decide)).w (by decide)).w (by decide))
      · by_cases p2 : kch t (kre t n l) P = 44
        · have hr := hr.2.1 p2
          subst hr
          show kR (D + 1) 68 _ _ (Value.int (Int32.ofInt 1) :: _) (sz, hp 57 E _) _
          refine kR.s rfl rfl ?_
          refine kR.inc rfl ?_
          refine kR.g rfl ?_
          have hPl : P < kre t n l := kch_lt (t := t) (by rw [p2]; decide)
          have hP2 : P + 1 ≤ kw (fun i => decide (t i = 32)) (kre t n l) (P + 1) ∧ (P + 1 ≤ kre t n l → kw (fun i => decide (t i = 32)) (kre t n l) (P + 1) ≤ kre t n l) := kw_rng
          obtain ⟨P2, hP2d⟩ : ∃ P2, P2 = kw (fun i => decide (t i = 32)) (kre t n l) (P + 1) := ⟨_, rfl⟩
          rw [← hP2d] at hP2 kref ⊢
          have hstp := hst.tr (kStep.of (x1 := x1) hM (kR.up (kR.wk kref (fun u hu => hu.2.1 p2)) (by decide)))
          have hft := ft.tr (((((((((((kFt.rf (T := T')).a (a := 39) (k := e') (v := (c0 : Int)) (by decide)).a (a := 40) (k := e') (v := (if T' 43 (o + 1 - 1) = 2 ∨ T' 43 (o + 1 - 1) = 4 then T' 46 (o + 1 - 1) else -1)) (by decide)).a (a := 41) (k := e') (v := (v : Int)) (by decide)).w (k := 15) (v := (e' : Int) + 1) (by decide)).a (a := 37) (k := c0) (v := T' 37 c0 + 1) (by decide)).w (k := 21) (v := (P : Int)) (by decide)).w (k := 21) (v := (P : Int) + 1) (by decide)).w (k := 19) (v := 0) (by decide)).w (k := 21) (v := (P2 : Int)) (by decide)).w (k := 20) (v := 2) (by decide))
          have hfm := (fm.tr (kade_fm (o := c0) (k := -1) (v := v) (n := e'))).tr (((kFm.rf.w (a := 53) (k := 2) (v := (P : Int)) (by decide)).w (a := 53) (k := 2) (v := (P : Int) + 1) (by decide)).w (a := 53) (k := 2) (v := (P2 : Int)) (by decide))
          have zz := ih (kre t n l - P2) (row_lt hj haa.1 hP.1 hP2.1 hPl) P2 c' u' (e' + 1) (k + 1) (ku (ku (ku (kade S' c0 (-1) v e') 53 2 (P : Int)) 53 2 ((P : Int) + 1)) 53 2 (P2 : Int)) (ku (ku (ku (ku (ku (kapm2 T' (o + 1) e' v c0) 30 21 (P : Int)) 30 21 ((P : Int) + 1)) 30 19 0) 30 21 (P2 : Int)) 30 20 2) rfl ⟨hl, ⟨hC', b1', rfl, b3'⟩, ⟨hR', m1', m2', m3', rfl⟩, RX, WX, hGs, rfl, q4', q5', by omega, by omega, q8'⟩ rfl h43' h44' h21' hnm' (by omega) (by omega) (by obtain ⟨i, hi⟩ := hit2; exact ⟨i, hi.fx (K := c') (M := e' + 1) (((kFx.rf.w (by decide)).w (by decide)).w (by decide)) (by omega) (Nat.le_refl _) (Nat.le_refl _)⟩)
          refine kR.wk zz (fun r hr => ?_)
          rcases hr with ⟨S'', T'', a'', c'', u'', e'', h1, h2, h3, h4, h5, h6, h7, h8, h9, h10, h11, h12, h13, h14⟩ | ⟨h1, T'', h2, h3, h4⟩
          · exact Or.inl ⟨S'', T'', a'', c'', u'', e'', h1, hstp.tr h2, h3, h4, h5, h6, (((hfx2.w (by decide)).w (by decide)).w (by decide)).tr h7 hcc (by omega), by omega, by omega, row_c2 haa hP.1 hP2.1 h10, (show kKp T _ o from ⟨fun i hi => kp.1 i (by omega), kp.2⟩).tr h11 (Nat.le_refl _), hfm.tr h12, hft.tr h13, h14⟩
          · exact Or.inr ⟨h1.to hfm, T'', hstp.tr h2, h3, hft.tr h4⟩
        · have hr := hr.2.2 p1 p2
          have hfm := (fm.tr (kade_fm (o := c0) (k := -1) (v := v) (n := e'))).tr (kFm.rf.w (a := 53) (k := 2) (v := (P : Int)) (by decide))
          have hth : kTh sz E S r := ⟨_, hr, hfm⟩
          refine hth.tag rfl (Or.inr ⟨hth, _, hst.tr (kStep.of (x1 := x1) hM (kR.up (kR.wk kref (fun u hu => hu.2.2 p1 p2)) (by decide))), rfl, ?_⟩)
          exact ft.tr ((((((((((kFt.rf.a (by decide)).a (by decide)).a (by decide)).w (by decide)).a (by decide)).w (by decide)).w (by decide)).w (by decide)).w (by decide)).w (by decide))
    · exact hth.tag rfl (Or.inr ⟨hth, T', hst, hw, ft⟩)
end KSR2
