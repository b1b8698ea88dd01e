/-! The walk's beginning; the outermost block, side by side. -/
theorem krun_up {n d y : Nat} {cs : List kI} {ls st : List Value} {h : kH} {r : kO × kH} (k : krun n d y cs ls st h = some r) : ∀ m, krun (n + m) d y cs ls st h = some r
  | 0 => k
  | m + 1 => krun_mono (n + m) d y cs ls st h r (krun_up k m)
theorem krun_det {n n' d y : Nat} {cs : List kI} {ls st : List Value} {h : kH} {r r' : kO × kH} (k : krun n d y cs ls st h = some r) (k' : krun n' d y cs ls st h = some r') : r = r' := by
  have h1 := krun_up k n'
  have h2 := krun_up k' n
  rw [Nat.add_comm n' n, h1] at h2
  exact Option.some.inj h2
theorem kR.all {D y : Nat} {cs : List kI} {ls st : List Value} {h : kH} {α : Type} {P : α → Prop} {Q : α → kO × kH → Prop} (x0 : α) (h0 : P x0) (k : ∀ x, P x → kR D y cs ls st h (Q x)) : kR D y cs ls st h (fun r => ∀ x, P x → Q x r) := by
  obtain ⟨n, r, h1, h2⟩ := k x0 h0
  refine ⟨n, r, h1, fun x hx => ?_⟩
  obtain ⟨n', r', g1, g2⟩ := k x hx
  rw [krun_det (h1 D (Nat.le_refl _)) (g1 D (Nat.le_refl _))]
  exact g2
/-- the reference's walk goes from T to T' -/
def kWk (sz : Nat × Nat) (E : Nat → kC) (T T' : Nat → Nat → Int) : Prop := kR 10 144 (blk 144 0) (kent 144 [.ref 30]) [] (sz, hp 53 E T) (fun r => r = (.inl none, (sz, hp 53 E T')))
def ki0 (T : Nat → Nat → Int) : Nat → Nat → Int := ku (ku (ku (ku (ku (ku (ku T 30 8 0) 30 14 0) 30 15 0) 30 19 0) 30 26 (-1)) 30 28 0) 30 29 0
def kb0 (T : Nat → Nat → Int) : Nat → Nat → Int := ku (kup (ki0 T) 42 (fun k => if k < 26 then 0 else T 42 k)) 30 24 (-1)
section KOU
variable {sz szT : Nat × Nat} {E : Nat → kC} {x1 : Int} {S T : Nat → Nat → Int} {t : Nat → Int} {n L : Nat}
theorem l_144 {Q : kO × kH → Prop} : ∀ (j i : Nat) (X : Nat → Nat → Int), 26 - i = j → i ≤ 26 → (∀ k, k < i → X 42 k = 0) → (∀ Y, (∀ k, k < 26 → Y 42 k = 0) → (∀ k, 26 ≤ k → Y 42 k = X 42 k) → (∀ b, b ≠ 42 → Y b = X b) → kR 10 144 (blk 144 56) [.ref 30, .int (Int32.ofInt ((26 : Nat) : Int))] [] (sz, hp 53 E Y) Q) → kR 10 144 (blk 144 37) [.ref 30, .int (Int32.ofInt (i : Int))] [] (sz, hp 53 E X) Q := by
  intro j
  induction j with
  | zero =>
    intro i X hj hi h0 h
    have e : i = 26 := by omega
    subst e
    show kR 10 144 b144_37 _ _ _ _
    refine kR.s rfl rfl ?_
    refine kR.bi rfl ?_
    refine kR.jge (by omega) (by omega) (by omega) (by omega) (fun q1 => ?_) (fun q1 => absurd q1 (by omega))
    exact h X h0 (fun _ _ => rfl) (fun _ _ => rfl)
  | succ j ih =>
    intro i X hj hi h0 h
    show kR 10 144 b144_37 _ _ _ _
    refine kR.s rfl rfl ?_
    refine kR.bi rfl ?_
    refine kR.jge (by omega) (by omega) (by omega) (by omega) (fun q1 => absurd q1 (by omega)) (fun q1 => ?_)
    refine kR.s rfl rfl ?_
    refine kR.gr (a := 30) (b := 42) (k := 25) (by omega) rfl rfl rfl (by decide) (by decide) rfl ?_
    refine kR.s rfl rfl ?_
    refine kR.s rfl rfl ?_
    refine kR.ist (a := 42) (by omega) rfl (by decide) (by omega) (by omega) ?_
    refine kR.inc rfl ?_
    refine kR.g rfl ?_
    refine ih (i + 1) (ku X 42 i 0) (by omega) (by omega) (fun k hk => ?_) (fun Y h1 h2 h3 => h Y h1 (fun k hk => ?_) (fun b hb => (h3 b hb).trans (if_neg hb)))
    · show (if k = i then (0 : Int) else X 42 k) = 0
      by_cases e : k = i
      · rw [if_pos e]
      · rw [if_neg e]
        exact h0 k (by omega)
    · rw [h2 k hk]
      show (if k = i then (0 : Int) else X 42 k) = X 42 k
      rw [if_neg (by omega)]
theorem walk {Q : kO × kH → Prop} {k : Nat} (hX : kTx t n L) (hR : kRt T t n) (hk : k = kVd t n L 0) (h1 : k < L → kM sz E (klb t n k : Int) (ku (kgom (kb0 T) t n k) 30 20 0) Q) (h2 : L ≤ k → Q (.inl none, (sz, hp 53 E (ku (kmk (kb0 T) 0 0) 30 27 0)))) : kR 10 144 (blk 144 0) (kent 144 [.ref 30]) [] (sz, hp 53 E T) Q := by
  have hm : 53 ≤ 53 ∧ 53 ≤ 57 := by omega
  have hx1 := hX.1
  have hkr := kVd_rng (t := t) (n := n) (L := L) (f := 0) (by omega)
  rw [← hk] at hkr
  show kR 10 144 b144_0 _ _ _ _
  refine kR.s rfl rfl ?_
  refine kR.s rfl rfl ?_
  refine kR.pi (a := 30) (k := 8) (by omega) rfl rfl rfl (by decide) (by decide) rfl rfl ?_
  refine kR.s rfl rfl ?_
  refine kR.s rfl rfl ?_
  refine kR.pi (a := 30) (k := 14) (by omega) rfl rfl rfl (by decide) (by decide) rfl rfl ?_
  refine kR.s rfl rfl ?_
  refine kR.s rfl rfl ?_
  refine kR.pi (a := 30) (k := 15) (by omega) rfl rfl rfl (by decide) (by decide) rfl rfl ?_
  refine kR.s rfl rfl ?_
  refine kR.s rfl rfl ?_
  refine kR.pi (a := 30) (k := 19) (by omega) rfl rfl rfl (by decide) (by decide) rfl rfl ?_
  refine kR.s rfl rfl ?_
  refine kR.s rfl rfl ?_
  refine kR.pi (a := 30) (k := 26) (by omega) rfl rfl rfl (by decide) (by decide) rfl rfl ?_
  refine kR.s rfl rfl ?_
  refine kR.s rfl rfl ?_
  refine kR.pi (a := 30) (k := 28) (by omega) rfl rfl rfl (by decide) (by decide) rfl rfl ?_
  refine kR.s rfl rfl ?_
  refine kR.s rfl rfl ?_
  refine kR.pi (a := 30) (k := 29) (by omega) rfl rfl rfl (by decide) (by decide) rfl rfl ?_
  refine kR.s rfl rfl ?_
  refine kR.s rfl rfl ?_
  refine kR.n ?_
  refine l_144 26 0 (ki0 T) rfl (by omega) (fun k hk => by omega) (fun Y y1 y2 y3 => ?_)
  have hY : ku Y 30 24 (-1) = kb0 T := by
    have e : Y = kup (ki0 T) 42 (fun k => if k < 26 then 0 else T 42 k) := by
      funext b k
      by_cases hb : b = 42
      · subst hb
        show _ = (if k < 26 then 0 else T 42 k)
        by_cases hk : k < 26
        · rw [if_pos hk]
          exact y1 k hk
        · rw [if_neg hk]
          exact y2 k (by omega)
      · rw [y3 b hb]
        show _ = (if b = 42 then _ else ki0 T b) k
        rw [if_neg hb]
    rw [e]
    rfl
  have hR0 : kRt (kb0 T) t n := hR
  show kR 10 144 b144_56 _ _ _ _
  refine kR.s rfl rfl ?_
  refine kR.s rfl rfl ?_
  refine kR.pi (a := 30) (k := 24) (by omega) rfl rfl rfl (by decide) (by decide) rfl rfl ?_
  rw [hY]
  have k106 := c_106 (S := kb0 T) (E := E) (sz := sz) hm hX hR0 (l := 0) (by omega) rfl
  have k106' : kR 1 106 (blk 106 0) (kent 106 [.ref 30]) [] (sz, hp 53 E (kb0 T)) (fun r => r = (.inl (some (.int (Int32.ofInt (if k < L then (klb t n k : Int) else -1)))), (sz, hp 53 E (kb0 T)))) := by
    rw [hk]
    exact k106
  refine kR.s rfl rfl ?_
  rcases Nat.lt_or_ge k L with hkL | hkL
  · rw [if_pos hkL] at k106'
    have hlk := hX.ln hkL
    refine kR.cv (v := .int (Int32.ofInt (klb t n k : Int))) rfl rfl (kR.up k106' (by decide)) ?_
    refine kR.s rfl rfl ?_
    refine kR.s rfl rfl ?_
    refine kR.zge (by omega) (by omega) (fun _ => ?_) (fun q => absurd q (by omega))
    show kR 10 144 b144_80 _ _ _ _
    refine kR.s rfl rfl ?_
    refine kR.s rfl rfl ?_
    refine kR.c0 rfl rfl (kR.up (c_107 (S := kb0 T) (E := E) (sz := sz) hm hX hR0 hkL) (by decide)) ?_
    refine kR.s rfl rfl ?_
    refine kR.s rfl rfl ?_
    refine kR.pi (a := 30) (k := 20) (by omega) rfl rfl rfl (by decide) (by decide) rfl rfl ?_
    refine kR.n ?_
    exact kR.up (h1 hkL) (by decide)
  · rw [if_neg (by omega)] at k106'
    refine kR.cv (v := .int (Int32.ofInt (-1))) rfl rfl (kR.up k106' (by decide)) ?_
    refine kR.s rfl rfl ?_
    refine kR.s rfl rfl ?_
    refine kR.zge (by decide) (by decide) (fun q => absurd q (by decide)) (fun _ => ?_)
    refine kR.s rfl rfl ?_
    refine kR.s rfl rfl ?_
    refine kR.s rfl rfl ?_
    refine kR.cv (v := .int (Int32.ofInt ((0 : Nat) : Int))) rfl rfl (kR.up (c_110 (S := kb0 T) (E := E) (sz := sz) hm (k := 0) (c := 0) (o := 0) rfl (by omega) rfl (by omega) (by show -1 ≤ (-1 : Int) ∧ (-1 : Int) < 26; omega) (by omega)) (by decide)) ?_
    refine kR.pi (a := 30) (k := 27) (by omega) rfl rfl rfl (by decide) (by decide) rfl rfl ?_
    refine kR.ret rfl rfl ?_
    exact h2 hkL
/-- how both end: alike, or one throws and the other is wrong -/
def kOu (sz szT : Nat × Nat) (E : Nat → kC) (S T : Nat → Nat → Int) (r : kO × kH) : Prop := (∃ (S' T' : Nat → Nat → Int) (c u e : Nat), r = (.inl none, (sz, hp 57 E S')) ∧ kWk szT E T T' ∧ T' 30 19 = 0 ∧ kRel S' T' c u e ∧ kWf S' c u e ∧ kSub S' 8 0 c 0 e ∧ 1 ≤ c ∧ (u + e ≤ 200 ∧ e ≤ 100) ∧ (∀ j, j < 200 → -2147483648 ≤ S' 26 j ∧ S' 26 j < 2147483648) ∧ kFm S S' ∧ kFt T T') ∨ (kTh sz E S r ∧ ∃ T', kWk szT E T T' ∧ T' 30 19 = 1 ∧ kFt T T')
theorem kb0_ft : kFt T (kb0 T) := by
  refine ⟨fun a e1 e2 => ?_, fun k hk => ?_⟩
  · unfold kb0 ki0 ku kup
    rw [if_neg e1, if_neg (by omega), if_neg e1, if_neg e1, if_neg e1, if_neg e1, if_neg e1, if_neg e1, if_neg e1]
  · unfold kb0 ki0 ku kup
    simp only [if_true, if_neg (show ¬ (30 : Nat) = 42 by decide)]
    rw [if_neg (by omega), if_neg (by omega), if_neg (by omega), if_neg (by omega), if_neg (by omega), if_neg (by omega), if_neg (by omega), if_neg (by omega)]
theorem sim_outer (hX : kTx t n L) (hWd : kWrd E) (hC : kCt S t n L) (h5 : S 20 5 = 0) (h7 : S 20 7 = 0) (h11 : S 20 11 = 0) (h54 : S 54 3 = -1) (h55 : ∀ j, j < 26 → S 55 j = -1) (hG1 : ∀ j, j < 200 → -2147483648 ≤ S 26 j ∧ S 26 j < 2147483648) (hR : kRt T t n) (hG2 : ∀ j, j < 200 → -2147483648 ≤ T 38 j ∧ T 38 j < 2147483648) (hG3 : ∀ j, j < 9 → -2147483648 ≤ T 43 j ∧ T 43 j < 2147483648) : kR 39 90 (blk 90 0) (kent 90 [.ref 56]) [] (sz, hp 57 E S) (kOu sz szT E S T) := by
  have hm : 53 ≤ 53 ∧ 53 ≤ 57 := by omega
  have hx1 := hX.1
  have hx2 := hX.2.2.2.1
  obtain ⟨k, hk⟩ : ∃ k, k = kVd t n L 0 := ⟨_, rfl⟩
  have hkr := kVd_rng (t := t) (n := n) (L := L) (f := 0) (by omega)
  rw [← hk] at hkr
  have k48 := c_48 (S := S) (E := E) (sz := sz) hX hC (f := 0) (by omega)
  have k48' : kR 2 48 (blk 48 0) (kent 48 [.ref 53, .int (Int32.ofInt ((0 : Nat) : Int))]) [] (sz, hp 57 E S) (fun r => r = (.inl none, (sz, hp 57 E (kgo S t n L k)))) := by
    rw [hk]
    exact k48
  have k49 := c_49 (S := kgo S t n L k) (E := E) (sz := sz) hX (by exact hC) (l := k) rfl (by omega)
  have R0 : kRel (kgo S t n L k) (kb0 T) 0 0 0 := ⟨⟨h5, rfl, h7, rfl, h11, rfl⟩, fun j hj => by omega, fun j hj => by omega, fun j hj => by omega, fun j hj => by
    show S 55 j + 1 = (if j < 26 then 0 else T 42 j)
    rw [if_pos hj, h55 j hj]
    rfl, h54⟩
  have W0 : kWf (kgo S t n L k) 0 0 0 := ⟨⟨by omega, by omega, by omega, fun j hj => by omega, fun i j hi => by omega, fun i j hi => by omega, fun j hj => by omega, fun i j hij hj => by omega⟩, fun j hj => by omega, fun j hj => by omega, fun j hj => by
    show -1 ≤ S 55 j ∧ S 55 j < ((0 : Nat) : Int)
    rw [h55 j hj]
    omega, by
    show -1 ≤ S 54 3 ∧ S 54 3 < 26
    omega⟩
  have G0 : kGs (kgo S t n L k) (kb0 T) := ⟨hG1, hG2, hG3⟩
  have hR0 : kRt (kb0 T) t n := hR
  show kR 39 90 b90_0 _ _ _ _
  refine kR.s rfl rfl ?_
  refine kR.gr (a := 56) (b := 53) (k := 2) (by omega) rfl rfl rfl (by decide) (by decide) rfl ?_
  refine kR.s rfl rfl ?_
  refine kR.c0 rfl rfl (kR.up k48' (by decide)) ?_
  refine kR.s rfl rfl ?_
  refine kR.gr (a := 56) (b := 53) (k := 2) (by omega) rfl rfl rfl (by decide) (by decide) rfl ?_
  rcases Nat.lt_or_ge k L with hkL | hkL
  · rw [if_neg (by omega)] at k49
    refine kR.cv (v := .int (Int32.ofInt 0)) rfl rfl (kR.up k49 (by decide)) ?_
    refine kR.zeq (by decide) (by decide) (fun _ => ?_) (fun q => absurd rfl q)
    show kR 39 90 b90_30 _ _ _ _
    refine kR.s rfl rfl ?_
    refine kR.s rfl rfl ?_
    refine kR.s rfl rfl ?_
    have hlk := hX.ln hkL
    have A : kAt (kgo S t n L k) (ku (kgom (kb0 T) t n k) 30 20 0) t n L k (krb t n k) 0 0 0 0 := by
      refine ⟨hkL, ⟨hC, rfl, ?_, ?_⟩, ⟨hR0, rfl, rfl, rfl, rfl⟩, R0, W0, G0, rfl, rfl, by omega, by omega, by omega, fun j hj => by omega⟩
      · show (if L ≤ k then (n : Int) else (krb t n k : Int)) = _
        rw [if_neg (by omega)]
      · show (if L ≤ k then (n : Int) else (kre t n k : Int)) = _
        rw [if_neg (by omega)]
    have k91 := sim_block (sz := sz) (szT := szT) (E := E) (x1 := (klb t n k : Int)) hX hWd 8 0 rfl _ _ k (krb t n k) 0 0 0 A hlk.1 rfl rfl (fun j hj => by omega)
    have hft0 : kFt T (ku (kgom (kb0 T) t n k) 30 20 0) := (kb0_ft.gom).w (by decide)
    have hwk : ∀ T', kStep szT E (klb t n k : Int) (ku (kgom (kb0 T) t n k) 30 20 0) T' → kM szT E (klb t n k : Int) T' (fun r => r = (.inl none, (szT, hp 53 E T'))) → kWk szT E T T' := fun T' hs hM => walk hX hR hk (fun _ => hs _ hM) (fun h => absurd h (by omega))
    refine kR.c rfl rfl (kR.up k91 (by decide)) (fun r hr => ?_)
    rcases hr with ⟨v, S', T', f, k1, c', u', e', hr, hst, B, hlf, hvc, hnm', fx1, hcc', hee, kl, fm1, ft, hsub⟩ | ⟨hth, T', hst, hw, ft⟩
    · subst hr
      show kR 39 90 _ _ (Value.int (Int32.ofInt (v : Int)) :: _) (sz, hp 57 E S') _
      have fm : kFm S S' := (kFm.rf.go).tr fm1
      obtain ⟨⟨hf, hk1⟩, ⟨hC', c1', c2', c3'⟩, ⟨hR', h24', p, r, hp1, hr1, hpl, hrl, h01, hin⟩, R', W', ⟨g1', g2', g3'⟩, q3', q20', q27', q4', q5', q6', q8', qL'⟩ := B
      have hkl := klb_le hX hf
      have hkr1 := kVd_rng (t := t) (n := n) hf
      rw [← hk1] at hkr1
      have hstp : ∀ T1, kR 6 143 (blk 143 0) (kent 143 [.ref 30]) [] (szT, hp 53 E T') (fun r => r = (.inl none, (szT, hp 53 E T1))) → kStep szT E (klb t n k : Int) (ku (kgom (kb0 T) t n k) 30 20 0) T1 := fun T1 kk => hst.tr (kStep.of (y := 143) (fun Q q => kM_4b q4' q5' g3' qL'.ins q3' q20' q) (kR.up kk (by decide)))
      have k49' := c_49 (S := S') (E := E) (sz := sz) hX hC' (l := k1) c1' (by omega)
      refine kR.s rfl rfl ?_
      refine kR.s rfl rfl ?_
      refine kR.gr (a := 56) (b := 53) (k := 2) (by omega) rfl rfl rfl (by decide) (by decide) rfl ?_
      rcases Nat.lt_or_ge k1 L with hkL1 | hkL1
      · rw [if_neg (by omega)] at k49'
        refine kR.cv (v := .int (Int32.ofInt 0)) rfl rfl (kR.up k49' (by decide)) ?_
        refine kR.zne (by decide) (by decide) (fun q => absurd rfl q) (fun _ => ?_)
        refine kR.t rfl rfl (Nat.le_of_ble_eq_true rfl) ?_
        exact Or.inr ⟨⟨_, rfl, fm⟩, _, hwk _ (hstp _ (c_143_finmore0 (S := T') (E := E) (sz := szT) hm hX hR' hp1 hr1 ⟨hpl, hrl⟩ rfl h01 q3' (l := f) hf h24' hk1 q4' hin hkL1)) (kM_w rfl rfl), rfl, hft0.tr (ft.tr ((((kFt.rf.w (by decide)).w (by decide)).w (by decide)).w (by decide)))⟩
      · rw [if_pos (by omega)] at k49'
        refine kR.cv (v := .int (Int32.ofInt 1)) rfl rfl (kR.up k49' (by decide)) ?_
        refine kR.zne (by decide) (by decide) (fun _ => ?_) (fun q => absurd q (by decide))
        show kR 39 90 b90_57 _ _ _ _
        refine kR.ret rfl rfl ?_
        refine Or.inl ⟨S', _, c', u', e', rfl, hwk _ (hstp _ (c_143_finnone0 (S := T') (E := E) (sz := szT) hm hX hR' hp1 hr1 ⟨hpl, hrl⟩ rfl h01 q3' (l := f) hf h24' hk1 q4' hin hkL1)) (kM_5 rfl rfl rfl), rfl, R', W', ?_, by omega, ⟨by omega, by omega⟩, g1', fm, hft0.tr (ft.tr ((((kFt.rf.w (by decide)).w (by decide)).w (by decide)).w (by decide)))⟩
        rcases hsub with ⟨_, h2⟩ | ⟨h2, _⟩
        · exact h2
        · omega
    · have hth2 : kTh sz E S r := hth.to (kFm.rf.go)
      exact hth2.tag rfl (Or.inr ⟨hth2, T', hwk T' hst (kM_w hw rfl), hw, hft0.tr ft⟩)
  · rw [if_pos (by omega)] at k49
    refine kR.cv (v := .int (Int32.ofInt 1)) rfl rfl (kR.up k49 (by decide)) ?_
    refine kR.zeq (by decide) (by decide) (fun q => absurd q (by decide)) (fun _ => ?_)
    refine kR.s rfl rfl ?_
    refine kR.gr (a := 56) (b := 54) (k := 3) (by omega) rfl rfl rfl (by decide) (by decide) rfl ?_
    refine kR.s rfl rfl ?_
    refine kR.s rfl rfl ?_
    refine kR.s rfl rfl ?_
    refine kR.cv rfl rfl (kR.up (c_62g (S := kgo S t n L k) (k := 0) (z := 0) (d := 1) (c := 0) (by exact h5) (by omega) (by omega) (by exact W0.2.2.2.2) (by omega)) (by decide)) ?_
    refine kR.s rfl rfl ?_
    refine kR.ret rfl rfl ?_
    obtain ⟨R1, W1⟩ := R0.node W0 (by omega) (by decide) (by decide) (kbeg_ns (S := kgo S t n L k) (k := 0) (z := 0) (c := 0)) (kmk_nt (T := kb0 T) (k := 0) (c := 0))
    refine Or.inl ⟨_, _, 1, 0, 0, rfl, walk hX hR hk (fun h => absurd h (by omega)) (fun _ => rfl), (by show kmk (kb0 T) 0 0 30 19 = 0; rw [kmk_30 (by decide) (by decide)]; rfl), R1, W1, Or.inl ⟨?_, rfl, rfl⟩, by omega, by omega, fun j hj => ?_, ?_, (kb0_ft.mk 0 0).w (by decide)⟩
    · rw [(kbeg_ns (S := kgo S t n L k) (k := 0) (z := 0) (c := 0)).2.2.2.1, if_pos rfl]
      decide
    · rw [(kbeg_ns (S := kgo S t n L k) (k := 0) (z := 0) (c := 0)).2.2.2.2.2.2.2.2.1]
      exact hG1 j hj
    · exact fun b hb => (kbeg_cell (by omega)).trans (kgo_cell (by omega))
end KOU
