/-! The class's load: raw rules, filling, making the readers. -/
section KLD
variable {D y pc x : Nat} {cs : List kI} {ls st : List Value} {r : kO × kH → Prop} {m : Nat} {E : Nat → kC} {S : Nat → Nat → Int} {sz : Nat × Nat}
theorem kR.len {a N : Nat} (ha : a < m) (hq : kTq a = (20, N, [])) (hN : Int32.ofNat N = Int32.ofInt (N : Int)) (kk : kR D y cs ls (.int (Int32.ofInt (N : Int)) :: st) (sz, hp m E S) r) : kR D y ((pc, x, .arraylength) :: cs) ls (.ref a :: st) (sz, hp m E S) r := by
  refine kR.s (ls1 := ls) (st1 := .int (Int32.ofInt (N : Int)) :: st) (h1 := (sz, hp m E S)) ?_ rfl kk
  have e : hp m E S a = kcell a (S a) := hp_at ha
  have e2 : ko_len (sz, hp m E S) (.ref a :: st) = some (.int (Int32.ofNat N) :: st) := by
    show (if 20 ≤ (hp m E S a).1 ∧ (hp m E S a).1 < 24 ∨ (hp m E S a).1 = 50 ∨ (hp m E S a).1 = 52 then some (Value.int (Int32.ofNat (hp m E S a).2.1) :: st) else none) = _
    rw [e]
    unfold kcell
    rw [hq]
    rfl
  show k_st ls (sz, hp m E S) (ko_len (sz, hp m E S) (.ref a :: st)) = _
  rw [e2, hN]
  rfl
theorem kR.gg {a t N q : Nat} {H : Nat → kC} {f : Nat → Value} {v : Value} (hH : H a = (t, N, f)) (hx : x / 100 % 100 = t) (hN : x % 100 < N) (hv : f (x % 100) = v) (kk : kR D y cs ls (v :: st) (sz, H) r) : kR D y ((pc, x, .getfield q) :: cs) ls (.ref a :: st) (sz, H) r := by
  refine kR.s (ls1 := ls) (st1 := v :: st) (h1 := (sz, H)) ?_ rfl kk
  have e2 : kget (sz, H) a x = some v := by
    show (if (H a).1 = x / 100 % 100 ∧ x % 100 < (H a).2.1 then some ((H a).2.2 (x % 100)) else none) = _
    rw [hH, if_pos ⟨hx.symm, hN⟩]
    exact congrArg some hv
  show k_st ls (sz, H) (match kget (sz, H) a x with
    | some v => some (v :: st)
    | none => none) = _
  rw [e2]
  rfl
theorem kR.pw {a t N q : Nat} {H : Nat → kC} {f : Nat → Value} {w : Value} (hH : H a = (t, N, f)) (hx : x / 100 % 100 = t) (hN : x % 100 < N) (hf : kfit (x / 10000) w = true) (kk : kR D y cs ls st (sz, kup H a (t, N, kup f (x % 100) w)) r) : kR D y ((pc, x, .putfield q) :: cs) ls (w :: .ref a :: st) (sz, H) r := by
  refine kR.s (ls1 := ls) (st1 := st) (h1 := (sz, kup H a (t, N, kup f (x % 100) w))) ?_ rfl kk
  have e2 : kput (sz, H) a x w = some (sz, kup H a (t, N, kup f (x % 100) w)) := by
    unfold kput
    show (if (H a).1 = x / 100 % 100 ∧ x % 100 < (H a).2.1 ∧ kfit (x / 10000) w = true then some (sz, kup H a ((H a).1, (H a).2.1, kup (H a).2.2 (x % 100) w)) else none) = _
    rw [hH, if_pos ⟨hx.symm, hN, hf⟩]
  show (match (match kput (sz, H) a x w with
    | some h1 => some (st, h1)
    | none => none) with
    | some q => some (ls, q.1, q.2)
    | none => none) = _
  rw [e2]
theorem kR.l0 {a N : Nat} {H : Nat → kC} {f : Nat → Value} {z : Int64} (hH : H a = (22, N, f)) (hN : 0 < N ∧ N ≤ 100000) (kk : kR D y cs ls st (sz, kup H a (22, N, kup f 0 (.long z))) r) : kR D y ((pc, x, .lastore) :: cs) ls (.long z :: .int (Int32.ofInt 0) :: .ref a :: st) (sz, H) r := by
  refine kR.s (ls1 := ls) (st1 := st) (h1 := (sz, kup H a (22, N, kup f 0 (.long z)))) ?_ rfl kk
  have e2 : ko_lst (sz, H) (.long z :: .int (Int32.ofInt 0) :: .ref a :: st) = some (st, (sz, kup H a (22, N, kup f 0 (.long z)))) := by
    show (if (H a).1 = 22 ∧ kin (Int32.ofInt 0) (H a).2.1 = true then some (st, kast (sz, H) a (Int32.ofInt 0) (.long z)) else none) = _
    have hk : kin (Int32.ofInt 0) N = true := kin_of (z := 0) (n := N) (by omega) (by omega) hN.2
    rw [hH, if_pos ⟨rfl, hk⟩]
    show some (st, (sz, kup H a ((H a).1, (H a).2.1, kup (H a).2.2 ((Int32.ofInt 0).toNatClampNeg) (.long z)))) = _
    rw [hH]
    rfl
  show k_hp ls (ko_lst (sz, H) (.long z :: .int (Int32.ofInt 0) :: .ref a :: st)) = _
  rw [e2]
  rfl
theorem hp_new {f : Nat → Int} : kup (hp m E S) m (kcell m f) = hp (m + 1) E (kup S m f) := by
  funext i
  by_cases hi : i = m
  · subst hi
    simp [kup, hp]
  · have h1 : (i < m + 1) = (i < m) := propext ⟨fun h => by omega, fun h => by omega⟩
    simp [kup, hp, hi, h1]
theorem kup_kup {α : Type} {f : Nat → α} {k : Nat} {v w : α} : kup (kup f k v) k w = kup f k w := by
  funext i
  by_cases hi : i = k
  · simp [kup, hi]
  · simp [kup, hi]
theorem kup_at {α : Type} {f : Nat → α} {k : Nat} {v : α} : kup f k v k = v := if_pos rfl
end KLD
section KLE
variable {m : Nat} {E : Nat → kC} {S : Nat → Nat → Int} {sz : Nat × Nat}
/-- a whole array filled -/
theorem l_180 {a N : Nat} (ha : a < m) (hq : kTq a = (20, N, [])) (hN : N ≤ 1000) {v : Int} {Q : kO × kH → Prop} : ∀ (j i : Nat) (X : Nat → Nat → Int), N - i = j → i ≤ N → (∀ k, k < i → X a k = v) → (∀ Y, (∀ k, k < N → Y a k = v) → (∀ b, b ≠ a → Y b = X b) → Q (.inl none, (sz, hp m E Y))) → kR 0 180 (blk 180 5) [.ref a, .int (Int32.ofInt v), .int (Int32.ofInt (i : Int)), .int (Int32.ofInt (N : Int))] [] (sz, hp m E X) Q := by
  intro j
  induction j with
  | zero =>
    intro i X hj hi h0 h
    have e : i = N := by omega
    subst e
    show kR 0 180 b180_5 _ _ _ _
    refine kR.s rfl rfl ?_
    refine kR.s rfl rfl ?_
    refine kR.jge (by omega) (by omega) (by omega) (by omega) (fun q1 => ?_) (fun q1 => absurd q1 (by omega))
    show kR 0 180 b180_20 _ _ _ _
    refine kR.ret rfl rfl ?_
    exact h X h0 (fun _ _ => rfl)
  | succ j ih =>
    intro i X hj hi h0 h
    show kR 0 180 b180_5 _ _ _ _
    refine kR.s rfl rfl ?_
    refine kR.s rfl rfl ?_
    refine kR.jge (by omega) (by omega) (by omega) (by omega) (fun q1 => absurd q1 (by omega)) (fun q1 => ?_)
    refine kR.s rfl rfl ?_
    refine kR.s rfl rfl ?_
    refine kR.s rfl rfl ?_
    refine kR.ist (a := a) ha hq (by omega) (by omega) (by omega) ?_
    refine kR.inc rfl ?_
    refine kR.g rfl ?_
    refine ih (i + 1) (ku X a i v) (by omega) (by omega) (fun k hk => ?_) (fun Y h1 h2 => h Y h1 (fun b hb => (h2 b hb).trans (if_neg hb)))
    show (kup X a (kup (X a) i v)) a k = v
    rw [kup_at]
    by_cases e : k = i
    · rw [e]
      exact kup_at
    · rw [show kup (X a) i v k = X a k from if_neg e]
      exact h0 k (by omega)
theorem c_180 {a N : Nat} (ha : a < m) (hq : kTq a = (20, N, [])) (hN : N ≤ 1000) (hNN : Int32.ofNat N = Int32.ofInt (N : Int)) {v : Int} {Q : kO × kH → Prop} (h : ∀ Y, (∀ k, k < N → Y a k = v) → (∀ b, b ≠ a → Y b = S b) → Q (.inl none, (sz, hp m E Y))) : kR 0 180 (blk 180 0) (kent 180 [.ref a, .int (Int32.ofInt v)]) [] (sz, hp m E S) Q := by
  show kR 0 180 b180_0 _ _ _ _
  refine kR.s rfl rfl ?_
  refine kR.s rfl rfl ?_
  refine kR.s rfl rfl ?_
  refine kR.len ha hq hNN ?_
  refine kR.s rfl rfl ?_
  refine kR.n ?_
  exact l_180 ha hq hN N 0 S rfl (by omega) (fun k hk => by omega) h
theorem c_34m (hm : 53 ≤ m ∧ m ≤ 57) : kR 0 34 (blk 34 0) (kent 34 [.ref 20]) [] (sz, hp m E S) (fun r => r = (.inl none, (sz, hp m E (ku (ku (ku S 20 5 0) 20 7 0) 20 11 0)))) := by
  show kR 0 34 b34_0 _ _ _ _
  refine kR.s rfl rfl ?_
  refine kR.s rfl rfl ?_
  refine kR.pi (a := 20) (k := 5) (by omega) rfl rfl rfl (by decide) (by decide) rfl rfl ?_
  refine kR.s rfl rfl ?_
  refine kR.s rfl rfl ?_
  refine kR.pi (a := 20) (k := 7) (by omega) rfl rfl rfl (by decide) (by decide) rfl rfl ?_
  refine kR.s rfl rfl ?_
  refine kR.s rfl rfl ?_
  refine kR.pi (a := 20) (k := 11) (by omega) rfl rfl rfl (by decide) (by decide) rfl rfl ?_
  refine kR.ret rfl rfl ?_
  rfl
theorem cell53 : ((5 : Nat), (4 : Nat), kup (kdef 5) 0 (.ref 1)) = kcell 53 (fun _ => 0) := by
  refine Prod.ext rfl (Prod.ext rfl (funext fun k => ?_))
  match k with
  | 0 => rfl
  | 1 => rfl
  | 2 => rfl
  | 3 => rfl
  | k + 4 => rfl
theorem cell54 : ((6 : Nat), (4 : Nat), kup (kup (kup (kup (kdef 6) 2 (.ref 55)) 3 (.int (Int32.ofInt (-1)))) 0 (.ref 53)) 1 (.ref 20)) = kcell 54 (kup (fun _ => 0) 3 (-1)) := by
  refine Prod.ext rfl (Prod.ext rfl (funext fun k => ?_))
  match k with
  | 0 => rfl
  | 1 => rfl
  | 2 => rfl
  | 3 => rfl
  | k + 4 => rfl
theorem cell55 : ((20 : Nat), (26 : Nat), fun _ => Value.int 0) = kcell 55 (fun _ => 0) := by
  refine Prod.ext rfl (Prod.ext rfl (funext fun k => ?_))
  rfl
theorem cell56 : ((7 : Nat), (4 : Nat), kup (kup (kup (kup (kdef 7) 0 (.ref 1)) 1 (.ref 20)) 2 (.ref 53)) 3 (.ref 54)) = kcell 56 (fun _ => 0) := by
  refine Prod.ext rfl (Prod.ext rfl (funext fun k => ?_))
  match k with
  | 0 => rfl
  | 1 => rfl
  | 2 => rfl
  | 3 => rfl
  | k + 4 => rfl
theorem c_47 {s : Nat} : kR 0 47 (blk 47 0) (kent 47 [.ref 53, .ref 1]) [] ((54, s), kup (hp 53 E S) 53 (5, 4, kdef 5)) (fun r => r = (.inl none, ((54, s), hp 54 E (kup S 53 (fun _ => 0))))) := by
  show kR 0 47 b47_0 _ _ _ _
  refine kR.s rfl rfl ?_
  refine kR.p (st1 := []) rfl rfl ?_
  refine kR.s rfl rfl ?_
  refine kR.s rfl rfl ?_
  refine kR.pr (a := 53) (b := 1) kup_at rfl (by decide) rfl (by decide) ?_
  refine kR.ret rfl rfl ?_
  rw [kup_kup]
  show (Sum.inl none, ((54, s), kup (hp 53 E S) 53 (5, 4, kup (kdef 5) 0 (.ref 1)))) = _
  rw [cell53, hp_new]
theorem c_61 {s : Nat} {Q : kO × kH → Prop} (h : ∀ Y, (∀ k, k < 26 → Y 55 k = -1) → Y 54 = kup (fun _ => 0) 3 (-1) → (∀ b, b < 54 → Y b = S b) → Q (.inl none, ((56, s + 26), hp 56 E Y))) : kR 1 61 (blk 61 0) (kent 61 [.ref 54, .ref 53, .ref 20]) [] ((55, s), kup (hp 54 E S) 54 (6, 4, kdef 6)) Q := by
  show kR 1 61 b61_0 _ _ _ _
  refine kR.s rfl rfl ?_
  refine kR.p (st1 := []) rfl rfl ?_
  refine kR.fld (n := 26) rfl (by decide) rfl (by decide) rfl (by decide) (fun _ _ => rfl) rfl (fun _ _ => rfl) rfl ?_
  refine kR.s rfl rfl ?_
  refine kR.s rfl rfl ?_
  refine kR.pw (a := 54) kup_at rfl (by decide) rfl ?_
  refine kR.s rfl rfl ?_
  refine kR.s rfl rfl ?_
  refine kR.pr (a := 54) (b := 53) kup_at rfl (by decide) rfl (by decide) ?_
  refine kR.s rfl rfl ?_
  refine kR.s rfl rfl ?_
  refine kR.pr (a := 54) (b := 20) kup_at rfl (by decide) rfl (by decide) ?_
  have e : kup (kup (kup (kup (kup (hp 54 E S) 55 (20, 26, fun _ => Value.int 0)) 54 (6, 4, kup (kdef 6) (30602 % 100) (.ref 55))) 54 (6, 4, kup (kup (kdef 6) (30602 % 100) (.ref 55)) (603 % 100) (.int (Int32.ofInt (-1))))) 54 (6, 4, kup (kup (kup (kdef 6) (30602 % 100) (.ref 55)) (603 % 100) (.int (Int32.ofInt (-1)))) (30600 % 100) (.ref 53))) 54 (6, 4, kup (kup (kup (kup (kdef 6) (30602 % 100) (.ref 55)) (603 % 100) (.int (Int32.ofInt (-1)))) (30600 % 100) (.ref 53)) (30601 % 100) (.ref 20)) = hp 56 E (kup (kup S 54 (kup (fun _ => 0) 3 (-1))) 55 (fun _ => 0)) := by
    rw [kup_kup, kup_kup, kup_kup]
    show kup (kup (hp 54 E S) 55 (20, 26, fun _ => Value.int 0)) 54 (6, 4, kup (kup (kup (kup (kdef 6) 2 (.ref 55)) 3 (.int (Int32.ofInt (-1)))) 0 (.ref 53)) 1 (.ref 20)) = _
    rw [cell54, cell55]
    funext i
    by_cases h4 : i = 54
    · subst h4
      simp [kup, hp]
    · by_cases h5 : i = 55
      · subst h5
        simp [kup, hp]
      · have h1 : (i < 56) = (i < 54) := propext ⟨fun h => by omega, fun h => by omega⟩
        simp [kup, hp, h4, h5, h1]
  rw [e]
  refine kR.s rfl rfl ?_
  refine kR.gr (a := 54) (b := 55) (k := 2) (by omega) rfl rfl rfl (by decide) (by decide) rfl ?_
  refine kR.s rfl rfl ?_
  refine kR.c rfl rfl (c_180 (a := 55) (N := 26) (v := -1) (Q := fun r => ∃ Y, r = (.inl none, ((56, s + 26), hp 56 E Y)) ∧ (∀ k, k < 26 → Y 55 k = -1) ∧ (∀ b, b ≠ 55 → Y b = kup (kup S 54 (kup (fun _ => 0) 3 (-1))) 55 (fun _ => 0) b)) (by decide) rfl (by decide) rfl (fun Y h1 h2 => ⟨Y, rfl, h1, h2⟩)) (fun r hr => ?_)
  obtain ⟨Y, e1, y1, y2⟩ := hr
  subst e1
  show kR 1 61 _ _ [] ((56, s + 26), hp 56 E Y) _
  refine kR.ret rfl rfl ?_
  refine h Y y1 (y2 54 (by decide)) (fun b hb => ?_)
  rw [y2 b (by omega)]
  show (if b = 55 then _ else (if b = 54 then _ else S b)) = S b
  rw [if_neg (by omega), if_neg (by omega)]
theorem c_89 {s : Nat} : kR 0 89 (blk 89 0) (kent 89 [.ref 56, .ref 1, .ref 20, .ref 53, .ref 54]) [] ((57, s), kup (hp 56 E S) 56 (7, 4, kdef 7)) (fun r => r = (.inl none, ((57, s), hp 57 E (kup S 56 (fun _ => 0))))) := by
  show kR 0 89 b89_0 _ _ _ _
  refine kR.s rfl rfl ?_
  refine kR.p (st1 := []) rfl rfl ?_
  refine kR.s rfl rfl ?_
  refine kR.s rfl rfl ?_
  refine kR.pr (a := 56) (b := 1) kup_at rfl (by decide) rfl (by decide) ?_
  refine kR.s rfl rfl ?_
  refine kR.s rfl rfl ?_
  refine kR.pr (a := 56) (b := 20) kup_at rfl (by decide) rfl (by decide) ?_
  refine kR.s rfl rfl ?_
  refine kR.s rfl rfl ?_
  refine kR.pr (a := 56) (b := 53) kup_at rfl (by decide) rfl (by decide) ?_
  refine kR.s rfl rfl ?_
  refine kR.s rfl rfl ?_
  refine kR.pr (a := 56) (b := 54) kup_at rfl (by decide) rfl (by decide) ?_
  refine kR.ret rfl rfl ?_
  rw [kup_kup, kup_kup, kup_kup, kup_kup]
  show (Sum.inl none, ((57, s), kup (hp 56 E S) 56 (7, 4, kup (kup (kup (kup (kdef 7) 0 (.ref 1)) 1 (.ref 20)) 2 (.ref 53)) 3 (.ref 54)))) = _
  rw [cell56, hp_new]
end KLE
