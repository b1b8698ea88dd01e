/-! The law's beginning. By program (wip/gen/gen38.py). -/
section KST
variable {D y : Nat} {cs : List kI} {ls st : List Value} {r : kO × kH → Prop}
theorem kR.fld {a k t N n s p1 p2 p3 p4 x q tn : Nat} {I J : Instr} {H : Nat → kC} {f : Nat → Value} {v : Value} (hls : ls[0]? = some (.ref a)) (hak : a ≠ k) (hx : x / 100 % 100 = t) (hN : x % 100 < N) (h3 : x / 10000 = 3) (hk : k < 1000000) (hI : ∀ (h : kH) st, ksimple I 0 ls st h = some (ls, .int (Int32.ofNat n) :: st, h)) (kI : kkind I 0 = 0) (hJ : ∀ (h : kH) st, ksimple J 0 ls (.int (Int32.ofNat n) :: st) h = some (ls, .ref h.1.1 :: st, knew h tn n (fun _ => v))) (kJ : kkind J 0 = 0) (kk : kR D y cs ls st ((k + 1, s + n), kup (kup H k (tn, n, fun _ => v)) a (t, N, kup f (x % 100) (.ref k))) r) : kR D y ((p1, 0, .aload_n 0) :: (p2, 0, I) :: (p3, 0, J) :: (p4, x, .putfield q) :: cs) ls st ((k, s), kup H a (t, N, f)) r := by
  refine kR.s (ls1 := ls) (st1 := .ref a :: st) (h1 := ((k, s), kup H a (t, N, f))) (by simp [ksimple, kl_a, hls, k_st]) rfl ?_
  refine kR.s (hI _ _) kI ?_
  refine kR.s (hJ _ _) kJ ?_
  refine kR.s (ls1 := ls) (st1 := st) (h1 := ((k + 1, s + n), kup (kup H k (tn, n, fun _ => v)) a (t, N, kup f (x % 100) (.ref k)))) ?_ rfl kk
  have e : kup (kup H a (t, N, f)) k (tn, n, fun _ => v) a = (t, N, f) := by simp [kup, hak]
  have e2 : kput (knew ((k, s), kup H a (t, N, f)) tn n (fun _ => v)) a x (.ref k) = some ((k + 1, s + n), kup (kup H k (tn, n, fun _ => v)) a (t, N, kup f (x % 100) (.ref k))) := by
    unfold kput
    show (if (kup (kup H a (t, N, f)) k (tn, n, fun _ => v) a).1 = x / 100 % 100 ∧ x % 100 < (kup (kup H a (t, N, f)) k (tn, n, fun _ => v) a).2.1 ∧ kfit (x / 10000) (.ref k) = true then some ((k + 1, s + n), kup (kup (kup H a (t, N, f)) k (tn, n, fun _ => v)) a ((kup (kup H a (t, N, f)) k (tn, n, fun _ => v) a).1, (kup (kup H a (t, N, f)) k (tn, n, fun _ => v) a).2.1, kup (kup (kup H a (t, N, f)) k (tn, n, fun _ => v) a).2.2 (x % 100) (.ref k))) else none) = _
    rw [e, if_pos ⟨hx.symm, hN, by rw [h3]; exact decide_eq_true hk⟩]
    congr 2
    funext i
    by_cases h1 : i = a
    · simp [kup, h1]
    · by_cases h2 : i = k
      · simp [kup, h1, h2]
      · simp [kup, h1, h2]
  show (match (match kput (knew ((k, s), kup H a (t, N, f)) tn n (fun _ => v)) a x (.ref k) with
    | some h1 => some (st, h1)
    | none => none) with
    | some q => some (ls, q.1, q.2)
    | none => none) = _
  rw [e2]
theorem kR.nw {k s t q p : Nat} {H : Nat → kC} (ht : 1 ≤ t ∧ t < 20) (kk : kR D y cs ls (.ref k :: st) ((k + 1, s + kN t), kup H k (t, kN t, kdef t)) r) : kR D y ((p, t, .new q) :: cs) ls st ((k, s), H) r := by
  refine kR.s (ls1 := ls) (st1 := .ref k :: st) (h1 := ((k + 1, s + kN t), kup H k (t, kN t, kdef t))) ?_ (by show (if t < 1000 then 0 else 6) = 0; rw [if_pos (by omega)]) kk
  show (if 1 ≤ t ∧ t < 20 then some (ls, Value.ref k :: st, knew ((k, s), H) t (kN t) (kdef t)) else none) = _
  rw [if_pos ht]
  rfl
theorem kR.pr {a b t N x p q : Nat} {sz : Nat × Nat} {H : Nat → kC} {f : Nat → Value} (hH : H a = (t, N, f)) (hx : x / 100 % 100 = t) (hN : x % 100 < N) (h3 : x / 10000 = 3) (hb : b < 1000000) (kk : kR D y cs ls st (sz, kup H a (t, N, kup f (x % 100) (.ref b))) r) : kR D y ((p, x, .putfield q) :: cs) ls (.ref b :: .ref a :: st) (sz, H) r := by
  refine kR.s (ls1 := ls) (st1 := st) (h1 := (sz, kup H a (t, N, kup f (x % 100) (.ref b)))) ?_ rfl kk
  have e2 : kput (sz, H) a x (.ref b) = some (sz, kup H a (t, N, kup f (x % 100) (.ref b))) := by
    unfold kput
    show (if (H a).1 = x / 100 % 100 ∧ x % 100 < (H a).2.1 ∧ kfit (x / 10000) (.ref b) = true then some (sz, kup H a ((H a).1, (H a).2.1, kup (H a).2.2 (x % 100) (.ref b))) else none) = _
    rw [hH, if_pos ⟨hx.symm, hN, by rw [h3]; exact decide_eq_true hb⟩]
  show (match (match kput (sz, H) a x (.ref b) with
    | some h1 => some (st, h1)
    | none => none) with
    | some q => some (ls, q.1, q.2)
    | none => none) = _
  rw [e2]
end KST
theorem c_16 {a k s : Nat} {H : Nat → kC} (ha : a < k) (hk : k < 100000) : kR 0 16 (blk 16 0) (kent 16 [.ref a]) [] ((k, s), kup H a (2, 7, kdef 2)) (fun r => r = (.inl none, ((k + 5, s + 1004), kup (kup (kup (kup (kup (kup H k (21, 200, fun _ => .int 0)) (k + 1) (20, 201, fun _ => .int 0)) (k + 2) (20, 201, fun _ => .int 0)) (k + 3) (20, 201, fun _ => .int 0)) (k + 4) (20, 201, fun _ => .int 0)) a (2, 7, kup (kup (kup (kup (kup (kdef 2) 0 (.ref k)) 1 (.ref (k + 1))) 2 (.ref (k + 2))) 3 (.ref (k + 3))) 4 (.ref (k + 4)))))) := by
  show kR 0 16 b16_0 _ _ _ _
  refine kR.s rfl rfl ?_
  refine kR.p (st1 := []) (by show (if a < 1000000 ∧ 0 ≤ 10 then some [] else none) = _; rw [if_pos (by omega)]) rfl ?_
  refine kR.fld (n := 200) rfl (by omega) rfl (by decide) rfl (by omega) (fun _ _ => rfl) rfl (fun _ _ => rfl) rfl ?_
  refine kR.fld (n := 201) rfl (by omega) rfl (by decide) rfl (by omega) (fun _ _ => rfl) rfl (fun _ _ => rfl) rfl ?_
  refine kR.fld (n := 201) rfl (by omega) rfl (by decide) rfl (by omega) (fun _ _ => rfl) rfl (fun _ _ => rfl) rfl ?_
  refine kR.fld (n := 201) rfl (by omega) rfl (by decide) rfl (by omega) (fun _ _ => rfl) rfl (fun _ _ => rfl) rfl ?_
  refine kR.fld (n := 201) rfl (by omega) rfl (by decide) rfl (by omega) (fun _ _ => rfl) rfl (fun _ _ => rfl) rfl ?_
  refine kR.ret rfl rfl ?_
  refine Prod.ext rfl (Prod.ext (Prod.ext rfl ?_) rfl)
  show s + 200 + 201 + 201 + 201 + 201 = s + 1004
  omega
theorem c_23 {a k s : Nat} {H : Nat → kC} (ha : a < k) (hk : k < 100000) : kR 0 23 (blk 23 0) (kent 23 [.ref a]) [] ((k, s), kup H a (3, 4, kdef 3)) (fun r => r = (.inl none, ((k + 2, s + 2060), kup (kup (kup H k (21, 2000, fun _ => .int 0)) (k + 1) (20, 60, fun _ => .int 0)) a (3, 4, kup (kup (kdef 3) 0 (.ref k)) 2 (.ref (k + 1)))))) := by
  show kR 0 23 b23_0 _ _ _ _
  refine kR.s rfl rfl ?_
  refine kR.p (st1 := []) (by show (if a < 1000000 ∧ 0 ≤ 10 then some [] else none) = _; rw [if_pos (by omega)]) rfl ?_
  refine kR.fld (n := 2000) rfl (by omega) rfl (by decide) rfl (by omega) (fun _ _ => rfl) rfl (fun _ _ => rfl) rfl ?_
  refine kR.fld (n := 60) rfl (by omega) rfl (by decide) rfl (by omega) (fun _ _ => rfl) rfl (fun _ _ => rfl) rfl ?_
  refine kR.ret rfl rfl ?_
  refine Prod.ext rfl (Prod.ext (Prod.ext rfl ?_) rfl)
  show s + 2000 + 60 = s + 2060
  omega
theorem c_33 {a k s : Nat} {H : Nat → kC} (ha : a < k) (hk : k < 100000) : kR 0 33 (blk 33 0) (kent 33 [.ref a]) [] ((k, s), kup H a (4, 12, kdef 4)) (fun r => r = (.inl none, ((k + 9, s + 1100), kup (kup (kup (kup (kup (kup (kup (kup (kup (kup H k (20, 60, fun _ => .int 0)) (k + 1) (20, 60, fun _ => .int 0)) (k + 2) (22, 60, fun _ => .long 0)) (k + 3) (20, 60, fun _ => .int 0)) (k + 4) (20, 60, fun _ => .int 0)) (k + 5) (21, 200, fun _ => .int 0)) (k + 6) (20, 200, fun _ => .int 0)) (k + 7) (20, 200, fun _ => .int 0)) (k + 8) (20, 200, fun _ => .int 0)) a (4, 12, kup (kup (kup (kup (kup (kup (kup (kup (kup (kdef 4) 0 (.ref k)) 1 (.ref (k + 1))) 2 (.ref (k + 2))) 3 (.ref (k + 3))) 4 (.ref (k + 4))) 6 (.ref (k + 5))) 8 (.ref (k + 6))) 9 (.ref (k + 7))) 10 (.ref (k + 8)))))) := by
  show kR 0 33 b33_0 _ _ _ _
  refine kR.s rfl rfl ?_
  refine kR.p (st1 := []) (by show (if a < 1000000 ∧ 0 ≤ 10 then some [] else none) = _; rw [if_pos (by omega)]) rfl ?_
  refine kR.fld (n := 60) rfl (by omega) rfl (by decide) rfl (by omega) (fun _ _ => rfl) rfl (fun _ _ => rfl) rfl ?_
  refine kR.fld (n := 60) rfl (by omega) rfl (by decide) rfl (by omega) (fun _ _ => rfl) rfl (fun _ _ => rfl) rfl ?_
  refine kR.fld (n := 60) rfl (by omega) rfl (by decide) rfl (by omega) (fun _ _ => rfl) rfl (fun _ _ => rfl) rfl ?_
  refine kR.fld (n := 60) rfl (by omega) rfl (by decide) rfl (by omega) (fun _ _ => rfl) rfl (fun _ _ => rfl) rfl ?_
  refine kR.fld (n := 60) rfl (by omega) rfl (by decide) rfl (by omega) (fun _ _ => rfl) rfl (fun _ _ => rfl) rfl ?_
  refine kR.fld (n := 200) rfl (by omega) rfl (by decide) rfl (by omega) (fun _ _ => rfl) rfl (fun _ _ => rfl) rfl ?_
  refine kR.fld (n := 200) rfl (by omega) rfl (by decide) rfl (by omega) (fun _ _ => rfl) rfl (fun _ _ => rfl) rfl ?_
  refine kR.fld (n := 200) rfl (by omega) rfl (by decide) rfl (by omega) (fun _ _ => rfl) rfl (fun _ _ => rfl) rfl ?_
  refine kR.fld (n := 200) rfl (by omega) rfl (by decide) rfl (by omega) (fun _ _ => rfl) rfl (fun _ _ => rfl) rfl ?_
  refine kR.ret rfl rfl ?_
  refine Prod.ext rfl (Prod.ext (Prod.ext rfl ?_) rfl)
  show s + 60 + 60 + 60 + 60 + 60 + 200 + 200 + 200 + 200 = s + 1100
  omega
theorem c_99 {a k s : Nat} {H : Nat → kC} (ha : a < k) (hk : k < 100000) : kR 0 99 (blk 99 0) (kent 99 [.ref a]) [] ((k, s), kup H a (8, 42, kdef 8)) (fun r => r = (.inl none, ((k + 21, s + 5332), kup (kup (kup (kup (kup (kup (kup (kup (kup (kup (kup (kup (kup (kup (kup (kup (kup (kup (kup (kup (kup (kup H k (20, 200, fun _ => .int 0)) (k + 1) (20, 200, fun _ => .int 0)) (k + 2) (20, 200, fun _ => .int 0)) (k + 3) (20, 60, fun _ => .int 0)) (k + 4) (22, 60, fun _ => .long 0)) (k + 5) (20, 60, fun _ => .int 0)) (k + 6) (20, 60, fun _ => .int 0)) (k + 7) (20, 500, fun _ => .int 0)) (k + 8) (20, 200, fun _ => .int 0)) (k + 9) (20, 200, fun _ => .int 0)) (k + 10) (20, 200, fun _ => .int 0)) (k + 11) (20, 26, fun _ => .int 0)) (k + 12) (20, 9, fun _ => .int 0)) (k + 13) (20, 9, fun _ => .int 0)) (k + 14) (20, 9, fun _ => .int 0)) (k + 15) (20, 9, fun _ => .int 0)) (k + 16) (20, 200, fun _ => .int 0)) (k + 17) (20, 3000, fun _ => .int 0)) (k + 18) (20, 60, fun _ => .int 0)) (k + 19) (20, 60, fun _ => .int 0)) (k + 20) (20, 10, fun _ => .int 0)) a (8, 42, kup (kup (kup (kup (kup (kup (kup (kup (kup (kup (kup (kup (kup (kup (kup (kup (kup (kup (kup (kup (kup (kdef 8) 1 (.ref k)) 3 (.ref (k + 1))) 6 (.ref (k + 2))) 9 (.ref (k + 3))) 10 (.ref (k + 4))) 11 (.ref (k + 5))) 12 (.ref (k + 6))) 13 (.ref (k + 7))) 16 (.ref (k + 8))) 17 (.ref (k + 9))) 18 (.ref (k + 10))) 25 (.ref (k + 11))) 30 (.ref (k + 12))) 31 (.ref (k + 13))) 32 (.ref (k + 14))) 33 (.ref (k + 15))) 35 (.ref (k + 16))) 36 (.ref (k + 17))) 38 (.ref (k + 18))) 39 (.ref (k + 19))) 41 (.ref (k + 20)))))) := by
  show kR 0 99 b99_0 _ _ _ _
  refine kR.s rfl rfl ?_
  refine kR.p (st1 := []) (by show (if a < 1000000 ∧ 0 ≤ 10 then some [] else none) = _; rw [if_pos (by omega)]) rfl ?_
  refine kR.fld (n := 200) rfl (by omega) rfl (by decide) rfl (by omega) (fun _ _ => rfl) rfl (fun _ _ => rfl) rfl ?_
  refine kR.fld (n := 200) rfl (by omega) rfl (by decide) rfl (by omega) (fun _ _ => rfl) rfl (fun _ _ => rfl) rfl ?_
  refine kR.fld (n := 200) rfl (by omega) rfl (by decide) rfl (by omega) (fun _ _ => rfl) rfl (fun _ _ => rfl) rfl ?_
  refine kR.fld (n := 60) rfl (by omega) rfl (by decide) rfl (by omega) (fun _ _ => rfl) rfl (fun _ _ => rfl) rfl ?_
  refine kR.fld (n := 60) rfl (by omega) rfl (by decide) rfl (by omega) (fun _ _ => rfl) rfl (fun _ _ => rfl) rfl ?_
  refine kR.fld (n := 60) rfl (by omega) rfl (by decide) rfl (by omega) (fun _ _ => rfl) rfl (fun _ _ => rfl) rfl ?_
  refine kR.fld (n := 60) rfl (by omega) rfl (by decide) rfl (by omega) (fun _ _ => rfl) rfl (fun _ _ => rfl) rfl ?_
  refine kR.fld (n := 500) rfl (by omega) rfl (by decide) rfl (by omega) (fun _ _ => rfl) rfl (fun _ _ => rfl) rfl ?_
  refine kR.fld (n := 200) rfl (by omega) rfl (by decide) rfl (by omega) (fun _ _ => rfl) rfl (fun _ _ => rfl) rfl ?_
  refine kR.fld (n := 200) rfl (by omega) rfl (by decide) rfl (by omega) (fun _ _ => rfl) rfl (fun _ _ => rfl) rfl ?_
  refine kR.fld (n := 200) rfl (by omega) rfl (by decide) rfl (by omega) (fun _ _ => rfl) rfl (fun _ _ => rfl) rfl ?_
  refine kR.fld (n := 26) rfl (by omega) rfl (by decide) rfl (by omega) (fun _ _ => rfl) rfl (fun _ _ => rfl) rfl ?_
  refine kR.fld (n := 9) rfl (by omega) rfl (by decide) rfl (by omega) (fun _ _ => rfl) rfl (fun _ _ => rfl) rfl ?_
  refine kR.fld (n := 9) rfl (by omega) rfl (by decide) rfl (by omega) (fun _ _ => rfl) rfl (fun _ _ => rfl) rfl ?_
  refine kR.fld (n := 9) rfl (by omega) rfl (by decide) rfl (by omega) (fun _ _ => rfl) rfl (fun _ _ => rfl) rfl ?_
  refine kR.fld (n := 9) rfl (by omega) rfl (by decide) rfl (by omega) (fun _ _ => rfl) rfl (fun _ _ => rfl) rfl ?_
  refine kR.fld (n := 200) rfl (by omega) rfl (by decide) rfl (by omega) (fun _ _ => rfl) rfl (fun _ _ => rfl) rfl ?_
  refine kR.fld (n := 3000) rfl (by omega) rfl (by decide) rfl (by omega) (fun _ _ => rfl) rfl (fun _ _ => rfl) rfl ?_
  refine kR.fld (n := 60) rfl (by omega) rfl (by decide) rfl (by omega) (fun _ _ => rfl) rfl (fun _ _ => rfl) rfl ?_
  refine kR.fld (n := 60) rfl (by omega) rfl (by decide) rfl (by omega) (fun _ _ => rfl) rfl (fun _ _ => rfl) rfl ?_
  refine kR.fld (n := 10) rfl (by omega) rfl (by decide) rfl (by omega) (fun _ _ => rfl) rfl (fun _ _ => rfl) rfl ?_
  refine kR.ret rfl rfl ?_
  refine Prod.ext rfl (Prod.ext (Prod.ext rfl ?_) rfl)
  show s + 200 + 200 + 200 + 60 + 60 + 60 + 60 + 500 + 200 + 200 + 200 + 26 + 9 + 9 + 9 + 9 + 200 + 3000 + 60 + 60 + 10 = s + 5332
  omega
def kH1 (E : Nat → kC) : Nat → kC := kup (kup (kup (kup (kup (kup (kup (kup E 0 (1, 4, kdef 1)) 2 (21, 200, fun _ => .int 0)) 3 (20, 201, fun _ => .int 0)) 4 (20, 201, fun _ => .int 0)) 5 (20, 201, fun _ => .int 0)) 6 (20, 201, fun _ => .int 0)) 1 (2, 7, kup (kup (kup (kup (kup (kdef 2) 0 (.ref 2)) 1 (.ref 3)) 2 (.ref 4)) 3 (.ref 5)) 4 (.ref 6))) 0 (1, 4, kup (kdef 1) 0 (.ref 1))
def kH2 (E : Nat → kC) : Nat → kC := kup (kup (kup (kup (kH1 E) 8 (21, 2000, fun _ => .int 0)) 9 (20, 60, fun _ => .int 0)) 7 (3, 4, kup (kup (kdef 3) 0 (.ref 8)) 2 (.ref 9))) 0 (1, 4, kup (kup (kdef 1) 0 (.ref 1)) 1 (.ref 7))
def kH3 (E : Nat → kC) : Nat → kC := kup (kup (kup (kup (kup (kup (kup (kup (kup (kup (kup (kH2 E) 11 (20, 60, fun _ => .int 0)) 12 (20, 60, fun _ => .int 0)) 13 (22, 60, fun _ => .long 0)) 14 (20, 60, fun _ => .int 0)) 15 (20, 60, fun _ => .int 0)) 16 (21, 200, fun _ => .int 0)) 17 (20, 200, fun _ => .int 0)) 18 (20, 200, fun _ => .int 0)) 19 (20, 200, fun _ => .int 0)) 10 (4, 12, kup (kup (kup (kup (kup (kup (kup (kup (kup (kdef 4) 0 (.ref 11)) 1 (.ref 12)) 2 (.ref 13)) 3 (.ref 14)) 4 (.ref 15)) 6 (.ref 16)) 8 (.ref 17)) 9 (.ref 18)) 10 (.ref 19))) 0 (1, 4, kup (kup (kup (kdef 1) 0 (.ref 1)) 1 (.ref 7)) 2 (.ref 10))
def kH4 (E : Nat → kC) : Nat → kC := kup (kup (kup (kup (kup (kup (kup (kup (kup (kup (kup (kH3 E) 21 (20, 60, fun _ => .int 0)) 22 (20, 60, fun _ => .int 0)) 23 (22, 60, fun _ => .long 0)) 24 (20, 60, fun _ => .int 0)) 25 (20, 60, fun _ => .int 0)) 26 (21, 200, fun _ => .int 0)) 27 (20, 200, fun _ => .int 0)) 28 (20, 200, fun _ => .int 0)) 29 (20, 200, fun _ => .int 0)) 20 (4, 12, kup (kup (kup (kup (kup (kup (kup (kup (kup (kdef 4) 0 (.ref 21)) 1 (.ref 22)) 2 (.ref 23)) 3 (.ref 24)) 4 (.ref 25)) 6 (.ref 26)) 8 (.ref 27)) 9 (.ref 28)) 10 (.ref 29))) 0 (1, 4, kup (kup (kup (kup (kdef 1) 0 (.ref 1)) 1 (.ref 7)) 2 (.ref 10)) 3 (.ref 20))
theorem c_1 {E : Nat → kC} : kR 1 1 (blk 1 0) (kent 1 [.ref 0]) [] ((1, 4), kup E 0 (1, 4, kdef 1)) (fun r => r = (.inl none, ((30, 5303), kH4 E))) := by
  show kR 1 1 b1_0 _ _ _ _
  refine kR.s rfl rfl ?_
  refine kR.p (st1 := []) rfl rfl ?_
  refine kR.s rfl rfl ?_
  refine kR.nw (t := 2) (by decide) ?_
  refine kR.s rfl rfl ?_
  refine kR.c0 rfl rfl (c_16 (a := 1) (k := 2) (by decide) (by decide)) ?_
  refine kR.pr (a := 0) (b := 1) (t := 1) (N := 4) (f := kdef 1) rfl rfl (by decide) rfl (by decide) ?_
  show kR 1 1 _ _ _ ((7, 1015), kH1 E) _
  refine kR.s rfl rfl ?_
  refine kR.nw (t := 3) (by decide) ?_
  refine kR.s rfl rfl ?_
  refine kR.c0 rfl rfl (c_23 (a := 7) (k := 8) (by decide) (by decide)) ?_
  refine kR.pr (a := 0) (b := 7) (t := 1) (N := 4) (f := kup (kdef 1) 0 (.ref 1)) rfl rfl (by decide) rfl (by decide) ?_
  show kR 1 1 _ _ _ ((10, 3079), kH2 E) _
  refine kR.s rfl rfl ?_
  refine kR.nw (t := 4) (by decide) ?_
  refine kR.s rfl rfl ?_
  refine kR.c0 rfl rfl (c_33 (a := 10) (k := 11) (by decide) (by decide)) ?_
  refine kR.pr (a := 0) (b := 10) (t := 1) (N := 4) (f := kup (kup (kdef 1) 0 (.ref 1)) 1 (.ref 7)) rfl rfl (by decide) rfl (by decide) ?_
  show kR 1 1 _ _ _ ((20, 4191), kH3 E) _
  refine kR.s rfl rfl ?_
  refine kR.nw (t := 4) (by decide) ?_
  refine kR.s rfl rfl ?_
  refine kR.c0 rfl rfl (c_33 (a := 20) (k := 21) (by decide) (by decide)) ?_
  refine kR.pr (a := 0) (b := 20) (t := 1) (N := 4) (f := kup (kup (kup (kdef 1) 0 (.ref 1)) 1 (.ref 7)) 2 (.ref 10)) rfl rfl (by decide) rfl (by decide) ?_
  show kR 1 1 _ _ _ ((30, 5303), kH4 E) _
  exact kR.ret rfl rfl rfl
def kH5 (E : Nat → kC) : Nat → kC := kup (kup (kup (kup (kup (kup (kup (kup (kup (kup (kup (kup (kup (kup (kup (kup (kup (kup (kup (kup (kup (kup (kH4 E) 31 (20, 200, fun _ => .int 0)) 32 (20, 200, fun _ => .int 0)) 33 (20, 200, fun _ => .int 0)) 34 (20, 60, fun _ => .int 0)) 35 (22, 60, fun _ => .long 0)) 36 (20, 60, fun _ => .int 0)) 37 (20, 60, fun _ => .int 0)) 38 (20, 500, fun _ => .int 0)) 39 (20, 200, fun _ => .int 0)) 40 (20, 200, fun _ => .int 0)) 41 (20, 200, fun _ => .int 0)) 42 (20, 26, fun _ => .int 0)) 43 (20, 9, fun _ => .int 0)) 44 (20, 9, fun _ => .int 0)) 45 (20, 9, fun _ => .int 0)) 46 (20, 9, fun _ => .int 0)) 47 (20, 200, fun _ => .int 0)) 48 (20, 3000, fun _ => .int 0)) 49 (20, 60, fun _ => .int 0)) 50 (20, 60, fun _ => .int 0)) 51 (20, 10, fun _ => .int 0)) 30 (8, 42, kup (kup (kup (kup (kup (kup (kup (kup (kup (kup (kup (kup (kup (kup (kup (kup (kup (kup (kup (kup (kup (kdef 8) 1 (.ref 31)) 3 (.ref 32)) 6 (.ref 33)) 9 (.ref 34)) 10 (.ref 35)) 11 (.ref 36)) 12 (.ref 37)) 13 (.ref 38)) 16 (.ref 39)) 17 (.ref 40)) 18 (.ref 41)) 25 (.ref 42)) 30 (.ref 43)) 31 (.ref 44)) 32 (.ref 45)) 33 (.ref 46)) 35 (.ref 47)) 36 (.ref 48)) 38 (.ref 49)) 39 (.ref 50)) 41 (.ref 51))
def kH6 (E : Nat → kC) : Nat → kC := kup (kH5 E) 52 (22, 1, fun _ => .long 0)
theorem kup_ne {α : Type} {f : Nat → α} {k j : Nat} {v : α} (h : j ≠ k) : kup f k v j = f j := if_neg h
set_option maxRecDepth 10000 in
theorem kH6_out {E : Nat → kC} {i : Nat} (hi : 1000000 ≤ i) : kH6 E i = E i := by
  unfold kH6 kH5 kH4 kH3 kH2 kH1
  repeat rw [kup_ne (by omega)]
set_option maxRecDepth 10000 in
theorem kH6_in {E : Nat → kC} : ∀ i, i < 53 → kH6 E i = hp 53 E (fun _ _ => 0) i := by
  intro i hi
  rcases (show i = 0 ∨ i = 1 ∨ i = 2 ∨ i = 3 ∨ i = 4 ∨ i = 5 ∨ i = 6 ∨ i = 7 ∨ i = 8 ∨ i = 9 ∨ i = 10 ∨ i = 11 ∨ i = 12 ∨ i = 13 ∨ i = 14 ∨ i = 15 ∨ i = 16 ∨ i = 17 ∨ i = 18 ∨ i = 19 ∨ i = 20 ∨ i = 21 ∨ i = 22 ∨ i = 23 ∨ i = 24 ∨ i = 25 ∨ i = 26 ∨ i = 27 ∨ i = 28 ∨ i = 29 ∨ i = 30 ∨ i = 31 ∨ i = 32 ∨ i = 33 ∨ i = 34 ∨ i = 35 ∨ i = 36 ∨ i = 37 ∨ i = 38 ∨ i = 39 ∨ i = 40 ∨ i = 41 ∨ i = 42 ∨ i = 43 ∨ i = 44 ∨ i = 45 ∨ i = 46 ∨ i = 47 ∨ i = 48 ∨ i = 49 ∨ i = 50 ∨ i = 51 ∨ i = 52 by omega) with rfl | rfl | rfl | rfl | rfl | rfl | rfl | rfl | rfl | rfl | rfl | rfl | rfl | rfl | rfl | rfl | rfl | rfl | rfl | rfl | rfl | rfl | rfl | rfl | rfl | rfl | rfl | rfl | rfl | rfl | rfl | rfl | rfl | rfl | rfl | rfl | rfl | rfl | rfl | rfl | rfl | rfl | rfl | rfl | rfl | rfl | rfl | rfl | rfl | rfl | rfl | rfl | rfl
  · refine Prod.ext rfl (Prod.ext rfl ?_)
    funext k
    exact match k with
      | 0 => rfl
      | 1 => rfl
      | 2 => rfl
      | 3 => rfl
      | _ + 4 => rfl
  · refine Prod.ext rfl (Prod.ext rfl ?_)
    funext k
    exact match k with
      | 0 => rfl
      | 1 => rfl
      | 2 => rfl
      | 3 => rfl
      | 4 => rfl
      | 5 => rfl
      | 6 => rfl
      | _ + 7 => rfl
  · exact rfl
  · exact rfl
  · exact rfl
  · exact rfl
  · exact rfl
  · refine Prod.ext rfl (Prod.ext rfl ?_)
    funext k
    exact match k with
      | 0 => rfl
      | 1 => rfl
      | 2 => rfl
      | 3 => rfl
      | _ + 4 => rfl
  · exact rfl
  · exact rfl
  · refine Prod.ext rfl (Prod.ext rfl ?_)
    funext k
    exact match k with
      | 0 => rfl
      | 1 => rfl
      | 2 => rfl
      | 3 => rfl
      | 4 => rfl
      | 5 => rfl
      | 6 => rfl
      | 7 => rfl
      | 8 => rfl
      | 9 => rfl
      | 10 => rfl
      | 11 => rfl
      | _ + 12 => rfl
  · exact rfl
  · exact rfl
  · exact rfl
  · exact rfl
  · exact rfl
  · exact rfl
  · exact rfl
  · exact rfl
  · exact rfl
  · refine Prod.ext rfl (Prod.ext rfl ?_)
    funext k
    exact match k with
      | 0 => rfl
      | 1 => rfl
      | 2 => rfl
      | 3 => rfl
      | 4 => rfl
      | 5 => rfl
      | 6 => rfl
      | 7 => rfl
      | 8 => rfl
      | 9 => rfl
      | 10 => rfl
      | 11 => rfl
      | _ + 12 => rfl
  · exact rfl
  · exact rfl
  · exact rfl
  · exact rfl
  · exact rfl
  · exact rfl
  · exact rfl
  · exact rfl
  · exact rfl
  · refine Prod.ext rfl (Prod.ext rfl ?_)
    funext k
    exact match k with
      | 0 => rfl
      | 1 => rfl
      | 2 => rfl
      | 3 => rfl
      | 4 => rfl
      | 5 => rfl
      | 6 => rfl
      | 7 => rfl
      | 8 => rfl
      | 9 => rfl
      | 10 => rfl
      | 11 => rfl
      | 12 => rfl
      | 13 => rfl
      | 14 => rfl
      | 15 => rfl
      | 16 => rfl
      | 17 => rfl
      | 18 => rfl
      | 19 => rfl
      | 20 => rfl
      | 21 => rfl
      | 22 => rfl
      | 23 => rfl
      | 24 => rfl
      | 25 => rfl
      | 26 => rfl
      | 27 => rfl
      | 28 => rfl
      | 29 => rfl
      | 30 => rfl
      | 31 => rfl
      | 32 => rfl
      | 33 => rfl
      | 34 => rfl
      | 35 => rfl
      | 36 => rfl
      | 37 => rfl
      | 38 => rfl
      | 39 => rfl
      | 40 => rfl
      | 41 => rfl
      | _ + 42 => rfl
  · exact rfl
  · exact rfl
  · exact rfl
  · exact rfl
  · exact rfl
  · exact rfl
  · exact rfl
  · exact rfl
  · exact rfl
  · exact rfl
  · exact rfl
  · exact rfl
  · exact rfl
  · exact rfl
  · exact rfl
  · exact rfl
  · exact rfl
  · exact rfl
  · exact rfl
  · exact rfl
  · exact rfl
  · exact rfl
theorem kW_begin {L : Nat} {xs : Nat → Int32} : kW false 0 10678 (kext L xs) (fun _ _ => 0) ((53, 10678), kH6 (kext L xs)) := by
  refine ⟨Nat.le_refl _, rfl, by show (10678 : Nat) = 0 + 10678; rw [Nat.zero_add], fun i hi => ?_⟩
  change (hp 53 (kext L xs) (fun _ _ => 0) i).1 ≠ 0 at hi
  have hi2 : i < 53 ∨ 1000000 ≤ i := by
    apply Classical.byContradiction
    intro hn
    unfold hp at hi
    rw [if_neg (by omega), if_neg (by omega)] at hi
    exact hi rfl
  refine ⟨hi2, ?_⟩
  show kH6 (kext L xs) (kpi false 0 i) = kpc (kpi false 0) (hp 53 (kext L xs) (fun _ _ => 0) i)
  rw [kpi_id, kpc_id]
  rcases hi2 with hi2 | hi2
  · exact kH6_in i hi2
  · rw [kH6_out hi2]
    unfold hp
    rw [if_neg (by omega), if_pos hi2]
theorem k_begin {L : Nat} {xs : Nat → Int32} {Q : kO × kH → Prop} (hk : ∀ h, kW false 0 10678 (kext L xs) (fun _ _ => 0) h → kR 100 163 (blk 163 23) [.ref 1000000, .ref 0, .ref 30, .ref 52, .int (Int32.ofInt ((0 : Nat) : Int)), kun, kun, kun] [] h Q) : kR 100 163 (blk 163 0) (kent 163 [.ref 1000000]) [] ((0, 0), kext L xs) Q := by
  show kR 100 163 b163_0 _ _ _ _
  refine kR.nw (t := 1) (by decide) ?_
  refine kR.s rfl rfl ?_
  refine kR.c0 rfl rfl (kR.up c_1 (by decide)) ?_
  refine kR.s rfl rfl ?_
  refine kR.nw (t := 8) (by decide) ?_
  refine kR.s rfl rfl ?_
  refine kR.c0 rfl rfl (kR.up (c_99 (a := 30) (k := 31) (by decide) (by decide)) (by decide)) ?_
  refine kR.s rfl rfl ?_
  refine kR.s rfl rfl ?_
  refine kR.s (ls1 := [.ref 1000000, .ref 0, .ref 30, kun, kun, kun, kun, kun]) (st1 := [.ref 52]) (h1 := ((53, 10678), kH6 (kext L xs))) rfl rfl ?_
  refine kR.s rfl rfl ?_
  refine kR.s rfl rfl ?_
  refine kR.s rfl rfl ?_
  refine kR.n ?_
  exact hk _ kW_begin
theorem kGoal_of {L : Nat} {xs : Nat → Int32} (hk : ∀ h, kW false 0 10678 (kext L xs) (fun _ _ => 0) h → kR 100 163 (blk 163 23) [.ref 1000000, .ref 0, .ref 30, .ref 52, .int (Int32.ofInt ((0 : Nat) : Int)), kun, kun, kun] [] h (fun r => r.1 = .inl (some (.int 1)) ∧ r.2.1.1 ≤ 601024 ∧ r.2.1.2 ≤ 7293034)) : kGoal L xs := by
  obtain ⟨n, r, h1, h2, h3, h4⟩ := k_begin hk
  refine ⟨n, r.2, ?_, h3, h4⟩
  rw [h1 1300 (by decide), ← h2]
