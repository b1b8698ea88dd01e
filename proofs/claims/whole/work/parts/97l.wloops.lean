/-! Writing: the loops of both, step by step. -/
def kLp (sz : Nat × Nat) (E : Nat → kC) (x1 : Int) (T : Nat → Nat → Int) (Q : kO × kH → Prop) : Prop := ∀ v2 v3 v4, kR 4 161 (blk 161 156) [.ref 30, .int (Int32.ofInt x1), v2, v3, v4] [] (sz, hp 53 E T) Q
def kLs (sz : Nat × Nat) (E : Nat → kC) (x1 : Int) (T T' : Nat → Nat → Int) : Prop := ∀ Q, kLp sz E x1 T' Q → kLp sz E x1 T Q
theorem kLs.rf {sz : Nat × Nat} {E : Nat → kC} {x1 : Int} {T : Nat → Nat → Int} : kLs sz E x1 T T := fun _ h => h
theorem kLs.tr {sz : Nat × Nat} {E : Nat → kC} {x1 : Int} {T T' T'' : Nat → Nat → Int} (h : kLs sz E x1 T T') (h' : kLs sz E x1 T' T'') : kLs sz E x1 T T'' := fun Q q => h Q (h' Q q)
section KWQ
variable {E : Nat → kC} {S T : Nat → Nat → Int} {sz : Nat × Nat} {x1 : Int}
/-- the head of the reference's loop, with a node open -/
theorem l_161h {o v p : Nat} {z : Int} {Q : kO × kH → Prop} {v2 v3 v4 : Value} (ho : 1 ≤ o ∧ o ≤ 9) (h29 : T 30 29 = (o : Int)) (h44 : T 44 (o - 1) = (v : Int)) (hv : v < 60) (h51 : T 51 (o - 1) = (p : Int)) (hp0 : p ≤ 300) (h37 : T 37 v = z) (hz : 0 ≤ z ∧ z ≤ 300) (h1 : (p : Int) = z → kR 4 161 (b161_156.drop 36) [.ref 30, .int (Int32.ofInt x1), .int (Int32.ofInt (v : Int)), .int (Int32.ofInt (p : Int)), v4] [] (sz, hp 53 E (ku T 51 (o - 1) ((p : Int) + 1))) Q) (h2 : ¬ (p : Int) = z → kR 4 161 (blk 161 246) [.ref 30, .int (Int32.ofInt x1), .int (Int32.ofInt (v : Int)), .int (Int32.ofInt (p : Int)), v4] [] (sz, hp 53 E (ku T 51 (o - 1) ((p : Int) + 1))) Q) : kR 4 161 (blk 161 156) [.ref 30, .int (Int32.ofInt x1), v2, v3, v4] [] (sz, hp 53 E T) Q := by
  show kR 4 161 b161_156 _ _ _ _
  refine kR.s rfl rfl ?_
  refine kR.gi (a := 30) (k := 29) (v := (o : Int)) (by omega) rfl rfl rfl (by decide) (by decide) rfl (by exact h29) ?_
  refine kR.zle (by omega) (by omega) (fun q => absurd q (by omega)) (fun _ => ?_)
  refine kR.s rfl rfl ?_
  refine kR.gr (a := 30) (b := 44) (k := 31) (by omega) rfl rfl rfl (by decide) (by decide) rfl ?_
  refine kR.s rfl rfl ?_
  refine kR.gi (a := 30) (k := 29) (v := (o : Int)) (by omega) rfl rfl rfl (by decide) (by decide) rfl (by exact h29) ?_
  refine kR.s rfl rfl ?_
  refine kR.sub ?_
  rw [show (o : Int) - 1 = ((o - 1 : Nat) : Int) by omega]
  refine kR.ia (a := 44) (v := (v : Int)) (by omega) rfl (by decide) (by omega) (by omega) (by exact h44) ?_
  refine kR.s rfl rfl ?_
  refine kR.s rfl rfl ?_
  refine kR.gr (a := 30) (b := 51) (k := 41) (by omega) rfl rfl rfl (by decide) (by decide) rfl ?_
  refine kR.s rfl rfl ?_
  refine kR.gi (a := 30) (k := 29) (v := (o : Int)) (by omega) rfl rfl rfl (by decide) (by decide) rfl (by exact h29) ?_
  refine kR.s rfl rfl ?_
  refine kR.sub ?_
  rw [show (o : Int) - 1 = ((o - 1 : Nat) : Int) by omega]
  refine kR.ia (a := 51) (v := (p : Int)) (by omega) rfl (by decide) (by omega) (by omega) (by exact h51) ?_
  refine kR.s rfl rfl ?_
  refine kR.s rfl rfl ?_
  refine kR.gr (a := 30) (b := 51) (k := 41) (by omega) rfl rfl rfl (by decide) (by decide) rfl ?_
  refine kR.s rfl rfl ?_
  refine kR.gi (a := 30) (k := 29) (v := (o : Int)) (by omega) rfl rfl rfl (by decide) (by decide) rfl (by exact h29) ?_
  refine kR.s rfl rfl ?_
  refine kR.sub ?_
  rw [show (o : Int) - 1 = ((o - 1 : Nat) : Int) by omega]
  refine kR.s rfl rfl ?_
  refine kR.ia (a := 51) (v := (p : Int)) (by omega) rfl (by decide) (by omega) (by omega) (by exact h51) ?_
  refine kR.s rfl rfl ?_
  refine kR.add ?_
  refine kR.ist (a := 51) (by omega) rfl (by decide) (by omega) (by omega) ?_
  refine kR.s rfl rfl ?_
  refine kR.s rfl rfl ?_
  refine kR.gr (a := 30) (b := 37) (k := 12) (by omega) rfl rfl rfl (by decide) (by decide) rfl ?_
  refine kR.s rfl rfl ?_
  refine kR.ia (a := 37) (v := z) (by omega) rfl (by decide) (by omega) (by omega) (by exact h37) ?_
  refine kR.jne (by omega) (by omega) (by omega) (by omega) (fun q => h2 q) (fun q => ?_)
  exact h1 q
/-- the end of a row or table -/
theorem l_161c {o v p w : Nat} {kd : Int} (ho : 1 ≤ o ∧ o ≤ 9) (h29 : T 30 29 = (o : Int)) (h44 : T 44 (o - 1) = (v : Int)) (hv : v < 60) (h51 : T 51 (o - 1) = (p : Int)) (hp0 : p ≤ 300) (h37 : T 37 v = (p : Int)) (h34 : T 34 v = kd) (hkd : kd = 4 ∨ kd = 5) (hw : T 30 37 = (w : Int)) (hl : w < 3000) : kLs sz E x1 T (ku (ksas [if kd = 4 then 93 else 125] w (ku T 51 (o - 1) ((p : Int) + 1))) 30 29 ((o - 1 : Nat) : Int)) := by
  intro Q hQ v2 v3 v4
  refine l_161h ho h29 h44 hv h51 hp0 h37 (by omega) (fun _ => ?_) (fun q => absurd rfl q)
  have h230 : ∀ x : Int, x = (if kd = 4 then 93 else 125) → kR 4 161 (blk 161 230) [.ref 30, .int (Int32.ofInt x1), .int (Int32.ofInt (v : Int)), .int (Int32.ofInt (p : Int)), v4] [.int (Int32.ofInt x), .ref 30] (sz, hp 53 E (ku T 51 (o - 1) ((p : Int) + 1))) Q := fun x hx => by
    rw [← hx] at hQ
    show kR 4 161 b161_230 _ _ _ _
    refine kR.c0 rfl rfl (kR.up (c_155 (S := ku T 51 (o - 1) ((p : Int) + 1)) (x := x) (w := w) (by exact hw) hl) (by decide)) ?_
    refine kR.s rfl rfl ?_
    refine kR.s rfl rfl ?_
    refine kR.gi (a := 30) (k := 29) (v := (o : Int)) (by omega) rfl rfl rfl (by decide) (by decide) rfl (by exact h29) ?_
    refine kR.s rfl rfl ?_
    refine kR.sub ?_
    rw [show (o : Int) - 1 = ((o - 1 : Nat) : Int) by omega]
    refine kR.pi (a := 30) (k := 29) (by omega) rfl rfl rfl (by decide) (by decide) rfl rfl ?_
    refine kR.g rfl ?_
    show kR 4 161 b161_314 _ _ _ _
    refine kR.g rfl ?_
    exact hQ _ _ _
  refine kR.s rfl rfl ?_
  refine kR.s rfl rfl ?_
  refine kR.gr (a := 30) (b := 34) (k := 9) (by omega) rfl rfl rfl (by decide) (by decide) rfl ?_
  refine kR.s rfl rfl ?_
  refine kR.ia (a := 34) (v := kd) (by omega) rfl (by decide) (by omega) (by omega) (by exact h34) ?_
  refine kR.s rfl rfl ?_
  refine kR.jne (by omega) (by omega) (by omega) (by omega) (fun q => ?_) (fun q => ?_)
  · show kR 4 161 b161_228 _ _ _ _
    refine kR.bi rfl ?_
    refine kR.n ?_
    exact h230 125 (by rw [if_neg q])
  · refine kR.bi rfl ?_
    refine kR.g rfl ?_
    exact h230 93 (by rw [if_pos q])
/-- an item: its place, the comma -/
theorem l_161i {o v p w i : Nat} {z : Int} {Q : kO × kH → Prop} (ho : 1 ≤ o ∧ o ≤ 9) (h29 : T 30 29 = (o : Int)) (h44 : T 44 (o - 1) = (v : Int)) (hv : v < 60) (h51 : T 51 (o - 1) = (p : Int)) (hp0 : p ≤ 300) (h37 : T 37 v = z) (hz : 0 ≤ z ∧ z ≤ 300) (hpz : ¬ (p : Int) = z) (k149 : kR 1 149 (blk 149 0) (kent 149 [.ref 30, .int (Int32.ofInt (v : Int)), .int (Int32.ofInt (p : Int))]) [] (sz, hp 53 E (ku T 51 (o - 1) ((p : Int) + 1))) (fun r => r = (.inl (some (.int (Int32.ofInt (i : Int)))), (sz, hp 53 E (ku T 51 (o - 1) ((p : Int) + 1)))))) (hw : T 30 37 = (w : Int)) (hl : w + 2 ≤ 3000) (h270 : kR 4 161 (blk 161 270) [.ref 30, .int (Int32.ofInt x1), .int (Int32.ofInt (v : Int)), .int (Int32.ofInt (p : Int)), .int (Int32.ofInt (i : Int))] [] (sz, hp 53 E (ksas (if p = 0 then [] else [44, 32]) w (ku T 51 (o - 1) ((p : Int) + 1)))) Q) : kLp sz E x1 T Q := by
  intro v2 v3 v4
  refine l_161h ho h29 h44 hv h51 hp0 h37 hz (fun q => absurd q hpz) (fun _ => ?_)
  show kR 4 161 b161_246 _ _ _ _
  refine kR.s rfl rfl ?_
  refine kR.s rfl rfl ?_
  refine kR.s rfl rfl ?_
  refine kR.cv (v := .int (Int32.ofInt (i : Int))) rfl rfl (kR.up k149 (by decide)) ?_
  refine kR.s rfl rfl ?_
  refine kR.s rfl rfl ?_
  refine kR.zle (by omega) (by omega) (fun q => ?_) (fun q => ?_)
  · rw [if_pos (by omega)] at h270
    exact h270
  · rw [if_neg (by omega)] at h270
    refine kR.s rfl rfl ?_
    refine kR.bi rfl ?_
    refine kR.c0 rfl rfl (kR.up (c_155 (S := ku T 51 (o - 1) ((p : Int) + 1)) (x := 44) (w := w) (by exact hw) (by omega)) (by decide)) ?_
    refine kR.s rfl rfl ?_
    refine kR.bi rfl ?_
    refine kR.c0 rfl rfl (kR.up (c_155 (S := ksa (ku T 51 (o - 1) ((p : Int) + 1)) w 44) (x := 32) (w := w + 1) rfl (by omega)) (by decide)) ?_
    refine kR.n ?_
    exact h270
/-- an item's value -/
theorem l_161v {v p i y : Nat} {T2 : Nat → Nat → Int} {Q : kO × kH → Prop} (hi : i < 200) (h41 : T 41 i = (y : Int)) (k160 : kR 3 160 (blk 160 0) (kent 160 [.ref 30, .int (Int32.ofInt (y : Int))]) [] (sz, hp 53 E T) (fun r => r = (.inl none, (sz, hp 53 E T2)))) (hQ : kLp sz E x1 T2 Q) : kR 4 161 (blk 161 303) [.ref 30, .int (Int32.ofInt x1), .int (Int32.ofInt (v : Int)), .int (Int32.ofInt (p : Int)), .int (Int32.ofInt (i : Int))] [] (sz, hp 53 E T) Q := by
  show kR 4 161 b161_303 _ _ _ _
  refine kR.s rfl rfl ?_
  refine kR.s rfl rfl ?_
  refine kR.gr (a := 30) (b := 41) (k := 18) (by omega) rfl rfl rfl (by decide) (by decide) rfl ?_
  refine kR.s rfl rfl ?_
  refine kR.ia (a := 41) (v := (y : Int)) (by omega) rfl (by decide) (by omega) (by omega) (by exact h41) ?_
  refine kR.c0 rfl rfl k160 ?_
  refine kR.n ?_
  show kR 4 161 b161_314 _ _ _ _
  refine kR.g rfl ?_
  exact hQ _ _ _
theorem l_161r {v p i : Nat} {Q : kO × kH → Prop} (hv : v < 60) (h34 : T 34 v = 4) (h303 : kR 4 161 (blk 161 303) [.ref 30, .int (Int32.ofInt x1), .int (Int32.ofInt (v : Int)), .int (Int32.ofInt (p : Int)), .int (Int32.ofInt (i : Int))] [] (sz, hp 53 E T) Q) : kR 4 161 (blk 161 270) [.ref 30, .int (Int32.ofInt x1), .int (Int32.ofInt (v : Int)), .int (Int32.ofInt (p : Int)), .int (Int32.ofInt (i : Int))] [] (sz, hp 53 E T) Q := by
  show kR 4 161 b161_270 _ _ _ _
  refine kR.s rfl rfl ?_
  refine kR.gr (a := 30) (b := 34) (k := 9) (by omega) rfl rfl rfl (by decide) (by decide) rfl ?_
  refine kR.s rfl rfl ?_
  refine kR.ia (a := 34) (v := 4) (by omega) rfl (by decide) (by omega) (by omega) (by exact h34) ?_
  refine kR.s rfl rfl ?_
  refine kR.jne (by decide) (by decide) (by decide) (by decide) (fun _ => ?_) (fun q => absurd q (by decide))
  exact h303
theorem l_161t {v p i key w : Nat} {T2 : Nat → Nat → Int} {Q : kO × kH → Prop} (hv : v < 60) (hi : i < 200) (h34 : T 34 v = 5) (h40 : T 40 i = (key : Int)) (k159 : kR 2 159 (blk 159 0) (kent 159 [.ref 30, .int (Int32.ofInt (key : Int))]) [] (sz, hp 53 E T) (fun r => r = (.inl none, (sz, hp 53 E T2)))) (hw : T2 30 37 = (w : Int)) (hl : w + 2 ≤ 3000) (h303 : kR 4 161 (blk 161 303) [.ref 30, .int (Int32.ofInt x1), .int (Int32.ofInt (v : Int)), .int (Int32.ofInt (p : Int)), .int (Int32.ofInt (i : Int))] [] (sz, hp 53 E (ksas [58, 32] w T2)) Q) : kR 4 161 (blk 161 270) [.ref 30, .int (Int32.ofInt x1), .int (Int32.ofInt (v : Int)), .int (Int32.ofInt (p : Int)), .int (Int32.ofInt (i : Int))] [] (sz, hp 53 E T) Q := by
  show kR 4 161 b161_270 _ _ _ _
  refine kR.s rfl rfl ?_
  refine kR.gr (a := 30) (b := 34) (k := 9) (by omega) rfl rfl rfl (by decide) (by decide) rfl ?_
  refine kR.s rfl rfl ?_
  refine kR.ia (a := 34) (v := 5) (by omega) rfl (by decide) (by omega) (by omega) (by exact h34) ?_
  refine kR.s rfl rfl ?_
  refine kR.jne (by decide) (by decide) (by decide) (by decide) (fun q => absurd rfl q) (fun _ => ?_)
  refine kR.s rfl rfl ?_
  refine kR.s rfl rfl ?_
  refine kR.gr (a := 30) (b := 40) (k := 17) (by omega) rfl rfl rfl (by decide) (by decide) rfl ?_
  refine kR.s rfl rfl ?_
  refine kR.ia (a := 40) (v := (key : Int)) (by omega) rfl (by decide) (by omega) (by omega) (by exact h40) ?_
  refine kR.c0 rfl rfl (kR.up k159 (by decide)) ?_
  refine kR.s rfl rfl ?_
  refine kR.bi rfl ?_
  refine kR.c0 rfl rfl (kR.up (c_155 (S := T2) (x := 58) (w := w) hw (by omega)) (by decide)) ?_
  refine kR.s rfl rfl ?_
  refine kR.bi rfl ?_
  refine kR.c0 rfl rfl (kR.up (c_155 (S := ksa T2 w 58) (x := 32) (w := w + 1) rfl (by omega)) (by decide)) ?_
  refine kR.n ?_
  exact h303
/-- the class: over entries of others -/
theorem l_27s {D e o j : Nat} {dp f : Int} {Q : kO × kH → Prop} (h11 : S 10 11 = (e : Int)) (he : e ≤ 200) (ho : o < 60) (hj : j ≤ e) (hr : ∀ i, i < j → -2147483648 ≤ S 17 i ∧ S 17 i < 2147483648) (h : kR (D + 1) 27 (blk 27 6) [.ref 7, .ref 10, .int (Int32.ofInt (o : Int)), .int (Int32.ofInt dp), .int (Int32.ofInt f), .int (Int32.ofInt (j : Int))] [] (sz, hp 53 E S) Q) : ∀ (m i : Nat), j - i = m → i ≤ j → (∀ x, i ≤ x → x < j → ¬ S 17 x = (o : Int)) → kR (D + 1) 27 (blk 27 6) [.ref 7, .ref 10, .int (Int32.ofInt (o : Int)), .int (Int32.ofInt dp), .int (Int32.ofInt f), .int (Int32.ofInt (i : Int))] [] (sz, hp 53 E S) Q := by
  intro m
  induction m with
  | zero =>
    intro i hm hi hn
    rw [show i = j by omega]
    exact h
  | succ m ih =>
    intro i hm hi hn
    have q17 := hr i (by omega)
    show kR (D + 1) 27 b27_6 _ _ _ _
    refine kR.s rfl rfl ?_
    refine kR.s rfl rfl ?_
    refine kR.gi (a := 10) (k := 11) (v := (e : Int)) (by omega) rfl rfl rfl (by decide) (by decide) rfl (by exact h11) ?_
    refine kR.jge (by omega) (by omega) (by omega) (by omega) (fun q => absurd q (by omega)) (fun _ => ?_)
    refine kR.s rfl rfl ?_
    refine kR.gr (a := 10) (b := 17) (k := 8) (by omega) rfl rfl rfl (by decide) (by decide) rfl ?_
    refine kR.s rfl rfl ?_
    refine kR.ia (a := 17) (v := S 17 i) (by omega) rfl (by decide) (by omega) (by omega) rfl ?_
    refine kR.s rfl rfl ?_
    refine kR.jne (by omega) (by omega) (by omega) (by omega) (fun _ => ?_) (fun q => absurd q (hn i (Nat.le_refl _) (by omega)))
    show kR (D + 1) 27 b27_87 _ _ _ _
    refine kR.inc rfl ?_
    refine kR.g rfl ?_
    exact ih (i + 1) (by omega) (by omega) (fun x h1 h2 => hn x (by omega) h2)
/-- the class: to the end -/
theorem l_27e {D e o : Nat} {dp f : Int} (h11 : S 10 11 = (e : Int)) (he : e ≤ 200) : kR (D + 1) 27 (blk 27 6) [.ref 7, .ref 10, .int (Int32.ofInt (o : Int)), .int (Int32.ofInt dp), .int (Int32.ofInt f), .int (Int32.ofInt (e : Int))] [] (sz, hp 53 E S) (fun r => r = (.inl none, (sz, hp 53 E S))) := by
  show kR (D + 1) 27 b27_6 _ _ _ _
  refine kR.s rfl rfl ?_
  refine kR.s rfl rfl ?_
  refine kR.gi (a := 10) (k := 11) (v := (e : Int)) (by omega) rfl rfl rfl (by decide) (by decide) rfl (by exact h11) ?_
  refine kR.jge (by omega) (by omega) (by omega) (by omega) (fun _ => ?_) (fun q => absurd q (by omega))
  show kR (D + 1) 27 b27_93 _ _ _ _
  refine kR.ret rfl rfl ?_
  rfl
/-- the class: an entry of its own, the comma -/
theorem l_27i (hWd : kWrd E) {D e o i w : Nat} {dp f : Int} {Q : kO × kH → Prop} (hD : 4 ≤ D) (h11 : S 10 11 = (e : Int)) (he : e ≤ 200) (ho : o < 60) (hi : i < e) (h17 : S 17 i = (o : Int)) (hf : f = 0 ∨ f = 1) (hw : S 7 1 = (w : Int)) (hl : w + 2 ≤ 2000) (h37 : kR (D + 1) 27 (blk 27 37) [.ref 7, .ref 10, .int (Int32.ofInt (o : Int)), .int (Int32.ofInt dp), .int (Int32.ofInt f), .int (Int32.ofInt (i : Int))] [] (sz, hp 53 E (kpts (if f = 1 then [] else [44, 32]) w S)) Q) : kR (D + 1) 27 (blk 27 6) [.ref 7, .ref 10, .int (Int32.ofInt (o : Int)), .int (Int32.ofInt dp), .int (Int32.ofInt f), .int (Int32.ofInt (i : Int))] [] (sz, hp 53 E S) Q := by
  show kR (D + 1) 27 b27_6 _ _ _ _
  refine kR.s rfl rfl ?_
  refine kR.s rfl rfl ?_
  refine kR.gi (a := 10) (k := 11) (v := (e : Int)) (by omega) rfl rfl rfl (by decide) (by decide) rfl (by exact h11) ?_
  refine kR.jge (by omega) (by omega) (by omega) (by omega) (fun q => absurd q (by omega)) (fun _ => ?_)
  refine kR.s rfl rfl ?_
  refine kR.gr (a := 10) (b := 17) (k := 8) (by omega) rfl rfl rfl (by decide) (by decide) rfl ?_
  refine kR.s rfl rfl ?_
  refine kR.ia (a := 17) (v := (o : Int)) (by omega) rfl (by decide) (by omega) (by omega) (by exact h17) ?_
  refine kR.s rfl rfl ?_
  refine kR.jne (by omega) (by omega) (by omega) (by omega) (fun q => absurd rfl q) (fun _ => ?_)
  refine kR.s rfl rfl ?_
  refine kR.zne (by omega) (by omega) (fun q => ?_) (fun q => ?_)
  · rw [if_pos (by omega)] at h37
    exact h37
  · rw [if_neg (by omega)] at h37
    refine kR.s rfl rfl ?_
    refine kR.s rfl rfl ?_
    refine kR.c0 rfl rfl (kR.up (c_31 (S := S) (w := w) hWd.2.2.2.2.2.2.2.2.1 hw (by show w + 2 ≤ 2000; omega)) (by omega)) ?_
    refine kR.n ?_
    exact h37
/-- the class: an entry's value -/
theorem l_27v {D o i y : Nat} {dp f : Int} {S2 : Nat → Nat → Int} {Q : kO × kH → Prop} (hi : i < 200) (h19 : S 19 i = (y : Int)) (k25 : kR D 25 (blk 25 0) (kent 25 [.ref 7, .ref 10, .int (Int32.ofInt (y : Int)), .int (Int32.ofInt (dp + 1))]) [] (sz, hp 53 E S) (fun r => r = (.inl none, (sz, hp 53 E S2)))) (h6 : kR (D + 1) 27 (blk 27 6) [.ref 7, .ref 10, .int (Int32.ofInt (o : Int)), .int (Int32.ofInt dp), .int (Int32.ofInt f), .int (Int32.ofInt ((i + 1 : Nat) : Int))] [] (sz, hp 53 E S2) Q) : kR (D + 1) 27 (blk 27 72) [.ref 7, .ref 10, .int (Int32.ofInt (o : Int)), .int (Int32.ofInt dp), .int (Int32.ofInt f), .int (Int32.ofInt (i : Int))] [] (sz, hp 53 E S) Q := by
  show kR (D + 1) 27 b27_72 _ _ _ _
  refine kR.s rfl rfl ?_
  refine kR.s rfl rfl ?_
  refine kR.s rfl rfl ?_
  refine kR.gr (a := 10) (b := 19) (k := 10) (by omega) rfl rfl rfl (by decide) (by decide) rfl ?_
  refine kR.s rfl rfl ?_
  refine kR.ia (a := 19) (v := (y : Int)) (by omega) rfl (by decide) (by omega) (by omega) (by exact h19) ?_
  refine kR.s rfl rfl ?_
  refine kR.s rfl rfl ?_
  refine kR.add ?_
  refine kR.c0 rfl rfl k25 ?_
  refine kR.n ?_
  show kR (D + 1) 27 b27_87 _ _ _ _
  refine kR.inc rfl ?_
  refine kR.g rfl ?_
  exact h6
theorem l_27r {D o i : Nat} {dp f : Int} {Q : kO × kH → Prop} (hi : i < 200) (h18 : S 18 i = -1) (h72 : kR (D + 1) 27 (blk 27 72) [.ref 7, .ref 10, .int (Int32.ofInt (o : Int)), .int (Int32.ofInt dp), .int (Int32.ofInt 0), .int (Int32.ofInt (i : Int))] [] (sz, hp 53 E S) Q) : kR (D + 1) 27 (blk 27 37) [.ref 7, .ref 10, .int (Int32.ofInt (o : Int)), .int (Int32.ofInt dp), .int (Int32.ofInt f), .int (Int32.ofInt (i : Int))] [] (sz, hp 53 E S) Q := by
  show kR (D + 1) 27 b27_37 _ _ _ _
  refine kR.s rfl rfl ?_
  refine kR.s rfl rfl ?_
  refine kR.s rfl rfl ?_
  refine kR.gr (a := 10) (b := 18) (k := 9) (by omega) rfl rfl rfl (by decide) (by decide) rfl ?_
  refine kR.s rfl rfl ?_
  refine kR.ia (a := 18) (v := -1) (by omega) rfl (by decide) (by omega) (by omega) (by exact h18) ?_
  refine kR.s rfl rfl ?_
  refine kR.jeq (by decide) (by decide) (by decide) (by decide) (fun _ => ?_) (fun q => absurd rfl q)
  exact h72
theorem l_27t (hWd : kWrd E) {D o i key w : Nat} {dp f : Int} {S2 : Nat → Nat → Int} {Q : kO × kH → Prop} (hD : 4 ≤ D) (hi : i < 200) (hkey : key < 60) (h18 : S 18 i = (key : Int)) (k25 : kR D 25 (blk 25 0) (kent 25 [.ref 7, .ref 10, .int (Int32.ofInt (key : Int)), .int (Int32.ofInt (dp + 1))]) [] (sz, hp 53 E S) (fun r => r = (.inl none, (sz, hp 53 E S2)))) (hw : S2 7 1 = (w : Int)) (hl : w + 2 ≤ 2000) (h72 : kR (D + 1) 27 (blk 27 72) [.ref 7, .ref 10, .int (Int32.ofInt (o : Int)), .int (Int32.ofInt dp), .int (Int32.ofInt 0), .int (Int32.ofInt (i : Int))] [] (sz, hp 53 E (kpts [58, 32] w S2)) Q) : kR (D + 1) 27 (blk 27 37) [.ref 7, .ref 10, .int (Int32.ofInt (o : Int)), .int (Int32.ofInt dp), .int (Int32.ofInt f), .int (Int32.ofInt (i : Int))] [] (sz, hp 53 E S) Q := by
  show kR (D + 1) 27 b27_37 _ _ _ _
  refine kR.s rfl rfl ?_
  refine kR.s rfl rfl ?_
  refine kR.s rfl rfl ?_
  refine kR.gr (a := 10) (b := 18) (k := 9) (by omega) rfl rfl rfl (by decide) (by decide) rfl ?_
  refine kR.s rfl rfl ?_
  refine kR.ia (a := 18) (v := (key : Int)) (by omega) rfl (by decide) (by omega) (by omega) (by exact h18) ?_
  refine kR.s rfl rfl ?_
  refine kR.jeq (by omega) (by omega) (by decide) (by decide) (fun q => absurd q (by omega)) (fun _ => ?_)
  refine kR.s rfl rfl ?_
  refine kR.s rfl rfl ?_
  refine kR.s rfl rfl ?_
  refine kR.gr (a := 10) (b := 18) (k := 9) (by omega) rfl rfl rfl (by decide) (by decide) rfl ?_
  refine kR.s rfl rfl ?_
  refine kR.ia (a := 18) (v := (key : Int)) (by omega) rfl (by decide) (by omega) (by omega) (by exact h18) ?_
  refine kR.s rfl rfl ?_
  refine kR.s rfl rfl ?_
  refine kR.add ?_
  refine kR.c0 rfl rfl k25 ?_
  refine kR.s rfl rfl ?_
  refine kR.s rfl rfl ?_
  refine kR.c0 rfl rfl (kR.up (c_31 (S := S2) (w := w) hWd.2.2.2.2.2.2.2.2.2 hw (by show w + 2 ≤ 2000; omega)) (by omega)) ?_
  refine kR.n ?_
  exact h72
/-- the class: a row or table, between its brackets -/
theorem l_26c {D k w : Nat} {kd dp : Int} {S2 : Nat → Nat → Int} {w2 : Nat} (hk : k < 60) (h11 : S 11 k = kd) (hkd : kd = 4 ∨ kd = 5) (hw : S 7 1 = (w : Int)) (hl : w < 2000) (k27 : kR D 27 (blk 27 0) (kent 27 [.ref 7, .ref 10, .int (Int32.ofInt (k : Int)), .int (Int32.ofInt dp)]) [] (sz, hp 53 E (kpts [if kd = 4 then 91 else 123] w S)) (fun r => r = (.inl none, (sz, hp 53 E S2)))) (hw2 : S2 7 1 = (w2 : Int)) (hl2 : w2 < 2000) : kR (D + 1) 26 (blk 26 0) (kent 26 [.ref 7, .ref 10, .int (Int32.ofInt (k : Int)), .int (Int32.ofInt dp)]) [] (sz, hp 53 E S) (fun r => r = (.inl none, (sz, hp 53 E (kpts [if kd = 4 then 93 else 125] w2 S2)))) := by
  show kR (D + 1) 26 b26_0 _ _ _ _
  refine kR.s rfl rfl ?_
  refine kR.gr (a := 10) (b := 11) (k := 0) (by omega) rfl rfl rfl (by decide) (by decide) rfl ?_
  refine kR.s rfl rfl ?_
  refine kR.ia (a := 11) (v := kd) (by omega) rfl (by decide) (by omega) (by omega) (by exact h11) ?_
  rcases hkd with h | h
  · subst h
    refine kR.w (t := 87) rfl rfl ?_
    show kR (D + 1) 26 b26_87 _ _ _ _
    refine kR.s rfl rfl ?_
    refine kR.bi rfl ?_
    refine kR.c0 rfl rfl (kR.up (c_32 (S := S) (x := 91) hw hl (by omega)) (by omega)) ?_
    refine kR.s rfl rfl ?_
    refine kR.s rfl rfl ?_
    refine kR.s rfl rfl ?_
    refine kR.s rfl rfl ?_
    refine kR.c0 rfl rfl k27 ?_
    refine kR.s rfl rfl ?_
    refine kR.bi rfl ?_
    refine kR.c0 rfl rfl (kR.up (c_32 (S := S2) (x := 93) hw2 hl2 (by omega)) (by omega)) ?_
    refine kR.g rfl ?_
    show kR (D + 1) 26 b26_137 _ _ _ _
    refine kR.ret rfl rfl ?_
    rfl
  · subst h
    refine kR.w (t := 109) rfl rfl ?_
    show kR (D + 1) 26 b26_109 _ _ _ _
    refine kR.s rfl rfl ?_
    refine kR.bi rfl ?_
    refine kR.c0 rfl rfl (kR.up (c_32 (S := S) (x := 123) hw hl (by omega)) (by omega)) ?_
    refine kR.s rfl rfl ?_
    refine kR.s rfl rfl ?_
    refine kR.s rfl rfl ?_
    refine kR.s rfl rfl ?_
    refine kR.c0 rfl rfl k27 ?_
    refine kR.s rfl rfl ?_
    refine kR.bi rfl ?_
    refine kR.c0 rfl rfl (kR.up (c_32 (S := S2) (x := 125) hw2 hl2 (by omega)) (by omega)) ?_
    refine kR.g rfl ?_
    show kR (D + 1) 26 b26_137 _ _ _ _
    refine kR.ret rfl rfl ?_
    rfl
end KWQ
