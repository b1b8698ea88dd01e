/-! The reference: nodes. By program (wip/gen/gen46.py). -/
def kmk0 (S : Nat → Nat → Int) (k : Int) (c : Nat) : Nat → Nat → Int := ku (ku (ku (ku (ku S 30 8 ((c : Int) + 1)) 34 c k) 35 c 0) 36 c (S 30 14)) 37 c 0
def kmk (S : Nat → Nat → Int) (k : Int) (c : Nat) : Nat → Nat → Int := ku (if S 30 26 < 0 then kmk0 S k c else ku (kmk0 S k c) 42 (S 30 26).toNat ((c : Int) + 1)) 30 26 (-1)
def ksp1 (S : Nat → Nat → Int) (v : Nat) (x : Int) (u : Nat) : Nat → Nat → Int := ku (ku (ku S 38 u x) 30 14 ((u : Int) + 1)) 37 v (S 37 v + 1)
def kbgm (S : Nat → Nat → Int) (w : Int) (v : Nat) (z : Int) (o : Nat) : Nat → Nat → Int := ku (ku (ku (ku S 43 o w) 44 o (v : Int)) 45 o z) 30 29 ((o : Int) + 1)
def kapm2 (S : Nat → Nat → Int) (o n v : Nat) (d : Nat) : Nat → Nat → Int := ku (ku (ku (ku (ku S 39 n (d : Int)) 40 n (if S 43 (o - 1) = 2 ∨ S 43 (o - 1) = 4 then S 46 (o - 1) else -1)) 41 n (v : Int)) 30 15 ((n : Int) + 1)) 37 d (S 37 d + 1)
theorem c_110 {m : Nat} {E : Nat → kC} {S : Nat → Nat → Int} {sz : Nat × Nat} (hm : 53 ≤ m ∧ m ≤ 57) {k : Int} {c : Nat} (hc : S 30 8 = (c : Int)) (hcl : c ≤ 60) {o : Nat} (ho : S 30 29 = (o : Int)) (hol : o ≤ 9) (hw : -1 ≤ S 30 26 ∧ S 30 26 < 26) (hg : c < 60 ∧ o ≤ 7) : kR 0 110 (blk 110 0) (kent 110 [.ref 30, .int (Int32.ofInt (k))]) [] (sz, hp m E S) (fun r => r = (.inl (some (.int (Int32.ofInt ((c : Int))))), (sz, hp m E (kmk S k c)))) := by
  show kR 0 110 b110_0 _ _ _ _
  refine kR.s rfl rfl ?_
  refine kR.gi (a := 30) (k := 8) (v := (c : Int)) (by omega) rfl rfl rfl (by decide) (by decide) rfl (by exact hc) ?_
  refine kR.bi rfl ?_
  refine kR.jeq (by omega) (by omega) (by omega) (by omega) (fun q1 => ?_) (fun q1 => ?_)
  · skip
    show kR 0 110 b110_18 _ _ _ _
    refine kR.s rfl rfl ?_
    refine kR.s rfl rfl ?_
    refine kR.pi (a := 30) (k := 19) (by omega) rfl rfl rfl (by decide) (by decide) rfl (by first | rfl | assumption | simp [kfit, *]) ?_
    refine kR.s rfl rfl ?_
    refine kR.ret rfl rfl ?_
    first | (exfalso; omega) | (refine kfin rfl ?_; unfold kmk; first | (rw [if_pos (by omega)]; rfl) | (rw [if_neg (by omega)]; rfl))
  · skip
    refine kR.s rfl rfl ?_
    refine kR.gi (a := 30) (k := 29) (v := (o : Int)) (by omega) rfl rfl rfl (by decide) (by decide) rfl (by exact ho) ?_
    refine kR.bi rfl ?_
    refine kR.jle (by omega) (by omega) (by omega) (by omega) (fun q2 => ?_) (fun q2 => ?_)
    · skip
      show kR 0 110 b110_25 _ _ _ _
      refine kR.s rfl rfl ?_
      refine kR.gi (a := 30) (k := 8) (v := (c : Int)) (by omega) rfl rfl rfl (by decide) (by decide) rfl (by exact hc) ?_
      refine kR.s rfl rfl ?_
      refine kR.s rfl rfl ?_
      refine kR.s rfl rfl ?_
      refine kR.gi (a := 30) (k := 8) (v := (c : Int)) (by omega) rfl rfl rfl (by decide) (by decide) rfl (by exact hc) ?_
      refine kR.s rfl rfl ?_
      refine kR.add ?_
      refine kR.pi (a := 30) (k := 8) (by omega) rfl rfl rfl (by decide) (by decide) rfl rfl ?_
      refine kR.s rfl rfl ?_
      refine kR.gr (a := 30) (b := 34) (k := 9) (by omega) rfl rfl rfl (by decide) (by decide) rfl ?_
      refine kR.s rfl rfl ?_
      refine kR.s rfl rfl ?_
      refine kR.ist (a := 34) (by omega) rfl (by decide) (by omega) (by omega) ?_
      refine kR.s rfl rfl ?_
      refine kR.gr (a := 30) (b := 35) (k := 10) (by omega) rfl rfl rfl (by decide) (by decide) rfl ?_
      refine kR.s rfl rfl ?_
      refine kR.lcn (c := 0) rfl ?_
      refine kR.lst (a := 35) (by omega) rfl (by decide) (by omega) (by omega) ?_
      refine kR.s rfl rfl ?_
      refine kR.gr (a := 30) (b := 36) (k := 11) (by omega) rfl rfl rfl (by decide) (by decide) rfl ?_
      refine kR.s rfl rfl ?_
      refine kR.s rfl rfl ?_
      refine kR.gi (a := 30) (k := 14) (v := S 30 14) (by omega) rfl rfl rfl (by decide) (by decide) rfl (by rfl) ?_
      refine kR.ist (a := 36) (by omega) rfl (by decide) (by omega) (by omega) ?_
      refine kR.s rfl rfl ?_
      refine kR.gr (a := 30) (b := 37) (k := 12) (by omega) rfl rfl rfl (by decide) (by decide) rfl ?_
      refine kR.s rfl rfl ?_
      refine kR.s rfl rfl ?_
      refine kR.ist (a := 37) (by omega) rfl (by decide) (by omega) (by omega) ?_
      refine kR.s rfl rfl ?_
      refine kR.gi (a := 30) (k := 26) (v := S 30 26) (by omega) rfl rfl rfl (by decide) (by decide) rfl (by rfl) ?_
      refine kR.zlt (by omega) (by omega) (fun q3 => ?_) (fun q3 => ?_)
      · skip
        show kR 0 110 b110_90 _ _ _ _
        refine kR.s rfl rfl ?_
        refine kR.s rfl rfl ?_
        refine kR.pi (a := 30) (k := 26) (by omega) rfl rfl rfl (by decide) (by decide) rfl rfl ?_
        refine kR.s rfl rfl ?_
        refine kR.ret rfl rfl ?_
        first | (exfalso; omega) | (refine kfin rfl ?_; unfold kmk; first | (rw [if_pos (by omega)]; rfl) | (rw [if_neg (by omega)]; rfl))
      · skip
        refine kR.s rfl rfl ?_
        refine kR.gr (a := 30) (b := 42) (k := 25) (by omega) rfl rfl rfl (by decide) (by decide) rfl ?_
        refine kR.s rfl rfl ?_
        refine kR.gi (a := 30) (k := 26) (v := S 30 26) (by omega) rfl rfl rfl (by decide) (by decide) rfl (by rfl) ?_
        refine kR.s rfl rfl ?_
        refine kR.s rfl rfl ?_
        refine kR.add ?_
        refine kR.ist (a := 42) (by omega) rfl (by decide) (by omega) (by omega) ?_
        refine kR.n ?_
        show kR 0 110 b110_90 _ _ _ _
        refine kR.s rfl rfl ?_
        refine kR.s rfl rfl ?_
        refine kR.pi (a := 30) (k := 26) (by omega) rfl rfl rfl (by decide) (by decide) rfl rfl ?_
        refine kR.s rfl rfl ?_
        refine kR.ret rfl rfl ?_
        first | (exfalso; omega) | (refine kfin rfl ?_; unfold kmk; first | (rw [if_pos (by omega)]; rfl) | (rw [if_neg (by omega)]; rfl))
    · skip
      refine kR.n ?_
      show kR 0 110 b110_18 _ _ _ _
      refine kR.s rfl rfl ?_
      refine kR.s rfl rfl ?_
      refine kR.pi (a := 30) (k := 19) (by omega) rfl rfl rfl (by decide) (by decide) rfl (by first | rfl | assumption | simp [kfit, *]) ?_
      refine kR.s rfl rfl ?_
      refine kR.ret rfl rfl ?_
      first | (exfalso; omega) | (refine kfin rfl ?_; unfold kmk; first | (rw [if_pos (by omega)]; rfl) | (rw [if_neg (by omega)]; rfl))
theorem c_110b {m : Nat} {E : Nat → kC} {S : Nat → Nat → Int} {sz : Nat × Nat} (hm : 53 ≤ m ∧ m ≤ 57) {k : Int} {c : Nat} (hc : S 30 8 = (c : Int)) (hcl : c ≤ 60) {o : Nat} (ho : S 30 29 = (o : Int)) (hol : o ≤ 9) (hg : ¬ (c < 60 ∧ o ≤ 7)) : kR 0 110 (blk 110 0) (kent 110 [.ref 30, .int (Int32.ofInt (k))]) [] (sz, hp m E S) (fun r => r = (.inl (some (.int (Int32.ofInt (0)))), (sz, hp m E (ku S 30 19 1)))) := by
  show kR 0 110 b110_0 _ _ _ _
  refine kR.s rfl rfl ?_
  refine kR.gi (a := 30) (k := 8) (v := (c : Int)) (by omega) rfl rfl rfl (by decide) (by decide) rfl (by exact hc) ?_
  refine kR.bi rfl ?_
  refine kR.jeq (by omega) (by omega) (by omega) (by omega) (fun q1 => ?_) (fun q1 => ?_)
  · skip
    show kR 0 110 b110_18 _ _ _ _
    refine kR.s rfl rfl ?_
    refine kR.s rfl rfl ?_
    refine kR.pi (a := 30) (k := 19) (by omega) rfl rfl rfl (by decide) (by decide) rfl (by first | rfl | assumption | simp [kfit, *]) ?_
    refine kR.s rfl rfl ?_
    refine kR.ret rfl rfl ?_
    rfl
  · skip
    refine kR.s rfl rfl ?_
    refine kR.gi (a := 30) (k := 29) (v := (o : Int)) (by omega) rfl rfl rfl (by decide) (by decide) rfl (by exact ho) ?_
    refine kR.bi rfl ?_
    refine kR.jle (by omega) (by omega) (by omega) (by omega) (fun q2 => ?_) (fun q2 => ?_)
    · skip
      exfalso
      omega
    · skip
      refine kR.n ?_
      show kR 0 110 b110_18 _ _ _ _
      refine kR.s rfl rfl ?_
      refine kR.s rfl rfl ?_
      refine kR.pi (a := 30) (k := 19) (by omega) rfl rfl rfl (by decide) (by decide) rfl (by first | rfl | assumption | simp [kfit, *]) ?_
      refine kR.s rfl rfl ?_
      refine kR.ret rfl rfl ?_
      rfl
theorem c_111 {m : Nat} {E : Nat → kC} {S : Nat → Nat → Int} {sz : Nat × Nat} (hm : 53 ≤ m ∧ m ≤ 57) {v u : Nat} {x : Int} (hv : v < 60) (hu : S 30 14 = (u : Int)) (hul : u < 500) : kR 0 111 (blk 111 0) (kent 111 [.ref 30, .int (Int32.ofInt ((v : Int))), .int (Int32.ofInt (x))]) [] (sz, hp m E S) (fun r => r = (.inl none, (sz, hp m E (ksp1 S v x u)))) := by
  show kR 0 111 b111_0 _ _ _ _
  refine kR.s rfl rfl ?_
  refine kR.gr (a := 30) (b := 38) (k := 13) (by omega) rfl rfl rfl (by decide) (by decide) rfl ?_
  refine kR.s rfl rfl ?_
  refine kR.gi (a := 30) (k := 14) (v := (u : Int)) (by omega) rfl rfl rfl (by decide) (by decide) rfl (by exact hu) ?_
  refine kR.s rfl rfl ?_
  refine kR.ist (a := 38) (by omega) rfl (by decide) (by omega) (by omega) ?_
  refine kR.s rfl rfl ?_
  refine kR.s rfl rfl ?_
  refine kR.gi (a := 30) (k := 14) (v := (u : Int)) (by omega) rfl rfl rfl (by decide) (by decide) rfl (by exact hu) ?_
  refine kR.s rfl rfl ?_
  refine kR.add ?_
  refine kR.pi (a := 30) (k := 14) (by omega) rfl rfl rfl (by decide) (by decide) rfl rfl ?_
  refine kR.s rfl rfl ?_
  refine kR.gr (a := 30) (b := 37) (k := 12) (by omega) rfl rfl rfl (by decide) (by decide) rfl ?_
  refine kR.s rfl rfl ?_
  refine kR.s rfl rfl ?_
  refine kR.ia (a := 37) (v := S 37 v) (by omega) rfl (by decide) (by omega) (by omega) (by rfl) ?_
  refine kR.s rfl rfl ?_
  refine kR.add ?_
  refine kR.ist (a := 37) (by omega) rfl (by decide) (by omega) (by omega) ?_
  refine kR.ret rfl rfl ?_
  rfl
theorem c_112 {m : Nat} {E : Nat → kC} {S : Nat → Nat → Int} {sz : Nat × Nat} (hm : 53 ≤ m ∧ m ≤ 57) {w z : Int} {v : Nat} {o : Nat} (ho : S 30 29 = (o : Int)) (hol : o ≤ 9) (hor : o ≤ 8) (hwr : S 30 19 = 0) : kR 0 112 (blk 112 0) (kent 112 [.ref 30, .int (Int32.ofInt (w)), .int (Int32.ofInt ((v : Int))), .int (Int32.ofInt (z))]) [] (sz, hp m E S) (fun r => r = (.inl none, (sz, hp m E (kbgm S w v z o)))) := by
  show kR 0 112 b112_0 _ _ _ _
  refine kR.s rfl rfl ?_
  refine kR.gi (a := 30) (k := 19) (v := 0) (by omega) rfl rfl rfl (by decide) (by decide) rfl (by exact hwr) ?_
  refine kR.zne (by decide) (by decide) (fun q1 => absurd q1 (by decide)) (fun q1 => ?_)
  refine kR.s rfl rfl ?_
  refine kR.gr (a := 30) (b := 43) (k := 30) (by omega) rfl rfl rfl (by decide) (by decide) rfl ?_
  refine kR.s rfl rfl ?_
  refine kR.gi (a := 30) (k := 29) (v := (o : Int)) (by omega) rfl rfl rfl (by decide) (by decide) rfl (by exact ho) ?_
  refine kR.s rfl rfl ?_
  refine kR.ist (a := 43) (by omega) rfl (by decide) (by omega) (by omega) ?_
  refine kR.s rfl rfl ?_
  refine kR.gr (a := 30) (b := 44) (k := 31) (by omega) rfl rfl rfl (by decide) (by decide) rfl ?_
  refine kR.s rfl rfl ?_
  refine kR.gi (a := 30) (k := 29) (v := (o : Int)) (by omega) rfl rfl rfl (by decide) (by decide) rfl (by exact ho) ?_
  refine kR.s rfl rfl ?_
  refine kR.ist (a := 44) (by omega) rfl (by decide) (by omega) (by omega) ?_
  refine kR.s rfl rfl ?_
  refine kR.gr (a := 30) (b := 45) (k := 32) (by omega) rfl rfl rfl (by decide) (by decide) rfl ?_
  refine kR.s rfl rfl ?_
  refine kR.gi (a := 30) (k := 29) (v := (o : Int)) (by omega) rfl rfl rfl (by decide) (by decide) rfl (by exact ho) ?_
  refine kR.s rfl rfl ?_
  refine kR.ist (a := 45) (by omega) rfl (by decide) (by omega) (by omega) ?_
  refine kR.s rfl rfl ?_
  refine kR.s rfl rfl ?_
  refine kR.gi (a := 30) (k := 29) (v := (o : Int)) (by omega) rfl rfl rfl (by decide) (by decide) rfl (by exact ho) ?_
  refine kR.s rfl rfl ?_
  refine kR.add ?_
  refine kR.pi (a := 30) (k := 29) (by omega) rfl rfl rfl (by decide) (by decide) rfl rfl ?_
  refine kR.n ?_
  show kR 0 112 b112_47 _ _ _ _
  refine kR.ret rfl rfl ?_
  rfl
theorem c_112b {m : Nat} {E : Nat → kC} {S : Nat → Nat → Int} {sz : Nat × Nat} (hm : 53 ≤ m ∧ m ≤ 57) {w v z : Int} (hwr : S 30 19 = 1) : kR 0 112 (blk 112 0) (kent 112 [.ref 30, .int (Int32.ofInt (w)), .int (Int32.ofInt (v)), .int (Int32.ofInt (z))]) [] (sz, hp m E S) (fun r => r = (.inl none, (sz, hp m E S))) := by
  show kR 0 112 b112_0 _ _ _ _
  refine kR.s rfl rfl ?_
  refine kR.gi (a := 30) (k := 19) (v := 1) (by omega) rfl rfl rfl (by decide) (by decide) rfl (by exact hwr) ?_
  refine kR.zne (by decide) (by decide) (fun q1 => ?_) (fun q1 => absurd q1 (by decide))
  show kR 0 112 b112_47 _ _ _ _
  refine kR.ret rfl rfl ?_
  rfl
theorem c_113 {m : Nat} {E : Nat → kC} {S : Nat → Nat → Int} {sz : Nat × Nat} (hm : 53 ≤ m ∧ m ≤ 57) {v : Int} : kR 0 113 (blk 113 0) (kent 113 [.ref 30, .int (Int32.ofInt (v))]) [] (sz, hp m E S) (fun r => r = (.inl none, (sz, hp m E (ku (ku S 30 27 v) 30 20 4)))) := by
  show kR 0 113 b113_0 _ _ _ _
  refine kR.s rfl rfl ?_
  refine kR.s rfl rfl ?_
  refine kR.pi (a := 30) (k := 27) (by omega) rfl rfl rfl (by decide) (by decide) rfl rfl ?_
  refine kR.s rfl rfl ?_
  refine kR.s rfl rfl ?_
  refine kR.pi (a := 30) (k := 20) (by omega) rfl rfl rfl (by decide) (by decide) rfl rfl ?_
  refine kR.ret rfl rfl ?_
  rfl
theorem c_116 {m : Nat} {E : Nat → kC} {S : Nat → Nat → Int} {sz : Nat × Nat} (hm : 53 ≤ m ∧ m ≤ 57) {v n d : Nat} (hn : S 30 15 = (n : Int)) (hnl : n < 200) {o : Nat} (ho : S 30 29 = (o : Int)) (hol : o ≤ 9) (hor : 1 ≤ o) (hd : S 44 (o - 1) = (d : Int)) (hdl : d < 60) (hq : -2147483648 ≤ S 43 (o - 1) ∧ S 43 (o - 1) < 2147483648) : kR 0 116 (blk 116 0) (kent 116 [.ref 30, .int (Int32.ofInt ((v : Int)))]) [] (sz, hp m E S) (fun r => r = (.inl none, (sz, hp m E (kapm2 S o n v d)))) := by
  have ho1 : (o : Int) - 1 = ((o - 1 : Nat) : Int) := by omega
  show kR 0 116 b116_0 _ _ _ _
  refine kR.s rfl rfl ?_
  refine kR.gr (a := 30) (b := 39) (k := 16) (by omega) rfl rfl rfl (by decide) (by decide) rfl ?_
  refine kR.s rfl rfl ?_
  refine kR.gi (a := 30) (k := 15) (v := (n : Int)) (by omega) rfl rfl rfl (by decide) (by decide) rfl (by exact hn) ?_
  refine kR.s rfl rfl ?_
  refine kR.gr (a := 30) (b := 44) (k := 31) (by omega) rfl rfl rfl (by decide) (by decide) rfl ?_
  refine kR.s rfl rfl ?_
  refine kR.gi (a := 30) (k := 29) (v := (o : Int)) (by omega) rfl rfl rfl (by decide) (by decide) rfl (by exact ho) ?_
  refine kR.s rfl rfl ?_
  refine kR.sub ?_
  rw [ho1]
  refine kR.ia (a := 44) (v := (d : Int)) (by omega) rfl (by decide) (by omega) (by omega) (by exact hd) ?_
  refine kR.ist (a := 39) (by omega) rfl (by decide) (by omega) (by omega) ?_
  refine kR.s rfl rfl ?_
  refine kR.gr (a := 30) (b := 40) (k := 17) (by omega) rfl rfl rfl (by decide) (by decide) rfl ?_
  refine kR.s rfl rfl ?_
  refine kR.gi (a := 30) (k := 15) (v := (n : Int)) (by omega) rfl rfl rfl (by decide) (by decide) rfl (by exact hn) ?_
  refine kR.s rfl rfl ?_
  refine kR.gr (a := 30) (b := 43) (k := 30) (by omega) rfl rfl rfl (by decide) (by decide) rfl ?_
  refine kR.s rfl rfl ?_
  refine kR.gi (a := 30) (k := 29) (v := (o : Int)) (by omega) rfl rfl rfl (by decide) (by decide) rfl (by exact ho) ?_
  refine kR.s rfl rfl ?_
  refine kR.sub ?_
  rw [ho1]
  refine kR.ia (a := 43) (v := S 43 (o - 1)) (by omega) rfl (by decide) (by omega) (by omega) (by rfl) ?_
  refine kR.s rfl rfl ?_
  refine kR.jeq (by omega) (by omega) (by omega) (by omega) (fun q1 => ?_) (fun q1 => ?_)
  · skip
    show kR 0 116 b116_58 _ _ _ _
    refine kR.s rfl rfl ?_
    refine kR.gr (a := 30) (b := 46) (k := 33) (by omega) rfl rfl rfl (by decide) (by decide) rfl ?_
    refine kR.s rfl rfl ?_
    refine kR.gi (a := 30) (k := 29) (v := (o : Int)) (by omega) rfl rfl rfl (by decide) (by decide) rfl (by exact ho) ?_
    refine kR.s rfl rfl ?_
    refine kR.sub ?_
    rw [ho1]
    refine kR.ia (a := 46) (v := S 46 (o - 1)) (by omega) rfl (by decide) (by omega) (by omega) (by rfl) ?_
    refine kR.g rfl ?_
    show kR 0 116 b116_73 _ _ _ _
    refine kR.ist (a := 40) (by omega) rfl (by decide) (by omega) (by omega) ?_
    refine kR.s rfl rfl ?_
    refine kR.gr (a := 30) (b := 41) (k := 18) (by omega) rfl rfl rfl (by decide) (by decide) rfl ?_
    refine kR.s rfl rfl ?_
    refine kR.gi (a := 30) (k := 15) (v := (n : Int)) (by omega) rfl rfl rfl (by decide) (by decide) rfl (by exact hn) ?_
    refine kR.s rfl rfl ?_
    refine kR.ist (a := 41) (by omega) rfl (by decide) (by omega) (by omega) ?_
    refine kR.s rfl rfl ?_
    refine kR.s rfl rfl ?_
    refine kR.gi (a := 30) (k := 15) (v := (n : Int)) (by omega) rfl rfl rfl (by decide) (by decide) rfl (by exact hn) ?_
    refine kR.s rfl rfl ?_
    refine kR.add ?_
    refine kR.pi (a := 30) (k := 15) (by omega) rfl rfl rfl (by decide) (by decide) rfl rfl ?_
    refine kR.s rfl rfl ?_
    refine kR.gr (a := 30) (b := 37) (k := 12) (by omega) rfl rfl rfl (by decide) (by decide) rfl ?_
    refine kR.s rfl rfl ?_
    refine kR.gr (a := 30) (b := 44) (k := 31) (by omega) rfl rfl rfl (by decide) (by decide) rfl ?_
    refine kR.s rfl rfl ?_
    refine kR.gi (a := 30) (k := 29) (v := (o : Int)) (by omega) rfl rfl rfl (by decide) (by decide) rfl (by exact ho) ?_
    refine kR.s rfl rfl ?_
    refine kR.sub ?_
    rw [ho1]
    refine kR.ia (a := 44) (v := (d : Int)) (by omega) rfl (by decide) (by omega) (by omega) (by exact hd) ?_
    refine kR.s rfl rfl ?_
    refine kR.ia (a := 37) (v := S 37 d) (by omega) rfl (by decide) (by omega) (by omega) (by rfl) ?_
    refine kR.s rfl rfl ?_
    refine kR.add ?_
    refine kR.ist (a := 37) (by omega) rfl (by decide) (by omega) (by omega) ?_
    refine kR.ret rfl rfl ?_
    unfold kapm2
    first | (rw [if_pos (by omega)]; rfl) | (rw [if_neg (by omega)]; rfl)
  · skip
    refine kR.s rfl rfl ?_
    refine kR.gr (a := 30) (b := 43) (k := 30) (by omega) rfl rfl rfl (by decide) (by decide) rfl ?_
    refine kR.s rfl rfl ?_
    refine kR.gi (a := 30) (k := 29) (v := (o : Int)) (by omega) rfl rfl rfl (by decide) (by decide) rfl (by exact ho) ?_
    refine kR.s rfl rfl ?_
    refine kR.sub ?_
    rw [ho1]
    refine kR.ia (a := 43) (v := S 43 (o - 1)) (by omega) rfl (by decide) (by omega) (by omega) (by rfl) ?_
    refine kR.s rfl rfl ?_
    refine kR.jne (by omega) (by omega) (by omega) (by omega) (fun q2 => ?_) (fun q2 => ?_)
    · skip
      show kR 0 116 b116_72 _ _ _ _
      refine kR.s rfl rfl ?_
      refine kR.n ?_
      show kR 0 116 b116_73 _ _ _ _
      refine kR.ist (a := 40) (by omega) rfl (by decide) (by omega) (by omega) ?_
      refine kR.s rfl rfl ?_
      refine kR.gr (a := 30) (b := 41) (k := 18) (by omega) rfl rfl rfl (by decide) (by decide) rfl ?_
      refine kR.s rfl rfl ?_
      refine kR.gi (a := 30) (k := 15) (v := (n : Int)) (by omega) rfl rfl rfl (by decide) (by decide) rfl (by exact hn) ?_
      refine kR.s rfl rfl ?_
      refine kR.ist (a := 41) (by omega) rfl (by decide) (by omega) (by omega) ?_
      refine kR.s rfl rfl ?_
      refine kR.s rfl rfl ?_
      refine kR.gi (a := 30) (k := 15) (v := (n : Int)) (by omega) rfl rfl rfl (by decide) (by decide) rfl (by exact hn) ?_
      refine kR.s rfl rfl ?_
      refine kR.add ?_
      refine kR.pi (a := 30) (k := 15) (by omega) rfl rfl rfl (by decide) (by decide) rfl rfl ?_
      refine kR.s rfl rfl ?_
      refine kR.gr (a := 30) (b := 37) (k := 12) (by omega) rfl rfl rfl (by decide) (by decide) rfl ?_
      refine kR.s rfl rfl ?_
      refine kR.gr (a := 30) (b := 44) (k := 31) (by omega) rfl rfl rfl (by decide) (by decide) rfl ?_
      refine kR.s rfl rfl ?_
      refine kR.gi (a := 30) (k := 29) (v := (o : Int)) (by omega) rfl rfl rfl (by decide) (by decide) rfl (by exact ho) ?_
      refine kR.s rfl rfl ?_
      refine kR.sub ?_
      rw [ho1]
      refine kR.ia (a := 44) (v := (d : Int)) (by omega) rfl (by decide) (by omega) (by omega) (by exact hd) ?_
      refine kR.s rfl rfl ?_
      refine kR.ia (a := 37) (v := S 37 d) (by omega) rfl (by decide) (by omega) (by omega) (by rfl) ?_
      refine kR.s rfl rfl ?_
      refine kR.add ?_
      refine kR.ist (a := 37) (by omega) rfl (by decide) (by omega) (by omega) ?_
      refine kR.ret rfl rfl ?_
      unfold kapm2
      first | (rw [if_pos (by omega)]; rfl) | (rw [if_neg (by omega)]; rfl)
    · skip
      refine kR.n ?_
      show kR 0 116 b116_58 _ _ _ _
      refine kR.s rfl rfl ?_
      refine kR.gr (a := 30) (b := 46) (k := 33) (by omega) rfl rfl rfl (by decide) (by decide) rfl ?_
      refine kR.s rfl rfl ?_
      refine kR.gi (a := 30) (k := 29) (v := (o : Int)) (by omega) rfl rfl rfl (by decide) (by decide) rfl (by exact ho) ?_
      refine kR.s rfl rfl ?_
      refine kR.sub ?_
      rw [ho1]
      refine kR.ia (a := 46) (v := S 46 (o - 1)) (by omega) rfl (by decide) (by omega) (by omega) (by rfl) ?_
      refine kR.g rfl ?_
      show kR 0 116 b116_73 _ _ _ _
      refine kR.ist (a := 40) (by omega) rfl (by decide) (by omega) (by omega) ?_
      refine kR.s rfl rfl ?_
      refine kR.gr (a := 30) (b := 41) (k := 18) (by omega) rfl rfl rfl (by decide) (by decide) rfl ?_
      refine kR.s rfl rfl ?_
      refine kR.gi (a := 30) (k := 15) (v := (n : Int)) (by omega) rfl rfl rfl (by decide) (by decide) rfl (by exact hn) ?_
      refine kR.s rfl rfl ?_
      refine kR.ist (a := 41) (by omega) rfl (by decide) (by omega) (by omega) ?_
      refine kR.s rfl rfl ?_
      refine kR.s rfl rfl ?_
      refine kR.gi (a := 30) (k := 15) (v := (n : Int)) (by omega) rfl rfl rfl (by decide) (by decide) rfl (by exact hn) ?_
      refine kR.s rfl rfl ?_
      refine kR.add ?_
      refine kR.pi (a := 30) (k := 15) (by omega) rfl rfl rfl (by decide) (by decide) rfl rfl ?_
      refine kR.s rfl rfl ?_
      refine kR.gr (a := 30) (b := 37) (k := 12) (by omega) rfl rfl rfl (by decide) (by decide) rfl ?_
      refine kR.s rfl rfl ?_
      refine kR.gr (a := 30) (b := 44) (k := 31) (by omega) rfl rfl rfl (by decide) (by decide) rfl ?_
      refine kR.s rfl rfl ?_
      refine kR.gi (a := 30) (k := 29) (v := (o : Int)) (by omega) rfl rfl rfl (by decide) (by decide) rfl (by exact ho) ?_
      refine kR.s rfl rfl ?_
      refine kR.sub ?_
      rw [ho1]
      refine kR.ia (a := 44) (v := (d : Int)) (by omega) rfl (by decide) (by omega) (by omega) (by exact hd) ?_
      refine kR.s rfl rfl ?_
      refine kR.ia (a := 37) (v := S 37 d) (by omega) rfl (by decide) (by omega) (by omega) (by rfl) ?_
      refine kR.s rfl rfl ?_
      refine kR.add ?_
      refine kR.ist (a := 37) (by omega) rfl (by decide) (by omega) (by omega) ?_
      refine kR.ret rfl rfl ?_
      unfold kapm2
      first | (rw [if_pos (by omega)]; rfl) | (rw [if_neg (by omega)]; rfl)
