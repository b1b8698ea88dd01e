/-! The class's nodes while they are read. By program (wip/gen/gen44.py). -/
def kadd (S : Nat → Nat → Int) (k z : Int) (c : Nat) : Nat → Nat → Int := ku (ku (ku (ku (ku (ku S 21 c k) 22 c 0) 23 c z) 24 c (S 20 7)) 25 c (if c = 0 then 1 else 0)) 20 5 ((c : Int) + 1)
def kbeg (S : Nat → Nat → Int) (k z : Int) (c : Nat) : Nat → Nat → Int := if S 54 3 = -1 then kadd S k z c else ku (ku (kadd S k z c) 55 (S 54 3).toNat (c : Int)) 54 3 (-1)
def kapt (S : Nat → Nat → Int) (v : Nat) (x : Int) (u : Nat) : Nat → Nat → Int := ku (ku (ku S 26 u x) 20 7 ((u : Int) + 1)) 22 v (S 22 v + 1)
def kade (S : Nat → Nat → Int) (o : Nat) (k : Int) (v : Nat) (n : Nat) : Nat → Nat → Int := ku (ku (ku (ku (ku (ku S 27 n (o : Int)) 28 n k) 29 n (v : Int)) 20 11 ((n : Int) + 1)) 22 o (S 22 o + 1)) 25 v (S 25 v + 1)
/-- a throw: what lies outside the reader is as it was -/
def kFm (S S' : Nat → Nat → Int) : Prop := ∀ a, a < 20 ∨ (30 ≤ a ∧ a < 53) → S' a = S a
def kTh (sz : Nat × Nat) (E : Nat → kC) (S : Nat → Nat → Int) (r : kO × kH) : Prop := ∃ S', r = (.inr sz.1, knew (sz, hp 57 E S') 30 6 (fun _ => .null)) ∧ kFm S S'
theorem kTh.mk {sz : Nat × Nat} {E : Nat → kC} {S S' : Nat → Nat → Int} (h : kFm S S') : kTh sz E S (.inr sz.1, knew (sz, hp 57 E S') 30 6 (fun _ => .null)) := ⟨S', rfl, h⟩
theorem kFm.rf {S : Nat → Nat → Int} : kFm S S := fun _ _ => rfl
theorem kFm.tr {S S' S'' : Nat → Nat → Int} (h : kFm S S') (h' : kFm S' S'') : kFm S S'' := fun a ha => (h' a ha).trans (h a ha)
theorem kFm.w {S S' : Nat → Nat → Int} {a k : Nat} {v : Int} (h : kFm S S') (ha : 20 ≤ a ∧ (a < 30 ∨ 53 ≤ a)) : kFm S (ku S' a k v) := fun b hb => by
  rw [← h b hb]
  exact if_neg (by omega)
theorem kTh.to {sz : Nat × Nat} {E : Nat → kC} {S S' : Nat → Nat → Int} {r : kO × kH} (h : kTh sz E S' r) (hf : kFm S S') : kTh sz E S r := by
  obtain ⟨S2, h1, h2⟩ := h
  exact ⟨S2, h1, hf.tr h2⟩
theorem c_34 {E : Nat → kC} {S : Nat → Nat → Int} {sz : Nat × Nat}  : kR 0 34 (blk 34 0) (kent 34 [.ref 20]) [] (sz, hp 57 E S) (fun r => r = (.inl none, (sz, hp 57 E (ku (ku (ku S 20 5 0) 20 7 0) 20 11 0)))) := by
  have hm : 53 ≤ 57 ∧ 57 ≤ 57 := by omega
  show kR 0 34 b34_0 _ _ _ _
  refine kR.s rfl rfl ?_
  refine kR.s rfl rfl ?_
  refine kR.pi (a := 20) (k := 5) (by omega) rfl rfl rfl (by decide) (by decide) rfl rfl ?_
  refine kR.s rfl rfl ?_
  refine kR.s rfl rfl ?_
  refine kR.pi (a := 20) (k := 7) (by omega) rfl rfl rfl (by decide) (by decide) rfl rfl ?_
  refine kR.s rfl rfl ?_
  refine kR.s rfl rfl ?_
  refine kR.pi (a := 20) (k := 11) (by omega) rfl rfl rfl (by decide) (by decide) rfl rfl ?_
  refine kR.ret rfl rfl ?_
  rfl
theorem c_37 {E : Nat → kC} {S : Nat → Nat → Int} {sz : Nat × Nat} {k z : Int} {c : Nat} (hc : S 20 5 = (c : Int)) (hcl : c ≤ 60) : kR 0 37 (blk 37 0) (kent 37 [.ref 20, .int (Int32.ofInt (k)), .long (Int64.ofInt (z))]) [] (sz, hp 57 E S) (fun r => (c < 60 → r = (.inl (some (.int (Int32.ofInt (c : Int)))), (sz, hp 57 E (kadd S k z c)))) ∧ (¬ (c < 60) → r = (.inr sz.1, knew (sz, hp 57 E S) 30 6 (fun _ => .null)))) := by
  have hm : 53 ≤ 57 ∧ 57 ≤ 57 := by omega
  show kR 0 37 b37_0 _ _ _ _
  refine kR.s rfl rfl ?_
  refine kR.gi (a := 20) (k := 5) (v := (c : Int)) (by omega) rfl rfl rfl (by decide) (by decide) rfl (by exact hc) ?_
  refine kR.bi rfl ?_
  refine kR.jlt (by omega) (by omega) (by omega) (by omega) (fun q1 => ?_) (fun q1 => ?_)
  · skip
    show kR 0 37 b37_19 _ _ _ _
    refine kR.s rfl rfl ?_
    refine kR.gr (a := 20) (b := 21) (k := 0) (by omega) rfl rfl rfl (by decide) (by decide) rfl ?_
    refine kR.s rfl rfl ?_
    refine kR.gi (a := 20) (k := 5) (v := (c : Int)) (by omega) rfl rfl rfl (by decide) (by decide) rfl (by exact hc) ?_
    refine kR.s rfl rfl ?_
    refine kR.ist (a := 21) (by omega) rfl (by decide) (by omega) (by omega) ?_
    refine kR.s rfl rfl ?_
    refine kR.gr (a := 20) (b := 22) (k := 1) (by omega) rfl rfl rfl (by decide) (by decide) rfl ?_
    refine kR.s rfl rfl ?_
    refine kR.gi (a := 20) (k := 5) (v := (c : Int)) (by omega) rfl rfl rfl (by decide) (by decide) rfl (by exact hc) ?_
    refine kR.s rfl rfl ?_
    refine kR.ist (a := 22) (by omega) rfl (by decide) (by omega) (by omega) ?_
    refine kR.s rfl rfl ?_
    refine kR.gr (a := 20) (b := 23) (k := 2) (by omega) rfl rfl rfl (by decide) (by decide) rfl ?_
    refine kR.s rfl rfl ?_
    refine kR.gi (a := 20) (k := 5) (v := (c : Int)) (by omega) rfl rfl rfl (by decide) (by decide) rfl (by exact hc) ?_
    refine kR.s rfl rfl ?_
    refine kR.lst (a := 23) (by omega) rfl (by decide) (by omega) (by omega) ?_
    refine kR.s rfl rfl ?_
    refine kR.gr (a := 20) (b := 24) (k := 3) (by omega) rfl rfl rfl (by decide) (by decide) rfl ?_
    refine kR.s rfl rfl ?_
    refine kR.gi (a := 20) (k := 5) (v := (c : Int)) (by omega) rfl rfl rfl (by decide) (by decide) rfl (by exact hc) ?_
    refine kR.s rfl rfl ?_
    refine kR.gi (a := 20) (k := 7) (v := S 20 7) (by omega) rfl rfl rfl (by decide) (by decide) rfl (by rfl) ?_
    refine kR.ist (a := 24) (by omega) rfl (by decide) (by omega) (by omega) ?_
    refine kR.s rfl rfl ?_
    refine kR.gr (a := 20) (b := 25) (k := 4) (by omega) rfl rfl rfl (by decide) (by decide) rfl ?_
    refine kR.s rfl rfl ?_
    refine kR.gi (a := 20) (k := 5) (v := (c : Int)) (by omega) rfl rfl rfl (by decide) (by decide) rfl (by exact hc) ?_
    refine kR.s rfl rfl ?_
    refine kR.gi (a := 20) (k := 5) (v := (c : Int)) (by omega) rfl rfl rfl (by decide) (by decide) rfl (by exact hc) ?_
    refine kR.zne (by omega) (by omega) (fun q2 => ?_) (fun q2 => ?_)
    · skip
      show kR 0 37 b37_81 _ _ _ _
      refine kR.s rfl rfl ?_
      refine kR.n ?_
      show kR 0 37 b37_82 _ _ _ _
      refine kR.ist (a := 25) (by omega) rfl (by decide) (by omega) (by omega) ?_
      refine kR.s rfl rfl ?_
      refine kR.s rfl rfl ?_
      refine kR.gi (a := 20) (k := 5) (v := (c : Int)) (by omega) rfl rfl rfl (by decide) (by decide) rfl (by exact hc) ?_
      refine kR.s rfl rfl ?_
      refine kR.add ?_
      refine kR.pi (a := 20) (k := 5) (by omega) rfl rfl rfl (by decide) (by decide) rfl rfl ?_
      refine kR.s rfl rfl ?_
      refine kR.gi (a := 20) (k := 5) (v := (c : Int) + 1) (by omega) rfl rfl rfl (by decide) (by decide) rfl (by rfl) ?_
      refine kR.s rfl rfl ?_
      refine kR.sub ?_
      refine kR.ret rfl rfl ?_
      refine ⟨fun _ => ?_, fun q => absurd (by omega) q⟩
      refine kfin (by omega) ?_
      unfold kadd
      first | (rw [if_pos (by omega)]; rfl) | (rw [if_neg (by omega)]; rfl)
    · skip
      refine kR.s rfl rfl ?_
      refine kR.g rfl ?_
      show kR 0 37 b37_82 _ _ _ _
      refine kR.ist (a := 25) (by omega) rfl (by decide) (by omega) (by omega) ?_
      refine kR.s rfl rfl ?_
      refine kR.s rfl rfl ?_
      refine kR.gi (a := 20) (k := 5) (v := (c : Int)) (by omega) rfl rfl rfl (by decide) (by decide) rfl (by exact hc) ?_
      refine kR.s rfl rfl ?_
      refine kR.add ?_
      refine kR.pi (a := 20) (k := 5) (by omega) rfl rfl rfl (by decide) (by decide) rfl rfl ?_
      refine kR.s rfl rfl ?_
      refine kR.gi (a := 20) (k := 5) (v := (c : Int) + 1) (by omega) rfl rfl rfl (by decide) (by decide) rfl (by rfl) ?_
      refine kR.s rfl rfl ?_
      refine kR.sub ?_
      refine kR.ret rfl rfl ?_
      refine ⟨fun _ => ?_, fun q => absurd (by omega) q⟩
      refine kfin (by omega) ?_
      unfold kadd
      first | (rw [if_pos (by omega)]; rfl) | (rw [if_neg (by omega)]; rfl)
  · skip
    refine kR.t rfl rfl (Nat.le_of_ble_eq_true rfl) ?_
    exact ⟨fun q => absurd q (by omega), fun _ => rfl⟩
theorem c_38 {E : Nat → kC} {S : Nat → Nat → Int} {sz : Nat × Nat} {v u : Nat} {x : Int} (hv : v < 60) (hx : 0 ≤ x ∧ x < 65536) (hu : S 20 7 = (u : Int)) (hul : u < 200) : kR 0 38 (blk 38 0) (kent 38 [.ref 20, .int (Int32.ofInt ((v : Int))), .int (Int32.ofInt (x))]) [] (sz, hp 57 E S) (fun r => r = (.inl none, (sz, hp 57 E (kapt S v x u)))) := by
  have hm : 53 ≤ 57 ∧ 57 ≤ 57 := by omega
  show kR 0 38 b38_0 _ _ _ _
  refine kR.s rfl rfl ?_
  refine kR.gi (a := 20) (k := 7) (v := (u : Int)) (by omega) rfl rfl rfl (by decide) (by decide) rfl (by exact hu) ?_
  refine kR.si rfl ?_
  refine kR.jge (by omega) (by omega) (by omega) (by omega) (fun q1 => ?_) (fun q1 => ?_)
  · skip
    exfalso
    omega
  · skip
    refine kR.s rfl rfl ?_
    refine kR.gr (a := 20) (b := 26) (k := 6) (by omega) rfl rfl rfl (by decide) (by decide) rfl ?_
    refine kR.s rfl rfl ?_
    refine kR.gi (a := 20) (k := 7) (v := (u : Int)) (by omega) rfl rfl rfl (by decide) (by decide) rfl (by exact hu) ?_
    refine kR.s rfl rfl ?_
    refine kR.cst (a := 26) (by omega) rfl (by decide) (by omega) (by omega) (by first | rfl | assumption | exact kchar (by omega) (by omega)) ?_
    refine kR.s rfl rfl ?_
    refine kR.s rfl rfl ?_
    refine kR.gi (a := 20) (k := 7) (v := (u : Int)) (by omega) rfl rfl rfl (by decide) (by decide) rfl (by exact hu) ?_
    refine kR.s rfl rfl ?_
    refine kR.add ?_
    refine kR.pi (a := 20) (k := 7) (by omega) rfl rfl rfl (by decide) (by decide) rfl rfl ?_
    refine kR.s rfl rfl ?_
    refine kR.gr (a := 20) (b := 22) (k := 1) (by omega) rfl rfl rfl (by decide) (by decide) rfl ?_
    refine kR.s rfl rfl ?_
    refine kR.s rfl rfl ?_
    refine kR.ia (a := 22) (v := S 22 v) (by omega) rfl (by decide) (by omega) (by omega) (by rfl) ?_
    refine kR.s rfl rfl ?_
    refine kR.add ?_
    refine kR.ist (a := 22) (by omega) rfl (by decide) (by omega) (by omega) ?_
    refine kR.n ?_
    show kR 0 38 b38_40 _ _ _ _
    refine kR.ret rfl rfl ?_
    rfl
theorem c_39 {E : Nat → kC} {S : Nat → Nat → Int} {sz : Nat × Nat} {o v n : Nat} {k : Int} (ho : o < 60) (hv : v < 60) (hn : S 20 11 = (n : Int)) (hnl : n < 200) : kR 0 39 (blk 39 0) (kent 39 [.ref 20, .int (Int32.ofInt ((o : Int))), .int (Int32.ofInt (k)), .int (Int32.ofInt ((v : Int)))]) [] (sz, hp 57 E S) (fun r => r = (.inl none, (sz, hp 57 E (kade S o k v n)))) := by
  have hm : 53 ≤ 57 ∧ 57 ≤ 57 := by omega
  show kR 0 39 b39_0 _ _ _ _
  refine kR.s rfl rfl ?_
  refine kR.gi (a := 20) (k := 11) (v := (n : Int)) (by omega) rfl rfl rfl (by decide) (by decide) rfl (by exact hn) ?_
  refine kR.si rfl ?_
  refine kR.jlt (by omega) (by omega) (by omega) (by omega) (fun q1 => ?_) (fun q1 => ?_)
  · skip
    show kR 0 39 b39_20 _ _ _ _
    refine kR.s rfl rfl ?_
    refine kR.gr (a := 20) (b := 27) (k := 8) (by omega) rfl rfl rfl (by decide) (by decide) rfl ?_
    refine kR.s rfl rfl ?_
    refine kR.gi (a := 20) (k := 11) (v := (n : Int)) (by omega) rfl rfl rfl (by decide) (by decide) rfl (by exact hn) ?_
    refine kR.s rfl rfl ?_
    refine kR.ist (a := 27) (by omega) rfl (by decide) (by omega) (by omega) ?_
    refine kR.s rfl rfl ?_
    refine kR.gr (a := 20) (b := 28) (k := 9) (by omega) rfl rfl rfl (by decide) (by decide) rfl ?_
    refine kR.s rfl rfl ?_
    refine kR.gi (a := 20) (k := 11) (v := (n : Int)) (by omega) rfl rfl rfl (by decide) (by decide) rfl (by exact hn) ?_
    refine kR.s rfl rfl ?_
    refine kR.ist (a := 28) (by omega) rfl (by decide) (by omega) (by omega) ?_
    refine kR.s rfl rfl ?_
    refine kR.gr (a := 20) (b := 29) (k := 10) (by omega) rfl rfl rfl (by decide) (by decide) rfl ?_
    refine kR.s rfl rfl ?_
    refine kR.gi (a := 20) (k := 11) (v := (n : Int)) (by omega) rfl rfl rfl (by decide) (by decide) rfl (by exact hn) ?_
    refine kR.s rfl rfl ?_
    refine kR.ist (a := 29) (by omega) rfl (by decide) (by omega) (by omega) ?_
    refine kR.s rfl rfl ?_
    refine kR.s rfl rfl ?_
    refine kR.gi (a := 20) (k := 11) (v := (n : Int)) (by omega) rfl rfl rfl (by decide) (by decide) rfl (by exact hn) ?_
    refine kR.s rfl rfl ?_
    refine kR.add ?_
    refine kR.pi (a := 20) (k := 11) (by omega) rfl rfl rfl (by decide) (by decide) rfl rfl ?_
    refine kR.s rfl rfl ?_
    refine kR.gr (a := 20) (b := 22) (k := 1) (by omega) rfl rfl rfl (by decide) (by decide) rfl ?_
    refine kR.s rfl rfl ?_
    refine kR.s rfl rfl ?_
    refine kR.ia (a := 22) (v := S 22 o) (by omega) rfl (by decide) (by omega) (by omega) (by rfl) ?_
    refine kR.s rfl rfl ?_
    refine kR.add ?_
    refine kR.ist (a := 22) (by omega) rfl (by decide) (by omega) (by omega) ?_
    refine kR.s rfl rfl ?_
    refine kR.gr (a := 20) (b := 25) (k := 4) (by omega) rfl rfl rfl (by decide) (by decide) rfl ?_
    refine kR.s rfl rfl ?_
    refine kR.s rfl rfl ?_
    refine kR.ia (a := 25) (v := S 25 v) (by omega) rfl (by decide) (by omega) (by omega) (by rfl) ?_
    refine kR.s rfl rfl ?_
    refine kR.add ?_
    refine kR.ist (a := 25) (by omega) rfl (by decide) (by omega) (by omega) ?_
    refine kR.ret rfl rfl ?_
    rfl
  · skip
    refine kR.t rfl rfl (Nat.le_of_ble_eq_true rfl) ?_
    exfalso
    omega
theorem c_62 {E : Nat → kC} {S : Nat → Nat → Int} {sz : Nat × Nat} {k z d : Int} {c : Nat} (hc : S 20 5 = (c : Int)) (hcl : c ≤ 60) (hd : 0 ≤ d ∧ d ≤ 100) (hnm : -1 ≤ S 54 3 ∧ S 54 3 < 26) : kR 1 62 (blk 62 0) (kent 62 [.ref 54, .int (Int32.ofInt (k)), .long (Int64.ofInt (z)), .int (Int32.ofInt (d))]) [] (sz, hp 57 E S) (fun r => ((d ≤ 8 ∧ c < 60) → r = (.inl (some (.int (Int32.ofInt (c : Int)))), (sz, hp 57 E (kbeg S k z c)))) ∧ (¬ ((d ≤ 8 ∧ c < 60)) → r = (.inr sz.1, knew (sz, hp 57 E S) 30 6 (fun _ => .null)))) := by
  have hm : 53 ≤ 57 ∧ 57 ≤ 57 := by omega
  show kR 1 62 b62_0 _ _ _ _
  refine kR.s rfl rfl ?_
  refine kR.bi rfl ?_
  refine kR.jle (by omega) (by omega) (by omega) (by omega) (fun q1 => ?_) (fun q1 => ?_)
  · skip
    show kR 1 62 b62_17 _ _ _ _
    refine kR.s rfl rfl ?_
    refine kR.gr (a := 54) (b := 20) (k := 1) (by omega) rfl rfl rfl (by decide) (by decide) rfl ?_
    refine kR.s rfl rfl ?_
    refine kR.s rfl rfl ?_
    refine kR.cx (P := c < 60) rfl rfl rfl (kR.up (c_37 hc hcl) (by decide)) (fun q2 => ?_) (fun q2 => ?_)
    · skip
      show kR 1 62 _ _ _ _ _
      refine kR.s rfl rfl ?_
      refine kR.s rfl rfl ?_
      refine kR.gi (a := 54) (k := 3) (v := S 54 3) (by omega) rfl rfl rfl (by decide) (by decide) rfl (by rfl) ?_
      refine kR.s rfl rfl ?_
      refine kR.jeq (by omega) (by omega) (by omega) (by omega) (fun q3 => ?_) (fun q3 => ?_)
      · skip
        show kR 1 62 b62_52 _ _ _ _
        refine kR.s rfl rfl ?_
        refine kR.ret rfl rfl ?_
        refine ⟨fun _ => ?_, fun q => absurd (by omega) q⟩
        refine kfin rfl ?_
        unfold kbeg
        first | rw [if_pos (by omega)] | (rw [if_neg (by omega)]; done) | (rw [if_neg (by omega)]; rfl)
      · skip
        refine kR.s rfl rfl ?_
        refine kR.gr (a := 54) (b := 55) (k := 2) (by omega) rfl rfl rfl (by decide) (by decide) rfl ?_
        refine kR.s rfl rfl ?_
        refine kR.gi (a := 54) (k := 3) (v := S 54 3) (by omega) rfl rfl rfl (by decide) (by decide) rfl (by rfl) ?_
        refine kR.s rfl rfl ?_
        refine kR.ist (a := 55) (by omega) rfl (by decide) (by omega) (by omega) ?_
        refine kR.s rfl rfl ?_
        refine kR.s rfl rfl ?_
        refine kR.pi (a := 54) (k := 3) (by omega) rfl rfl rfl (by decide) (by decide) rfl rfl ?_
        refine kR.n ?_
        show kR 1 62 b62_52 _ _ _ _
        refine kR.s rfl rfl ?_
        refine kR.ret rfl rfl ?_
        refine ⟨fun _ => ?_, fun q => absurd (by omega) q⟩
        refine kfin rfl ?_
        unfold kbeg
        first | rw [if_pos (by omega)] | (rw [if_neg (by omega)]; done) | (rw [if_neg (by omega)]; rfl)
    · skip
      exact ⟨fun q => absurd q (by omega), fun _ => rfl⟩
  · skip
    refine kR.t rfl rfl (Nat.le_of_ble_eq_true rfl) ?_
    exact ⟨fun q => absurd q (by omega), fun _ => rfl⟩
