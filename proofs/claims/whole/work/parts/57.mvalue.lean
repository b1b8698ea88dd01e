/-! The reference: values in a line. By program (wip/gen/gen57.py). -/
def kins (S : Nat → Nat → Int) (o : Nat) : Int := if 1 ≤ o ∧ (S 43 (o - 1) = 3 ∨ S 43 (o - 1) = 4) then 1 else 0
theorem kins_o (S : Nat → Nat → Int) (o : Nat) : (kins S o = 1 ∧ 1 ≤ o ∧ (S 43 (o - 1) = 3 ∨ S 43 (o - 1) = 4)) ∨ (kins S o = 0 ∧ ¬ (1 ≤ o ∧ (S 43 (o - 1) = 3 ∨ S 43 (o - 1) = 4))) := by
  unfold kins
  split
  · rename_i h; exact Or.inl ⟨rfl, h⟩
  · rename_i h; exact Or.inr ⟨rfl, h⟩
theorem kmk_30 {S : Nat → Nat → Int} {k : Int} {c j : Nat} (h1 : j ≠ 26) (h2 : j ≠ 8) : kmk S k c 30 j = S 30 j := by
  rw [kmk_at, if_pos rfl, if_neg h1, if_neg h2]
theorem kmk_cell {S : Nat → Nat → Int} {k : Int} {c a : Nat} (h : a ≠ 30 ∧ a ≠ 34 ∧ a ≠ 35 ∧ a ≠ 36 ∧ a ≠ 37 ∧ a ≠ 42) : kmk S k c a = S a := by
  funext j
  rw [kmk_at]
  simp [h]
theorem kRt.mk {S : Nat → Nat → Int} {t : Nat → Int} {n : Nat} (h : kRt S t n) (k : Int) (c : Nat) : kRt (kmk S k c) t n := ⟨(kmk_30 (by decide) (by decide)).trans h.1, fun j hj => by rw [kmk_cell (by decide)]; exact h.2 j hj⟩
theorem c_137 {m : Nat} {E : Nat → kC} {S : Nat → Nat → Int} {sz : Nat × Nat} (hm : 53 ≤ m ∧ m ≤ 57) {o : Nat} (ho : S 30 29 = (o : Int)) (hol : o ≤ 8) (hq43 : ∀ j, j < 9 → -2147483648 ≤ S 43 j ∧ S 43 j < 2147483648) : kR 0 137 (blk 137 0) (kent 137 [.ref 30]) [] (sz, hp m E S) (fun r => r = (.inl (some (.int (Int32.ofInt (kins S o)))), (sz, hp m E S))) := by
  have hk := kins_o S o
  have hq1 := hq43 (o - 1)
  have ho1 : 1 ≤ o → (o : Int) - 1 = ((o - 1 : Nat) : Int) := by omega
  show kR 0 137 b137_0 _ _ _ _
  refine kR.s rfl rfl ?_
  refine kR.gi (a := 30) (k := 29) (v := (o : Int)) (by omega) rfl rfl rfl (by decide) (by decide) rfl (by exact ho) ?_
  refine kR.zle (by omega) (by omega) (fun q1 => ?_) (fun q1 => ?_)
  · skip
    show kR 0 137 b137_41 _ _ _ _
    refine kR.s rfl rfl ?_
    refine kR.n ?_
    show kR 0 137 b137_42 _ _ _ _
    refine kR.ret rfl rfl ?_
    refine kfin (by omega) rfl
  · skip
    refine kR.s rfl rfl ?_
    refine kR.gr (a := 30) (b := 43) (k := 30) (by omega) rfl rfl rfl (by decide) (by decide) rfl ?_
    refine kR.s rfl rfl ?_
    refine kR.gi (a := 30) (k := 29) (v := (o : Int)) (by omega) rfl rfl rfl (by decide) (by decide) rfl (by exact ho) ?_
    refine kR.s rfl rfl ?_
    refine kR.sub ?_
    rw [ho1 (by omega)]
    refine kR.ia (a := 43) (v := S 43 (o - 1)) (by omega) rfl (by decide) (by omega) (by omega) (by rfl) ?_
    refine kR.s rfl rfl ?_
    refine kR.jeq (by omega) (by omega) (by omega) (by omega) (fun q2 => ?_) (fun q2 => ?_)
    · skip
      show kR 0 137 b137_37 _ _ _ _
      refine kR.s rfl rfl ?_
      refine kR.g rfl ?_
      show kR 0 137 b137_42 _ _ _ _
      refine kR.ret rfl rfl ?_
      refine kfin (by omega) rfl
    · skip
      refine kR.s rfl rfl ?_
      refine kR.gr (a := 30) (b := 43) (k := 30) (by omega) rfl rfl rfl (by decide) (by decide) rfl ?_
      refine kR.s rfl rfl ?_
      refine kR.gi (a := 30) (k := 29) (v := (o : Int)) (by omega) rfl rfl rfl (by decide) (by decide) rfl (by exact ho) ?_
      refine kR.s rfl rfl ?_
      refine kR.sub ?_
      rw [ho1 (by omega)]
      refine kR.ia (a := 43) (v := S 43 (o - 1)) (by omega) rfl (by decide) (by omega) (by omega) (by rfl) ?_
      refine kR.s rfl rfl ?_
      refine kR.jne (by omega) (by omega) (by omega) (by omega) (fun q3 => ?_) (fun q3 => ?_)
      · skip
        show kR 0 137 b137_41 _ _ _ _
        refine kR.s rfl rfl ?_
        refine kR.n ?_
        show kR 0 137 b137_42 _ _ _ _
        refine kR.ret rfl rfl ?_
        refine kfin (by omega) rfl
      · skip
        refine kR.n ?_
        show kR 0 137 b137_37 _ _ _ _
        refine kR.s rfl rfl ?_
        refine kR.g rfl ?_
        show kR 0 137 b137_42 _ _ _ _
        refine kR.ret rfl rfl ?_
        refine kfin (by omega) rfl
theorem c_138 {m : Nat} {E : Nat → kC} {S : Nat → Nat → Int} {sz : Nat × Nat} (hm : 53 ≤ m ∧ m ≤ 57) {t : Nat → Int} {n L : Nat} (hX : kTx t n L) (hR : kRt S t n) {e : Nat} (he : S 30 23 = (e : Int)) (hen : e ≤ n) {p : Nat} (hpp : S 30 21 = (p : Int)) (hpn : p ≤ 290) (hw : -1 ≤ S 30 26 ∧ S 30 26 < 26) (hnd : ∀ j, j < 26 → 0 ≤ S 42 j ∧ S 42 j ≤ 60) : kR 1 138 (blk 138 0) (kent 138 [.ref 30]) [] (sz, hp m E S) (fun r => ((S 30 26 < 0 ∧ 0 ≤ klt t e (p + 1) ∧ ¬ S 42 (klt t e (p + 1)).toNat = 0) → r = (.inl none, (sz, hp m E (ku (ku (ku S 30 21 ((p : Int) + 2)) 30 27 (S 42 (klt t e (p + 1)).toNat - 1)) 30 20 4)))) ∧ (¬ (S 30 26 < 0 ∧ 0 ≤ klt t e (p + 1) ∧ ¬ S 42 (klt t e (p + 1)).toNat = 0) → r = (.inl none, (sz, hp m E (ku S 30 19 1))))) := by
  have hx1 := hX.1
  have hl := klt_o t e (p + 1)
  have hl2 := klt_rng t e (p + 1)
  have hl3 := kch_h hX hen (p + 1)
  have hn1 := hnd (klt t e (p + 1)).toNat
  show kR 1 138 b138_0 _ _ _ _
  refine kR.s rfl rfl ?_
  refine kR.s rfl rfl ?_
  refine kR.gi (a := 30) (k := 21) (v := (p : Int)) (by omega) rfl rfl rfl (by decide) (by decide) rfl (by exact hpp) ?_
  refine kR.s rfl rfl ?_
  refine kR.add ?_
  have f1_0 := khr_r hX hen (p + 1)
  refine kR.cv (v := .int (Int32.ofInt (khr t e (p + 1)))) (kargs_m hm (by decide) rfl) rfl (kR.up (c_108t hm hX hR he hen (k := (p + 1)) (by omega)) (by decide)) ?_
  refine kR.s rfl rfl ?_
  refine kR.s rfl rfl ?_
  refine kR.gi (a := 30) (k := 26) (v := S 30 26) (by omega) rfl rfl rfl (by decide) (by decide) rfl (by rfl) ?_
  refine kR.zge (by omega) (by omega) (fun q2 => ?_) (fun q2 => ?_)
  · skip
    show kR 1 138 b138_41 _ _ _ _
    refine kR.s rfl rfl ?_
    refine kR.s rfl rfl ?_
    refine kR.pi (a := 30) (k := 19) (by omega) rfl rfl rfl (by decide) (by decide) rfl (by first | rfl | assumption | simp [kfit, *]) ?_
    refine kR.ret rfl rfl ?_
    first | exact ⟨fun _ => rfl, fun z => absurd (by omega) z⟩ | exact ⟨fun z => absurd z (by omega), fun _ => rfl⟩
  · skip
    refine kR.s rfl rfl ?_
    refine kR.bi rfl ?_
    refine kR.bi rfl ?_
    refine kR.cb (P := 97 ≤ khr t e (p + 1) ∧ khr t e (p + 1) ≤ 122) rfl rfl (kR.up (c_117 (by omega) (by omega) (by omega)) (by decide)) (fun q3 => ?_) (fun q3 => ?_)
    · skip
      refine kR.zeq (by decide) (by decide) (fun q4 => absurd q4 (by decide)) (fun q4 => ?_)
      refine kR.s rfl rfl ?_
      refine kR.gr (a := 30) (b := 42) (k := 25) (by omega) rfl rfl rfl (by decide) (by decide) rfl ?_
      refine kR.s rfl rfl ?_
      refine kR.bi rfl ?_
      refine kR.sub ?_
      rw [show khr t e (p + 1) - 97 = klt t e (p + 1) by omega]
      refine kR.ia (a := 42) (v := S 42 ((klt t e (p + 1)).toNat)) (by omega) rfl (by decide) (by omega) (by omega) (by rfl) ?_
      refine kR.zne (by omega) (by omega) (fun q5 => ?_) (fun q5 => ?_)
      · skip
        show kR 1 138 b138_47 _ _ _ _
        refine kR.s rfl rfl ?_
        refine kR.s rfl rfl ?_
        refine kR.gi (a := 30) (k := 21) (v := (p : Int)) (by omega) rfl rfl rfl (by decide) (by decide) rfl (by exact hpp) ?_
        refine kR.s rfl rfl ?_
        refine kR.add ?_
        refine kR.pi (a := 30) (k := 21) (by omega) rfl rfl rfl (by decide) (by decide) rfl rfl ?_
        refine kR.s rfl rfl ?_
        refine kR.s rfl rfl ?_
        refine kR.gr (a := 30) (b := 42) (k := 25) (by omega) rfl rfl rfl (by decide) (by decide) rfl ?_
        refine kR.s rfl rfl ?_
        refine kR.bi rfl ?_
        refine kR.sub ?_
        rw [show khr t e (p + 1) - 97 = klt t e (p + 1) by omega]
        refine kR.ia (a := 42) (v := S 42 ((klt t e (p + 1)).toNat)) (by omega) rfl (by decide) (by omega) (by omega) (by rfl) ?_
        refine kR.s rfl rfl ?_
        refine kR.sub ?_
        refine kR.c0 (kargs_m hm (by decide) rfl) rfl (kR.up (c_113 (S := ku S 30 21 ((p : Int) + 2)) hm) (by decide)) ?_
        refine kR.ret rfl rfl ?_
        first | exact ⟨fun _ => rfl, fun z => absurd (by omega) z⟩ | exact ⟨fun z => absurd z (by omega), fun _ => rfl⟩
      · skip
        refine kR.n ?_
        show kR 1 138 b138_41 _ _ _ _
        refine kR.s rfl rfl ?_
        refine kR.s rfl rfl ?_
        refine kR.pi (a := 30) (k := 19) (by omega) rfl rfl rfl (by decide) (by decide) rfl (by first | rfl | assumption | simp [kfit, *]) ?_
        refine kR.ret rfl rfl ?_
        first | exact ⟨fun _ => rfl, fun z => absurd (by omega) z⟩ | exact ⟨fun z => absurd z (by omega), fun _ => rfl⟩
    · skip
      refine kR.zeq (by decide) (by decide) (fun q7 => ?_) (fun q7 => absurd q7 (by decide))
      show kR 1 138 b138_41 _ _ _ _
      refine kR.s rfl rfl ?_
      refine kR.s rfl rfl ?_
      refine kR.pi (a := 30) (k := 19) (by omega) rfl rfl rfl (by decide) (by decide) rfl (by first | rfl | assumption | simp [kfit, *]) ?_
      refine kR.ret rfl rfl ?_
      first | exact ⟨fun _ => rfl, fun z => absurd (by omega) z⟩ | exact ⟨fun z => absurd z (by omega), fun _ => rfl⟩
theorem l_139_1 {m : Nat} {E : Nat → kC} {S : Nat → Nat → Int} {sz : Nat × Nat} (hm : 53 ≤ m ∧ m ≤ 57) {t : Nat → Int} {n L : Nat} (hX : kTx t n L) (hR : kRt S t n) {e : Nat} (he : S 30 23 = (e : Int)) (hen : e ≤ n) {p : Nat} (hpp : S 30 21 = (p : Int)) (hpn : p ≤ 250) {o : Nat} (ho : S 30 29 = (o : Int)) (hol : o ≤ 8) {v : Nat} {w : Int} (hw01 : w = 0 ∨ w = 1) (hwr : S 30 19 = w) {v2 : Value} : kR 2 139 (b139_10.drop 1) [.ref 30, .int (Int32.ofInt 1), v2] [.int (Int32.ofInt (v : Int))] (sz, hp m E S) (fun r => (kch t e (kw (fun i => decide (t i = 32)) e (p + 1)) = 93 → r = (.inl none, (sz, hp m E (ku (ku (ku S 30 21 (((kw (fun i => decide (t i = 32)) e (p + 1)) : Nat) + (1 : Int))) 30 27 (v : Int)) 30 20 4)))) ∧ (¬ kch t e (kw (fun i => decide (t i = 32)) e (p + 1)) = 93 → w = 0 → r = (.inl none, (sz, hp m E (ku (kbgm (ku S 30 21 ((kw (fun i => decide (t i = 32)) e (p + 1)) : Nat)) 3 v 0 o) 30 20 2)))) ∧ (¬ kch t e (kw (fun i => decide (t i = 32)) e (p + 1)) = 93 → w = 1 → r = (.inl none, (sz, hp m E (ku (ku S 30 21 ((kw (fun i => decide (t i = 32)) e (p + 1)) : Nat)) 30 20 2))))) := by
  have hx1 := hX.1
  have hkr : p + 1 ≤ (kw (fun i => decide (t i = 32)) e (p + 1)) ∧ (p + 1 ≤ e → (kw (fun i => decide (t i = 32)) e (p + 1)) ≤ e) := kw_rng
  have hko : e ≤ p + 1 → (kw (fun i => decide (t i = 32)) e (p + 1)) = p + 1 := fun z => kw_no (Or.inl z)
  obtain ⟨pb, hpb⟩ : ∃ pb, pb = (kw (fun i => decide (t i = 32)) e (p + 1)) := ⟨_, rfl⟩
  rw [← hpb] at hkr hko ⊢
  have hcc := khr_c (t := t) (e := e) (p := pb) 93 (by decide) (by decide)
  rcases hw01 with rfl | rfl
  · show kR 2 139 [(13, 0, .istore_n 2), (14, 0, .aload_n 0), (15, 0, .dup), (16, 821, .getfield 106), (19, 0, .iconst 1), (20, 0, .iadd), (21, 821, .putfield 106), (24, 0, .aload_n 0), (25, 109, .invokevirtual 178), (28, 0, .aload_n 0), (29, 0, .aload_n 0), (30, 821, .getfield 106), (33, 108, .invokevirtual 112), (36, 0, .iload_n 1), (37, 45, .ifCond .eq (8)), (40, 0, .bipush (93)), (42, 47, .goto (5))] _ _ _ _
    refine kR.s rfl rfl ?_
    refine kR.s rfl rfl ?_
    refine kR.s rfl rfl ?_
    refine kR.gi (a := 30) (k := 21) (v := (p : Int)) (by omega) rfl rfl rfl (by decide) (by decide) rfl (by exact hpp) ?_
    refine kR.s rfl rfl ?_
    refine kR.add ?_
    refine kR.pi (a := 30) (k := 21) (by omega) rfl rfl rfl (by decide) (by decide) rfl rfl ?_
    refine kR.s rfl rfl ?_
    refine kR.c0 (kargs_m hm (by decide) rfl) rfl (kR.up (hpb ▸ c_109 hm (S := ku S 30 21 ((p : Int) + 1)) hX hR he hen (p := p + 1) rfl (by omega)) (by decide)) ?_
    refine kR.s rfl rfl ?_
    refine kR.s rfl rfl ?_
    refine kR.gi (a := 30) (k := 21) (v := (pb : Int)) (by omega) rfl rfl rfl (by decide) (by decide) rfl (by rfl) ?_
    have f2_0 := khr_r hX hen pb
    refine kR.cv (v := .int (Int32.ofInt (khr t e pb))) (kargs_m hm (by decide) rfl) rfl (kR.up (c_108t (S := ku (ku S 30 21 ((p : Int) + 1)) 30 21 (pb : Int)) hm hX hR he hen (k := pb) (by omega)) (by decide)) ?_
    refine kR.s rfl rfl ?_
    refine kR.zeq (by decide) (by decide) (fun q3 => absurd q3 (by decide)) (fun q3 => ?_)
    refine kR.bi rfl ?_
    refine kR.g rfl ?_
    show kR 2 139 b139_47 _ _ _ _
    refine kR.jne (by omega) (by omega) (by omega) (by omega) (fun q4 => ?_) (fun q4 => ?_)
    · skip
      show kR 2 139 b139_66 _ _ _ _
      refine kR.s rfl rfl ?_
      refine kR.s rfl rfl ?_
      refine kR.zeq (by decide) (by decide) (fun q5 => absurd q5 (by decide)) (fun q5 => ?_)
      refine kR.s rfl rfl ?_
      refine kR.g rfl ?_
      show kR 2 139 b139_76 _ _ _ _
      refine kR.s rfl rfl ?_
      refine kR.s rfl rfl ?_
      refine kR.c0 (kargs_m hm (by decide) rfl) rfl (kR.up (c_112 (S := ku (ku S 30 21 ((p : Int) + 1)) 30 21 (pb : Int)) hm (w := 3) (v := v) (z := 0) ho (by omega) (by omega) hwr) (by decide)) ?_
      refine kR.s rfl rfl ?_
      refine kR.s rfl rfl ?_
      refine kR.zeq (by decide) (by decide) (fun q7 => absurd q7 (by decide)) (fun q7 => ?_)
      refine kR.s rfl rfl ?_
      refine kR.g rfl ?_
      show kR 2 139 b139_91 _ _ _ _
      refine kR.pi (a := 30) (k := 20) (by omega) rfl rfl rfl (by decide) (by decide) rfl rfl ?_
      refine kR.ret rfl rfl ?_
      refine ⟨fun z => absurd z (by omega), fun _ _ => ?_, fun _ z => absurd z (by decide)⟩
      rw [ku_ku]
    · skip
      refine kR.s rfl rfl ?_
      refine kR.s rfl rfl ?_
      refine kR.gi (a := 30) (k := 21) (v := (pb : Int)) (by omega) rfl rfl rfl (by decide) (by decide) rfl (by rfl) ?_
      refine kR.s rfl rfl ?_
      refine kR.add ?_
      refine kR.pi (a := 30) (k := 21) (by omega) rfl rfl rfl (by decide) (by decide) rfl rfl ?_
      refine kR.s rfl rfl ?_
      refine kR.s rfl rfl ?_
      refine kR.c0 (kargs_m hm (by decide) rfl) rfl (kR.up (c_113 (S := ku (ku (ku S 30 21 ((p : Int) + 1)) 30 21 (pb : Int)) 30 21 ((pb : Int) + 1)) hm) (by decide)) ?_
      refine kR.ret rfl rfl ?_
      refine ⟨fun _ => ?_, fun z => absurd (by omega) z, fun z => absurd (by omega) z⟩
      rw [ku_ku, ku_ku]
  · show kR 2 139 [(13, 0, .istore_n 2), (14, 0, .aload_n 0), (15, 0, .dup), (16, 821, .getfield 106), (19, 0, .iconst 1), (20, 0, .iadd), (21, 821, .putfield 106), (24, 0, .aload_n 0), (25, 109, .invokevirtual 178), (28, 0, .aload_n 0), (29, 0, .aload_n 0), (30, 821, .getfield 106), (33, 108, .invokevirtual 112), (36, 0, .iload_n 1), (37, 45, .ifCond .eq (8)), (40, 0, .bipush (93)), (42, 47, .goto (5))] _ _ _ _
    refine kR.s rfl rfl ?_
    refine kR.s rfl rfl ?_
    refine kR.s rfl rfl ?_
    refine kR.gi (a := 30) (k := 21) (v := (p : Int)) (by omega) rfl rfl rfl (by decide) (by decide) rfl (by exact hpp) ?_
    refine kR.s rfl rfl ?_
    refine kR.add ?_
    refine kR.pi (a := 30) (k := 21) (by omega) rfl rfl rfl (by decide) (by decide) rfl rfl ?_
    refine kR.s rfl rfl ?_
    refine kR.c0 (kargs_m hm (by decide) rfl) rfl (kR.up (hpb ▸ c_109 hm (S := ku S 30 21 ((p : Int) + 1)) hX hR he hen (p := p + 1) rfl (by omega)) (by decide)) ?_
    refine kR.s rfl rfl ?_
    refine kR.s rfl rfl ?_
    refine kR.gi (a := 30) (k := 21) (v := (pb : Int)) (by omega) rfl rfl rfl (by decide) (by decide) rfl (by rfl) ?_
    have f2_0 := khr_r hX hen pb
    refine kR.cv (v := .int (Int32.ofInt (khr t e pb))) (kargs_m hm (by decide) rfl) rfl (kR.up (c_108t (S := ku (ku S 30 21 ((p : Int) + 1)) 30 21 (pb : Int)) hm hX hR he hen (k := pb) (by omega)) (by decide)) ?_
    refine kR.s rfl rfl ?_
    refine kR.zeq (by decide) (by decide) (fun q3 => absurd q3 (by decide)) (fun q3 => ?_)
    refine kR.bi rfl ?_
    refine kR.g rfl ?_
    show kR 2 139 b139_47 _ _ _ _
    refine kR.jne (by omega) (by omega) (by omega) (by omega) (fun q4 => ?_) (fun q4 => ?_)
    · skip
      show kR 2 139 b139_66 _ _ _ _
      refine kR.s rfl rfl ?_
      refine kR.s rfl rfl ?_
      refine kR.zeq (by decide) (by decide) (fun q5 => absurd q5 (by decide)) (fun q5 => ?_)
      refine kR.s rfl rfl ?_
      refine kR.g rfl ?_
      show kR 2 139 b139_76 _ _ _ _
      refine kR.s rfl rfl ?_
      refine kR.s rfl rfl ?_
      refine kR.c0 (kargs_m hm (by decide) rfl) rfl (kR.up (c_112b (S := ku (ku S 30 21 ((p : Int) + 1)) 30 21 (pb : Int)) hm (w := 3) hwr) (by decide)) ?_
      refine kR.s rfl rfl ?_
      refine kR.s rfl rfl ?_
      refine kR.zeq (by decide) (by decide) (fun q7 => absurd q7 (by decide)) (fun q7 => ?_)
      refine kR.s rfl rfl ?_
      refine kR.g rfl ?_
      show kR 2 139 b139_91 _ _ _ _
      refine kR.pi (a := 30) (k := 20) (by omega) rfl rfl rfl (by decide) (by decide) rfl rfl ?_
      refine kR.ret rfl rfl ?_
      refine ⟨fun z => absurd z (by omega), fun _ z => absurd z (by decide), fun _ _ => ?_⟩
      rw [ku_ku]
    · skip
      refine kR.s rfl rfl ?_
      refine kR.s rfl rfl ?_
      refine kR.gi (a := 30) (k := 21) (v := (pb : Int)) (by omega) rfl rfl rfl (by decide) (by decide) rfl (by rfl) ?_
      refine kR.s rfl rfl ?_
      refine kR.add ?_
      refine kR.pi (a := 30) (k := 21) (by omega) rfl rfl rfl (by decide) (by decide) rfl rfl ?_
      refine kR.s rfl rfl ?_
      refine kR.s rfl rfl ?_
      refine kR.c0 (kargs_m hm (by decide) rfl) rfl (kR.up (c_113 (S := ku (ku (ku S 30 21 ((p : Int) + 1)) 30 21 (pb : Int)) 30 21 ((pb : Int) + 1)) hm) (by decide)) ?_
      refine kR.ret rfl rfl ?_
      refine ⟨fun _ => ?_, fun z => absurd (by omega) z, fun z => absurd (by omega) z⟩
      rw [ku_ku, ku_ku]
theorem l_139_0 {m : Nat} {E : Nat → kC} {S : Nat → Nat → Int} {sz : Nat × Nat} (hm : 53 ≤ m ∧ m ≤ 57) {t : Nat → Int} {n L : Nat} (hX : kTx t n L) (hR : kRt S t n) {e : Nat} (he : S 30 23 = (e : Int)) (hen : e ≤ n) {p : Nat} (hpp : S 30 21 = (p : Int)) (hpn : p ≤ 250) {o : Nat} (ho : S 30 29 = (o : Int)) (hol : o ≤ 8) {v : Nat} {w : Int} (hw01 : w = 0 ∨ w = 1) (hwr : S 30 19 = w) {v2 : Value} : kR 2 139 (b139_10.drop 1) [.ref 30, .int (Int32.ofInt 0), v2] [.int (Int32.ofInt (v : Int))] (sz, hp m E S) (fun r => (kch t e (kw (fun i => decide (t i = 32)) e (p + 1)) = 125 → r = (.inl none, (sz, hp m E (ku (ku (ku S 30 21 (((kw (fun i => decide (t i = 32)) e (p + 1)) : Nat) + (1 : Int))) 30 27 (v : Int)) 30 20 4)))) ∧ (¬ kch t e (kw (fun i => decide (t i = 32)) e (p + 1)) = 125 → w = 0 → r = (.inl none, (sz, hp m E (ku (kbgm (ku S 30 21 ((kw (fun i => decide (t i = 32)) e (p + 1)) : Nat)) 4 v 0 o) 30 20 3)))) ∧ (¬ kch t e (kw (fun i => decide (t i = 32)) e (p + 1)) = 125 → w = 1 → r = (.inl none, (sz, hp m E (ku (ku S 30 21 ((kw (fun i => decide (t i = 32)) e (p + 1)) : Nat)) 30 20 3))))) := by
  have hx1 := hX.1
  have hkr : p + 1 ≤ (kw (fun i => decide (t i = 32)) e (p + 1)) ∧ (p + 1 ≤ e → (kw (fun i => decide (t i = 32)) e (p + 1)) ≤ e) := kw_rng
  have hko : e ≤ p + 1 → (kw (fun i => decide (t i = 32)) e (p + 1)) = p + 1 := fun z => kw_no (Or.inl z)
  obtain ⟨pb, hpb⟩ : ∃ pb, pb = (kw (fun i => decide (t i = 32)) e (p + 1)) := ⟨_, rfl⟩
  rw [← hpb] at hkr hko ⊢
  have hcc := khr_c (t := t) (e := e) (p := pb) 125 (by decide) (by decide)
  rcases hw01 with rfl | rfl
  · show kR 2 139 [(13, 0, .istore_n 2), (14, 0, .aload_n 0), (15, 0, .dup), (16, 821, .getfield 106), (19, 0, .iconst 1), (20, 0, .iadd), (21, 821, .putfield 106), (24, 0, .aload_n 0), (25, 109, .invokevirtual 178), (28, 0, .aload_n 0), (29, 0, .aload_n 0), (30, 821, .getfield 106), (33, 108, .invokevirtual 112), (36, 0, .iload_n 1), (37, 45, .ifCond .eq (8)), (40, 0, .bipush (93)), (42, 47, .goto (5))] _ _ _ _
    refine kR.s rfl rfl ?_
    refine kR.s rfl rfl ?_
    refine kR.s rfl rfl ?_
    refine kR.gi (a := 30) (k := 21) (v := (p : Int)) (by omega) rfl rfl rfl (by decide) (by decide) rfl (by exact hpp) ?_
    refine kR.s rfl rfl ?_
    refine kR.add ?_
    refine kR.pi (a := 30) (k := 21) (by omega) rfl rfl rfl (by decide) (by decide) rfl rfl ?_
    refine kR.s rfl rfl ?_
    refine kR.c0 (kargs_m hm (by decide) rfl) rfl (kR.up (hpb ▸ c_109 hm (S := ku S 30 21 ((p : Int) + 1)) hX hR he hen (p := p + 1) rfl (by omega)) (by decide)) ?_
    refine kR.s rfl rfl ?_
    refine kR.s rfl rfl ?_
    refine kR.gi (a := 30) (k := 21) (v := (pb : Int)) (by omega) rfl rfl rfl (by decide) (by decide) rfl (by rfl) ?_
    have f2_0 := khr_r hX hen pb
    refine kR.cv (v := .int (Int32.ofInt (khr t e pb))) (kargs_m hm (by decide) rfl) rfl (kR.up (c_108t (S := ku (ku S 30 21 ((p : Int) + 1)) 30 21 (pb : Int)) hm hX hR he hen (k := pb) (by omega)) (by decide)) ?_
    refine kR.s rfl rfl ?_
    refine kR.zeq (by decide) (by decide) (fun q3 => ?_) (fun q3 => absurd q3 (by decide))
    show kR 2 139 b139_45 _ _ _ _
    refine kR.bi rfl ?_
    refine kR.n ?_
    show kR 2 139 b139_47 _ _ _ _
    refine kR.jne (by omega) (by omega) (by omega) (by omega) (fun q4 => ?_) (fun q4 => ?_)
    · skip
      show kR 2 139 b139_66 _ _ _ _
      refine kR.s rfl rfl ?_
      refine kR.s rfl rfl ?_
      refine kR.zeq (by decide) (by decide) (fun q5 => ?_) (fun q5 => absurd q5 (by decide))
      show kR 2 139 b139_75 _ _ _ _
      refine kR.s rfl rfl ?_
      refine kR.n ?_
      show kR 2 139 b139_76 _ _ _ _
      refine kR.s rfl rfl ?_
      refine kR.s rfl rfl ?_
      refine kR.c0 (kargs_m hm (by decide) rfl) rfl (kR.up (c_112 (S := ku (ku S 30 21 ((p : Int) + 1)) 30 21 (pb : Int)) hm (w := 4) (v := v) (z := 0) ho (by omega) (by omega) hwr) (by decide)) ?_
      refine kR.s rfl rfl ?_
      refine kR.s rfl rfl ?_
      refine kR.zeq (by decide) (by decide) (fun q7 => ?_) (fun q7 => absurd q7 (by decide))
      show kR 2 139 b139_90 _ _ _ _
      refine kR.s rfl rfl ?_
      refine kR.n ?_
      show kR 2 139 b139_91 _ _ _ _
      refine kR.pi (a := 30) (k := 20) (by omega) rfl rfl rfl (by decide) (by decide) rfl rfl ?_
      refine kR.ret rfl rfl ?_
      refine ⟨fun z => absurd z (by omega), fun _ _ => ?_, fun _ z => absurd z (by decide)⟩
      rw [ku_ku]
    · skip
      refine kR.s rfl rfl ?_
      refine kR.s rfl rfl ?_
      refine kR.gi (a := 30) (k := 21) (v := (pb : Int)) (by omega) rfl rfl rfl (by decide) (by decide) rfl (by rfl) ?_
      refine kR.s rfl rfl ?_
      refine kR.add ?_
      refine kR.pi (a := 30) (k := 21) (by omega) rfl rfl rfl (by decide) (by decide) rfl rfl ?_
      refine kR.s rfl rfl ?_
      refine kR.s rfl rfl ?_
      refine kR.c0 (kargs_m hm (by decide) rfl) rfl (kR.up (c_113 (S := ku (ku (ku S 30 21 ((p : Int) + 1)) 30 21 (pb : Int)) 30 21 ((pb : Int) + 1)) hm) (by decide)) ?_
      refine kR.ret rfl rfl ?_
      refine ⟨fun _ => ?_, fun z => absurd (by omega) z, fun z => absurd (by omega) z⟩
      rw [ku_ku, ku_ku]
  · show kR 2 139 [(13, 0, .istore_n 2), (14, 0, .aload_n 0), (15, 0, .dup), (16, 821, .getfield 106), (19, 0, .iconst 1), (20, 0, .iadd), (21, 821, .putfield 106), (24, 0, .aload_n 0), (25, 109, .invokevirtual 178), (28, 0, .aload_n 0), (29, 0, .aload_n 0), (30, 821, .getfield 106), (33, 108, .invokevirtual 112), (36, 0, .iload_n 1), (37, 45, .ifCond .eq (8)), (40, 0, .bipush (93)), (42, 47, .goto (5))] _ _ _ _
    refine kR.s rfl rfl ?_
    refine kR.s rfl rfl ?_
    refine kR.s rfl rfl ?_
    refine kR.gi (a := 30) (k := 21) (v := (p : Int)) (by omega) rfl rfl rfl (by decide) (by decide) rfl (by exact hpp) ?_
    refine kR.s rfl rfl ?_
    refine kR.add ?_
    refine kR.pi (a := 30) (k := 21) (by omega) rfl rfl rfl (by decide) (by decide) rfl rfl ?_
    refine kR.s rfl rfl ?_
    refine kR.c0 (kargs_m hm (by decide) rfl) rfl (kR.up (hpb ▸ c_109 hm (S := ku S 30 21 ((p : Int) + 1)) hX hR he hen (p := p + 1) rfl (by omega)) (by decide)) ?_
    refine kR.s rfl rfl ?_
    refine kR.s rfl rfl ?_
    refine kR.gi (a := 30) (k := 21) (v := (pb : Int)) (by omega) rfl rfl rfl (by decide) (by decide) rfl (by rfl) ?_
    have f2_0 := khr_r hX hen pb
    refine kR.cv (v := .int (Int32.ofInt (khr t e pb))) (kargs_m hm (by decide) rfl) rfl (kR.up (c_108t (S := ku (ku S 30 21 ((p : Int) + 1)) 30 21 (pb : Int)) hm hX hR he hen (k := pb) (by omega)) (by decide)) ?_
    refine kR.s rfl rfl ?_
    refine kR.zeq (by decide) (by decide) (fun q3 => ?_) (fun q3 => absurd q3 (by decide))
    show kR 2 139 b139_45 _ _ _ _
    refine kR.bi rfl ?_
    refine kR.n ?_
    show kR 2 139 b139_47 _ _ _ _
    refine kR.jne (by omega) (by omega) (by omega) (by omega) (fun q4 => ?_) (fun q4 => ?_)
    · skip
      show kR 2 139 b139_66 _ _ _ _
      refine kR.s rfl rfl ?_
      refine kR.s rfl rfl ?_
      refine kR.zeq (by decide) (by decide) (fun q5 => ?_) (fun q5 => absurd q5 (by decide))
      show kR 2 139 b139_75 _ _ _ _
      refine kR.s rfl rfl ?_
      refine kR.n ?_
      show kR 2 139 b139_76 _ _ _ _
      refine kR.s rfl rfl ?_
      refine kR.s rfl rfl ?_
      refine kR.c0 (kargs_m hm (by decide) rfl) rfl (kR.up (c_112b (S := ku (ku S 30 21 ((p : Int) + 1)) 30 21 (pb : Int)) hm (w := 4) hwr) (by decide)) ?_
      refine kR.s rfl rfl ?_
      refine kR.s rfl rfl ?_
      refine kR.zeq (by decide) (by decide) (fun q7 => ?_) (fun q7 => absurd q7 (by decide))
      show kR 2 139 b139_90 _ _ _ _
      refine kR.s rfl rfl ?_
      refine kR.n ?_
      show kR 2 139 b139_91 _ _ _ _
      refine kR.pi (a := 30) (k := 20) (by omega) rfl rfl rfl (by decide) (by decide) rfl rfl ?_
      refine kR.ret rfl rfl ?_
      refine ⟨fun z => absurd z (by omega), fun _ z => absurd z (by decide), fun _ _ => ?_⟩
      rw [ku_ku]
    · skip
      refine kR.s rfl rfl ?_
      refine kR.s rfl rfl ?_
      refine kR.gi (a := 30) (k := 21) (v := (pb : Int)) (by omega) rfl rfl rfl (by decide) (by decide) rfl (by rfl) ?_
      refine kR.s rfl rfl ?_
      refine kR.add ?_
      refine kR.pi (a := 30) (k := 21) (by omega) rfl rfl rfl (by decide) (by decide) rfl rfl ?_
      refine kR.s rfl rfl ?_
      refine kR.s rfl rfl ?_
      refine kR.c0 (kargs_m hm (by decide) rfl) rfl (kR.up (c_113 (S := ku (ku (ku S 30 21 ((p : Int) + 1)) 30 21 (pb : Int)) 30 21 ((pb : Int) + 1)) hm) (by decide)) ?_
      refine kR.ret rfl rfl ?_
      refine ⟨fun _ => ?_, fun z => absurd (by omega) z, fun z => absurd (by omega) z⟩
      rw [ku_ku, ku_ku]
