/-! The reference: quoted texts, names, colons. By program (wip/gen/gen48.py). -/
theorem kch_h {t : Nat → Int} {n L e : Nat} (hX : kTx t n L) (h : e ≤ n) (p : Nat) : (khr t e p = kch t e p ∧ 0 < khr t e p) ∨ (khr t e p = 0 ∧ kch t e p = 10) := by
  have h1 := khr_o t e p
  have h2 := kch_rng hX h p
  omega
/-- a naming stands here; b is 1 where it may be the line's last -/
def knm (t : Nat → Int) (e : Nat) (b : Int) (p : Nat) : Int := if kch t e p = 38 ∧ (97 ≤ kch t e (p + 1) ∧ kch t e (p + 1) ≤ 122) ∧ (kch t e (p + 2) = 32 ∨ b = 1 ∧ p + 2 = e) then 1 else 0
theorem knm_o (t : Nat → Int) (e : Nat) (b : Int) (p : Nat) : (knm t e b p = 1 ∧ (kch t e p = 38 ∧ (97 ≤ kch t e (p + 1) ∧ kch t e (p + 1) ≤ 122) ∧ (kch t e (p + 2) = 32 ∨ b = 1 ∧ p + 2 = e))) ∨ (knm t e b p = 0 ∧ ¬ (kch t e p = 38 ∧ (97 ≤ kch t e (p + 1) ∧ kch t e (p + 1) ≤ 122) ∧ (kch t e (p + 2) = 32 ∨ b = 1 ∧ p + 2 = e))) := by
  unfold knm
  split
  · rename_i h; exact Or.inl ⟨rfl, h⟩
  · rename_i h; exact Or.inr ⟨rfl, h⟩
theorem c_129n {m : Nat} {E : Nat → kC} {S : Nat → Nat → Int} {sz : Nat × Nat} (hm : 53 ≤ m ∧ m ≤ 57) {t : Nat → Int} {n L : Nat} (hX : kTx t n L) (hR : kRt S t n) {e : Nat} (he : S 30 23 = (e : Int)) (hen : e ≤ n) {p : Nat} (hpp : S 30 21 = (p : Int)) (hpn : p ≤ 290) {b : Int} (hb : b = 0 ∨ b = 1) (hno : knm t e b p = 0) : kR 2 129 (blk 129 0) (kent 129 [.ref 30, .int (Int32.ofInt (b))]) [] (sz, hp m E S) (fun r => r = (.inl none, (sz, hp m E S))) := by
  have hx1 := hX.1
  show kR 2 129 b129_0 _ _ _ _
  refine kR.s rfl rfl ?_
  refine kR.s rfl rfl ?_
  refine kR.gi (a := 30) (k := 21) (v := (p : Int)) (by omega) rfl rfl rfl (by decide) (by decide) rfl (by exact hpp) ?_
  have f1_0 := khr_r hX hen p
  refine kR.cv (v := .int (Int32.ofInt (khr t e p))) (kargs_m hm (by decide) rfl) rfl (kR.up (c_108t hm hX hR he hen (k := p) (by omega)) (by decide)) ?_
  refine kR.bi rfl ?_
  refine kR.jne (by omega) (by omega) (by omega) (by omega) (fun q2 => ?_) (fun q2 => ?_)
  · skip
    show kR 2 129 b129_65 _ _ _ _
    refine kR.ret rfl rfl ?_
    rfl
  · skip
    refine kR.s rfl rfl ?_
    refine kR.s rfl rfl ?_
    refine kR.gi (a := 30) (k := 21) (v := (p : Int)) (by omega) rfl rfl rfl (by decide) (by decide) rfl (by exact hpp) ?_
    refine kR.s rfl rfl ?_
    refine kR.add ?_
    have f3_0 := khr_r hX hen (p + 1)
    refine kR.cv (v := .int (Int32.ofInt (khr t e (p + 1)))) (kargs_m hm (by decide) rfl) rfl (kR.up (c_108t hm hX hR he hen (k := (p + 1)) (by omega)) (by decide)) ?_
    refine kR.bi rfl ?_
    refine kR.bi rfl ?_
    refine kR.cb (P := 97 ≤ khr t e (p + 1) ∧ khr t e (p + 1) ≤ 122) rfl rfl (kR.up (c_117 (by omega) (by omega) (by omega)) (by decide)) (fun q4 => ?_) (fun q4 => ?_)
    · skip
      refine kR.zeq (by decide) (by decide) (fun q5 => absurd q5 (by decide)) (fun q5 => ?_)
      refine kR.s rfl rfl ?_
      refine kR.s rfl rfl ?_
      refine kR.gi (a := 30) (k := 21) (v := (p : Int)) (by omega) rfl rfl rfl (by decide) (by decide) rfl (by exact hpp) ?_
      refine kR.s rfl rfl ?_
      refine kR.add ?_
      have f6_0 := khr_r hX hen (p + 2)
      refine kR.cv (v := .int (Int32.ofInt (khr t e (p + 2)))) (kargs_m hm (by decide) rfl) rfl (kR.up (c_108t hm hX hR he hen (k := (p + 2)) (by omega)) (by decide)) ?_
      refine kR.bi rfl ?_
      refine kR.jeq (by omega) (by omega) (by omega) (by omega) (fun q7 => ?_) (fun q7 => ?_)
      · skip
        exfalso
        have y0 := knm_o t e b p
        have y1 := kch_h hX hen p
        have y2 := kch_h hX hen (p + 1)
        have y3 := kch_h hX hen (p + 2)
        omega
      · skip
        refine kR.s rfl rfl ?_
        refine kR.zeq (by omega) (by omega) (fun q8 => ?_) (fun q8 => ?_)
        · skip
          show kR 2 129 b129_65 _ _ _ _
          refine kR.ret rfl rfl ?_
          rfl
        · skip
          refine kR.s rfl rfl ?_
          refine kR.gi (a := 30) (k := 21) (v := (p : Int)) (by omega) rfl rfl rfl (by decide) (by decide) rfl (by exact hpp) ?_
          refine kR.s rfl rfl ?_
          refine kR.add ?_
          refine kR.s rfl rfl ?_
          refine kR.gi (a := 30) (k := 23) (v := (e : Int)) (by omega) rfl rfl rfl (by decide) (by decide) rfl (by exact he) ?_
          refine kR.jeq (by omega) (by omega) (by omega) (by omega) (fun q9 => ?_) (fun q9 => ?_)
          · skip
            exfalso
            have y0 := knm_o t e b p
            have y1 := kch_h hX hen p
            have y2 := kch_h hX hen (p + 1)
            have y3 := kch_h hX hen (p + 2)
            omega
          · skip
            refine kR.n ?_
            show kR 2 129 b129_65 _ _ _ _
            refine kR.ret rfl rfl ?_
            rfl
    · skip
      refine kR.zeq (by decide) (by decide) (fun q10 => ?_) (fun q10 => absurd q10 (by decide))
      show kR 2 129 b129_65 _ _ _ _
      refine kR.ret rfl rfl ?_
      rfl
theorem c_129 {m : Nat} {E : Nat → kC} {S : Nat → Nat → Int} {sz : Nat × Nat} (hm : 53 ≤ m ∧ m ≤ 57) {t : Nat → Int} {n L : Nat} (hX : kTx t n L) (hR : kRt S t n) {e : Nat} (he : S 30 23 = (e : Int)) (hen : e ≤ n) {p : Nat} (hpp : S 30 21 = (p : Int)) (hpn : p ≤ 290) {b : Int} (hb : b = 0 ∨ b = 1) (hno : knm t e b p = 1) (hwr : S 30 19 = 0) (hw : -1 ≤ S 30 26 ∧ S 30 26 < 26) : kR 2 129 (blk 129 0) (kent 129 [.ref 30, .int (Int32.ofInt (b))]) [] (sz, hp m E S) (fun r => r = (.inl none, (sz, hp m E (ku (ku (ku S 30 19 (if 0 ≤ S 30 26 then 1 else 0)) 30 26 (klt t e (p + 1))) 30 21 ((kw (fun i => decide (t i = 32)) e (p + 2) : Nat) : Int))))) := by
  have hx1 := hX.1
  have hwa : (if 0 ≤ S 30 26 then (1 : Int) else 0) = 0 ∨ (if 0 ≤ S 30 26 then (1 : Int) else 0) = 1 := by split <;> simp
  show kR 2 129 b129_0 _ _ _ _
  refine kR.s rfl rfl ?_
  refine kR.s rfl rfl ?_
  refine kR.gi (a := 30) (k := 21) (v := (p : Int)) (by omega) rfl rfl rfl (by decide) (by decide) rfl (by exact hpp) ?_
  have f1_0 := khr_r hX hen p
  refine kR.cv (v := .int (Int32.ofInt (khr t e p))) (kargs_m hm (by decide) rfl) rfl (kR.up (c_108t hm hX hR he hen (k := p) (by omega)) (by decide)) ?_
  refine kR.bi rfl ?_
  refine kR.jne (by omega) (by omega) (by omega) (by omega) (fun q2 => ?_) (fun q2 => ?_)
  · skip
    exfalso
    have y0 := knm_o t e b p
    have y1 := kch_h hX hen p
    have y2 := kch_h hX hen (p + 1)
    have y3 := kch_h hX hen (p + 2)
    omega
  · skip
    refine kR.s rfl rfl ?_
    refine kR.s rfl rfl ?_
    refine kR.gi (a := 30) (k := 21) (v := (p : Int)) (by omega) rfl rfl rfl (by decide) (by decide) rfl (by exact hpp) ?_
    refine kR.s rfl rfl ?_
    refine kR.add ?_
    have f3_0 := khr_r hX hen (p + 1)
    refine kR.cv (v := .int (Int32.ofInt (khr t e (p + 1)))) (kargs_m hm (by decide) rfl) rfl (kR.up (c_108t hm hX hR he hen (k := (p + 1)) (by omega)) (by decide)) ?_
    refine kR.bi rfl ?_
    refine kR.bi rfl ?_
    refine kR.cb (P := 97 ≤ khr t e (p + 1) ∧ khr t e (p + 1) ≤ 122) rfl rfl (kR.up (c_117 (by omega) (by omega) (by omega)) (by decide)) (fun q4 => ?_) (fun q4 => ?_)
    · skip
      refine kR.zeq (by decide) (by decide) (fun q5 => absurd q5 (by decide)) (fun q5 => ?_)
      refine kR.s rfl rfl ?_
      refine kR.s rfl rfl ?_
      refine kR.gi (a := 30) (k := 21) (v := (p : Int)) (by omega) rfl rfl rfl (by decide) (by decide) rfl (by exact hpp) ?_
      refine kR.s rfl rfl ?_
      refine kR.add ?_
      have f6_0 := khr_r hX hen (p + 2)
      refine kR.cv (v := .int (Int32.ofInt (khr t e (p + 2)))) (kargs_m hm (by decide) rfl) rfl (kR.up (c_108t hm hX hR he hen (k := (p + 2)) (by omega)) (by decide)) ?_
      refine kR.bi rfl ?_
      refine kR.jeq (by omega) (by omega) (by omega) (by omega) (fun q7 => ?_) (fun q7 => ?_)
      · skip
        show kR 2 129 b129_66 _ _ _ _
        refine kR.s rfl rfl ?_
        refine kR.s rfl rfl ?_
        refine kR.gi (a := 30) (k := 19) (v := 0) (by omega) rfl rfl rfl (by decide) (by decide) rfl (by exact hwr) ?_
        refine kR.zne (by decide) (by decide) (fun q8 => absurd q8 (by decide)) (fun q8 => ?_)
        refine kR.s rfl rfl ?_
        refine kR.gi (a := 30) (k := 26) (v := S 30 26) (by omega) rfl rfl rfl (by decide) (by decide) rfl (by rfl) ?_
        refine kR.zlt (by omega) (by omega) (fun q9 => ?_) (fun q9 => ?_)
        · skip
          show kR 2 129 b129_85 _ _ _ _
          refine kR.s rfl rfl ?_
          refine kR.n ?_
          show kR 2 129 b129_86 _ _ _ _
          refine kR.pi (a := 30) (k := 19) (by omega) rfl rfl rfl (by decide) (by decide) rfl (by first | rfl | assumption | simp [kfit, *]) ?_
          refine kR.s rfl rfl ?_
          refine kR.s rfl rfl ?_
          refine kR.s rfl rfl ?_
          refine kR.gi (a := 30) (k := 21) (v := (p : Int)) (by omega) rfl rfl rfl (by decide) (by decide) rfl (by exact hpp) ?_
          refine kR.s rfl rfl ?_
          refine kR.add ?_
          have f10_0 := khr_r hX hen (p + 1)
          refine kR.cv (v := .int (Int32.ofInt (khr t e (p + 1)))) (kargs_m hm (by decide) rfl) rfl (kR.up (c_108t (S := ku S 30 19 0) hm hX hR he hen (k := (p + 1)) (by omega)) (by decide)) ?_
          refine kR.bi rfl ?_
          refine kR.sub ?_
          rw [show khr t e (p + 1) - 97 = klt t e (p + 1) by have y0 := knm_o t e b p; have y1 := kch_h hX hen p; have y2 := kch_h hX hen (p + 1); have y3 := kch_h hX hen (p + 2); have y4 := klt_o t e (p + 1); omega]
          refine kR.pi (a := 30) (k := 26) (by omega) rfl rfl rfl (by decide) (by decide) rfl rfl ?_
          refine kR.s rfl rfl ?_
          refine kR.s rfl rfl ?_
          refine kR.gi (a := 30) (k := 21) (v := (p : Int)) (by omega) rfl rfl rfl (by decide) (by decide) rfl (by exact hpp) ?_
          refine kR.s rfl rfl ?_
          refine kR.add ?_
          refine kR.pi (a := 30) (k := 21) (by omega) rfl rfl rfl (by decide) (by decide) rfl rfl ?_
          refine kR.s rfl rfl ?_
          refine kR.c0 (kargs_m hm (by decide) rfl) rfl (kR.up (c_109 (S := ku (ku (ku S 30 19 0) 30 26 (klt t e (p + 1))) 30 21 ((p : Int) + 2)) hm hX hR he hen (p := (p + 2)) (by rfl) (by omega)) (by decide)) ?_
          refine kR.ret rfl rfl ?_
          rw [ku_ku]
          first | (rw [if_pos (by omega)]; done) | (rw [if_neg (by omega)]; done)
        · skip
          refine kR.n ?_
          show kR 2 129 b129_81 _ _ _ _
          refine kR.s rfl rfl ?_
          refine kR.g rfl ?_
          show kR 2 129 b129_86 _ _ _ _
          refine kR.pi (a := 30) (k := 19) (by omega) rfl rfl rfl (by decide) (by decide) rfl (by first | rfl | assumption | simp [kfit, *]) ?_
          refine kR.s rfl rfl ?_
          refine kR.s rfl rfl ?_
          refine kR.s rfl rfl ?_
          refine kR.gi (a := 30) (k := 21) (v := (p : Int)) (by omega) rfl rfl rfl (by decide) (by decide) rfl (by exact hpp) ?_
          refine kR.s rfl rfl ?_
          refine kR.add ?_
          have f12_0 := khr_r hX hen (p + 1)
          refine kR.cv (v := .int (Int32.ofInt (khr t e (p + 1)))) (kargs_m hm (by decide) rfl) rfl (kR.up (c_108t (S := ku S 30 19 1) hm hX hR he hen (k := (p + 1)) (by omega)) (by decide)) ?_
          refine kR.bi rfl ?_
          refine kR.sub ?_
          rw [show khr t e (p + 1) - 97 = klt t e (p + 1) by have y0 := knm_o t e b p; have y1 := kch_h hX hen p; have y2 := kch_h hX hen (p + 1); have y3 := kch_h hX hen (p + 2); have y4 := klt_o t e (p + 1); omega]
          refine kR.pi (a := 30) (k := 26) (by omega) rfl rfl rfl (by decide) (by decide) rfl rfl ?_
          refine kR.s rfl rfl ?_
          refine kR.s rfl rfl ?_
          refine kR.gi (a := 30) (k := 21) (v := (p : Int)) (by omega) rfl rfl rfl (by decide) (by decide) rfl (by exact hpp) ?_
          refine kR.s rfl rfl ?_
          refine kR.add ?_
          refine kR.pi (a := 30) (k := 21) (by omega) rfl rfl rfl (by decide) (by decide) rfl rfl ?_
          refine kR.s rfl rfl ?_
          refine kR.c0 (kargs_m hm (by decide) rfl) rfl (kR.up (c_109 (S := ku (ku (ku S 30 19 1) 30 26 (klt t e (p + 1))) 30 21 ((p : Int) + 2)) hm hX hR he hen (p := (p + 2)) (by rfl) (by omega)) (by decide)) ?_
          refine kR.ret rfl rfl ?_
          rw [ku_ku]
          first | (rw [if_pos (by omega)]; done) | (rw [if_neg (by omega)]; done)
      · skip
        refine kR.s rfl rfl ?_
        refine kR.zeq (by omega) (by omega) (fun q14 => ?_) (fun q14 => ?_)
        · skip
          exfalso
          have y0 := knm_o t e b p
          have y1 := kch_h hX hen p
          have y2 := kch_h hX hen (p + 1)
          have y3 := kch_h hX hen (p + 2)
          omega
        · skip
          refine kR.s rfl rfl ?_
          refine kR.gi (a := 30) (k := 21) (v := (p : Int)) (by omega) rfl rfl rfl (by decide) (by decide) rfl (by exact hpp) ?_
          refine kR.s rfl rfl ?_
          refine kR.add ?_
          refine kR.s rfl rfl ?_
          refine kR.gi (a := 30) (k := 23) (v := (e : Int)) (by omega) rfl rfl rfl (by decide) (by decide) rfl (by exact he) ?_
          refine kR.jeq (by omega) (by omega) (by omega) (by omega) (fun q15 => ?_) (fun q15 => ?_)
          · skip
            show kR 2 129 b129_66 _ _ _ _
            refine kR.s rfl rfl ?_
            refine kR.s rfl rfl ?_
            refine kR.gi (a := 30) (k := 19) (v := 0) (by omega) rfl rfl rfl (by decide) (by decide) rfl (by exact hwr) ?_
            refine kR.zne (by decide) (by decide) (fun q16 => absurd q16 (by decide)) (fun q16 => ?_)
            refine kR.s rfl rfl ?_
            refine kR.gi (a := 30) (k := 26) (v := S 30 26) (by omega) rfl rfl rfl (by decide) (by decide) rfl (by rfl) ?_
            refine kR.zlt (by omega) (by omega) (fun q17 => ?_) (fun q17 => ?_)
            · skip
              show kR 2 129 b129_85 _ _ _ _
              refine kR.s rfl rfl ?_
              refine kR.n ?_
              show kR 2 129 b129_86 _ _ _ _
              refine kR.pi (a := 30) (k := 19) (by omega) rfl rfl rfl (by decide) (by decide) rfl (by first | rfl | assumption | simp [kfit, *]) ?_
              refine kR.s rfl rfl ?_
              refine kR.s rfl rfl ?_
              refine kR.s rfl rfl ?_
              refine kR.gi (a := 30) (k := 21) (v := (p : Int)) (by omega) rfl rfl rfl (by decide) (by decide) rfl (by exact hpp) ?_
              refine kR.s rfl rfl ?_
              refine kR.add ?_
              have f18_0 := khr_r hX hen (p + 1)
              refine kR.cv (v := .int (Int32.ofInt (khr t e (p + 1)))) (kargs_m hm (by decide) rfl) rfl (kR.up (c_108t (S := ku S 30 19 0) hm hX hR he hen (k := (p + 1)) (by omega)) (by decide)) ?_
              refine kR.bi rfl ?_
              refine kR.sub ?_
              rw [show khr t e (p + 1) - 97 = klt t e (p + 1) by have y0 := knm_o t e b p; have y1 := kch_h hX hen p; have y2 := kch_h hX hen (p + 1); have y3 := kch_h hX hen (p + 2); have y4 := klt_o t e (p + 1); omega]
              refine kR.pi (a := 30) (k := 26) (by omega) rfl rfl rfl (by decide) (by decide) rfl rfl ?_
              refine kR.s rfl rfl ?_
              refine kR.s rfl rfl ?_
              refine kR.gi (a := 30) (k := 21) (v := (p : Int)) (by omega) rfl rfl rfl (by decide) (by decide) rfl (by exact hpp) ?_
              refine kR.s rfl rfl ?_
              refine kR.add ?_
              refine kR.pi (a := 30) (k := 21) (by omega) rfl rfl rfl (by decide) (by decide) rfl rfl ?_
              refine kR.s rfl rfl ?_
              refine kR.c0 (kargs_m hm (by decide) rfl) rfl (kR.up (c_109 (S := ku (ku (ku S 30 19 0) 30 26 (klt t e (p + 1))) 30 21 ((p : Int) + 2)) hm hX hR he hen (p := (p + 2)) (by rfl) (by omega)) (by decide)) ?_
              refine kR.ret rfl rfl ?_
              rw [ku_ku]
              first | (rw [if_pos (by omega)]; done) | (rw [if_neg (by omega)]; done)
            · skip
              refine kR.n ?_
              show kR 2 129 b129_81 _ _ _ _
              refine kR.s rfl rfl ?_
              refine kR.g rfl ?_
              show kR 2 129 b129_86 _ _ _ _
              refine kR.pi (a := 30) (k := 19) (by omega) rfl rfl rfl (by decide) (by decide) rfl (by first | rfl | assumption | simp [kfit, *]) ?_
              refine kR.s rfl rfl ?_
              refine kR.s rfl rfl ?_
              refine kR.s rfl rfl ?_
              refine kR.gi (a := 30) (k := 21) (v := (p : Int)) (by omega) rfl rfl rfl (by decide) (by decide) rfl (by exact hpp) ?_
              refine kR.s rfl rfl ?_
              refine kR.add ?_
              have f20_0 := khr_r hX hen (p + 1)
              refine kR.cv (v := .int (Int32.ofInt (khr t e (p + 1)))) (kargs_m hm (by decide) rfl) rfl (kR.up (c_108t (S := ku S 30 19 1) hm hX hR he hen (k := (p + 1)) (by omega)) (by decide)) ?_
              refine kR.bi rfl ?_
              refine kR.sub ?_
              rw [show khr t e (p + 1) - 97 = klt t e (p + 1) by have y0 := knm_o t e b p; have y1 := kch_h hX hen p; have y2 := kch_h hX hen (p + 1); have y3 := kch_h hX hen (p + 2); have y4 := klt_o t e (p + 1); omega]
              refine kR.pi (a := 30) (k := 26) (by omega) rfl rfl rfl (by decide) (by decide) rfl rfl ?_
              refine kR.s rfl rfl ?_
              refine kR.s rfl rfl ?_
              refine kR.gi (a := 30) (k := 21) (v := (p : Int)) (by omega) rfl rfl rfl (by decide) (by decide) rfl (by exact hpp) ?_
              refine kR.s rfl rfl ?_
              refine kR.add ?_
              refine kR.pi (a := 30) (k := 21) (by omega) rfl rfl rfl (by decide) (by decide) rfl rfl ?_
              refine kR.s rfl rfl ?_
              refine kR.c0 (kargs_m hm (by decide) rfl) rfl (kR.up (c_109 (S := ku (ku (ku S 30 19 1) 30 26 (klt t e (p + 1))) 30 21 ((p : Int) + 2)) hm hX hR he hen (p := (p + 2)) (by rfl) (by omega)) (by decide)) ?_
              refine kR.ret rfl rfl ?_
              rw [ku_ku]
              first | (rw [if_pos (by omega)]; done) | (rw [if_neg (by omega)]; done)
          · skip
            refine kR.n ?_
            exfalso
            have y0 := knm_o t e b p
            have y1 := kch_h hX hen p
            have y2 := kch_h hX hen (p + 1)
            have y3 := kch_h hX hen (p + 2)
            omega
    · skip
      refine kR.zeq (by decide) (by decide) (fun q22 => ?_) (fun q22 => absurd q22 (by decide))
      exfalso
      have y0 := knm_o t e b p
      have y1 := kch_h hX hen p
      have y2 := kch_h hX hen (p + 1)
      have y3 := kch_h hX hen (p + 2)
      omega
theorem l_126_34 {m : Nat} {E : Nat → kC} {S : Nat → Nat → Int} {sz : Nat × Nat} (hm : 53 ≤ m ∧ m ≤ 57) {t : Nat → Int} {n L : Nat} (hX : kTx t n L) (hR : kRt S t n) {e : Nat} (he : S 30 23 = (e : Int)) (hen : e ≤ n) {f : Nat} : ∀ (j p : Nat) (cs : List Int) (v4 v5 v6 : Value), e + 2 - p = j → p ≤ e + 1 → cs.length < p → kR 1 126 (blk 126 15) [.ref 30, .int (Int32.ofInt (f : Int)), .int (Int32.ofInt 34), .int (Int32.ofInt (p : Int)), v4, v5, v6] [] (sz, hp m E (kqb S cs)) (fun r => r = (.inl (some (.int (Int32.ofInt (kbq t e 34 p)))), (sz, hp m E (kqb S (cs ++ kuq t e 34 p))))) := by
  intro j
  induction j using Nat.strongRecOn with
  | _ j ih =>
    intro p cs v4 v5 v6 hj hpp hcs
    have hx1 := hX.1
    have hx3 := hX.2.1 p
    have hx4 : p < e → kch t e p = t p := fun z => kch_in z
    have y2 := kch_h hX hen (p + 1)
    have y3 := khr_r hX hen (p + 1)
    have hpr := kpr_o 34 (kch t e p) (kch t e (p + 1))
    show kR 1 126 b126_15 _ _ _ _
    refine kR.s rfl rfl ?_
    refine kR.s rfl rfl ?_
    refine kR.gi (a := 30) (k := 23) (v := (e : Int)) (by omega) rfl rfl rfl (by decide) (by decide) rfl (by exact he) ?_
    refine kR.jge (by omega) (by omega) (by omega) (by omega) (fun q1 => ?_) (fun q1 => ?_)
    · skip
      show kR 1 126 b126_196 _ _ _ _
      refine kR.s rfl rfl ?_
      refine kR.ret rfl rfl ?_
      first | (exfalso; omega) | (rw [kbq_end (by omega), kuq_end (by omega), List.append_nil]; done) | (rw [kbq_u (by omega), kuq_u (by omega), if_neg (by omega), if_neg (by omega), if_pos (by omega), if_neg (by omega), if_neg (by omega), if_pos (by omega), List.append_nil]; done)
    · skip
      refine kR.s rfl rfl ?_
      refine kR.gr (a := 30) (b := 33) (k := 6) (by omega) rfl rfl rfl (by decide) (by decide) rfl ?_
      refine kR.s rfl rfl ?_
      refine kR.ia (a := 33) (v := t p) (by omega) rfl (by decide) (by omega) (by omega) (by exact (hR.2 _ (by omega))) ?_
      refine kR.s rfl rfl ?_
      refine kR.s rfl rfl ?_
      refine kR.s rfl rfl ?_
      refine kR.s rfl rfl ?_
      refine kR.add ?_
      refine kR.cv (v := .int (Int32.ofInt (khr t e (p + 1)))) (kargs_m hm (by decide) rfl) rfl (kR.up (c_108t (S := (kqb S cs)) hm hX hR he hen (k := (p + 1)) (by omega)) (by decide)) ?_
      refine kR.s rfl rfl ?_
      refine kR.s rfl rfl ?_
      refine kR.bi rfl ?_
      refine kR.jne (by decide) (by decide) (by decide) (by decide) (fun q3 => absurd q3 (by decide)) (fun q3 => ?_)
      refine kR.s rfl rfl ?_
      refine kR.bi rfl ?_
      refine kR.jne (by omega) (by omega) (by omega) (by omega) (fun q4 => ?_) (fun q4 => ?_)
      · skip
        show kR 1 126 b126_57 _ _ _ _
        refine kR.s rfl rfl ?_
        refine kR.g rfl ?_
        show kR 1 126 b126_78 _ _ _ _
        refine kR.s rfl rfl ?_
        refine kR.s rfl rfl ?_
        refine kR.zeq (by decide) (by decide) (fun q5 => ?_) (fun q5 => absurd q5 (by decide))
        show kR 1 126 b126_114 _ _ _ _
        refine kR.s rfl rfl ?_
        refine kR.zne (by decide) (by decide) (fun q6 => absurd q6 (by decide)) (fun q6 => ?_)
        refine kR.s rfl rfl ?_
        refine kR.s rfl rfl ?_
        refine kR.jne (by omega) (by omega) (by omega) (by omega) (fun q7 => ?_) (fun q7 => ?_)
        · skip
          show kR 1 126 b126_129 _ _ _ _
          refine kR.s rfl rfl ?_
          refine kR.gr (a := 30) (b := 47) (k := 35) (by omega) rfl rfl rfl (by decide) (by decide) rfl ?_
          refine kR.s rfl rfl ?_
          refine kR.gi (a := 30) (k := 34) (v := (cs.length : Int)) (by omega) rfl rfl rfl (by decide) (by decide) rfl (by exact rfl) ?_
          refine kR.s rfl rfl ?_
          refine kR.zne (by decide) (by decide) (fun q8 => absurd q8 (by decide)) (fun q8 => ?_)
          refine kR.s rfl rfl ?_
          refine kR.g rfl ?_
          show kR 1 126 b126_167 _ _ _ _
          refine kR.ist (a := 47) (by omega) rfl (by decide) (by omega) (by omega) ?_
          refine kR.s rfl rfl ?_
          refine kR.s rfl rfl ?_
          refine kR.gi (a := 30) (k := 34) (v := (cs.length : Int)) (by omega) rfl rfl rfl (by decide) (by decide) rfl (by exact rfl) ?_
          refine kR.s rfl rfl ?_
          refine kR.add ?_
          refine kR.pi (a := 30) (k := 34) (by omega) rfl rfl rfl (by decide) (by decide) rfl rfl ?_
          refine kR.s rfl rfl ?_
          refine kR.zeq (by decide) (by decide) (fun q9 => ?_) (fun q9 => absurd q9 (by decide))
          show kR 1 126 b126_189 _ _ _ _
          refine kR.s rfl rfl ?_
          refine kR.s rfl rfl ?_
          refine kR.add ?_
          refine kR.n ?_
          show kR 1 126 b126_192 _ _ _ _
          refine kR.s rfl rfl ?_
          refine kR.g rfl ?_
          rw [kbq_u (by omega), kuq_u (by omega)]
          rw [if_neg (by omega), if_neg (by omega), if_neg (by omega), if_neg (by omega), if_neg (by omega), if_neg (by omega), hx4 (by omega)]
          have z := ih (e + 2 - (p + 1)) (by omega) (p + 1) (cs ++ [t p]) (.int (Int32.ofInt (t p))) (.int (Int32.ofInt (khr t e (p + 1)))) (.int (Int32.ofInt (0))) rfl (by omega) (by simp; omega)
          rw [← kqb_snoc, List.append_assoc] at z
          exact z
        · skip
          refine kR.s rfl rfl ?_
          refine kR.s rfl rfl ?_
          refine kR.add ?_
          refine kR.ret rfl rfl ?_
          first | (exfalso; omega) | (rw [kbq_u (by omega), kuq_u (by omega), if_neg (by omega), if_pos (by omega), if_neg (by omega), if_pos (by omega), List.append_nil]; done)
      · skip
        refine kR.s rfl rfl ?_
        refine kR.g rfl ?_
        show kR 1 126 b126_78 _ _ _ _
        refine kR.s rfl rfl ?_
        refine kR.s rfl rfl ?_
        refine kR.zeq (by decide) (by decide) (fun q10 => absurd q10 (by decide)) (fun q10 => ?_)
        refine kR.s rfl rfl ?_
        refine kR.bi rfl ?_
        refine kR.jne (by decide) (by decide) (by decide) (by decide) (fun q11 => absurd q11 (by decide)) (fun q11 => ?_)
        refine kR.s rfl rfl ?_
        refine kR.bi rfl ?_
        refine kR.jeq (by omega) (by omega) (by omega) (by omega) (fun q12 => ?_) (fun q12 => ?_)
        · skip
          show kR 1 126 b126_114 _ _ _ _
          refine kR.s rfl rfl ?_
          refine kR.zne (by decide) (by decide) (fun q13 => ?_) (fun q13 => absurd q13 (by decide))
          show kR 1 126 b126_129 _ _ _ _
          refine kR.s rfl rfl ?_
          refine kR.gr (a := 30) (b := 47) (k := 35) (by omega) rfl rfl rfl (by decide) (by decide) rfl ?_
          refine kR.s rfl rfl ?_
          refine kR.gi (a := 30) (k := 34) (v := (cs.length : Int)) (by omega) rfl rfl rfl (by decide) (by decide) rfl (by exact rfl) ?_
          refine kR.s rfl rfl ?_
          refine kR.zne (by decide) (by decide) (fun q14 => ?_) (fun q14 => absurd q14 (by decide))
          show kR 1 126 b126_147 _ _ _ _
          refine kR.s rfl rfl ?_
          refine kR.bi rfl ?_
          refine kR.jne (by decide) (by decide) (by decide) (by decide) (fun q15 => absurd q15 (by decide)) (fun q15 => ?_)
          refine kR.s rfl rfl ?_
          refine kR.bi rfl ?_
          refine kR.jne (by omega) (by omega) (by omega) (by omega) (fun q16 => ?_) (fun q16 => ?_)
          · skip
            show kR 1 126 b126_165 _ _ _ _
            refine kR.s rfl rfl ?_
            refine kR.n ?_
            show kR 1 126 b126_167 _ _ _ _
            refine kR.ist (a := 47) (by omega) rfl (by decide) (by omega) (by omega) ?_
            refine kR.s rfl rfl ?_
            refine kR.s rfl rfl ?_
            refine kR.gi (a := 30) (k := 34) (v := (cs.length : Int)) (by omega) rfl rfl rfl (by decide) (by decide) rfl (by exact rfl) ?_
            refine kR.s rfl rfl ?_
            refine kR.add ?_
            refine kR.pi (a := 30) (k := 34) (by omega) rfl rfl rfl (by decide) (by decide) rfl rfl ?_
            refine kR.s rfl rfl ?_
            refine kR.zeq (by decide) (by decide) (fun q17 => absurd q17 (by decide)) (fun q17 => ?_)
            refine kR.s rfl rfl ?_
            refine kR.s rfl rfl ?_
            refine kR.add ?_
            refine kR.g rfl ?_
            show kR 1 126 b126_192 _ _ _ _
            refine kR.s rfl rfl ?_
            refine kR.g rfl ?_
            rw [kbq_u (by omega), kuq_u (by omega)]
            rw [if_pos (by omega), if_pos (by omega)]
            have z := ih (e + 2 - (p + 2)) (by omega) (p + 2) (cs ++ [if kch t e (p + 1) = 110 then 10 else kch t e (p + 1)]) (.int (Int32.ofInt (t p))) (.int (Int32.ofInt (khr t e (p + 1)))) (.int (Int32.ofInt (1))) rfl (by omega) (by simp; omega)
            rw [← kqb_snoc, List.append_assoc] at z
            rw [if_neg (by omega), show kch t e (p + 1) = khr t e (p + 1) by omega] at z
            rw [if_neg (by omega), show kch t e (p + 1) = khr t e (p + 1) by omega]
            exact z
          · skip
            refine kR.bi rfl ?_
            refine kR.g rfl ?_
            show kR 1 126 b126_167 _ _ _ _
            refine kR.ist (a := 47) (by omega) rfl (by decide) (by omega) (by omega) ?_
            refine kR.s rfl rfl ?_
            refine kR.s rfl rfl ?_
            refine kR.gi (a := 30) (k := 34) (v := (cs.length : Int)) (by omega) rfl rfl rfl (by decide) (by decide) rfl (by exact rfl) ?_
            refine kR.s rfl rfl ?_
            refine kR.add ?_
            refine kR.pi (a := 30) (k := 34) (by omega) rfl rfl rfl (by decide) (by decide) rfl rfl ?_
            refine kR.s rfl rfl ?_
            refine kR.zeq (by decide) (by decide) (fun q18 => absurd q18 (by decide)) (fun q18 => ?_)
            refine kR.s rfl rfl ?_
            refine kR.s rfl rfl ?_
            refine kR.add ?_
            refine kR.g rfl ?_
            show kR 1 126 b126_192 _ _ _ _
            refine kR.s rfl rfl ?_
            refine kR.g rfl ?_
            rw [kbq_u (by omega), kuq_u (by omega)]
            rw [if_pos (by omega), if_pos (by omega)]
            have z := ih (e + 2 - (p + 2)) (by omega) (p + 2) (cs ++ [if kch t e (p + 1) = 110 then 10 else kch t e (p + 1)]) (.int (Int32.ofInt (t p))) (.int (Int32.ofInt (khr t e (p + 1)))) (.int (Int32.ofInt (1))) rfl (by omega) (by simp; omega)
            rw [← kqb_snoc, List.append_assoc] at z
            rw [if_pos (by omega)] at z ⊢
            exact z
        · skip
          refine kR.s rfl rfl ?_
          refine kR.bi rfl ?_
          refine kR.jeq (by omega) (by omega) (by omega) (by omega) (fun q19 => ?_) (fun q19 => ?_)
          · skip
            show kR 1 126 b126_114 _ _ _ _
            refine kR.s rfl rfl ?_
            refine kR.zne (by decide) (by decide) (fun q20 => ?_) (fun q20 => absurd q20 (by decide))
            show kR 1 126 b126_129 _ _ _ _
            refine kR.s rfl rfl ?_
            refine kR.gr (a := 30) (b := 47) (k := 35) (by omega) rfl rfl rfl (by decide) (by decide) rfl ?_
            refine kR.s rfl rfl ?_
            refine kR.gi (a := 30) (k := 34) (v := (cs.length : Int)) (by omega) rfl rfl rfl (by decide) (by decide) rfl (by exact rfl) ?_
            refine kR.s rfl rfl ?_
            refine kR.zne (by decide) (by decide) (fun q21 => ?_) (fun q21 => absurd q21 (by decide))
            show kR 1 126 b126_147 _ _ _ _
            refine kR.s rfl rfl ?_
            refine kR.bi rfl ?_
            refine kR.jne (by decide) (by decide) (by decide) (by decide) (fun q22 => absurd q22 (by decide)) (fun q22 => ?_)
            refine kR.s rfl rfl ?_
            refine kR.bi rfl ?_
            refine kR.jne (by omega) (by omega) (by omega) (by omega) (fun q23 => ?_) (fun q23 => ?_)
            · skip
              show kR 1 126 b126_165 _ _ _ _
              refine kR.s rfl rfl ?_
              refine kR.n ?_
              show kR 1 126 b126_167 _ _ _ _
              refine kR.ist (a := 47) (by omega) rfl (by decide) (by omega) (by omega) ?_
              refine kR.s rfl rfl ?_
              refine kR.s rfl rfl ?_
              refine kR.gi (a := 30) (k := 34) (v := (cs.length : Int)) (by omega) rfl rfl rfl (by decide) (by decide) rfl (by exact rfl) ?_
              refine kR.s rfl rfl ?_
              refine kR.add ?_
              refine kR.pi (a := 30) (k := 34) (by omega) rfl rfl rfl (by decide) (by decide) rfl rfl ?_
              refine kR.s rfl rfl ?_
              refine kR.zeq (by decide) (by decide) (fun q24 => absurd q24 (by decide)) (fun q24 => ?_)
              refine kR.s rfl rfl ?_
              refine kR.s rfl rfl ?_
              refine kR.add ?_
              refine kR.g rfl ?_
              show kR 1 126 b126_192 _ _ _ _
              refine kR.s rfl rfl ?_
              refine kR.g rfl ?_
              rw [kbq_u (by omega), kuq_u (by omega)]
              rw [if_pos (by omega), if_pos (by omega)]
              have z := ih (e + 2 - (p + 2)) (by omega) (p + 2) (cs ++ [if kch t e (p + 1) = 110 then 10 else kch t e (p + 1)]) (.int (Int32.ofInt (t p))) (.int (Int32.ofInt (khr t e (p + 1)))) (.int (Int32.ofInt (1))) rfl (by omega) (by simp; omega)
              rw [← kqb_snoc, List.append_assoc] at z
              rw [if_neg (by omega), show kch t e (p + 1) = khr t e (p + 1) by omega] at z
              rw [if_neg (by omega), show kch t e (p + 1) = khr t e (p + 1) by omega]
              exact z
            · skip
              refine kR.bi rfl ?_
              refine kR.g rfl ?_
              show kR 1 126 b126_167 _ _ _ _
              refine kR.ist (a := 47) (by omega) rfl (by decide) (by omega) (by omega) ?_
              refine kR.s rfl rfl ?_
              refine kR.s rfl rfl ?_
              refine kR.gi (a := 30) (k := 34) (v := (cs.length : Int)) (by omega) rfl rfl rfl (by decide) (by decide) rfl (by exact rfl) ?_
              refine kR.s rfl rfl ?_
              refine kR.add ?_
              refine kR.pi (a := 30) (k := 34) (by omega) rfl rfl rfl (by decide) (by decide) rfl rfl ?_
              refine kR.s rfl rfl ?_
              refine kR.zeq (by decide) (by decide) (fun q25 => absurd q25 (by decide)) (fun q25 => ?_)
              refine kR.s rfl rfl ?_
              refine kR.s rfl rfl ?_
              refine kR.add ?_
              refine kR.g rfl ?_
              show kR 1 126 b126_192 _ _ _ _
              refine kR.s rfl rfl ?_
              refine kR.g rfl ?_
              rw [kbq_u (by omega), kuq_u (by omega)]
              rw [if_pos (by omega), if_pos (by omega)]
              have z := ih (e + 2 - (p + 2)) (by omega) (p + 2) (cs ++ [if kch t e (p + 1) = 110 then 10 else kch t e (p + 1)]) (.int (Int32.ofInt (t p))) (.int (Int32.ofInt (khr t e (p + 1)))) (.int (Int32.ofInt (1))) rfl (by omega) (by simp; omega)
              rw [← kqb_snoc, List.append_assoc] at z
              rw [if_pos (by omega)] at z ⊢
              exact z
          · skip
            refine kR.s rfl rfl ?_
            refine kR.bi rfl ?_
            refine kR.jeq (by omega) (by omega) (by omega) (by omega) (fun q26 => ?_) (fun q26 => ?_)
            · skip
              show kR 1 126 b126_114 _ _ _ _
              refine kR.s rfl rfl ?_
              refine kR.zne (by decide) (by decide) (fun q27 => ?_) (fun q27 => absurd q27 (by decide))
              show kR 1 126 b126_129 _ _ _ _
              refine kR.s rfl rfl ?_
              refine kR.gr (a := 30) (b := 47) (k := 35) (by omega) rfl rfl rfl (by decide) (by decide) rfl ?_
              refine kR.s rfl rfl ?_
              refine kR.gi (a := 30) (k := 34) (v := (cs.length : Int)) (by omega) rfl rfl rfl (by decide) (by decide) rfl (by exact rfl) ?_
              refine kR.s rfl rfl ?_
              refine kR.zne (by decide) (by decide) (fun q28 => ?_) (fun q28 => absurd q28 (by decide))
              show kR 1 126 b126_147 _ _ _ _
              refine kR.s rfl rfl ?_
              refine kR.bi rfl ?_
              refine kR.jne (by decide) (by decide) (by decide) (by decide) (fun q29 => absurd q29 (by decide)) (fun q29 => ?_)
              refine kR.s rfl rfl ?_
              refine kR.bi rfl ?_
              refine kR.jne (by omega) (by omega) (by omega) (by omega) (fun q30 => ?_) (fun q30 => ?_)
              · skip
                show kR 1 126 b126_165 _ _ _ _
                refine kR.s rfl rfl ?_
                refine kR.n ?_
                show kR 1 126 b126_167 _ _ _ _
                refine kR.ist (a := 47) (by omega) rfl (by decide) (by omega) (by omega) ?_
                refine kR.s rfl rfl ?_
                refine kR.s rfl rfl ?_
                refine kR.gi (a := 30) (k := 34) (v := (cs.length : Int)) (by omega) rfl rfl rfl (by decide) (by decide) rfl (by exact rfl) ?_
                refine kR.s rfl rfl ?_
                refine kR.add ?_
                refine kR.pi (a := 30) (k := 34) (by omega) rfl rfl rfl (by decide) (by decide) rfl rfl ?_
                refine kR.s rfl rfl ?_
                refine kR.zeq (by decide) (by decide) (fun q31 => absurd q31 (by decide)) (fun q31 => ?_)
                refine kR.s rfl rfl ?_
                refine kR.s rfl rfl ?_
                refine kR.add ?_
                refine kR.g rfl ?_
                show kR 1 126 b126_192 _ _ _ _
                refine kR.s rfl rfl ?_
                refine kR.g rfl ?_
                rw [kbq_u (by omega), kuq_u (by omega)]
                rw [if_pos (by omega), if_pos (by omega)]
                have z := ih (e + 2 - (p + 2)) (by omega) (p + 2) (cs ++ [if kch t e (p + 1) = 110 then 10 else kch t e (p + 1)]) (.int (Int32.ofInt (t p))) (.int (Int32.ofInt (khr t e (p + 1)))) (.int (Int32.ofInt (1))) rfl (by omega) (by simp; omega)
                rw [← kqb_snoc, List.append_assoc] at z
                rw [if_neg (by omega), show kch t e (p + 1) = khr t e (p + 1) by omega] at z
                rw [if_neg (by omega), show kch t e (p + 1) = khr t e (p + 1) by omega]
                exact z
              · skip
                refine kR.bi rfl ?_
                refine kR.g rfl ?_
                show kR 1 126 b126_167 _ _ _ _
                refine kR.ist (a := 47) (by omega) rfl (by decide) (by omega) (by omega) ?_
                refine kR.s rfl rfl ?_
                refine kR.s rfl rfl ?_
                refine kR.gi (a := 30) (k := 34) (v := (cs.length : Int)) (by omega) rfl rfl rfl (by decide) (by decide) rfl (by exact rfl) ?_
                refine kR.s rfl rfl ?_
                refine kR.add ?_
                refine kR.pi (a := 30) (k := 34) (by omega) rfl rfl rfl (by decide) (by decide) rfl rfl ?_
                refine kR.s rfl rfl ?_
                refine kR.zeq (by decide) (by decide) (fun q32 => absurd q32 (by decide)) (fun q32 => ?_)
                refine kR.s rfl rfl ?_
                refine kR.s rfl rfl ?_
                refine kR.add ?_
                refine kR.g rfl ?_
                show kR 1 126 b126_192 _ _ _ _
                refine kR.s rfl rfl ?_
                refine kR.g rfl ?_
                rw [kbq_u (by omega), kuq_u (by omega)]
                rw [if_pos (by omega), if_pos (by omega)]
                have z := ih (e + 2 - (p + 2)) (by omega) (p + 2) (cs ++ [if kch t e (p + 1) = 110 then 10 else kch t e (p + 1)]) (.int (Int32.ofInt (t p))) (.int (Int32.ofInt (khr t e (p + 1)))) (.int (Int32.ofInt (1))) rfl (by omega) (by simp; omega)
                rw [← kqb_snoc, List.append_assoc] at z
                rw [if_pos (by omega)] at z ⊢
                exact z
            · skip
              refine kR.s rfl rfl ?_
              refine kR.ret rfl rfl ?_
              first | (exfalso; omega) | (rw [kbq_end (by omega), kuq_end (by omega), List.append_nil]; done) | (rw [kbq_u (by omega), kuq_u (by omega), if_neg (by omega), if_neg (by omega), if_pos (by omega), if_neg (by omega), if_neg (by omega), if_pos (by omega), List.append_nil]; done)
theorem l_126_39 {m : Nat} {E : Nat → kC} {S : Nat → Nat → Int} {sz : Nat × Nat} (hm : 53 ≤ m ∧ m ≤ 57) {t : Nat → Int} {n L : Nat} (hX : kTx t n L) (hR : kRt S t n) {e : Nat} (he : S 30 23 = (e : Int)) (hen : e ≤ n) {f : Nat} : ∀ (j p : Nat) (cs : List Int) (v4 v5 v6 : Value), e + 2 - p = j → p ≤ e + 1 → cs.length < p → kR 1 126 (blk 126 15) [.ref 30, .int (Int32.ofInt (f : Int)), .int (Int32.ofInt 39), .int (Int32.ofInt (p : Int)), v4, v5, v6] [] (sz, hp m E (kqb S cs)) (fun r => r = (.inl (some (.int (Int32.ofInt (kbq t e 39 p)))), (sz, hp m E (kqb S (cs ++ kuq t e 39 p))))) := by
  intro j
  induction j using Nat.strongRecOn with
  | _ j ih =>
    intro p cs v4 v5 v6 hj hpp hcs
    have hx1 := hX.1
    have hx3 := hX.2.1 p
    have hx4 : p < e → kch t e p = t p := fun z => kch_in z
    have y2 := kch_h hX hen (p + 1)
    have y3 := khr_r hX hen (p + 1)
    have hpr := kpr_o 39 (kch t e p) (kch t e (p + 1))
    show kR 1 126 b126_15 _ _ _ _
    refine kR.s rfl rfl ?_
    refine kR.s rfl rfl ?_
    refine kR.gi (a := 30) (k := 23) (v := (e : Int)) (by omega) rfl rfl rfl (by decide) (by decide) rfl (by exact he) ?_
    refine kR.jge (by omega) (by omega) (by omega) (by omega) (fun q1 => ?_) (fun q1 => ?_)
    · skip
      show kR 1 126 b126_196 _ _ _ _
      refine kR.s rfl rfl ?_
      refine kR.ret rfl rfl ?_
      first | (exfalso; omega) | (rw [kbq_end (by omega), kuq_end (by omega), List.append_nil]; done) | (rw [kbq_u (by omega), kuq_u (by omega), if_neg (by omega), if_neg (by omega), if_pos (by omega), if_neg (by omega), if_neg (by omega), if_pos (by omega), List.append_nil]; done)
    · skip
      refine kR.s rfl rfl ?_
      refine kR.gr (a := 30) (b := 33) (k := 6) (by omega) rfl rfl rfl (by decide) (by decide) rfl ?_
      refine kR.s rfl rfl ?_
      refine kR.ia (a := 33) (v := t p) (by omega) rfl (by decide) (by omega) (by omega) (by exact (hR.2 _ (by omega))) ?_
      refine kR.s rfl rfl ?_
      refine kR.s rfl rfl ?_
      refine kR.s rfl rfl ?_
      refine kR.s rfl rfl ?_
      refine kR.add ?_
      refine kR.cv (v := .int (Int32.ofInt (khr t e (p + 1)))) (kargs_m hm (by decide) rfl) rfl (kR.up (c_108t (S := (kqb S cs)) hm hX hR he hen (k := (p + 1)) (by omega)) (by decide)) ?_
      refine kR.s rfl rfl ?_
      refine kR.s rfl rfl ?_
      refine kR.bi rfl ?_
      refine kR.jne (by decide) (by decide) (by decide) (by decide) (fun q3 => ?_) (fun q3 => absurd q3 (by decide))
      show kR 1 126 b126_61 _ _ _ _
      refine kR.s rfl rfl ?_
      refine kR.s rfl rfl ?_
      refine kR.jne (by omega) (by omega) (by omega) (by omega) (fun q4 => ?_) (fun q4 => ?_)
      · skip
        show kR 1 126 b126_77 _ _ _ _
        refine kR.s rfl rfl ?_
        refine kR.n ?_
        show kR 1 126 b126_78 _ _ _ _
        refine kR.s rfl rfl ?_
        refine kR.s rfl rfl ?_
        refine kR.zeq (by decide) (by decide) (fun q5 => ?_) (fun q5 => absurd q5 (by decide))
        show kR 1 126 b126_114 _ _ _ _
        refine kR.s rfl rfl ?_
        refine kR.zne (by decide) (by decide) (fun q6 => absurd q6 (by decide)) (fun q6 => ?_)
        refine kR.s rfl rfl ?_
        refine kR.s rfl rfl ?_
        refine kR.jne (by omega) (by omega) (by omega) (by omega) (fun q7 => ?_) (fun q7 => ?_)
        · skip
          show kR 1 126 b126_129 _ _ _ _
          refine kR.s rfl rfl ?_
          refine kR.gr (a := 30) (b := 47) (k := 35) (by omega) rfl rfl rfl (by decide) (by decide) rfl ?_
          refine kR.s rfl rfl ?_
          refine kR.gi (a := 30) (k := 34) (v := (cs.length : Int)) (by omega) rfl rfl rfl (by decide) (by decide) rfl (by exact rfl) ?_
          refine kR.s rfl rfl ?_
          refine kR.zne (by decide) (by decide) (fun q8 => absurd q8 (by decide)) (fun q8 => ?_)
          refine kR.s rfl rfl ?_
          refine kR.g rfl ?_
          show kR 1 126 b126_167 _ _ _ _
          refine kR.ist (a := 47) (by omega) rfl (by decide) (by omega) (by omega) ?_
          refine kR.s rfl rfl ?_
          refine kR.s rfl rfl ?_
          refine kR.gi (a := 30) (k := 34) (v := (cs.length : Int)) (by omega) rfl rfl rfl (by decide) (by decide) rfl (by exact rfl) ?_
          refine kR.s rfl rfl ?_
          refine kR.add ?_
          refine kR.pi (a := 30) (k := 34) (by omega) rfl rfl rfl (by decide) (by decide) rfl rfl ?_
          refine kR.s rfl rfl ?_
          refine kR.zeq (by decide) (by decide) (fun q9 => ?_) (fun q9 => absurd q9 (by decide))
          show kR 1 126 b126_189 _ _ _ _
          refine kR.s rfl rfl ?_
          refine kR.s rfl rfl ?_
          refine kR.add ?_
          refine kR.n ?_
          show kR 1 126 b126_192 _ _ _ _
          refine kR.s rfl rfl ?_
          refine kR.g rfl ?_
          rw [kbq_u (by omega), kuq_u (by omega)]
          rw [if_neg (by omega), if_neg (by omega), if_neg (by omega), if_neg (by omega), if_neg (by omega), if_neg (by omega), hx4 (by omega)]
          have z := ih (e + 2 - (p + 1)) (by omega) (p + 1) (cs ++ [t p]) (.int (Int32.ofInt (t p))) (.int (Int32.ofInt (khr t e (p + 1)))) (.int (Int32.ofInt (0))) rfl (by omega) (by simp; omega)
          rw [← kqb_snoc, List.append_assoc] at z
          exact z
        · skip
          refine kR.s rfl rfl ?_
          refine kR.s rfl rfl ?_
          refine kR.add ?_
          refine kR.ret rfl rfl ?_
          first | (exfalso; omega) | (rw [kbq_u (by omega), kuq_u (by omega), if_neg (by omega), if_pos (by omega), if_neg (by omega), if_pos (by omega), List.append_nil]; done)
      · skip
        refine kR.s rfl rfl ?_
        refine kR.s rfl rfl ?_
        refine kR.jne (by omega) (by omega) (by omega) (by omega) (fun q10 => ?_) (fun q10 => ?_)
        · skip
          show kR 1 126 b126_77 _ _ _ _
          refine kR.s rfl rfl ?_
          refine kR.n ?_
          show kR 1 126 b126_78 _ _ _ _
          refine kR.s rfl rfl ?_
          refine kR.s rfl rfl ?_
          refine kR.zeq (by decide) (by decide) (fun q11 => ?_) (fun q11 => absurd q11 (by decide))
          show kR 1 126 b126_114 _ _ _ _
          refine kR.s rfl rfl ?_
          refine kR.zne (by decide) (by decide) (fun q12 => absurd q12 (by decide)) (fun q12 => ?_)
          refine kR.s rfl rfl ?_
          refine kR.s rfl rfl ?_
          refine kR.jne (by omega) (by omega) (by omega) (by omega) (fun q13 => ?_) (fun q13 => ?_)
          · skip
            show kR 1 126 b126_129 _ _ _ _
            refine kR.s rfl rfl ?_
            refine kR.gr (a := 30) (b := 47) (k := 35) (by omega) rfl rfl rfl (by decide) (by decide) rfl ?_
            refine kR.s rfl rfl ?_
            refine kR.gi (a := 30) (k := 34) (v := (cs.length : Int)) (by omega) rfl rfl rfl (by decide) (by decide) rfl (by exact rfl) ?_
            refine kR.s rfl rfl ?_
            refine kR.zne (by decide) (by decide) (fun q14 => absurd q14 (by decide)) (fun q14 => ?_)
            refine kR.s rfl rfl ?_
            refine kR.g rfl ?_
            show kR 1 126 b126_167 _ _ _ _
            refine kR.ist (a := 47) (by omega) rfl (by decide) (by omega) (by omega) ?_
            refine kR.s rfl rfl ?_
            refine kR.s rfl rfl ?_
            refine kR.gi (a := 30) (k := 34) (v := (cs.length : Int)) (by omega) rfl rfl rfl (by decide) (by decide) rfl (by exact rfl) ?_
            refine kR.s rfl rfl ?_
            refine kR.add ?_
            refine kR.pi (a := 30) (k := 34) (by omega) rfl rfl rfl (by decide) (by decide) rfl rfl ?_
            refine kR.s rfl rfl ?_
            refine kR.zeq (by decide) (by decide) (fun q15 => ?_) (fun q15 => absurd q15 (by decide))
            show kR 1 126 b126_189 _ _ _ _
            refine kR.s rfl rfl ?_
            refine kR.s rfl rfl ?_
            refine kR.add ?_
            refine kR.n ?_
            show kR 1 126 b126_192 _ _ _ _
            refine kR.s rfl rfl ?_
            refine kR.g rfl ?_
            rw [kbq_u (by omega), kuq_u (by omega)]
            rw [if_neg (by omega), if_neg (by omega), if_neg (by omega), if_neg (by omega), if_neg (by omega), if_neg (by omega), hx4 (by omega)]
            have z := ih (e + 2 - (p + 1)) (by omega) (p + 1) (cs ++ [t p]) (.int (Int32.ofInt (t p))) (.int (Int32.ofInt (khr t e (p + 1)))) (.int (Int32.ofInt (0))) rfl (by omega) (by simp; omega)
            rw [← kqb_snoc, List.append_assoc] at z
            exact z
          · skip
            refine kR.s rfl rfl ?_
            refine kR.s rfl rfl ?_
            refine kR.add ?_
            refine kR.ret rfl rfl ?_
            first | (exfalso; omega) | (rw [kbq_u (by omega), kuq_u (by omega), if_neg (by omega), if_pos (by omega), if_neg (by omega), if_pos (by omega), List.append_nil]; done)
        · skip
          refine kR.s rfl rfl ?_
          refine kR.g rfl ?_
          show kR 1 126 b126_78 _ _ _ _
          refine kR.s rfl rfl ?_
          refine kR.s rfl rfl ?_
          refine kR.zeq (by decide) (by decide) (fun q16 => absurd q16 (by decide)) (fun q16 => ?_)
          refine kR.s rfl rfl ?_
          refine kR.bi rfl ?_
          refine kR.jne (by decide) (by decide) (by decide) (by decide) (fun q17 => ?_) (fun q17 => absurd q17 (by decide))
          show kR 1 126 b126_114 _ _ _ _
          refine kR.s rfl rfl ?_
          refine kR.zne (by decide) (by decide) (fun q18 => ?_) (fun q18 => absurd q18 (by decide))
          show kR 1 126 b126_129 _ _ _ _
          refine kR.s rfl rfl ?_
          refine kR.gr (a := 30) (b := 47) (k := 35) (by omega) rfl rfl rfl (by decide) (by decide) rfl ?_
          refine kR.s rfl rfl ?_
          refine kR.gi (a := 30) (k := 34) (v := (cs.length : Int)) (by omega) rfl rfl rfl (by decide) (by decide) rfl (by exact rfl) ?_
          refine kR.s rfl rfl ?_
          refine kR.zne (by decide) (by decide) (fun q19 => ?_) (fun q19 => absurd q19 (by decide))
          show kR 1 126 b126_147 _ _ _ _
          refine kR.s rfl rfl ?_
          refine kR.bi rfl ?_
          refine kR.jne (by decide) (by decide) (by decide) (by decide) (fun q20 => ?_) (fun q20 => absurd q20 (by decide))
          show kR 1 126 b126_165 _ _ _ _
          refine kR.s rfl rfl ?_
          refine kR.n ?_
          show kR 1 126 b126_167 _ _ _ _
          refine kR.ist (a := 47) (by omega) rfl (by decide) (by omega) (by omega) ?_
          refine kR.s rfl rfl ?_
          refine kR.s rfl rfl ?_
          refine kR.gi (a := 30) (k := 34) (v := (cs.length : Int)) (by omega) rfl rfl rfl (by decide) (by decide) rfl (by exact rfl) ?_
          refine kR.s rfl rfl ?_
          refine kR.add ?_
          refine kR.pi (a := 30) (k := 34) (by omega) rfl rfl rfl (by decide) (by decide) rfl rfl ?_
          refine kR.s rfl rfl ?_
          refine kR.zeq (by decide) (by decide) (fun q21 => absurd q21 (by decide)) (fun q21 => ?_)
          refine kR.s rfl rfl ?_
          refine kR.s rfl rfl ?_
          refine kR.add ?_
          refine kR.g rfl ?_
          show kR 1 126 b126_192 _ _ _ _
          refine kR.s rfl rfl ?_
          refine kR.g rfl ?_
          rw [kbq_u (by omega), kuq_u (by omega)]
          rw [if_pos (by omega), if_pos (by omega)]
          have z := ih (e + 2 - (p + 2)) (by omega) (p + 2) (cs ++ [if kch t e (p + 1) = 110 then 10 else kch t e (p + 1)]) (.int (Int32.ofInt (t p))) (.int (Int32.ofInt (khr t e (p + 1)))) (.int (Int32.ofInt (1))) rfl (by omega) (by simp; omega)
          rw [← kqb_snoc, List.append_assoc] at z
          rw [if_neg (by omega), show kch t e (p + 1) = khr t e (p + 1) by omega] at z
          rw [if_neg (by omega), show kch t e (p + 1) = khr t e (p + 1) by omega]
          exact z
