/-! The reference: quoted strings, colons. By program (wip/gen/gen49.py). -/
theorem kmk_at (S : Nat → Nat → Int) (k : Int) (c a j : Nat) : kmk S k c a j = if a = 30 then (if j = 26 then -1 else if j = 8 then (c : Int) + 1 else S 30 j) else if a = 34 then (if j = c then k else S 34 j) else if a = 35 then (if j = c then 0 else S 35 j) else if a = 36 then (if j = c then S 30 14 else S 36 j) else if a = 37 then (if j = c then 0 else S 37 j) else if a = 42 then (if 0 ≤ S 30 26 ∧ j = (S 30 26).toNat then (c : Int) + 1 else S 42 j) else S a j := by
  have h0 : ∀ b i, kmk0 S k c b i = if b = 30 then (if i = 8 then (c : Int) + 1 else S 30 i) else if b = 34 then (if i = c then k else S 34 i) else if b = 35 then (if i = c then 0 else S 35 i) else if b = 36 then (if i = c then S 30 14 else S 36 i) else if b = 37 then (if i = c then 0 else S 37 i) else S b i := by
    intro b i
    unfold kmk0 ku kup
    by_cases h1 : b = 37
    · subst h1; simp
    · by_cases h2 : b = 36
      · subst h2; simp
      · by_cases h3 : b = 35
        · subst h3; simp
        · by_cases h4 : b = 34
          · subst h4; simp
          · by_cases h5 : b = 30
            · subst h5; simp
            · simp [h1, h2, h3, h4, h5]
  unfold kmk
  split
  · rename_i hw
    by_cases h1 : a = 30
    · subst h1
      have e : ku (kmk0 S k c) 30 26 (-1) 30 j = if j = 26 then -1 else kmk0 S k c 30 j := rfl
      rw [e, h0]
      simp
    · have e : ku (kmk0 S k c) 30 26 (-1) a j = kmk0 S k c a j := by unfold ku kup; rw [if_neg h1]
      rw [e, h0, if_neg h1, if_neg h1]
      by_cases h2 : a = 42
      · subst h2
        simp
        intro z
        omega
      · simp [h2]
  · rename_i hw
    by_cases h1 : a = 30
    · subst h1
      have e : ku (ku (kmk0 S k c) 42 (S 30 26).toNat ((c : Int) + 1)) 30 26 (-1) 30 j = if j = 26 then -1 else kmk0 S k c 30 j := rfl
      rw [e, h0]
      simp
    · have e : ku (ku (kmk0 S k c) 42 (S 30 26).toNat ((c : Int) + 1)) 30 26 (-1) a j = ku (kmk0 S k c) 42 (S 30 26).toNat ((c : Int) + 1) a j := by unfold ku kup; rw [if_neg h1]
      rw [e, if_neg h1]
      by_cases h2 : a = 42
      · subst h2
        have e2 : ku (kmk0 S k c) 42 (S 30 26).toNat ((c : Int) + 1) 42 j = if j = (S 30 26).toNat then (c : Int) + 1 else S 42 j := by
          unfold ku kup
          rw [if_pos rfl, h0]
          simp
        rw [e2]
        simp
        by_cases h3 : j = (S 30 26).toNat
        · rw [if_pos h3, if_pos ⟨by omega, h3⟩]
        · rw [if_neg h3, if_neg (fun z => h3 z.2)]
      · have e2 : ku (kmk0 S k c) 42 (S 30 26).toNat ((c : Int) + 1) a j = kmk0 S k c a j := by unfold ku kup; rw [if_neg h2]
        rw [e2, h0, if_neg h1]
        simp [h2]
theorem c_126 {m : Nat} {E : Nat → kC} {S : Nat → Nat → Int} {sz : Nat × Nat} (hm : 53 ≤ m ∧ m ≤ 57) {t : Nat → Int} {n L : Nat} (hX : kTx t n L) (hR : kRt S t n) {e : Nat} (he : S 30 23 = (e : Int)) (hen : e ≤ n) {f : Nat} (hf : f ≤ e) (hq : kqu (kch t e f) = 1) : kR 1 126 (blk 126 0) (kent 126 [.ref 30, .int (Int32.ofInt ((f : Int)))]) [] (sz, hp m E S) (fun r => r = (.inl (some (.int (Int32.ofInt (kbq t e (kch t e f) (f + 1))))), (sz, hp m E (kqb S (kuq t e (kch t e f) (f + 1)))))) := by
  have hx1 := hX.1
  have hqo := kqu_o (kch t e f)
  have hq2 : kch t e f = 34 ∨ kch t e f = 39 := by omega
  have c108 := c_108t (E := E) (sz := sz) hm hX hR he hen (k := f) (by omega)
  rcases hq2 with hq2 | hq2
  · rw [(khr_c (t := t) (e := e) (p := f) 34 (by decide) (by decide)).mpr hq2] at c108
    rw [hq2]
    show kR 1 126 b126_0 _ _ _ _
    refine kR.s rfl rfl ?_
    refine kR.s rfl rfl ?_
    refine kR.cv (v := .int (Int32.ofInt (34))) (kargs_m hm (by decide) rfl) rfl (kR.up (c108) (by decide)) ?_
    refine kR.s rfl rfl ?_
    refine kR.s rfl rfl ?_
    refine kR.s rfl rfl ?_
    refine kR.pi (a := 30) (k := 34) (by omega) rfl rfl rfl (by decide) (by decide) rfl rfl ?_
    refine kR.s rfl rfl ?_
    refine kR.s rfl rfl ?_
    refine kR.add ?_
    refine kR.s rfl rfl ?_
    refine kR.n ?_
    rw [← kqb_nil]
    exact l_126_34 hm hX hR he hen _ (f + 1) [] _ _ _ rfl (by omega) (by simp)
  · rw [(khr_c (t := t) (e := e) (p := f) 39 (by decide) (by decide)).mpr hq2] at c108
    rw [hq2]
    show kR 1 126 b126_0 _ _ _ _
    refine kR.s rfl rfl ?_
    refine kR.s rfl rfl ?_
    refine kR.cv (v := .int (Int32.ofInt (39))) (kargs_m hm (by decide) rfl) rfl (kR.up (c108) (by decide)) ?_
    refine kR.s rfl rfl ?_
    refine kR.s rfl rfl ?_
    refine kR.s rfl rfl ?_
    refine kR.pi (a := 30) (k := 34) (by omega) rfl rfl rfl (by decide) (by decide) rfl rfl ?_
    refine kR.s rfl rfl ?_
    refine kR.s rfl rfl ?_
    refine kR.add ?_
    refine kR.s rfl rfl ?_
    refine kR.n ?_
    rw [← kqb_nil]
    exact l_126_39 hm hX hR he hen _ (f + 1) [] _ _ _ rfl (by omega) (by simp)
def kQb (S : Nat → Nat → Int) (k : Nat) (cs : List Int) : Prop := S 30 34 = ((k + cs.length : Nat) : Int) ∧ ∀ j, j < cs.length → S 47 (k + j) = cs.getD j 0
theorem l_128 {m : Nat} {E : Nat → kC} {sz : Nat × Nat} (hm : 53 ≤ m ∧ m ≤ 57) {c : Nat} (hcl : c < 60) : ∀ (cs : List Int) (k u : Nat) (S : Nat → Nat → Int), kQb S k cs → S 30 14 = (u : Int) → u + cs.length ≤ 500 → k + cs.length ≤ 200 → S 30 19 = 0 → kR 1 128 (blk 128 8) [.ref 30, .int (Int32.ofInt (c : Int)), .int (Int32.ofInt (k : Int))] [] (sz, hp m E S) (fun r => r = (.inl (some (.int (Int32.ofInt (c : Int)))), (sz, hp m E (kspl c cs u S)))) := by
  intro cs
  induction cs with
  | nil =>
    intro k u S hq hu h1 h2 hwr
    simp only [List.length_nil] at h1 h2
    have hq1 : S 30 34 = (k : Int) := hq.1
    show kR 1 128 b128_8 _ _ _ _
    refine kR.s rfl rfl ?_
    refine kR.s rfl rfl ?_
    refine kR.gi (a := 30) (k := 34) (v := (k : Int)) (by omega) rfl rfl rfl (by decide) (by decide) rfl (by exact hq1) ?_
    refine kR.jge (by omega) (by omega) (by omega) (by omega) (fun q1 => ?_) (fun q1 => ?_)
    · skip
      show kR 1 128 b128_40 _ _ _ _
      refine kR.s rfl rfl ?_
      refine kR.ret rfl rfl ?_
      rfl
    · skip
      exfalso
      omega
  | cons x cs ih =>
    intro k u S hq hu h1 h2 hwr
    simp only [List.length_cons] at h1 h2
    have hq1 : S 30 34 = ((k + (cs.length + 1) : Nat) : Int) := hq.1
    have hq2 : S 47 k = x := hq.2 0 (by simp)
    show kR 1 128 b128_8 _ _ _ _
    refine kR.s rfl rfl ?_
    refine kR.s rfl rfl ?_
    refine kR.gi (a := 30) (k := 34) (v := ((k + (cs.length + 1) : Nat) : Int)) (by omega) rfl rfl rfl (by decide) (by decide) rfl (by exact hq1) ?_
    refine kR.jge (by omega) (by omega) (by omega) (by omega) (fun q1 => ?_) (fun q1 => ?_)
    · skip
      exfalso
      omega
    · skip
      refine kR.s rfl rfl ?_
      refine kR.gi (a := 30) (k := 19) (v := 0) (by omega) rfl rfl rfl (by decide) (by decide) rfl (by exact hwr) ?_
      refine kR.zne (by decide) (by decide) (fun q2 => absurd q2 (by decide)) (fun q2 => ?_)
      refine kR.s rfl rfl ?_
      refine kR.s rfl rfl ?_
      refine kR.s rfl rfl ?_
      refine kR.gr (a := 30) (b := 47) (k := 35) (by omega) rfl rfl rfl (by decide) (by decide) rfl ?_
      refine kR.s rfl rfl ?_
      refine kR.ia (a := 47) (v := x) (by omega) rfl (by decide) (by omega) (by omega) (by exact hq2) ?_
      refine kR.c0 (kargs_m hm (by decide) rfl) rfl (kR.up (c_111 hm (v := c) (x := x) hcl hu (by omega)) (by decide)) ?_
      refine kR.inc rfl ?_
      refine kR.g rfl ?_
      exact ih (k + 1) (u + 1) (ksp1 S c x u) ⟨by show S 30 34 = _; rw [hq1]; omega, fun j hj => by show S 47 (k + 1 + j) = _; have z := hq.2 (j + 1) (by simp; omega); rw [show k + 1 + j = k + (j + 1) by omega, z]; rfl⟩ rfl (by omega) (by omega) hwr
theorem c_128 {m : Nat} {E : Nat → kC} {S : Nat → Nat → Int} {sz : Nat × Nat} (hm : 53 ≤ m ∧ m ≤ 57) {cs : List Int} {u : Nat} (hqb : kQb S 0 cs) {c : Nat} (hc : S 30 8 = (c : Int)) (hcl : c ≤ 60) {o : Nat} (ho : S 30 29 = (o : Int)) (hol : o ≤ 9) (hw : -1 ≤ S 30 26 ∧ S 30 26 < 26) (hg : c < 60 ∧ o ≤ 7) (hu : S 30 14 = (u : Int)) (hul : u + cs.length ≤ 500) (hcs : cs.length ≤ 200) (hwr : S 30 19 = 0) : kR 1 128 (blk 128 0) (kent 128 [.ref 30]) [] (sz, hp m E S) (fun r => r = (.inl (some (.int (Int32.ofInt ((c : Int))))), (sz, hp m E (kspl c cs u (kmk S 3 c))))) := by
  have hk : ∀ j, ¬ j = 26 → ¬ j = 8 → kmk S 3 c 30 j = S 30 j := fun j h1 h2 => by rw [kmk_at, if_pos rfl, if_neg h1, if_neg h2]
  have hk2 : ∀ j, kmk S 3 c 47 j = S 47 j := fun j => by rw [kmk_at]; simp
  show kR 1 128 b128_0 _ _ _ _
  refine kR.s rfl rfl ?_
  refine kR.s rfl rfl ?_
  refine kR.cv (v := .int (Int32.ofInt ((c : Int)))) (kargs_m hm (by decide) rfl) rfl (kR.up (c_110 hm hc hcl ho hol hw hg) (by decide)) ?_
  refine kR.s rfl rfl ?_
  refine kR.s rfl rfl ?_
  refine kR.s rfl rfl ?_
  refine kR.n ?_
  exact l_128 hm hg.1 cs 0 u (kmk S 3 c) ⟨by rw [hk 34 (by decide) (by decide)]; exact hqb.1, fun j hj => by rw [hk2]; exact hqb.2 j hj⟩ (by rw [hk 14 (by decide) (by decide)]; exact hu) hul (by omega) (by rw [hk 19 (by decide) (by decide)]; exact hwr)
theorem c_128b {m : Nat} {E : Nat → kC} {S : Nat → Nat → Int} {sz : Nat × Nat} (hm : 53 ≤ m ∧ m ≤ 57) {c : Nat} (hc : S 30 8 = (c : Int)) (hcl : c ≤ 60) {o : Nat} (ho : S 30 29 = (o : Int)) (hol : o ≤ 9) (hg : ¬ (c < 60 ∧ o ≤ 7)) {z : Nat} (hq : S 30 34 = (z : Int)) (hz : z ≤ 200) : kR 1 128 (blk 128 0) (kent 128 [.ref 30]) [] (sz, hp m E S) (fun r => r = (.inl (some (.int (Int32.ofInt (0)))), (sz, hp m E (ku S 30 19 1)))) := by
  show kR 1 128 b128_0 _ _ _ _
  refine kR.s rfl rfl ?_
  refine kR.s rfl rfl ?_
  refine kR.cv (v := .int (Int32.ofInt (0))) (kargs_m hm (by decide) rfl) rfl (kR.up (c_110b hm hc hcl ho hol hg) (by decide)) ?_
  refine kR.s rfl rfl ?_
  refine kR.s rfl rfl ?_
  refine kR.s rfl rfl ?_
  refine kR.n ?_
  show kR 1 128 b128_8 _ _ _ _
  refine kR.s rfl rfl ?_
  refine kR.s rfl rfl ?_
  refine kR.gi (a := 30) (k := 34) (v := (z : Int)) (by omega) rfl rfl rfl (by decide) (by decide) rfl (by exact hq) ?_
  refine kR.jge (by omega) (by omega) (by omega) (by omega) (fun q2 => ?_) (fun q2 => ?_)
  · skip
    show kR 1 128 b128_40 _ _ _ _
    refine kR.s rfl rfl ?_
    refine kR.ret rfl rfl ?_
    rfl
  · skip
    refine kR.s rfl rfl ?_
    refine kR.gi (a := 30) (k := 19) (v := 1) (by omega) rfl rfl rfl (by decide) (by decide) rfl (by rfl) ?_
    refine kR.zne (by decide) (by decide) (fun q3 => ?_) (fun q3 => absurd q3 (by decide))
    show kR 1 128 b128_40 _ _ _ _
    refine kR.s rfl rfl ?_
    refine kR.ret rfl rfl ?_
    rfl
theorem c_132 {m : Nat} {E : Nat → kC} {S : Nat → Nat → Int} {sz : Nat × Nat} (hm : 53 ≤ m ∧ m ≤ 57) {t : Nat → Int} {n L : Nat} (hX : kTx t n L) (hR : kRt S t n) {e : Nat} (he : S 30 23 = (e : Int)) (hen : e ≤ n) {p : Nat} (hpp : S 30 21 = (p : Int)) (hpn : p ≤ 290) : kR 2 132 (blk 132 0) (kent 132 [.ref 30]) [] (sz, hp m E S) (fun r => r = (.inl none, (sz, hp m E (ku (ku S 30 21 ((kw (fun i => decide (t i = 32)) e (p + 1) : Nat) : Int)) 30 20 1)))) := by
  have hx1 := hX.1
  show kR 2 132 b132_0 _ _ _ _
  refine kR.s rfl rfl ?_
  refine kR.s rfl rfl ?_
  refine kR.gi (a := 30) (k := 21) (v := (p : Int)) (by omega) rfl rfl rfl (by decide) (by decide) rfl (by exact hpp) ?_
  refine kR.s rfl rfl ?_
  refine kR.add ?_
  refine kR.pi (a := 30) (k := 21) (by omega) rfl rfl rfl (by decide) (by decide) rfl rfl ?_
  refine kR.s rfl rfl ?_
  refine kR.c0 (kargs_m hm (by decide) rfl) rfl (kR.up (c_109 (S := ku S 30 21 ((p : Int) + 1)) hm hX hR he hen (p := (p + 1)) (by rfl) (by omega)) (by decide)) ?_
  refine kR.s rfl rfl ?_
  refine kR.s rfl rfl ?_
  refine kR.pi (a := 30) (k := 20) (by omega) rfl rfl rfl (by decide) (by decide) rfl rfl ?_
  refine kR.ret rfl rfl ?_
  rw [ku_ku]
theorem kst_e (t : Nat → Int) (e : Nat) (i : Int) (p : Nat) (hp : p ≤ e) : (kst t e i p < e ∧ (kcol t e i (kst t e i p) = 1 ∨ kcol t e i (kst t e i p) = 0 ∧ i = 1 ∧ kbk (kch t e (kst t e i p)) = 1)) ∨ (kst t e i p = e ∧ kcol t e i (kst t e i p) = 0) := by
  have h1 : p ≤ kst t e i p ∧ (p ≤ e → kst t e i p ≤ e) := kw_rng
  have h2 := kcol_01 t e i (kst t e i p)
  rcases Nat.lt_or_ge (kst t e i p) e with h | h
  · left
    refine ⟨h, ?_⟩
    have z : decide (kcol t e i (kst t e i p) = 0 ∧ ¬ (i = 1 ∧ kbk (kch t e (kst t e i p)) = 1)) = false := kw_at (p := fun k => decide (kcol t e i k = 0 ∧ ¬ (i = 1 ∧ kbk (kch t e k) = 1))) h
    have z := of_decide_eq_false z
    have h3 := kbk_01 (kch t e (kst t e i p))
    omega
  · right
    have h3 := kcol_o t e i (kst t e i p)
    have h4 : kch t e (kst t e i p) = 10 := kch_out h
    omega
theorem c_131 {m : Nat} {E : Nat → kC} {S : Nat → Nat → Int} {sz : Nat × Nat} (hm : 53 ≤ m ∧ m ≤ 57) {t : Nat → Int} {n L : Nat} (hX : kTx t n L) (hR : kRt S t n) {e : Nat} (he : S 30 23 = (e : Int)) (hen : e ≤ n) {p : Nat} (hpp : S 30 21 = (p : Int)) (hpe : p ≤ e) : kR 3 131 (blk 131 0) (kent 131 [.ref 30]) [] (sz, hp m E S) (fun r => r = (.inl (some (.int (Int32.ofInt (kck t e 0 p)))), (sz, hp m E (if kqu (kch t e p) = 1 then kqb S (kuq t e (kch t e p) (p + 1)) else S)))) := by
  have hx1 := hX.1
  have hq0 := kqu_h t e p
  have hq1 := kqu_01 (kch t e p)
  have hst : p ≤ kst t e 0 p ∧ (p ≤ e → kst t e 0 p ≤ e) := kw_rng
  show kR 3 131 b131_0 _ _ _ _
  refine kR.s rfl rfl ?_
  refine kR.s rfl rfl ?_
  refine kR.gi (a := 30) (k := 21) (v := (p : Int)) (by omega) rfl rfl rfl (by decide) (by decide) rfl (by exact hpp) ?_
  have f1_0 := khr_r hX hen p
  refine kR.cv (v := .int (Int32.ofInt (khr t e p))) (kargs_m hm (by decide) rfl) rfl (kR.up (c_108t hm hX hR he hen (k := p) (by omega)) (by decide)) ?_
  have f2_0 := kqu_01 (khr t e p)
  refine kR.cv (v := .int (Int32.ofInt (kqu (khr t e p)))) rfl rfl (kR.up (c_127 (c := khr t e p) (by omega)) (by decide)) ?_
  refine kR.zeq (by omega) (by omega) (fun q3 => ?_) (fun q3 => ?_)
  · skip
    show kR 3 131 b131_42 _ _ _ _
    refine kR.s rfl rfl ?_
    refine kR.s rfl rfl ?_
    refine kR.gi (a := 30) (k := 21) (v := (p : Int)) (by omega) rfl rfl rfl (by decide) (by decide) rfl (by exact hpp) ?_
    have f4_0 := kpl_01 t e p
    refine kR.cv (v := .int (Int32.ofInt (kpl t e p))) (kargs_m hm (by decide) rfl) rfl (kR.up (c_119 hm hX hR he hen (k := p) (by omega)) (by decide)) ?_
    refine kR.zeq (by omega) (by omega) (fun q5 => ?_) (fun q5 => ?_)
    · skip
      show kR 3 131 b131_65 _ _ _ _
      refine kR.s rfl rfl ?_
      refine kR.gi (a := 30) (k := 23) (v := (e : Int)) (by omega) rfl rfl rfl (by decide) (by decide) rfl (by exact he) ?_
      refine kR.n ?_
      show kR 3 131 b131_69 _ _ _ _
      refine kR.s rfl rfl ?_
      refine kR.s rfl rfl ?_
      refine kR.s rfl rfl ?_
      refine kR.gi (a := 30) (k := 23) (v := (e : Int)) (by omega) rfl rfl rfl (by decide) (by decide) rfl (by exact he) ?_
      refine kR.jge (by omega) (by omega) (by omega) (by omega) (fun q6 => ?_) (fun q6 => ?_)
      · skip
        show kR 3 131 b131_82 _ _ _ _
        refine kR.s rfl rfl ?_
        refine kR.n ?_
        show kR 3 131 b131_83 _ _ _ _
        refine kR.ret rfl rfl ?_
        rw [if_neg (by omega : ¬ kqu (kch t e p) = 1)]
        refine kfin ?_ rfl
        unfold kck
        rw [if_neg (by omega : ¬ kqu (kch t e p) = 1)]
        have hke := kst_e t e 0 p hpe
        first | (exfalso; omega) | (rw [if_pos (by omega)]; done) | (rw [if_neg (by omega)]; done)
      · skip
        refine kR.s rfl rfl ?_
        refine kR.g rfl ?_
        show kR 3 131 b131_83 _ _ _ _
        refine kR.ret rfl rfl ?_
        rw [if_neg (by omega : ¬ kqu (kch t e p) = 1)]
        refine kfin ?_ rfl
        unfold kck
        rw [if_neg (by omega : ¬ kqu (kch t e p) = 1)]
        have hke := kst_e t e 0 p hpe
        first | (exfalso; omega) | (rw [if_pos (by omega)]; done) | (rw [if_neg (by omega)]; done)
    · skip
      refine kR.s rfl rfl ?_
      refine kR.s rfl rfl ?_
      refine kR.gi (a := 30) (k := 21) (v := (p : Int)) (by omega) rfl rfl rfl (by decide) (by decide) rfl (by exact hpp) ?_
      refine kR.s rfl rfl ?_
      refine kR.cv (v := .int (Int32.ofInt (kst t e 0 p : Int))) (kargs_m hm (by decide) rfl) rfl (kR.up (c_121 hm hX hR he hen (f := p) (by omega) (by omega)) (by decide)) ?_
      refine kR.g rfl ?_
      show kR 3 131 b131_69 _ _ _ _
      refine kR.s rfl rfl ?_
      refine kR.s rfl rfl ?_
      refine kR.s rfl rfl ?_
      refine kR.gi (a := 30) (k := 23) (v := (e : Int)) (by omega) rfl rfl rfl (by decide) (by decide) rfl (by exact he) ?_
      refine kR.jge (by omega) (by omega) (by omega) (by omega) (fun q7 => ?_) (fun q7 => ?_)
      · skip
        show kR 3 131 b131_82 _ _ _ _
        refine kR.s rfl rfl ?_
        refine kR.n ?_
        show kR 3 131 b131_83 _ _ _ _
        refine kR.ret rfl rfl ?_
        rw [if_neg (by omega : ¬ kqu (kch t e p) = 1)]
        refine kfin ?_ rfl
        unfold kck
        rw [if_neg (by omega : ¬ kqu (kch t e p) = 1)]
        have hke := kst_e t e 0 p hpe
        first | (exfalso; omega) | (rw [if_pos (by omega)]; done) | (rw [if_neg (by omega)]; done)
      · skip
        refine kR.s rfl rfl ?_
        refine kR.g rfl ?_
        show kR 3 131 b131_83 _ _ _ _
        refine kR.ret rfl rfl ?_
        rw [if_neg (by omega : ¬ kqu (kch t e p) = 1)]
        refine kfin ?_ rfl
        unfold kck
        rw [if_neg (by omega : ¬ kqu (kch t e p) = 1)]
        have hke := kst_e t e 0 p hpe
        first | (exfalso; omega) | (rw [if_pos (by omega)]; done) | (rw [if_neg (by omega)]; done)
  · skip
    refine kR.s rfl rfl ?_
    refine kR.s rfl rfl ?_
    refine kR.gi (a := 30) (k := 21) (v := (p : Int)) (by omega) rfl rfl rfl (by decide) (by decide) rfl (by exact hpp) ?_
    rw [if_pos (by omega : kqu (kch t e p) = 1)]
    refine kR.cv (v := .int (Int32.ofInt (kbq t e (kch t e p) (p + 1)))) (kargs_m hm (by decide) rfl) rfl (kR.up (c_126 hm hX hR he hen (f := p) hpe (by omega)) (by decide)) ?_
    have hkc : kck t e 0 p = if 0 ≤ kbq t e (kch t e p) (p + 1) ∧ kcol t e 0 (kbq t e (kch t e p) (p + 1)).toNat = 1 then kbq t e (kch t e p) (p + 1) else -1 := if_pos (by omega)
    have hbr := kbq_rng (t := t) (e := e) (q := kch t e p) (e - (p + 1)) (p + 1) rfl
    rw [hkc]
    obtain hbz | ⟨b, hbz⟩ : kbq t e (kch t e p) (p + 1) = -1 ∨ ∃ b : Nat, kbq t e (kch t e p) (p + 1) = (b : Int) := by
      rcases hbr with z | z
      · exact Or.inl z
      · exact Or.inr ⟨(kbq t e (kch t e p) (p + 1)).toNat, by omega⟩
    · skip
      rw [hbz] at hbr ⊢
      refine kR.s rfl rfl ?_
      refine kR.s rfl rfl ?_
      refine kR.zle (by decide) (by decide) (fun q8 => ?_) (fun q8 => absurd q8 (by decide))
      show kR 3 131 b131_40 _ _ _ _
      refine kR.s rfl rfl ?_
      refine kR.n ?_
      show kR 3 131 b131_41 _ _ _ _
      refine kR.ret rfl rfl ?_
      rw [if_neg (by omega)]
    · skip
      rw [hbz] at hbr ⊢
      refine kR.s rfl rfl ?_
      refine kR.s rfl rfl ?_
      refine kR.zle (by omega) (by omega) (fun q9 => ?_) (fun q9 => ?_)
      · skip
        show kR 3 131 b131_40 _ _ _ _
        refine kR.s rfl rfl ?_
        refine kR.n ?_
        show kR 3 131 b131_41 _ _ _ _
        refine kR.ret rfl rfl ?_
        first | (exfalso; omega) | (rw [if_neg (fun z => by have z := z.2; change kcol t e 0 b = 1 at z; omega)]; done)
      · skip
        refine kR.s rfl rfl ?_
        refine kR.s rfl rfl ?_
        refine kR.s rfl rfl ?_
        have f10_0 := kcol_01 t e 0 b
        refine kR.cv (v := .int (Int32.ofInt (kcol t e 0 b))) (kargs_m hm (by decide) rfl) rfl (kR.up (c_120 (S := (kqb S (kuq t e (kch t e p) (p + 1)))) hm hX hR he hen (k := b) (by omega) (by omega)) (by decide)) ?_
        refine kR.zeq (by omega) (by omega) (fun q11 => ?_) (fun q11 => ?_)
        · skip
          show kR 3 131 b131_40 _ _ _ _
          refine kR.s rfl rfl ?_
          refine kR.n ?_
          show kR 3 131 b131_41 _ _ _ _
          refine kR.ret rfl rfl ?_
          first | (exfalso; omega) | (rw [if_neg (fun z => by have z := z.2; change kcol t e 0 b = 1 at z; omega)]; done)
        · skip
          refine kR.s rfl rfl ?_
          refine kR.g rfl ?_
          show kR 3 131 b131_41 _ _ _ _
          refine kR.ret rfl rfl ?_
          rw [if_pos ⟨by omega, by show kcol t e 0 b = 1; omega⟩]
