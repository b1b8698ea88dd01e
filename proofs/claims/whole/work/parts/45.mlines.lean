/-! The reference: lines, and what it looks at. By program (wip/gen/gen45.py). -/
theorem khr_r {t : Nat → Int} {n L e : Nat} (hX : kTx t n L) (h : e ≤ n) (p : Nat) : 0 ≤ khr t e p ∧ khr t e p ≤ 126 := by
  have h1 := khr_o t e p
  have h2 := kch_rng hX h p
  omega
theorem kbk_h (t : Nat → Int) (e p : Nat) : kbk (khr t e p) = kbk (kch t e p) := by
  rcases khr_o t e p with ⟨h1, h2, h3⟩ | ⟨h1, h2, h3⟩
  · rw [h1, h2]
  · rw [h1, h2]
    rfl
theorem kqu_h (t : Nat → Int) (e p : Nat) : kqu (khr t e p) = kqu (kch t e p) := by
  rcases khr_o t e p with ⟨h1, h2, h3⟩ | ⟨h1, h2, h3⟩
  · rw [h1, h2]
  · rw [h1, h2]
    rfl
theorem khr_c {t : Nat → Int} {e p : Nat} (c : Int) (h0 : c ≠ 0) (h1 : c ≠ 10) : khr t e p = c ↔ kch t e p = c := by
  rcases khr_o t e p with ⟨h1, h2, h3⟩ | ⟨h1, h2, h3⟩
  · rw [h1, h2]
  · rw [h1, h2]
    constructor <;> intro z <;> omega
theorem kgap_h {t : Nat → Int} {n L e : Nat} (hX : kTx t n L) (h : e ≤ n) (p : Nat) : (khr t e p = 0 ∨ khr t e p = 32) ↔ kgap t e p = 1 := by
  have h1 := khr_o t e p
  have h2 := kch_rng hX h p
  have h3 := kgap_o t e p
  omega
theorem kgap_01 (t : Nat → Int) (e p : Nat) : 0 ≤ kgap t e p ∧ kgap t e p ≤ 1 := by
  have h3 := kgap_o t e p
  omega
theorem kbk_01 (c : Int) : 0 ≤ kbk c ∧ kbk c ≤ 1 := by
  unfold kbk
  split <;> omega
theorem kqu_01 (c : Int) : 0 ≤ kqu c ∧ kqu c ≤ 1 := by
  unfold kqu
  split <;> omega
theorem kpl_01 (t : Nat → Int) (e p : Nat) : 0 ≤ kpl t e p ∧ kpl t e p ≤ 1 := by
  unfold kpl
  split <;> omega
theorem kcol_01 (t : Nat → Int) (e : Nat) (i : Int) (p : Nat) : 0 ≤ kcol t e i p ∧ kcol t e i p ≤ 1 := by
  unfold kcol
  split <;> omega
theorem kdash_01 (t : Nat → Int) (e p : Nat) : 0 ≤ kdash t e p ∧ kdash t e p ≤ 1 := by
  unfold kdash
  split <;> omega
def kplh (c d : Int) : Int := if c = 45 then (if 0 < d ∧ ¬ d = 32 then 1 else 0) else if c = 95 ∨ c = 46 ∨ c = 43 ∨ c = 47 ∨ c = 126 ∨ c = 40 ∨ c = 60 ∨ c = 61 ∨ c = 36 ∨ c = 94 ∨ (97 ≤ c ∧ c ≤ 122) ∨ (65 ≤ c ∧ c ≤ 90) ∨ (48 ≤ c ∧ c ≤ 57) then 1 else 0
theorem kplh_eq {t : Nat → Int} {n L e : Nat} (hX : kTx t n L) (h : e ≤ n) (p : Nat) : kplh (khr t e p) (khr t e (p + 1)) = kpl t e p := by
  have h1 := khr_o t e p
  have h2 := kch_rng hX h p
  have h3 := khr_o t e (p + 1)
  have h4 := kch_rng hX h (p + 1)
  have h5 := kgap_o t e (p + 1)
  have e1 : (khr t e p = kch t e p ∧ kch t e p ≠ 10) ∨ (khr t e p = 0 ∧ kch t e p = 10) ∨ (khr t e p = 10 ∧ kch t e p = 10) := by omega
  have e2 : (0 < khr t e (p + 1) ∧ ¬ khr t e (p + 1) = 32) ↔ kgap t e (p + 1) = 0 := by omega
  clear h1 h2 h3 h4 h5
  unfold kplh kpl ksg
  rcases e1 with ⟨e3, e4⟩ | ⟨e3, e4⟩ | ⟨e3, e4⟩
  · rw [e3]
    by_cases h6 : kch t e p = 45
    · rw [if_pos h6]
      by_cases h7 : kgap t e (p + 1) = 0
      · rw [if_pos (e2.mpr h7), if_pos (Or.inl ⟨h6, h7⟩)]
      · rw [if_neg (fun z => h7 (e2.mp z)), if_neg (by omega)]
    · rw [if_neg h6]
      by_cases h8 : kch t e p = 95 ∨ kch t e p = 46 ∨ kch t e p = 43 ∨ kch t e p = 47 ∨ kch t e p = 126 ∨ kch t e p = 40 ∨ kch t e p = 60 ∨ kch t e p = 61 ∨ kch t e p = 36 ∨ kch t e p = 94
      · rw [if_pos h8, if_pos (by omega), if_pos (by omega)]
      · rw [if_neg h8]
        by_cases h9 : (97 ≤ kch t e p ∧ kch t e p ≤ 122) ∨ (65 ≤ kch t e p ∧ kch t e p ≤ 90) ∨ (48 ≤ kch t e p ∧ kch t e p ≤ 57)
        · rw [if_pos (by omega), if_pos (by omega)]
        · rw [if_neg (by omega), if_neg (by omega)]
  · rw [e3, e4]
    rfl
  · rw [e3, e4]
    rfl
def kRt (S : Nat → Nat → Int) (t : Nat → Int) (n : Nat) : Prop := S 30 7 = n ∧ ∀ j, j < n → S 33 j = t j
theorem l_105t {m : Nat} {E : Nat → kC} {S : Nat → Nat → Int} {sz : Nat × Nat} (hm : 53 ≤ m ∧ m ≤ 57) {t : Nat → Int} {n L : Nat} (hX : kTx t n L) (hR : kRt S t n) (w : Int) : ∀ (j k : Nat), n - k = j → k ≤ 201 → kR 0 105 (blk 105 2) [.ref 30, .int (Int32.ofInt w), .int (Int32.ofInt (k : Int))] [] (sz, hp m E S) (fun r => r = (.inl (some (.int (Int32.ofInt ((kw (fun i => decide (t i ≠ 10)) n k : Nat) : Int)))), (sz, hp m E S))) := by
  intro j
  induction j using Nat.strongRecOn with
  | _ j ih =>
    intro k hk hk2
    have hx1 := hX.1
    have hx3 := hX.2.1 k
    show kR 0 105 b105_2 _ _ _ _
    refine kR.s rfl rfl ?_
    refine kR.s rfl rfl ?_
    refine kR.gi (a := 30) (k := 7) (v := (n : Int)) (by omega) rfl rfl rfl (by decide) (by decide) rfl (by exact hR.1) ?_
    refine kR.jge (by omega) (by omega) (by omega) (by omega) (fun q1 => ?_) (fun q1 => ?_)
    · skip
      show kR 0 105 b105_27 _ _ _ _
      refine kR.s rfl rfl ?_
      refine kR.ret rfl rfl ?_
      rw [kw_no (by first | (left; omega) | (right; exact decide_eq_false (fun z => z ‹_›)) | (right; exact decide_eq_false ‹_›))]
    · skip
      refine kR.s rfl rfl ?_
      refine kR.gr (a := 30) (b := 33) (k := 6) (by omega) rfl rfl rfl (by decide) (by decide) rfl ?_
      refine kR.s rfl rfl ?_
      refine kR.ia (a := 33) (v := t k) (by omega) rfl (by decide) (by omega) (by omega) (by exact (hR.2 _ (by omega))) ?_
      refine kR.bi rfl ?_
      refine kR.jeq (by omega) (by omega) (by omega) (by omega) (fun q2 => ?_) (fun q2 => ?_)
      · skip
        show kR 0 105 b105_27 _ _ _ _
        refine kR.s rfl rfl ?_
        refine kR.ret rfl rfl ?_
        rw [kw_no (by first | (left; omega) | (right; exact decide_eq_false (fun z => z ‹_›)) | (right; exact decide_eq_false ‹_›))]
      · skip
        refine kR.inc rfl ?_
        refine kR.g rfl ?_
        rw [kw_go (by omega) (decide_eq_true ‹_›)]
        exact ih (n - (k + 1)) (by omega) (k + 1) rfl (by omega)
theorem c_105t {m : Nat} {E : Nat → kC} {S : Nat → Nat → Int} {sz : Nat × Nat} (hm : 53 ≤ m ∧ m ≤ 57) {t : Nat → Int} {n L : Nat} (hX : kTx t n L) (hR : kRt S t n) {a : Nat} (ha : a ≤ 201) : kR 0 105 (blk 105 0) (kent 105 [.ref 30, .int (Int32.ofInt ((a : Int)))]) [] (sz, hp m E S) (fun r => r = (.inl (some (.int (Int32.ofInt (((kw (fun i => decide (t i ≠ 10)) n a : Nat) : Int))))), (sz, hp m E S))) := by
  show kR 0 105 b105_0 _ _ _ _
  refine kR.s rfl rfl ?_
  refine kR.s rfl rfl ?_
  refine kR.n ?_
  exact l_105t hm hX hR a _ a rfl ha
theorem l_104t {m : Nat} {E : Nat → kC} {S : Nat → Nat → Int} {sz : Nat × Nat} (hm : 53 ≤ m ∧ m ≤ 57) {t : Nat → Int} {n L : Nat} (hX : kTx t n L) (hR : kRt S t n) {a g : Nat} (hg : g ≤ n) : ∀ (j k : Nat), 300 - k = j → k ≤ 250 → kR 0 104 (blk 104 2) [.ref 30, .int (Int32.ofInt (a : Int)), .int (Int32.ofInt (g : Int)), .int (Int32.ofInt (k : Int))] [] (sz, hp m E S) (fun r => r = (.inl (some (.int (Int32.ofInt (((kw (fun i => decide (t i = 32)) g k : Nat) : Int) - (a : Int))))), (sz, hp m E S))) := by
  intro j
  induction j using Nat.strongRecOn with
  | _ j ih =>
    intro k hk hk2
    have hx1 := hX.1
    have hx3 := hX.2.1 k
    show kR 0 104 b104_2 _ _ _ _
    refine kR.s rfl rfl ?_
    refine kR.s rfl rfl ?_
    refine kR.jge (by omega) (by omega) (by omega) (by omega) (fun q1 => ?_) (fun q1 => ?_)
    · skip
      show kR 0 104 b104_24 _ _ _ _
      refine kR.s rfl rfl ?_
      refine kR.s rfl rfl ?_
      refine kR.sub ?_
      refine kR.ret rfl rfl ?_
      rw [kw_no (by first | (left; omega) | (right; exact decide_eq_false (fun z => z ‹_›)) | (right; exact decide_eq_false ‹_›))]
    · skip
      refine kR.s rfl rfl ?_
      refine kR.gr (a := 30) (b := 33) (k := 6) (by omega) rfl rfl rfl (by decide) (by decide) rfl ?_
      refine kR.s rfl rfl ?_
      refine kR.ia (a := 33) (v := t k) (by omega) rfl (by decide) (by omega) (by omega) (by exact (hR.2 _ (by omega))) ?_
      refine kR.bi rfl ?_
      refine kR.jne (by omega) (by omega) (by omega) (by omega) (fun q2 => ?_) (fun q2 => ?_)
      · skip
        show kR 0 104 b104_24 _ _ _ _
        refine kR.s rfl rfl ?_
        refine kR.s rfl rfl ?_
        refine kR.sub ?_
        refine kR.ret rfl rfl ?_
        rw [kw_no (by first | (left; omega) | (right; exact decide_eq_false (fun z => z ‹_›)) | (right; exact decide_eq_false ‹_›))]
      · skip
        refine kR.inc rfl ?_
        refine kR.g rfl ?_
        rw [kw_go (by omega) (decide_eq_true ‹_›)]
        exact ih (300 - (k + 1)) (by omega) (k + 1) rfl (by omega)
theorem c_104t {m : Nat} {E : Nat → kC} {S : Nat → Nat → Int} {sz : Nat × Nat} (hm : 53 ≤ m ∧ m ≤ 57) {t : Nat → Int} {n L : Nat} (hX : kTx t n L) (hR : kRt S t n) {a g : Nat} (hg : g ≤ n) (ha : a ≤ 201) : kR 0 104 (blk 104 0) (kent 104 [.ref 30, .int (Int32.ofInt ((a : Int))), .int (Int32.ofInt ((g : Int)))]) [] (sz, hp m E S) (fun r => r = (.inl (some (.int (Int32.ofInt (((kw (fun i => decide (t i = 32)) g a : Nat) : Int) - (a : Int))))), (sz, hp m E S))) := by
  show kR 0 104 b104_0 _ _ _ _
  refine kR.s rfl rfl ?_
  refine kR.s rfl rfl ?_
  refine kR.n ?_
  exact l_104t hm hX hR hg _ a rfl (by omega)
theorem l_106 {m : Nat} {E : Nat → kC} {S : Nat → Nat → Int} {sz : Nat × Nat} (hm : 53 ≤ m ∧ m ≤ 57) {t : Nat → Int} {n L : Nat} (hX : kTx t n L) (hR : kRt S t n) : ∀ (j k : Nat) (v2 v3 : Value), L - k = j → k ≤ L → kR 1 106 (blk 106 7) [.ref 30, .int (Int32.ofInt (klb t n k : Int)), v2, v3] [] (sz, hp m E S) (fun r => r = (.inl (some (.int (Int32.ofInt (if kw (fun i => decide (¬ krb t n i < kre t n i ∨ t (krb t n i) = 35)) L k < L then (klb t n (kw (fun i => decide (¬ krb t n i < kre t n i ∨ t (krb t n i) = 35)) L k) : Int) else -1)))), (sz, hp m E S))) := by
  intro j
  induction j using Nat.strongRecOn with
  | _ j ih =>
    intro k v2 v3 hk hk2
    have hx1 := hX.1
    have hx4 : k < L → klb t n k ≤ n := hX.2.2.2.2.1 k
    have hx5 := hX.2.2.2.2.2
    have hx6 : k = L → klb t n k = n + 1 := fun z => by rw [z]; exact hx5
    have hx7 : k < L → klb t n k ≤ krb t n k ∧ krb t n k ≤ kre t n k ∧ kre t n k ≤ kle t n k ∧ kle t n k ≤ n := fun z => hX.ln z
    have hx8 : k < L → (krb t n k < kle t n k ↔ krb t n k < kre t n k) := fun z => krk (hx4 z)
    have hx3 := hX.2.1 (krb t n k)
    show kR 1 106 b106_7 _ _ _ _
    refine kR.s rfl rfl ?_
    refine kR.s rfl rfl ?_
    refine kR.gi (a := 30) (k := 7) (v := (n : Int)) (by omega) rfl rfl rfl (by decide) (by decide) rfl (by exact hR.1) ?_
    refine kR.jgt (by omega) (by omega) (by omega) (by omega) (fun q1 => ?_) (fun q1 => ?_)
    · skip
      show kR 1 106 b106_55 _ _ _ _
      refine kR.s rfl rfl ?_
      refine kR.ret rfl rfl ?_
      rw [kw_no (Or.inl (by omega)), if_neg (by omega)]
    · skip
      refine kR.s rfl rfl ?_
      refine kR.s rfl rfl ?_
      refine kR.cv (v := .int (Int32.ofInt ((kle t n k : Int)))) (kargs_m hm (by decide) rfl) rfl (kR.up (c_105t hm hX hR (a := klb t n k) (by omega)) (by decide)) ?_
      refine kR.s rfl rfl ?_
      refine kR.s rfl rfl ?_
      refine kR.s rfl rfl ?_
      refine kR.s rfl rfl ?_
      refine kR.s rfl rfl ?_
      refine kR.cv (v := .int (Int32.ofInt ((krb t n k : Int) - (klb t n k : Int)))) (kargs_m hm (by decide) rfl) rfl (kR.up (c_104t hm hX hR (a := klb t n k) (g := kle t n k) (by omega) (by omega)) (by decide)) ?_
      refine kR.add ?_
      rw [show (klb t n k : Int) + ((krb t n k : Int) - (klb t n k : Int)) = (krb t n k : Int) by omega]
      refine kR.s rfl rfl ?_
      refine kR.s rfl rfl ?_
      refine kR.s rfl rfl ?_
      refine kR.jge (by omega) (by omega) (by omega) (by omega) (fun q4 => ?_) (fun q4 => ?_)
      · skip
        show kR 1 106 b106_48 _ _ _ _
        refine kR.s rfl rfl ?_
        refine kR.s rfl rfl ?_
        refine kR.add ?_
        refine kR.s rfl rfl ?_
        refine kR.g rfl ?_
        rw [kw_go (by omega) (decide_eq_true (by omega))]
        exact ih (L - (k + 1)) (by omega) (k + 1) _ _ rfl (by omega)
      · skip
        refine kR.s rfl rfl ?_
        refine kR.gr (a := 30) (b := 33) (k := 6) (by omega) rfl rfl rfl (by decide) (by decide) rfl ?_
        refine kR.s rfl rfl ?_
        refine kR.ia (a := 33) (v := t (krb t n k)) (by omega) rfl (by decide) (by omega) (by omega) (by exact (hR.2 _ (by omega))) ?_
        refine kR.bi rfl ?_
        refine kR.jeq (by omega) (by omega) (by omega) (by omega) (fun q5 => ?_) (fun q5 => ?_)
        · skip
          show kR 1 106 b106_48 _ _ _ _
          refine kR.s rfl rfl ?_
          refine kR.s rfl rfl ?_
          refine kR.add ?_
          refine kR.s rfl rfl ?_
          refine kR.g rfl ?_
          rw [kw_go (by omega) (decide_eq_true (by omega))]
          exact ih (L - (k + 1)) (by omega) (k + 1) _ _ rfl (by omega)
        · skip
          refine kR.s rfl rfl ?_
          refine kR.ret rfl rfl ?_
          rw [kw_no (Or.inr (decide_eq_false (by omega))), if_pos (by omega)]
theorem c_106 {m : Nat} {E : Nat → kC} {S : Nat → Nat → Int} {sz : Nat × Nat} (hm : 53 ≤ m ∧ m ≤ 57) {t : Nat → Int} {n L : Nat} (hX : kTx t n L) (hR : kRt S t n) {l : Nat} (hl : l ≤ L) (hle : S 30 24 + 1 = (klb t n l : Int)) : kR 1 106 (blk 106 0) (kent 106 [.ref 30]) [] (sz, hp m E S) (fun r => r = (.inl (some (.int (Int32.ofInt (if kw (fun i => decide (¬ krb t n i < kre t n i ∨ t (krb t n i) = 35)) L l < L then (klb t n (kw (fun i => decide (¬ krb t n i < kre t n i ∨ t (krb t n i) = 35)) L l) : Int) else -1)))), (sz, hp m E S))) := by
  show kR 1 106 b106_0 _ _ _ _
  refine kR.s rfl rfl ?_
  refine kR.gi (a := 30) (k := 24) (v := S 30 24) (by omega) rfl rfl rfl (by decide) (by decide) rfl (by rfl) ?_
  refine kR.s rfl rfl ?_
  refine kR.add ?_
  refine kR.s rfl rfl ?_
  refine kR.n ?_
  rw [hle]
  exact l_106 hm hX hR _ l _ _ rfl hl
def kgom (S : Nat → Nat → Int) (t : Nat → Int) (n l : Nat) : Nat → Nat → Int := ku (ku (ku (ku S 30 22 (klb t n l : Int)) 30 24 (kle t n l : Int)) 30 21 (krb t n l : Int)) 30 23 (kre t n l : Int)
theorem l_107 {m : Nat} {E : Nat → kC} {S : Nat → Nat → Int} {sz : Nat × Nat} (hm : 53 ≤ m ∧ m ≤ 57) {t : Nat → Int} {n L : Nat} (hX : kTx t n L) (hR : kRt S t n) {l : Nat} (hl : l < L) {w : Int} : ∀ (j k : Nat) (S1 : Nat → Nat → Int), k = j → krb t n l ≤ k → k ≤ kle t n l → S1 = ku (ku (ku (ku S 30 22 (klb t n l : Int)) 30 24 (kle t n l : Int)) 30 21 (krb t n l : Int)) 30 23 (k : Int) → kR 1 107 (blk 107 37) [.ref 30, .int (Int32.ofInt w)] [] (sz, hp m E S1) (fun r => r = (.inl none, (sz, hp m E (ku (ku (ku (ku S 30 22 (klb t n l : Int)) 30 24 (kle t n l : Int)) 30 21 (krb t n l : Int)) 30 23 ((kb (fun i => decide (t i = 32)) (krb t n l) k : Nat) : Int))))) := by
  intro j
  induction j using Nat.strongRecOn with
  | _ j ih =>
    intro k S1 hj hk1 hk2 hS1
    subst hS1
    have hx1 := hX.1
    have hx7 := hX.ln hl
    have hx3 := hX.2.1 (k - 1)
    show kR 1 107 b107_37 _ _ _ _
    refine kR.s rfl rfl ?_
    refine kR.gi (a := 30) (k := 23) (v := (k : Int)) (by omega) rfl rfl rfl (by decide) (by decide) rfl (by rfl) ?_
    refine kR.s rfl rfl ?_
    refine kR.gi (a := 30) (k := 21) (v := (krb t n l : Int)) (by omega) rfl rfl rfl (by decide) (by decide) rfl (by rfl) ?_
    refine kR.jle (by omega) (by omega) (by omega) (by omega) (fun q1 => ?_) (fun q1 => ?_)
    · skip
      show kR 1 107 b107_77 _ _ _ _
      refine kR.ret rfl rfl ?_
      rw [kb_no (by omega) (by first | (left; omega) | (right; exact decide_eq_false ‹_›))]
    · skip
      refine kR.s rfl rfl ?_
      refine kR.gr (a := 30) (b := 33) (k := 6) (by omega) rfl rfl rfl (by decide) (by decide) rfl ?_
      refine kR.s rfl rfl ?_
      refine kR.gi (a := 30) (k := 23) (v := (k : Int)) (by omega) rfl rfl rfl (by decide) (by decide) rfl (by rfl) ?_
      refine kR.s rfl rfl ?_
      refine kR.sub ?_
      rw [show (k : Int) - 1 = ((k - 1 : Nat) : Int) by omega]
      refine kR.ia (v := t (k - 1)) (by omega) rfl (by decide) (by omega) (by omega) (hR.2 _ (by omega)) ?_
      refine kR.bi rfl ?_
      refine kR.jne (by omega) (by omega) (by omega) (by omega) (fun q2 => ?_) (fun q2 => ?_)
      · skip
        show kR 1 107 b107_77 _ _ _ _
        refine kR.ret rfl rfl ?_
        rw [kb_no (by omega) (by first | (left; omega) | (right; exact decide_eq_false ‹_›))]
      · skip
        refine kR.s rfl rfl ?_
        refine kR.s rfl rfl ?_
        refine kR.gi (a := 30) (k := 23) (v := (k : Int)) (by omega) rfl rfl rfl (by decide) (by decide) rfl (by rfl) ?_
        refine kR.s rfl rfl ?_
        refine kR.sub ?_
        refine kR.pi (a := 30) (k := 23) (by omega) rfl rfl rfl (by decide) (by decide) rfl rfl ?_
        refine kR.g rfl ?_
        rw [kb_go (by omega) (decide_eq_true ‹_›), ku_ku]
        exact ih (k - 1) (by omega) (k - 1) _ rfl (by omega) (by omega) (by rw [show ((k - 1 : Nat) : Int) = (k : Int) - 1 by omega])
theorem c_107 {m : Nat} {E : Nat → kC} {S : Nat → Nat → Int} {sz : Nat × Nat} (hm : 53 ≤ m ∧ m ≤ 57) {t : Nat → Int} {n L : Nat} (hX : kTx t n L) (hR : kRt S t n) {l : Nat} (hl : l < L) : kR 1 107 (blk 107 0) (kent 107 [.ref 30, .int (Int32.ofInt ((klb t n l : Int)))]) [] (sz, hp m E S) (fun r => r = (.inl none, (sz, hp m E (kgom S t n l)))) := by
  have hx1 := hX.1
  have hx7 := hX.ln hl
  have hx4 := hX.2.2.2.2.1 l hl
  show kR 1 107 b107_0 _ _ _ _
  refine kR.s rfl rfl ?_
  refine kR.s rfl rfl ?_
  refine kR.pi (a := 30) (k := 22) (by omega) rfl rfl rfl (by decide) (by decide) rfl rfl ?_
  refine kR.s rfl rfl ?_
  refine kR.s rfl rfl ?_
  refine kR.s rfl rfl ?_
  refine kR.cv (v := .int (Int32.ofInt ((kle t n l : Int)))) (kargs_m hm (by decide) rfl) rfl (kR.up (c_105t (S := ku S 30 22 (klb t n l : Int)) hm hX hR (a := klb t n l) (by omega)) (by decide)) ?_
  refine kR.pi (a := 30) (k := 24) (by omega) rfl rfl rfl (by decide) (by decide) rfl rfl ?_
  refine kR.s rfl rfl ?_
  refine kR.s rfl rfl ?_
  refine kR.s rfl rfl ?_
  refine kR.s rfl rfl ?_
  refine kR.s rfl rfl ?_
  refine kR.gi (a := 30) (k := 24) (v := (kle t n l : Int)) (by omega) rfl rfl rfl (by decide) (by decide) rfl (by rfl) ?_
  refine kR.cv (v := .int (Int32.ofInt ((krb t n l : Int) - (klb t n l : Int)))) (kargs_m hm (by decide) rfl) rfl (kR.up (c_104t (S := ku (ku S 30 22 (klb t n l : Int)) 30 24 (kle t n l : Int)) hm hX hR (a := klb t n l) (g := kle t n l) (by omega) (by omega)) (by decide)) ?_
  refine kR.add ?_
  rw [show (klb t n l : Int) + ((krb t n l : Int) - (klb t n l : Int)) = (krb t n l : Int) by omega]
  refine kR.pi (a := 30) (k := 21) (by omega) rfl rfl rfl (by decide) (by decide) rfl rfl ?_
  refine kR.s rfl rfl ?_
  refine kR.s rfl rfl ?_
  refine kR.gi (a := 30) (k := 24) (v := (kle t n l : Int)) (by omega) rfl rfl rfl (by decide) (by decide) rfl (by rfl) ?_
  refine kR.pi (a := 30) (k := 23) (by omega) rfl rfl rfl (by decide) (by decide) rfl rfl ?_
  refine kR.n ?_
  exact l_107 hm hX hR hl (kle t n l) (kle t n l) _ rfl (by omega) (by omega) rfl
theorem c_108t {m : Nat} {E : Nat → kC} {S : Nat → Nat → Int} {sz : Nat × Nat} (hm : 53 ≤ m ∧ m ≤ 57) {t : Nat → Int} {n L : Nat} (hX : kTx t n L) (hR : kRt S t n) {e : Nat} (he : S 30 23 = (e : Int)) (hen : e ≤ n) {k : Nat} (hk : k ≤ 1000) : kR 0 108 (blk 108 0) (kent 108 [.ref 30, .int (Int32.ofInt ((k : Int)))]) [] (sz, hp m E S) (fun r => r = (.inl (some (.int (Int32.ofInt (khr t e k)))), (sz, hp m E S))) := by
  have hx1 := hX.1
  have hx3 := hX.2.1 k
  show kR 0 108 b108_0 _ _ _ _
  refine kR.s rfl rfl ?_
  refine kR.s rfl rfl ?_
  refine kR.gi (a := 30) (k := 23) (v := (e : Int)) (by omega) rfl rfl rfl (by decide) (by decide) rfl (by exact he) ?_
  refine kR.jge (by omega) (by omega) (by omega) (by omega) (fun q1 => ?_) (fun q1 => ?_)
  · skip
    show kR 0 108 b108_17 _ _ _ _
    refine kR.s rfl rfl ?_
    refine kR.n ?_
    show kR 0 108 b108_18 _ _ _ _
    refine kR.ret rfl rfl ?_
    unfold khr
    first | (rw [if_pos (by omega)]; done) | (rw [if_neg (by omega)]; done) | (exfalso; omega)
  · skip
    refine kR.s rfl rfl ?_
    refine kR.gr (a := 30) (b := 33) (k := 6) (by omega) rfl rfl rfl (by decide) (by decide) rfl ?_
    refine kR.s rfl rfl ?_
    refine kR.ia (a := 33) (v := t k) (by omega) rfl (by decide) (by omega) (by omega) (by exact (hR.2 _ (by omega))) ?_
    refine kR.g rfl ?_
    show kR 0 108 b108_18 _ _ _ _
    refine kR.ret rfl rfl ?_
    unfold khr
    first | (rw [if_pos (by omega)]; done) | (rw [if_neg (by omega)]; done) | (exfalso; omega)
theorem l_109 {m : Nat} {E : Nat → kC} {S : Nat → Nat → Int} {sz : Nat × Nat} (hm : 53 ≤ m ∧ m ≤ 57) {t : Nat → Int} {n L : Nat} (hX : kTx t n L) (hR : kRt S t n) {e : Nat} (he : S 30 23 = (e : Int)) (hen : e ≤ n) : ∀ (j k : Nat) (S1 : Nat → Nat → Int), 400 - k = j → k ≤ 300 → S1 = ku S 30 21 (k : Int) → kR 1 109 (blk 109 0) [.ref 30] [] (sz, hp m E S1) (fun r => r = (.inl none, (sz, hp m E (ku S 30 21 ((kw (fun i => decide (t i = 32)) e k : Nat) : Int))))) := by
  intro j
  induction j using Nat.strongRecOn with
  | _ j ih =>
    intro k S1 hj hk hS1
    subst hS1
    have hx1 := hX.1
    show kR 1 109 b109_0 _ _ _ _
    refine kR.s rfl rfl ?_
    refine kR.s rfl rfl ?_
    refine kR.gi (a := 30) (k := 21) (v := (k : Int)) (by omega) rfl rfl rfl (by decide) (by decide) rfl (by rfl) ?_
    have f1_0 := khr_r hX hen k
    refine kR.cv (v := .int (Int32.ofInt (khr t e k))) (kargs_m hm (by decide) rfl) rfl (kR.up (c_108t (S := ku S 30 21 (k : Int)) hm hX hR he hen (k := k) (by omega)) (by decide)) ?_
    refine kR.bi rfl ?_
    refine kR.jne (by omega) (by omega) (by omega) (by omega) (fun q2 => ?_) (fun q2 => ?_)
    · skip
      show kR 1 109 b109_26 _ _ _ _
      refine kR.ret rfl rfl ?_
      have y1 := khr_o t e k
      rw [kw_no (by rcases Nat.lt_or_ge k e with z | z; (right; exact decide_eq_false (by omega)); (left; exact z))]
    · skip
      refine kR.s rfl rfl ?_
      refine kR.s rfl rfl ?_
      refine kR.gi (a := 30) (k := 21) (v := (k : Int)) (by omega) rfl rfl rfl (by decide) (by decide) rfl (by rfl) ?_
      refine kR.s rfl rfl ?_
      refine kR.add ?_
      refine kR.pi (a := 30) (k := 21) (by omega) rfl rfl rfl (by decide) (by decide) rfl rfl ?_
      refine kR.g rfl ?_
      have y1 := khr_o t e k
      rw [kw_go (by omega) (decide_eq_true (by omega)), ku_ku]
      exact ih (400 - (k + 1)) (by omega) (k + 1) _ rfl (by omega) rfl
theorem c_109 {m : Nat} {E : Nat → kC} {S : Nat → Nat → Int} {sz : Nat × Nat} (hm : 53 ≤ m ∧ m ≤ 57) {t : Nat → Int} {n L : Nat} (hX : kTx t n L) (hR : kRt S t n) {e : Nat} (he : S 30 23 = (e : Int)) (hen : e ≤ n) {p : Nat} (hpp : S 30 21 = (p : Int)) (hpn : p ≤ 300) : kR 1 109 (blk 109 0) (kent 109 [.ref 30]) [] (sz, hp m E S) (fun r => r = (.inl none, (sz, hp m E (ku S 30 21 ((kw (fun i => decide (t i = 32)) e p : Nat) : Int))))) := by
  exact l_109 hm hX hR he hen _ p S rfl hpn (ku_eta hpp).symm
theorem c_117 {h : kH} {c l g : Int} (hc : -2147483648 ≤ c ∧ c < 2147483648) (hl : 0 ≤ l ∧ l < 128) (hg : 0 ≤ g ∧ g < 128) : kR 0 117 (blk 117 0) (kent 117 [.int (Int32.ofInt (c)), .int (Int32.ofInt (l)), .int (Int32.ofInt (g))]) [] h (fun r => r = (.inl (some (.int (Int32.ofInt (if l ≤ c ∧ c ≤ g then 1 else 0)))), h)) := by
  show kR 0 117 b117_0 _ _ _ _
  refine kR.s rfl rfl ?_
  refine kR.s rfl rfl ?_
  refine kR.jlt (by omega) (by omega) (by omega) (by omega) (fun q1 => ?_) (fun q1 => ?_)
  · skip
    show kR 0 117 b117_14 _ _ _ _
    refine kR.s rfl rfl ?_
    refine kR.n ?_
    show kR 0 117 b117_15 _ _ _ _
    refine kR.ret rfl rfl ?_
    first | (rw [if_pos (by omega)]; done) | (rw [if_neg (by omega)]; done) | (exfalso; omega)
  · skip
    refine kR.s rfl rfl ?_
    refine kR.s rfl rfl ?_
    refine kR.jgt (by omega) (by omega) (by omega) (by omega) (fun q2 => ?_) (fun q2 => ?_)
    · skip
      show kR 0 117 b117_14 _ _ _ _
      refine kR.s rfl rfl ?_
      refine kR.n ?_
      show kR 0 117 b117_15 _ _ _ _
      refine kR.ret rfl rfl ?_
      first | (rw [if_pos (by omega)]; done) | (rw [if_neg (by omega)]; done) | (exfalso; omega)
    · skip
      refine kR.s rfl rfl ?_
      refine kR.g rfl ?_
      show kR 0 117 b117_15 _ _ _ _
      refine kR.ret rfl rfl ?_
      first | (rw [if_pos (by omega)]; done) | (rw [if_neg (by omega)]; done) | (exfalso; omega)
theorem c_118 {h : kH} {c : Int} (hc : 0 ≤ c ∧ c < 128) : kR 0 118 (blk 118 0) (kent 118 [.int (Int32.ofInt (c))]) [] h (fun r => r = (.inl (some (.int (Int32.ofInt (kbk c)))), h)) := by
  show kR 0 118 b118_0 _ _ _ _
  refine kR.s rfl rfl ?_
  refine kR.bi rfl ?_
  refine kR.jeq (by omega) (by omega) (by omega) (by omega) (fun q1 => ?_) (fun q1 => ?_)
  · skip
    show kR 0 118 b118_30 _ _ _ _
    refine kR.s rfl rfl ?_
    refine kR.g rfl ?_
    show kR 0 118 b118_35 _ _ _ _
    refine kR.ret rfl rfl ?_
    exact kfing (by have z := kbk_o c; omega)
  · skip
    refine kR.s rfl rfl ?_
    refine kR.bi rfl ?_
    refine kR.jeq (by omega) (by omega) (by omega) (by omega) (fun q2 => ?_) (fun q2 => ?_)
    · skip
      show kR 0 118 b118_30 _ _ _ _
      refine kR.s rfl rfl ?_
      refine kR.g rfl ?_
      show kR 0 118 b118_35 _ _ _ _
      refine kR.ret rfl rfl ?_
      exact kfing (by have z := kbk_o c; omega)
    · skip
      refine kR.s rfl rfl ?_
      refine kR.bi rfl ?_
      refine kR.jeq (by omega) (by omega) (by omega) (by omega) (fun q3 => ?_) (fun q3 => ?_)
      · skip
        show kR 0 118 b118_30 _ _ _ _
        refine kR.s rfl rfl ?_
        refine kR.g rfl ?_
        show kR 0 118 b118_35 _ _ _ _
        refine kR.ret rfl rfl ?_
        exact kfing (by have z := kbk_o c; omega)
      · skip
        refine kR.s rfl rfl ?_
        refine kR.bi rfl ?_
        refine kR.jeq (by omega) (by omega) (by omega) (by omega) (fun q4 => ?_) (fun q4 => ?_)
        · skip
          show kR 0 118 b118_30 _ _ _ _
          refine kR.s rfl rfl ?_
          refine kR.g rfl ?_
          show kR 0 118 b118_35 _ _ _ _
          refine kR.ret rfl rfl ?_
          exact kfing (by have z := kbk_o c; omega)
        · skip
          refine kR.s rfl rfl ?_
          refine kR.bi rfl ?_
          refine kR.jne (by omega) (by omega) (by omega) (by omega) (fun q5 => ?_) (fun q5 => ?_)
          · skip
            show kR 0 118 b118_34 _ _ _ _
            refine kR.s rfl rfl ?_
            refine kR.n ?_
            show kR 0 118 b118_35 _ _ _ _
            refine kR.ret rfl rfl ?_
            exact kfing (by have z := kbk_o c; omega)
          · skip
            refine kR.n ?_
            show kR 0 118 b118_30 _ _ _ _
            refine kR.s rfl rfl ?_
            refine kR.g rfl ?_
            show kR 0 118 b118_35 _ _ _ _
            refine kR.ret rfl rfl ?_
            exact kfing (by have z := kbk_o c; omega)
theorem c_127 {h : kH} {c : Int} (hc : 0 ≤ c ∧ c < 128) : kR 0 127 (blk 127 0) (kent 127 [.int (Int32.ofInt (c))]) [] h (fun r => r = (.inl (some (.int (Int32.ofInt (kqu c)))), h)) := by
  show kR 0 127 b127_0 _ _ _ _
  refine kR.s rfl rfl ?_
  refine kR.bi rfl ?_
  refine kR.jeq (by omega) (by omega) (by omega) (by omega) (fun q1 => ?_) (fun q1 => ?_)
  · skip
    show kR 0 127 b127_12 _ _ _ _
    refine kR.s rfl rfl ?_
    refine kR.g rfl ?_
    show kR 0 127 b127_17 _ _ _ _
    refine kR.ret rfl rfl ?_
    exact kfing (by have z := kqu_o c; omega)
  · skip
    refine kR.s rfl rfl ?_
    refine kR.bi rfl ?_
    refine kR.jne (by omega) (by omega) (by omega) (by omega) (fun q2 => ?_) (fun q2 => ?_)
    · skip
      show kR 0 127 b127_16 _ _ _ _
      refine kR.s rfl rfl ?_
      refine kR.n ?_
      show kR 0 127 b127_17 _ _ _ _
      refine kR.ret rfl rfl ?_
      exact kfing (by have z := kqu_o c; omega)
    · skip
      refine kR.n ?_
      show kR 0 127 b127_12 _ _ _ _
      refine kR.s rfl rfl ?_
      refine kR.g rfl ?_
      show kR 0 127 b127_17 _ _ _ _
      refine kR.ret rfl rfl ?_
      exact kfing (by have z := kqu_o c; omega)
theorem c_119h {m : Nat} {E : Nat → kC} {S : Nat → Nat → Int} {sz : Nat × Nat} (hm : 53 ≤ m ∧ m ≤ 57) {t : Nat → Int} {n L : Nat} (hX : kTx t n L) (hR : kRt S t n) {e : Nat} (he : S 30 23 = (e : Int)) (hen : e ≤ n) {k : Nat} (hk : k ≤ 900) : kR 1 119 (blk 119 0) (kent 119 [.ref 30, .int (Int32.ofInt ((k : Int)))]) [] (sz, hp m E S) (fun r => r = (.inl (some (.int (Int32.ofInt (kplh (khr t e k) (khr t e (k + 1)))))), (sz, hp m E S))) := by
  have hx1 := hX.1
  show kR 1 119 b119_0 _ _ _ _
  refine kR.s rfl rfl ?_
  refine kR.s rfl rfl ?_
  have f1_0 := khr_r hX hen k
  refine kR.cv (v := .int (Int32.ofInt (khr t e k))) (kargs_m hm (by decide) rfl) rfl (kR.up (c_108t hm hX hR he hen (k := k) (by omega)) (by decide)) ?_
  refine kR.s rfl rfl ?_
  refine kR.s rfl rfl ?_
  refine kR.s rfl rfl ?_
  refine kR.s rfl rfl ?_
  refine kR.add ?_
  have f2_0 := khr_r hX hen (k + 1)
  refine kR.cv (v := .int (Int32.ofInt (khr t e (k + 1)))) (kargs_m hm (by decide) rfl) rfl (kR.up (c_108t hm hX hR he hen (k := (k + 1)) (by omega)) (by decide)) ?_
  refine kR.s rfl rfl ?_
  refine kR.s rfl rfl ?_
  refine kR.bi rfl ?_
  refine kR.jne (by omega) (by omega) (by omega) (by omega) (fun q3 => ?_) (fun q3 => ?_)
  · skip
    show kR 1 119 b119_36 _ _ _ _
    refine kR.s rfl rfl ?_
    refine kR.bi rfl ?_
    refine kR.jeq (by omega) (by omega) (by omega) (by omega) (fun q4 => ?_) (fun q4 => ?_)
    · skip
      show kR 1 119 b119_96 _ _ _ _
      refine kR.s rfl rfl ?_
      refine kR.g rfl ?_
      show kR 1 119 b119_101 _ _ _ _
      refine kR.s rfl rfl ?_
      refine kR.s rfl rfl ?_
      refine kR.zne (by decide) (by decide) (fun q5 => ?_) (fun q5 => absurd q5 (by decide))
      show kR 1 119 b119_141 _ _ _ _
      refine kR.s rfl rfl ?_
      refine kR.g rfl ?_
      show kR 1 119 b119_146 _ _ _ _
      refine kR.ret rfl rfl ?_
      refine kfin ?_ rfl
      unfold kplh
      first | rw [if_pos (by omega), if_pos (by omega)] | rw [if_pos (by omega), if_neg (by omega)] | rw [if_neg (by omega), if_pos (by omega)] | rw [if_neg (by omega), if_neg (by omega)]
    · skip
      refine kR.s rfl rfl ?_
      refine kR.bi rfl ?_
      refine kR.jeq (by omega) (by omega) (by omega) (by omega) (fun q6 => ?_) (fun q6 => ?_)
      · skip
        show kR 1 119 b119_96 _ _ _ _
        refine kR.s rfl rfl ?_
        refine kR.g rfl ?_
        show kR 1 119 b119_101 _ _ _ _
        refine kR.s rfl rfl ?_
        refine kR.s rfl rfl ?_
        refine kR.zne (by decide) (by decide) (fun q7 => ?_) (fun q7 => absurd q7 (by decide))
        show kR 1 119 b119_141 _ _ _ _
        refine kR.s rfl rfl ?_
        refine kR.g rfl ?_
        show kR 1 119 b119_146 _ _ _ _
        refine kR.ret rfl rfl ?_
        refine kfin ?_ rfl
        unfold kplh
        first | rw [if_pos (by omega), if_pos (by omega)] | rw [if_pos (by omega), if_neg (by omega)] | rw [if_neg (by omega), if_pos (by omega)] | rw [if_neg (by omega), if_neg (by omega)]
      · skip
        refine kR.s rfl rfl ?_
        refine kR.bi rfl ?_
        refine kR.jeq (by omega) (by omega) (by omega) (by omega) (fun q8 => ?_) (fun q8 => ?_)
        · skip
          show kR 1 119 b119_96 _ _ _ _
          refine kR.s rfl rfl ?_
          refine kR.g rfl ?_
          show kR 1 119 b119_101 _ _ _ _
          refine kR.s rfl rfl ?_
          refine kR.s rfl rfl ?_
          refine kR.zne (by decide) (by decide) (fun q9 => ?_) (fun q9 => absurd q9 (by decide))
          show kR 1 119 b119_141 _ _ _ _
          refine kR.s rfl rfl ?_
          refine kR.g rfl ?_
          show kR 1 119 b119_146 _ _ _ _
          refine kR.ret rfl rfl ?_
          refine kfin ?_ rfl
          unfold kplh
          first | rw [if_pos (by omega), if_pos (by omega)] | rw [if_pos (by omega), if_neg (by omega)] | rw [if_neg (by omega), if_pos (by omega)] | rw [if_neg (by omega), if_neg (by omega)]
        · skip
          refine kR.s rfl rfl ?_
          refine kR.bi rfl ?_
          refine kR.jeq (by omega) (by omega) (by omega) (by omega) (fun q10 => ?_) (fun q10 => ?_)
          · skip
            show kR 1 119 b119_96 _ _ _ _
            refine kR.s rfl rfl ?_
            refine kR.g rfl ?_
            show kR 1 119 b119_101 _ _ _ _
            refine kR.s rfl rfl ?_
            refine kR.s rfl rfl ?_
            refine kR.zne (by decide) (by decide) (fun q11 => ?_) (fun q11 => absurd q11 (by decide))
            show kR 1 119 b119_141 _ _ _ _
            refine kR.s rfl rfl ?_
            refine kR.g rfl ?_
            show kR 1 119 b119_146 _ _ _ _
            refine kR.ret rfl rfl ?_
            refine kfin ?_ rfl
            unfold kplh
            first | rw [if_pos (by omega), if_pos (by omega)] | rw [if_pos (by omega), if_neg (by omega)] | rw [if_neg (by omega), if_pos (by omega)] | rw [if_neg (by omega), if_neg (by omega)]
          · skip
            refine kR.s rfl rfl ?_
            refine kR.bi rfl ?_
            refine kR.jeq (by omega) (by omega) (by omega) (by omega) (fun q12 => ?_) (fun q12 => ?_)
            · skip
              show kR 1 119 b119_96 _ _ _ _
              refine kR.s rfl rfl ?_
              refine kR.g rfl ?_
              show kR 1 119 b119_101 _ _ _ _
              refine kR.s rfl rfl ?_
              refine kR.s rfl rfl ?_
              refine kR.zne (by decide) (by decide) (fun q13 => ?_) (fun q13 => absurd q13 (by decide))
              show kR 1 119 b119_141 _ _ _ _
              refine kR.s rfl rfl ?_
              refine kR.g rfl ?_
              show kR 1 119 b119_146 _ _ _ _
              refine kR.ret rfl rfl ?_
              refine kfin ?_ rfl
              unfold kplh
              first | rw [if_pos (by omega), if_pos (by omega)] | rw [if_pos (by omega), if_neg (by omega)] | rw [if_neg (by omega), if_pos (by omega)] | rw [if_neg (by omega), if_neg (by omega)]
            · skip
              refine kR.s rfl rfl ?_
              refine kR.bi rfl ?_
              refine kR.jeq (by omega) (by omega) (by omega) (by omega) (fun q14 => ?_) (fun q14 => ?_)
              · skip
                show kR 1 119 b119_96 _ _ _ _
                refine kR.s rfl rfl ?_
                refine kR.g rfl ?_
                show kR 1 119 b119_101 _ _ _ _
                refine kR.s rfl rfl ?_
                refine kR.s rfl rfl ?_
                refine kR.zne (by decide) (by decide) (fun q15 => ?_) (fun q15 => absurd q15 (by decide))
                show kR 1 119 b119_141 _ _ _ _
                refine kR.s rfl rfl ?_
                refine kR.g rfl ?_
                show kR 1 119 b119_146 _ _ _ _
                refine kR.ret rfl rfl ?_
                refine kfin ?_ rfl
                unfold kplh
                first | rw [if_pos (by omega), if_pos (by omega)] | rw [if_pos (by omega), if_neg (by omega)] | rw [if_neg (by omega), if_pos (by omega)] | rw [if_neg (by omega), if_neg (by omega)]
              · skip
                refine kR.s rfl rfl ?_
                refine kR.bi rfl ?_
                refine kR.jeq (by omega) (by omega) (by omega) (by omega) (fun q16 => ?_) (fun q16 => ?_)
                · skip
                  show kR 1 119 b119_96 _ _ _ _
                  refine kR.s rfl rfl ?_
                  refine kR.g rfl ?_
                  show kR 1 119 b119_101 _ _ _ _
                  refine kR.s rfl rfl ?_
                  refine kR.s rfl rfl ?_
                  refine kR.zne (by decide) (by decide) (fun q17 => ?_) (fun q17 => absurd q17 (by decide))
                  show kR 1 119 b119_141 _ _ _ _
                  refine kR.s rfl rfl ?_
                  refine kR.g rfl ?_
                  show kR 1 119 b119_146 _ _ _ _
                  refine kR.ret rfl rfl ?_
                  refine kfin ?_ rfl
                  unfold kplh
                  first | rw [if_pos (by omega), if_pos (by omega)] | rw [if_pos (by omega), if_neg (by omega)] | rw [if_neg (by omega), if_pos (by omega)] | rw [if_neg (by omega), if_neg (by omega)]
                · skip
                  refine kR.s rfl rfl ?_
                  refine kR.bi rfl ?_
                  refine kR.jeq (by omega) (by omega) (by omega) (by omega) (fun q18 => ?_) (fun q18 => ?_)
                  · skip
                    show kR 1 119 b119_96 _ _ _ _
                    refine kR.s rfl rfl ?_
                    refine kR.g rfl ?_
                    show kR 1 119 b119_101 _ _ _ _
                    refine kR.s rfl rfl ?_
                    refine kR.s rfl rfl ?_
                    refine kR.zne (by decide) (by decide) (fun q19 => ?_) (fun q19 => absurd q19 (by decide))
                    show kR 1 119 b119_141 _ _ _ _
                    refine kR.s rfl rfl ?_
                    refine kR.g rfl ?_
                    show kR 1 119 b119_146 _ _ _ _
                    refine kR.ret rfl rfl ?_
                    refine kfin ?_ rfl
                    unfold kplh
                    first | rw [if_pos (by omega), if_pos (by omega)] | rw [if_pos (by omega), if_neg (by omega)] | rw [if_neg (by omega), if_pos (by omega)] | rw [if_neg (by omega), if_neg (by omega)]
                  · skip
                    refine kR.s rfl rfl ?_
                    refine kR.bi rfl ?_
                    refine kR.jeq (by omega) (by omega) (by omega) (by omega) (fun q20 => ?_) (fun q20 => ?_)
                    · skip
                      show kR 1 119 b119_96 _ _ _ _
                      refine kR.s rfl rfl ?_
                      refine kR.g rfl ?_
                      show kR 1 119 b119_101 _ _ _ _
                      refine kR.s rfl rfl ?_
                      refine kR.s rfl rfl ?_
                      refine kR.zne (by decide) (by decide) (fun q21 => ?_) (fun q21 => absurd q21 (by decide))
                      show kR 1 119 b119_141 _ _ _ _
                      refine kR.s rfl rfl ?_
                      refine kR.g rfl ?_
                      show kR 1 119 b119_146 _ _ _ _
                      refine kR.ret rfl rfl ?_
                      refine kfin ?_ rfl
                      unfold kplh
                      first | rw [if_pos (by omega), if_pos (by omega)] | rw [if_pos (by omega), if_neg (by omega)] | rw [if_neg (by omega), if_pos (by omega)] | rw [if_neg (by omega), if_neg (by omega)]
                    · skip
                      refine kR.s rfl rfl ?_
                      refine kR.bi rfl ?_
                      refine kR.jne (by omega) (by omega) (by omega) (by omega) (fun q22 => ?_) (fun q22 => ?_)
                      · skip
                        show kR 1 119 b119_100 _ _ _ _
                        refine kR.s rfl rfl ?_
                        refine kR.n ?_
                        show kR 1 119 b119_101 _ _ _ _
                        refine kR.s rfl rfl ?_
                        refine kR.s rfl rfl ?_
                        refine kR.zne (by decide) (by decide) (fun q23 => absurd q23 (by decide)) (fun q23 => ?_)
                        refine kR.s rfl rfl ?_
                        refine kR.bi rfl ?_
                        refine kR.bi rfl ?_
                        refine kR.cb (P := 97 ≤ khr t e k ∧ khr t e k ≤ 122) rfl rfl (kR.up (c_117 (by omega) (by omega) (by omega)) (by decide)) (fun q24 => ?_) (fun q24 => ?_)
                        · skip
                          refine kR.zne (by decide) (by decide) (fun q25 => ?_) (fun q25 => absurd q25 (by decide))
                          show kR 1 119 b119_141 _ _ _ _
                          refine kR.s rfl rfl ?_
                          refine kR.g rfl ?_
                          show kR 1 119 b119_146 _ _ _ _
                          refine kR.ret rfl rfl ?_
                          refine kfin ?_ rfl
                          unfold kplh
                          first | rw [if_pos (by omega), if_pos (by omega)] | rw [if_pos (by omega), if_neg (by omega)] | rw [if_neg (by omega), if_pos (by omega)] | rw [if_neg (by omega), if_neg (by omega)]
                        · skip
                          refine kR.zne (by decide) (by decide) (fun q26 => absurd q26 (by decide)) (fun q26 => ?_)
                          refine kR.s rfl rfl ?_
                          refine kR.bi rfl ?_
                          refine kR.bi rfl ?_
                          refine kR.cb (P := 65 ≤ khr t e k ∧ khr t e k ≤ 90) rfl rfl (kR.up (c_117 (by omega) (by omega) (by omega)) (by decide)) (fun q27 => ?_) (fun q27 => ?_)
                          · skip
                            refine kR.zne (by decide) (by decide) (fun q28 => ?_) (fun q28 => absurd q28 (by decide))
                            show kR 1 119 b119_141 _ _ _ _
                            refine kR.s rfl rfl ?_
                            refine kR.g rfl ?_
                            show kR 1 119 b119_146 _ _ _ _
                            refine kR.ret rfl rfl ?_
                            refine kfin ?_ rfl
                            unfold kplh
                            first | rw [if_pos (by omega), if_pos (by omega)] | rw [if_pos (by omega), if_neg (by omega)] | rw [if_neg (by omega), if_pos (by omega)] | rw [if_neg (by omega), if_neg (by omega)]
                          · skip
                            refine kR.zne (by decide) (by decide) (fun q29 => absurd q29 (by decide)) (fun q29 => ?_)
                            refine kR.s rfl rfl ?_
                            refine kR.bi rfl ?_
                            refine kR.bi rfl ?_
                            refine kR.cb (P := 48 ≤ khr t e k ∧ khr t e k ≤ 57) rfl rfl (kR.up (c_117 (by omega) (by omega) (by omega)) (by decide)) (fun q30 => ?_) (fun q30 => ?_)
                            · skip
                              refine kR.zeq (by decide) (by decide) (fun q31 => absurd q31 (by decide)) (fun q31 => ?_)
                              refine kR.n ?_
                              show kR 1 119 b119_141 _ _ _ _
                              refine kR.s rfl rfl ?_
                              refine kR.g rfl ?_
                              show kR 1 119 b119_146 _ _ _ _
                              refine kR.ret rfl rfl ?_
                              refine kfin ?_ rfl
                              unfold kplh
                              first | rw [if_pos (by omega), if_pos (by omega)] | rw [if_pos (by omega), if_neg (by omega)] | rw [if_neg (by omega), if_pos (by omega)] | rw [if_neg (by omega), if_neg (by omega)]
                            · skip
                              refine kR.zeq (by decide) (by decide) (fun q32 => ?_) (fun q32 => absurd q32 (by decide))
                              show kR 1 119 b119_145 _ _ _ _
                              refine kR.s rfl rfl ?_
                              refine kR.n ?_
                              show kR 1 119 b119_146 _ _ _ _
                              refine kR.ret rfl rfl ?_
                              refine kfin ?_ rfl
                              unfold kplh
                              first | rw [if_pos (by omega), if_pos (by omega)] | rw [if_pos (by omega), if_neg (by omega)] | rw [if_neg (by omega), if_pos (by omega)] | rw [if_neg (by omega), if_neg (by omega)]
                      · skip
                        refine kR.n ?_
                        show kR 1 119 b119_96 _ _ _ _
                        refine kR.s rfl rfl ?_
                        refine kR.g rfl ?_
                        show kR 1 119 b119_101 _ _ _ _
                        refine kR.s rfl rfl ?_
                        refine kR.s rfl rfl ?_
                        refine kR.zne (by decide) (by decide) (fun q33 => ?_) (fun q33 => absurd q33 (by decide))
                        show kR 1 119 b119_141 _ _ _ _
                        refine kR.s rfl rfl ?_
                        refine kR.g rfl ?_
                        show kR 1 119 b119_146 _ _ _ _
                        refine kR.ret rfl rfl ?_
                        refine kfin ?_ rfl
                        unfold kplh
                        first | rw [if_pos (by omega), if_pos (by omega)] | rw [if_pos (by omega), if_neg (by omega)] | rw [if_neg (by omega), if_pos (by omega)] | rw [if_neg (by omega), if_neg (by omega)]
  · skip
    refine kR.s rfl rfl ?_
    refine kR.zle (by omega) (by omega) (fun q34 => ?_) (fun q34 => ?_)
    · skip
      show kR 1 119 b119_34 _ _ _ _
      refine kR.s rfl rfl ?_
      refine kR.n ?_
      show kR 1 119 b119_35 _ _ _ _
      refine kR.ret rfl rfl ?_
      refine kfin ?_ rfl
      unfold kplh
      first | rw [if_pos (by omega), if_pos (by omega)] | rw [if_pos (by omega), if_neg (by omega)] | rw [if_neg (by omega), if_pos (by omega)] | rw [if_neg (by omega), if_neg (by omega)]
    · skip
      refine kR.s rfl rfl ?_
      refine kR.bi rfl ?_
      refine kR.jeq (by omega) (by omega) (by omega) (by omega) (fun q35 => ?_) (fun q35 => ?_)
      · skip
        show kR 1 119 b119_34 _ _ _ _
        refine kR.s rfl rfl ?_
        refine kR.n ?_
        show kR 1 119 b119_35 _ _ _ _
        refine kR.ret rfl rfl ?_
        refine kfin ?_ rfl
        unfold kplh
        first | rw [if_pos (by omega), if_pos (by omega)] | rw [if_pos (by omega), if_neg (by omega)] | rw [if_neg (by omega), if_pos (by omega)] | rw [if_neg (by omega), if_neg (by omega)]
      · skip
        refine kR.s rfl rfl ?_
        refine kR.g rfl ?_
        show kR 1 119 b119_35 _ _ _ _
        refine kR.ret rfl rfl ?_
        refine kfin ?_ rfl
        unfold kplh
        first | rw [if_pos (by omega), if_pos (by omega)] | rw [if_pos (by omega), if_neg (by omega)] | rw [if_neg (by omega), if_pos (by omega)] | rw [if_neg (by omega), if_neg (by omega)]
theorem c_119 {m : Nat} {E : Nat → kC} {S : Nat → Nat → Int} {sz : Nat × Nat} (hm : 53 ≤ m ∧ m ≤ 57) {t : Nat → Int} {n L : Nat} (hX : kTx t n L) (hR : kRt S t n) {e : Nat} (he : S 30 23 = (e : Int)) (hen : e ≤ n) {k : Nat} (hk : k ≤ 900) : kR 1 119 (blk 119 0) (kent 119 [.ref 30, .int (Int32.ofInt ((k : Int)))]) [] (sz, hp m E S) (fun r => r = (.inl (some (.int (Int32.ofInt (kpl t e k)))), (sz, hp m E S))) := by
  rw [← kplh_eq hX hen k]
  exact c_119h hm hX hR he hen hk
theorem c_120 {m : Nat} {E : Nat → kC} {S : Nat → Nat → Int} {sz : Nat × Nat} (hm : 53 ≤ m ∧ m ≤ 57) {t : Nat → Int} {n L : Nat} (hX : kTx t n L) (hR : kRt S t n) {e : Nat} (he : S 30 23 = (e : Int)) (hen : e ≤ n) {k : Nat} (hk : k ≤ 900) {i : Int} (hi : i = 0 ∨ i = 1) : kR 1 120 (blk 120 0) (kent 120 [.ref 30, .int (Int32.ofInt ((k : Int))), .int (Int32.ofInt (i))]) [] (sz, hp m E S) (fun r => r = (.inl (some (.int (Int32.ofInt (kcol t e i k)))), (sz, hp m E S))) := by
  have hx1 := hX.1
  show kR 1 120 b120_0 _ _ _ _
  refine kR.s rfl rfl ?_
  refine kR.s rfl rfl ?_
  refine kR.s rfl rfl ?_
  refine kR.add ?_
  have f1_0 := khr_r hX hen (k + 1)
  refine kR.cv (v := .int (Int32.ofInt (khr t e (k + 1)))) (kargs_m hm (by decide) rfl) rfl (kR.up (c_108t hm hX hR he hen (k := (k + 1)) (by omega)) (by decide)) ?_
  refine kR.s rfl rfl ?_
  refine kR.s rfl rfl ?_
  refine kR.s rfl rfl ?_
  have f2_0 := khr_r hX hen k
  refine kR.cv (v := .int (Int32.ofInt (khr t e k))) (kargs_m hm (by decide) rfl) rfl (kR.up (c_108t hm hX hR he hen (k := k) (by omega)) (by decide)) ?_
  refine kR.bi rfl ?_
  refine kR.jne (by omega) (by omega) (by omega) (by omega) (fun q3 => ?_) (fun q3 => ?_)
  · skip
    show kR 1 120 b120_43 _ _ _ _
    refine kR.s rfl rfl ?_
    refine kR.n ?_
    show kR 1 120 b120_44 _ _ _ _
    refine kR.ret rfl rfl ?_
    refine kfin (by have z := kcol_o t e i k; have y1 := khr_c (t := t) (e := e) (p := k) 58 (by decide) (by decide); have y2 := kgap_h hX hen (k + 1); have y3 := kgap_01 t e (k + 1); have y4 := kbk_h t e (k + 1); have y5 := kbk_01 (kch t e (k + 1)); omega) rfl
  · skip
    refine kR.s rfl rfl ?_
    refine kR.zeq (by omega) (by omega) (fun q4 => ?_) (fun q4 => ?_)
    · skip
      show kR 1 120 b120_39 _ _ _ _
      refine kR.s rfl rfl ?_
      refine kR.g rfl ?_
      show kR 1 120 b120_44 _ _ _ _
      refine kR.ret rfl rfl ?_
      refine kfin (by have z := kcol_o t e i k; have y1 := khr_c (t := t) (e := e) (p := k) 58 (by decide) (by decide); have y2 := kgap_h hX hen (k + 1); have y3 := kgap_01 t e (k + 1); have y4 := kbk_h t e (k + 1); have y5 := kbk_01 (kch t e (k + 1)); omega) rfl
    · skip
      refine kR.s rfl rfl ?_
      refine kR.bi rfl ?_
      refine kR.jeq (by omega) (by omega) (by omega) (by omega) (fun q5 => ?_) (fun q5 => ?_)
      · skip
        show kR 1 120 b120_39 _ _ _ _
        refine kR.s rfl rfl ?_
        refine kR.g rfl ?_
        show kR 1 120 b120_44 _ _ _ _
        refine kR.ret rfl rfl ?_
        refine kfin (by have z := kcol_o t e i k; have y1 := khr_c (t := t) (e := e) (p := k) 58 (by decide) (by decide); have y2 := kgap_h hX hen (k + 1); have y3 := kgap_01 t e (k + 1); have y4 := kbk_h t e (k + 1); have y5 := kbk_01 (kch t e (k + 1)); omega) rfl
      · skip
        refine kR.s rfl rfl ?_
        refine kR.zeq (by omega) (by omega) (fun q6 => ?_) (fun q6 => ?_)
        · skip
          show kR 1 120 b120_43 _ _ _ _
          refine kR.s rfl rfl ?_
          refine kR.n ?_
          show kR 1 120 b120_44 _ _ _ _
          refine kR.ret rfl rfl ?_
          refine kfin (by have z := kcol_o t e i k; have y1 := khr_c (t := t) (e := e) (p := k) 58 (by decide) (by decide); have y2 := kgap_h hX hen (k + 1); have y3 := kgap_01 t e (k + 1); have y4 := kbk_h t e (k + 1); have y5 := kbk_01 (kch t e (k + 1)); omega) rfl
        · skip
          refine kR.s rfl rfl ?_
          have f7_0 := kbk_01 (khr t e (k + 1))
          refine kR.cv (v := .int (Int32.ofInt (kbk (khr t e (k + 1))))) rfl rfl (kR.up (c_118 (c := khr t e (k + 1)) (by omega)) (by decide)) ?_
          refine kR.zeq (by omega) (by omega) (fun q8 => ?_) (fun q8 => ?_)
          · skip
            show kR 1 120 b120_43 _ _ _ _
            refine kR.s rfl rfl ?_
            refine kR.n ?_
            show kR 1 120 b120_44 _ _ _ _
            refine kR.ret rfl rfl ?_
            refine kfin (by have z := kcol_o t e i k; have y1 := khr_c (t := t) (e := e) (p := k) 58 (by decide) (by decide); have y2 := kgap_h hX hen (k + 1); have y3 := kgap_01 t e (k + 1); have y4 := kbk_h t e (k + 1); have y5 := kbk_01 (kch t e (k + 1)); omega) rfl
          · skip
            refine kR.n ?_
            show kR 1 120 b120_39 _ _ _ _
            refine kR.s rfl rfl ?_
            refine kR.g rfl ?_
            show kR 1 120 b120_44 _ _ _ _
            refine kR.ret rfl rfl ?_
            refine kfin (by have z := kcol_o t e i k; have y1 := khr_c (t := t) (e := e) (p := k) 58 (by decide) (by decide); have y2 := kgap_h hX hen (k + 1); have y3 := kgap_01 t e (k + 1); have y4 := kbk_h t e (k + 1); have y5 := kbk_01 (kch t e (k + 1)); omega) rfl
theorem l_121 {m : Nat} {E : Nat → kC} {S : Nat → Nat → Int} {sz : Nat × Nat} (hm : 53 ≤ m ∧ m ≤ 57) {t : Nat → Int} {n L : Nat} (hX : kTx t n L) (hR : kRt S t n) {e : Nat} (he : S 30 23 = (e : Int)) (hen : e ≤ n) {i : Int} (hi : i = 0 ∨ i = 1) {f : Nat} : ∀ (j k : Nat), e - k = j → k ≤ 900 → kR 2 121 (blk 121 2) [.ref 30, .int (Int32.ofInt ((f : Int))), .int (Int32.ofInt (i)), .int (Int32.ofInt ((k : Int)))] [] (sz, hp m E S) (fun r => r = (.inl (some (.int (Int32.ofInt ((kw (fun k => decide (kcol t e i k = 0 ∧ ¬ (i = 1 ∧ kbk (kch t e k) = 1))) e k : Nat) : Int)))), (sz, hp m E S))) := by
  intro j
  induction j using Nat.strongRecOn with
  | _ j ih =>
    intro k hj hk
    have hx1 := hX.1
    have hx3 := hX.2.1 k
    have hx4 : k < e → kch t e k = t k := fun z => kch_in z
    have hx5 := kbk_01 (kch t e k)
    have hx6 : k < e → kbk (kch t e k) = kbk (t k) := fun z => by rw [kch_in z]
    show kR 2 121 b121_2 _ _ _ _
    refine kR.s rfl rfl ?_
    refine kR.s rfl rfl ?_
    refine kR.gi (a := 30) (k := 23) (v := (e : Int)) (by omega) rfl rfl rfl (by decide) (by decide) rfl (by exact he) ?_
    refine kR.jge (by omega) (by omega) (by omega) (by omega) (fun q1 => ?_) (fun q1 => ?_)
    · skip
      show kR 2 121 b121_41 _ _ _ _
      refine kR.s rfl rfl ?_
      refine kR.ret rfl rfl ?_
      rw [kw_no (by first | (left; omega) | (right; exact decide_eq_false (by omega)))]
    · skip
      refine kR.s rfl rfl ?_
      refine kR.s rfl rfl ?_
      refine kR.s rfl rfl ?_
      have f2_0 := kcol_01 t e i k
      refine kR.cv (v := .int (Int32.ofInt (kcol t e i k))) (kargs_m hm (by decide) rfl) rfl (kR.up (c_120 hm hX hR he hen (k := k) (by omega) hi) (by decide)) ?_
      refine kR.zne (by omega) (by omega) (fun q3 => ?_) (fun q3 => ?_)
      · skip
        show kR 2 121 b121_41 _ _ _ _
        refine kR.s rfl rfl ?_
        refine kR.ret rfl rfl ?_
        rw [kw_no (by first | (left; omega) | (right; exact decide_eq_false (by omega)))]
      · skip
        refine kR.s rfl rfl ?_
        refine kR.zeq (by omega) (by omega) (fun q4 => ?_) (fun q4 => ?_)
        · skip
          show kR 2 121 b121_35 _ _ _ _
          refine kR.inc rfl ?_
          refine kR.g rfl ?_
          rw [kw_go (by omega) (decide_eq_true (by omega))]
          exact ih (e - (k + 1)) (by omega) (k + 1) rfl (by omega)
        · skip
          refine kR.s rfl rfl ?_
          refine kR.gr (a := 30) (b := 33) (k := 6) (by omega) rfl rfl rfl (by decide) (by decide) rfl ?_
          refine kR.s rfl rfl ?_
          refine kR.ia (a := 33) (v := t k) (by omega) rfl (by decide) (by omega) (by omega) (by exact (hR.2 _ (by omega))) ?_
          have f5_0 := kbk_01 (t k)
          refine kR.cv (v := .int (Int32.ofInt (kbk (t k)))) rfl rfl (kR.up (c_118 (c := t k) (by omega)) (by decide)) ?_
          refine kR.zne (by omega) (by omega) (fun q6 => ?_) (fun q6 => ?_)
          · skip
            show kR 2 121 b121_41 _ _ _ _
            refine kR.s rfl rfl ?_
            refine kR.ret rfl rfl ?_
            rw [kw_no (by first | (left; omega) | (right; exact decide_eq_false (by omega)))]
          · skip
            refine kR.n ?_
            show kR 2 121 b121_35 _ _ _ _
            refine kR.inc rfl ?_
            refine kR.g rfl ?_
            rw [kw_go (by omega) (decide_eq_true (by omega))]
            exact ih (e - (k + 1)) (by omega) (k + 1) rfl (by omega)
theorem c_121 {m : Nat} {E : Nat → kC} {S : Nat → Nat → Int} {sz : Nat × Nat} (hm : 53 ≤ m ∧ m ≤ 57) {t : Nat → Int} {n L : Nat} (hX : kTx t n L) (hR : kRt S t n) {e : Nat} (he : S 30 23 = (e : Int)) (hen : e ≤ n) {f : Nat} (hf : f ≤ 900) {i : Int} (hi : i = 0 ∨ i = 1) : kR 2 121 (blk 121 0) (kent 121 [.ref 30, .int (Int32.ofInt ((f : Int))), .int (Int32.ofInt (i))]) [] (sz, hp m E S) (fun r => r = (.inl (some (.int (Int32.ofInt ((kst t e i f : Int))))), (sz, hp m E S))) := by
  show kR 2 121 b121_0 _ _ _ _
  refine kR.s rfl rfl ?_
  refine kR.s rfl rfl ?_
  refine kR.n ?_
  exact l_121 hm hX hR he hen hi _ f rfl hf
theorem c_130 {m : Nat} {E : Nat → kC} {S : Nat → Nat → Int} {sz : Nat × Nat} (hm : 53 ≤ m ∧ m ≤ 57) {t : Nat → Int} {n L : Nat} (hX : kTx t n L) (hR : kRt S t n) {e : Nat} (he : S 30 23 = (e : Int)) (hen : e ≤ n) {p : Nat} (hpp : S 30 21 = (p : Int)) (hpn : p ≤ 300) : kR 1 130 (blk 130 0) (kent 130 [.ref 30]) [] (sz, hp m E S) (fun r => r = (.inl (some (.int (Int32.ofInt (kdash t e p)))), (sz, hp m E S))) := by
  have hx1 := hX.1
  show kR 1 130 b130_0 _ _ _ _
  refine kR.s rfl rfl ?_
  refine kR.s rfl rfl ?_
  refine kR.gi (a := 30) (k := 21) (v := (p : Int)) (by omega) rfl rfl rfl (by decide) (by decide) rfl (by exact hpp) ?_
  have f1_0 := khr_r hX hen p
  refine kR.cv (v := .int (Int32.ofInt (khr t e p))) (kargs_m hm (by decide) rfl) rfl (kR.up (c_108t hm hX hR he hen (k := p) (by omega)) (by decide)) ?_
  refine kR.bi rfl ?_
  refine kR.jne (by omega) (by omega) (by omega) (by omega) (fun q2 => ?_) (fun q2 => ?_)
  · skip
    show kR 1 130 b130_45 _ _ _ _
    refine kR.s rfl rfl ?_
    refine kR.n ?_
    show kR 1 130 b130_46 _ _ _ _
    refine kR.ret rfl rfl ?_
    refine kfin (by have z := kdash_o t e p; have y1 := khr_c (t := t) (e := e) (p := p) 45 (by decide) (by decide); have y2 := kgap_h hX hen (p + 1); have y3 := kgap_01 t e (p + 1); omega) rfl
  · skip
    refine kR.s rfl rfl ?_
    refine kR.s rfl rfl ?_
    refine kR.gi (a := 30) (k := 21) (v := (p : Int)) (by omega) rfl rfl rfl (by decide) (by decide) rfl (by exact hpp) ?_
    refine kR.s rfl rfl ?_
    refine kR.add ?_
    have f3_0 := khr_r hX hen (p + 1)
    refine kR.cv (v := .int (Int32.ofInt (khr t e (p + 1)))) (kargs_m hm (by decide) rfl) rfl (kR.up (c_108t hm hX hR he hen (k := (p + 1)) (by omega)) (by decide)) ?_
    refine kR.zeq (by omega) (by omega) (fun q4 => ?_) (fun q4 => ?_)
    · skip
      show kR 1 130 b130_41 _ _ _ _
      refine kR.s rfl rfl ?_
      refine kR.g rfl ?_
      show kR 1 130 b130_46 _ _ _ _
      refine kR.ret rfl rfl ?_
      refine kfin (by have z := kdash_o t e p; have y1 := khr_c (t := t) (e := e) (p := p) 45 (by decide) (by decide); have y2 := kgap_h hX hen (p + 1); have y3 := kgap_01 t e (p + 1); omega) rfl
    · skip
      refine kR.s rfl rfl ?_
      refine kR.s rfl rfl ?_
      refine kR.gi (a := 30) (k := 21) (v := (p : Int)) (by omega) rfl rfl rfl (by decide) (by decide) rfl (by exact hpp) ?_
      refine kR.s rfl rfl ?_
      refine kR.add ?_
      have f5_0 := khr_r hX hen (p + 1)
      refine kR.cv (v := .int (Int32.ofInt (khr t e (p + 1)))) (kargs_m hm (by decide) rfl) rfl (kR.up (c_108t hm hX hR he hen (k := (p + 1)) (by omega)) (by decide)) ?_
      refine kR.bi rfl ?_
      refine kR.jne (by omega) (by omega) (by omega) (by omega) (fun q6 => ?_) (fun q6 => ?_)
      · skip
        show kR 1 130 b130_45 _ _ _ _
        refine kR.s rfl rfl ?_
        refine kR.n ?_
        show kR 1 130 b130_46 _ _ _ _
        refine kR.ret rfl rfl ?_
        refine kfin (by have z := kdash_o t e p; have y1 := khr_c (t := t) (e := e) (p := p) 45 (by decide) (by decide); have y2 := kgap_h hX hen (p + 1); have y3 := kgap_01 t e (p + 1); omega) rfl
      · skip
        refine kR.n ?_
        show kR 1 130 b130_41 _ _ _ _
        refine kR.s rfl rfl ?_
        refine kR.g rfl ?_
        show kR 1 130 b130_46 _ _ _ _
        refine kR.ret rfl rfl ?_
        refine kfin (by have z := kdash_o t e p; have y1 := khr_c (t := t) (e := e) (p := p) 45 (by decide) (by decide); have y2 := kgap_h hX hen (p + 1); have y3 := kgap_01 t e (p + 1); omega) rfl
