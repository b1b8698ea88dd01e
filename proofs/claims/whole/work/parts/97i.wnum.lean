/-! Writing: numbers. -/
theorem kdivl {a b : Int} (h1 : 0 ≤ a) (h2 : a < 9223372036854775808) (h3 : 0 < b) (h4 : b < 9223372036854775808) : Int64.ofInt a / Int64.ofInt b = Int64.ofInt (a / b) := by
  have ha : (Int64.ofInt a).toInt = a := Int64.toInt_ofInt_of_le (by omega) (by omega)
  have hb : (Int64.ofInt b).toInt = b := Int64.toInt_ofInt_of_le (by omega) (by omega)
  have hd : 0 ≤ a / b := Int.ediv_nonneg h1 (by omega)
  have hd2 : a / b ≤ a := Int.ediv_le_self b h1
  apply Int64.toInt_inj.mp
  rw [Int64.toInt_ofInt_of_le (by omega) (by omega), Int64.toInt_div, ha, hb, Int.tdiv_eq_ediv_of_nonneg h1]
  rw [Int.bmod_eq_of_le (by omega) (by omega)]
theorem kdivn {b : Int} (h3 : 0 < b) (h4 : b < 9223372036854775808) : ¬ Int64.ofInt b = 0 := by
  intro h
  have hb : (Int64.ofInt b).toInt = b := Int64.toInt_ofInt_of_le (by omega) (by omega)
  rw [h] at hb
  have : (0 : Int64).toInt = 0 := rfl
  omega
theorem kreml {a b : Int} (h1 : 0 ≤ a) (h2 : a < 9223372036854775808) (h3 : 0 < b) (h4 : b < 9223372036854775808) : Int64.ofInt a - Int64.ofInt a / Int64.ofInt b * Int64.ofInt b = Int64.ofInt (a % b) := by
  rw [kdivl h1 h2 h3 h4, ← Int64.ofInt_mul, ← Int64.ofInt_sub]
  congr 1
  rw [Int.emod_def, Int.mul_comm]
/-- digits from the k-th down -/
def kdr (z : Int) : Nat → List Int
  | 0 => []
  | k + 1 => (z / 10 ^ k % 10 + 48) :: kdr z k
/-- as the class writes them: without zeros in front -/
def kdc (z : Int) : Int → Nat → List Int
  | _, 0 => []
  | b, k + 1 => if b = 1 ∨ 0 < z / 10 ^ k % 10 ∨ k = 0 then (z / 10 ^ k % 10 + 48) :: kdc z 1 k else kdc z 0 k
theorem kdc_1 (z : Int) : ∀ k, kdc z 1 k = kdr z k
  | 0 => rfl
  | k + 1 => by
    unfold kdc kdr
    rw [if_pos (Or.inl rfl), kdc_1 z k]
theorem kpow_pos (k : Nat) : (0 : Int) < 10 ^ k := Int.pow_pos (by decide)
theorem kpow_s (k : Nat) : (10 : Int) ^ (k + 1) = 10 * 10 ^ k := by
  rw [Int.pow_succ, Int.mul_comm]
theorem kpow_mono {a b : Nat} (h : a ≤ b) : (10 : Int) ^ a ≤ 10 ^ b := by
  induction b with
  | zero => rw [show a = 0 by omega]; exact Int.le_refl _
  | succ b ih =>
    rcases Nat.lt_or_ge a (b + 1) with g | g
    · have := ih (by omega)
      have := kpow_s b
      have := kpow_pos b
      omega
    · rw [show a = b + 1 by omega]
      exact Int.le_refl _
theorem kdc_0 {z : Int} (hz : 0 ≤ z) {m : Nat} (h1 : z / 10 ^ m ≤ 9) (h2 : m = 0 ∨ 1 ≤ z / 10 ^ m) : ∀ k, m ≤ k → kdc z 0 (k + 1) = kdr z (m + 1)
  | 0, hk => by
    have : m = 0 := by omega
    subst this
    unfold kdc kdr
    rw [if_pos (Or.inr (Or.inr rfl)), kdc_1]
  | k + 1, hk => by
    rcases Nat.lt_or_ge m (k + 1) with g | g
    · have h3 : z < 10 ^ (k + 1) := by
        have e := Int.lt_ediv_add_one_mul_self z (kpow_pos m)
        have p := kpow_pos m
        have q := kpow_mono (a := m + 1) (b := k + 1) (by omega)
        have r := kpow_s m
        have s : (z / 10 ^ m + 1) * 10 ^ m ≤ 10 * 10 ^ m := Int.mul_le_mul_of_nonneg_right (by omega) (by omega)
        omega
      have h4 : z / 10 ^ (k + 1) = 0 := Int.ediv_eq_zero_of_lt hz h3
      have e0 := kdc_0 hz h1 h2 k (by omega)
      unfold kdc
      rw [h4, if_neg (fun q => by simp at q), e0]
    · have e : m = k + 1 := by omega
      subst e
      have h5 : 1 ≤ z / 10 ^ (k + 1) := by omega
      unfold kdc kdr
      rw [if_pos (Or.inr (Or.inl (by omega))), kdc_1]
def kpw : Nat → Int
  | 0 => 0
  | k + 1 => 10 ^ k
theorem kpw_div (k : Nat) : (10 : Int) ^ k / 10 = kpw k := by
  match k with
  | 0 => rfl
  | k + 1 =>
    rw [kpow_s]
    exact Int.mul_ediv_cancel_left _ (by decide)
theorem kdr_len (z : Int) : ∀ k, (kdr z k).length = k
  | 0 => rfl
  | k + 1 => by
    show (kdr z k).length + 1 = k + 1
    rw [kdr_len z k]
theorem kpow_18 {k : Nat} (h : k ≤ 18) : (10 : Int) ^ k ≤ 1000000000000000000 := kpow_mono (b := 18) h
section KWN
variable {D y pc x : Nat} {cs : List kI} {ls st : List Value} {h : kH} {r : kO × kH → Prop}
theorem kR.ldv {a b : Int} (h1 : 0 ≤ a) (h2 : a < 9223372036854775808) (h3 : 0 < b) (h4 : b < 9223372036854775808) (k : kR D y cs ls (.long (Int64.ofInt (a / b)) :: st) h r) : kR D y ((pc, x, .ldiv) :: cs) ls (.long (Int64.ofInt b) :: .long (Int64.ofInt a) :: st) h r := by
  refine kR.s (ls1 := ls) (st1 := .long (Int64.ofInt (a / b)) :: st) (h1 := h) ?_ rfl k
  show k_st ls h (if Int64.ofInt b = 0 then none else some (Value.long (Int64.ofInt a / Int64.ofInt b) :: st)) = _
  rw [if_neg (kdivn h3 h4), kdivl h1 h2 h3 h4]
  rfl
theorem kR.lrm {a b : Int} (h1 : 0 ≤ a) (h2 : a < 9223372036854775808) (h3 : 0 < b) (h4 : b < 9223372036854775808) (k : kR D y cs ls (.long (Int64.ofInt (a % b)) :: st) h r) : kR D y ((pc, x, .lrem) :: cs) ls (.long (Int64.ofInt b) :: .long (Int64.ofInt a) :: st) h r := by
  refine kR.s (ls1 := ls) (st1 := .long (Int64.ofInt (a % b)) :: st) (h1 := h) ?_ rfl k
  show k_st ls h (if Int64.ofInt b = 0 then none else some (Value.long (Int64.ofInt a - Int64.ofInt a / Int64.ofInt b * Int64.ofInt b) :: st)) = _
  rw [if_neg (kdivn h3 h4), kreml h1 h2 h3 h4]
  rfl
end KWN
section KWM
variable {E : Nat → kC} {S : Nat → Nat → Int} {sz : Nat × Nat}
theorem l_30 {z : Int} (hz : 0 ≤ z ∧ z ≤ 999999999999999999) {v1 v2 : Value} : ∀ (k : Nat) (b : Int) (w : Nat) (S : Nat → Nat → Int) (v8 v9 : Value), k ≤ 18 → (b = 0 ∨ b = 1) → S 7 1 = (w : Int) → w + k ≤ 2000 → kR 1 30 (blk 30 25) [.ref 7, v1, v2, .long (Int64.ofInt z), kun, .int (Int32.ofInt b), .long (Int64.ofInt (kpw k)), kun, v8, v9] [] (sz, hp 53 E S) (fun r => r = (.inl none, (sz, hp 53 E (kpts (kdc z b k) w S)))) := by
  intro k
  induction k with
  | zero =>
    intro b w S v8 v9 hk hb hw hl
    show kR 1 30 b30_25 _ _ _ _
    refine kR.s rfl rfl ?_
    refine kR.lcn (c := 0) rfl ?_
    refine kR.lle (by decide) (by decide) (by decide) (by decide) (fun _ => ?_) (fun q => absurd q (by decide))
    show kR 1 30 b30_96 _ _ _ _
    refine kR.ret rfl rfl ?_
    rfl
  | succ k ih =>
    intro b w S v8 v9 hk hb hw hl
    have p0 := kpow_pos k
    have p1 := kpow_18 (k := k) (by omega)
    have d0 : 0 ≤ z / 10 ^ k := Int.ediv_nonneg hz.1 (by omega)
    have d1 : z / 10 ^ k ≤ z := Int.ediv_le_self _ hz.1
    obtain ⟨p, hp0⟩ : ∃ p : Int, p = 10 ^ k := ⟨_, rfl⟩
    have hkw : kpw (k + 1) = p := hp0.symm
    have hpd : p / 10 = kpw k := by rw [hp0]; exact kpw_div k
    have hkd : kdc z b (k + 1) = if b = 1 ∨ 0 < z / p % 10 ∨ k = 0 then (z / p % 10 + 48) :: kdc z 1 k else kdc z 0 k := by rw [hp0]; rfl
    have hk0 : k = 0 ↔ p = 1 := by
      rw [hp0]
      constructor
      · intro h
        rw [h]
        rfl
      · intro h
        rcases Nat.eq_zero_or_pos k with g | g
        · exact g
        · have q := kpow_mono (a := 1) (b := k) g
          have e : (10 : Int) ^ 1 = 10 := rfl
          omega
    rw [← hp0] at p0 p1 d0 d1
    rw [hkw]
    obtain ⟨d, hd⟩ : ∃ d : Int, d = z / p % 10 := ⟨_, rfl⟩
    have hdr : 0 ≤ d ∧ d < 10 := by omega
    rw [← hd] at hkd
    have h85 : ∀ (b' : Int) (ys : List Int), (b' = 0 ∨ b' = 1) → ys.length ≤ 1 → kdc z b (k + 1) = ys ++ kdc z b' k → kR 1 30 (blk 30 85) [.ref 7, v1, v2, .long (Int64.ofInt z), kun, .int (Int32.ofInt b'), .long (Int64.ofInt p), kun, .long (Int64.ofInt d), kun] [] (sz, hp 53 E (kpts ys w S)) (fun r => r = (.inl none, (sz, hp 53 E (kpts (kdc z b (k + 1)) w S)))) := fun b' ys hb' hy he => by
      show kR 1 30 b30_85 _ _ _ _
      refine kR.s rfl rfl ?_
      refine kR.ldl (c := 10) rfl ?_
      refine kR.ldv (by omega) (by omega) (by decide) (by decide) ?_
      refine kR.s rfl rfl ?_
      refine kR.g rfl ?_
      rw [hpd, he, kpts_app]
      exact ih b' (w + ys.length) (kpts ys w S) _ _ (by omega) hb' (kpts_at ys w S hw).2.1 (by omega)
    have h66 : ∀ b' : Int, (b' = 1 ∧ (b = 1 ∨ 0 < d ∨ k = 0)) ∨ (b' = 0 ∧ ¬ (b = 1 ∨ 0 < d ∨ k = 0)) → kR 1 30 (blk 30 66) [.ref 7, v1, v2, .long (Int64.ofInt z), kun, .int (Int32.ofInt b), .long (Int64.ofInt p), kun, .long (Int64.ofInt d), kun] [.int (Int32.ofInt b')] (sz, hp 53 E S) (fun r => r = (.inl none, (sz, hp 53 E (kpts (kdc z b (k + 1)) w S)))) := fun b' hb' => by
      show kR 1 30 b30_66 _ _ _ _
      refine kR.s rfl rfl ?_
      refine kR.s rfl rfl ?_
      rcases hb' with ⟨e1, e2⟩ | ⟨e1, e2⟩
      · subst e1
        refine kR.zeq (by decide) (by decide) (fun q => absurd q (by decide)) (fun _ => ?_)
        refine kR.s rfl rfl ?_
        refine kR.ldl (c := 48) rfl ?_
        refine kR.s rfl rfl ?_
        refine kR.ladd ?_
        refine kR.l2i ?_
        refine kR.chr (by omega) (by omega) ?_
        refine kR.c0 rfl rfl (c_32 (S := S) (x := 48 + d) hw (by omega) (by omega)) ?_
        refine kR.n ?_
        refine h85 1 [48 + d] (Or.inr rfl) (Nat.le_of_ble_eq_true rfl) ?_
        rw [hkd, if_pos e2, Int.add_comm]
        rfl
      · subst e1
        refine kR.zeq (by decide) (by decide) (fun _ => ?_) (fun q => absurd rfl q)
        refine h85 0 [] (Or.inl rfl) (by decide) ?_
        rw [hkd, if_neg e2]
        rfl
    have h61 : (b = 1 ∨ 0 < d ∨ k = 0) → kR 1 30 (blk 30 61) [.ref 7, v1, v2, .long (Int64.ofInt z), kun, .int (Int32.ofInt b), .long (Int64.ofInt p), kun, .long (Int64.ofInt d), kun] [] (sz, hp 53 E S) (fun r => r = (.inl none, (sz, hp 53 E (kpts (kdc z b (k + 1)) w S)))) := fun hc => by
      show kR 1 30 b30_61 _ _ _ _
      refine kR.s rfl rfl ?_
      refine kR.g rfl ?_
      exact h66 1 (Or.inl ⟨rfl, hc⟩)
    show kR 1 30 b30_25 _ _ _ _
    refine kR.s rfl rfl ?_
    refine kR.lcn (c := 0) rfl ?_
    refine kR.lle (by omega) (by omega) (by decide) (by decide) (fun q => absurd q (by omega)) (fun _ => ?_)
    refine kR.s rfl rfl ?_
    refine kR.s rfl rfl ?_
    refine kR.ldv (by omega) (by omega) (by omega) (by omega) ?_
    refine kR.ldl (c := 10) rfl ?_
    refine kR.lrm (by omega) (by omega) (by decide) (by decide) ?_
    rw [← hd]
    refine kR.s rfl rfl ?_
    refine kR.s rfl rfl ?_
    refine kR.zne (by omega) (by omega) (fun q => h61 (Or.inl (by omega))) (fun q => ?_)
    refine kR.s rfl rfl ?_
    refine kR.lcn (c := 0) rfl ?_
    refine kR.lgt (by omega) (by omega) (by decide) (by decide) (fun q1 => h61 (Or.inr (Or.inl q1))) (fun q1 => ?_)
    refine kR.s rfl rfl ?_
    refine kR.lcn (c := 1) rfl ?_
    refine kR.lne (by omega) (by omega) (by decide) (by decide) (fun q2 => ?_) (fun q2 => ?_)
    · show kR 1 30 b30_65 _ _ _ _
      refine kR.s rfl rfl ?_
      refine kR.n ?_
      exact h66 0 (Or.inr ⟨rfl, fun z => by
        rcases z with z | z | z
        · omega
        · omega
        · exact q2 (hk0.mp z)⟩)
    · refine kR.n ?_
      exact h61 (Or.inr (Or.inr (hk0.mpr q2)))
theorem l_157b {z : Int} (hz : 0 ≤ z ∧ z ≤ 999999999999999999) {v1 v2 : Value} : ∀ (k w : Nat) (S : Nat → Nat → Int), k ≤ 18 → S 30 37 = (w : Int) → w + k ≤ 3000 → kR 1 157 (blk 157 42) [.ref 30, v1, v2, .long (Int64.ofInt z), kun, .long (Int64.ofInt (kpw k)), kun] [] (sz, hp 53 E S) (fun r => r = (.inl none, (sz, hp 53 E (ksas (kdr z k) w S)))) := by
  intro k
  induction k with
  | zero =>
    intro w S hk hw hl
    show kR 1 157 b157_42 _ _ _ _
    refine kR.s rfl rfl ?_
    refine kR.lcn (c := 0) rfl ?_
    refine kR.lle (by decide) (by decide) (by decide) (by decide) (fun _ => ?_) (fun q => absurd q (by decide))
    show kR 1 157 b157_76 _ _ _ _
    refine kR.ret rfl rfl ?_
    rfl
  | succ k ih =>
    intro w S hk hw hl
    have p0 := kpow_pos k
    have p1 := kpow_18 (k := k) (by omega)
    have d0 : 0 ≤ z / 10 ^ k := Int.ediv_nonneg hz.1 (by omega)
    have d1 : z / 10 ^ k ≤ z := Int.ediv_le_self _ hz.1
    obtain ⟨p, hp0⟩ : ∃ p : Int, p = 10 ^ k := ⟨_, rfl⟩
    have hkw : kpw (k + 1) = p := hp0.symm
    have hpd : p / 10 = kpw k := by rw [hp0]; exact kpw_div k
    have hkd : kdr z (k + 1) = (z / p % 10 + 48) :: kdr z k := by rw [hp0]; rfl
    rw [← hp0] at p0 p1 d0 d1
    rw [hkw]
    show kR 1 157 b157_42 _ _ _ _
    refine kR.s rfl rfl ?_
    refine kR.lcn (c := 0) rfl ?_
    refine kR.lle (by omega) (by omega) (by decide) (by decide) (fun q => absurd q (by omega)) (fun _ => ?_)
    refine kR.s rfl rfl ?_
    refine kR.s rfl rfl ?_
    refine kR.s rfl rfl ?_
    refine kR.ldv (by omega) (by omega) (by omega) (by omega) ?_
    refine kR.ldl (c := 10) rfl ?_
    refine kR.lrm (by omega) (by omega) (by decide) (by decide) ?_
    refine kR.l2i ?_
    refine kR.bi rfl ?_
    refine kR.add ?_
    refine kR.c0 rfl rfl (c_155 (S := S) (x := z / p % 10 + 48) hw (by omega)) ?_
    refine kR.s rfl rfl ?_
    refine kR.ldl (c := 10) rfl ?_
    refine kR.ldv (by omega) (by omega) (by decide) (by decide) ?_
    refine kR.s rfl rfl ?_
    refine kR.g rfl ?_
    rw [hpd, hkd]
    exact ih (w + 1) (ksa S w (z / p % 10 + 48)) (by omega) rfl (by omega)
theorem l_157a {z : Int} (hz : 0 ≤ z ∧ z ≤ 999999999999999999) {v1 v2 : Value} {Q : kO × kH → Prop} : ∀ (j m : Nat), 17 - m = j → m ≤ 17 → (m = 0 ∨ 1 ≤ z / 10 ^ m) → (∀ M : Nat, M ≤ 17 → z / 10 ^ M ≤ 9 → (M = 0 ∨ 1 ≤ z / 10 ^ M) → kR 1 157 (blk 157 42) [.ref 30, v1, v2, .long (Int64.ofInt z), kun, .long (Int64.ofInt (10 ^ M)), kun] [] (sz, hp 53 E S) Q) → kR 1 157 (blk 157 20) [.ref 30, v1, v2, .long (Int64.ofInt z), kun, .long (Int64.ofInt (10 ^ m)), kun] [] (sz, hp 53 E S) Q := by
  intro j
  induction j with
  | zero =>
    intro m hj hm h1 h
    have e : m = 17 := by omega
    have p1 : (10 : Int) ^ m = 100000000000000000 := by rw [e]; rfl
    have hle : z / 10 ^ m ≤ 9 := by
      rw [p1]
      omega
    show kR 1 157 b157_20 _ _ _ _
    refine kR.s rfl rfl ?_
    refine kR.s rfl rfl ?_
    have p0 := kpow_pos m
    have d0 : 0 ≤ z / 10 ^ m := Int.ediv_nonneg hz.1 (by omega)
    refine kR.ldv (by omega) (by omega) (by omega) (by omega) ?_
    refine kR.ldl (c := 9) rfl ?_
    refine kR.lle (by omega) (by omega) (by decide) (by decide) (fun _ => ?_) (fun q => absurd q (by omega))
    exact h m hm hle h1
  | succ j ih =>
    intro m hj hm h1 h
    have p0 := kpow_pos m
    have p1 := kpow_18 (k := m) (by omega)
    have d0 : 0 ≤ z / 10 ^ m := Int.ediv_nonneg hz.1 (by omega)
    have d1 : z / 10 ^ m ≤ z := Int.ediv_le_self _ hz.1
    show kR 1 157 b157_20 _ _ _ _
    refine kR.s rfl rfl ?_
    refine kR.s rfl rfl ?_
    refine kR.ldv (by omega) (by omega) (by omega) (by omega) ?_
    refine kR.ldl (c := 9) rfl ?_
    refine kR.lle (by omega) (by omega) (by decide) (by decide) (fun q => ?_) (fun q => ?_)
    · exact h m hm q h1
    · refine kR.ldl (c := 10) rfl ?_
      refine kR.s rfl rfl ?_
      refine kR.lmul ?_
      refine kR.s rfl rfl ?_
      refine kR.g rfl ?_
      rw [← kpow_s]
      refine ih (m + 1) (by omega) (by omega) (Or.inr ?_) h
      rw [kpow_s, Int.mul_comm, ← Int.ediv_ediv_of_nonneg (by omega)]
      omega
/-- a number as both write it -/
theorem num_both {z : Int} (hz : 0 ≤ z ∧ z ≤ 999999999999999999) {v1 v2 v1' v2' v8 v9 : Value} {S2 : Nat → Nat → Int} {w w2 : Nat} (hw : S 7 1 = (w : Int)) (hwl : w + 18 ≤ 2000) (hw2 : S2 30 37 = (w2 : Int)) (hwl2 : w2 + 18 ≤ 3000) : ∃ xs : List Int, xs.length ≤ 18 ∧ kR 1 30 (blk 30 25) [.ref 7, v1, v2, .long (Int64.ofInt z), kun, .int (Int32.ofInt 0), .long (Int64.ofInt 100000000000000000), kun, v8, v9] [] (sz, hp 53 E S) (fun r => r = (.inl none, (sz, hp 53 E (kpts xs w S)))) ∧ kR 1 157 (blk 157 20) [.ref 30, v1', v2', .long (Int64.ofInt z), kun, .long (Int64.ofInt 1), kun] [] (sz, hp 53 E S2) (fun r => r = (.inl none, (sz, hp 53 E (ksas xs w2 S2)))) := by
  have key : ∃ M : Nat, M ≤ 17 ∧ z / 10 ^ M ≤ 9 ∧ (M = 0 ∨ 1 ≤ z / 10 ^ M) := by
    have h17 : z / 10 ^ 17 ≤ 9 := by
      rw [show (10 : Int) ^ 17 = 100000000000000000 from rfl]
      omega
    have go : ∀ j : Nat, j ≤ 17 → z / 10 ^ j ≤ 9 → ∃ M : Nat, M ≤ 17 ∧ z / 10 ^ M ≤ 9 ∧ (M = 0 ∨ 1 ≤ z / 10 ^ M) := by
      intro j
      induction j with
      | zero => exact fun h1 h2 => ⟨0, by omega, h2, Or.inl rfl⟩
      | succ j ih =>
        intro h1 h2
        rcases Int.lt_or_le (z / 10 ^ (j + 1)) 1 with g | g
        · refine ih (by omega) ?_
          rw [kpow_s, Int.mul_comm, ← Int.ediv_ediv_of_nonneg (by have := kpow_pos j; omega)] at g
          omega
        · exact ⟨j + 1, h1, h2, Or.inr g⟩
    exact go 17 (by omega) h17
  obtain ⟨M, m1, m2, m3⟩ := key
  have e := kdc_0 hz.1 m2 m3 17 (by omega)
  refine ⟨kdr z (M + 1), by rw [kdr_len]; omega, ?_, ?_⟩
  · have z1 := l_30 (sz := sz) (E := E) (v1 := v1) (v2 := v2) hz 18 0 w S v8 v9 (by omega) (Or.inl rfl) hw hwl
    rw [e] at z1
    exact z1
  · refine l_157a hz 17 0 rfl (by omega) (Or.inl rfl) (fun M' n1 n2 n3 => ?_)
    have e2 := kdc_0 hz.1 n2 n3 17 (by omega)
    have z1 := l_157b (sz := sz) (E := E) (v1 := v1') (v2 := v2') hz (M' + 1) w2 S2 (by omega) hw2 (by omega)
    rw [← e, e2]
    exact z1
end KWM
