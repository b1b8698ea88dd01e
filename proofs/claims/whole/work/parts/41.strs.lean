/-! Strings: they lie outside. -/
theorem hp_out {m : Nat} {E : Nat → kC} {S : Nat → Nat → Int} {a : Nat} (hm : m ≤ 57) (ha : 1000000 ≤ a) : hp m E S a = E a := by
  unfold hp
  rw [if_neg (by omega), if_pos ha]
/-- a String with these characters lies there -/
def kStr (E : Nat → kC) (a : Nat) (w : List Int) : Prop := 1000000 ≤ a ∧ E a = (51, 2, fun j => if j = 0 then .ref (a + 1) else .int 0) ∧ (∃ f, E (a + 1) = (52, w.length, f) ∧ ∀ j, j < w.length → f j = .int (Int32.ofInt (w.getD j 0))) ∧ w.length ≤ 20 ∧ ∀ j, j < w.length → 0 ≤ w.getD j 0 ∧ w.getD j 0 < 128
theorem kargs_r {x a : Nat} {st as st1 : List Value} {h : kH} (e1 : (kme x).2.2.2.1 ≤ st.length ∧ (st.drop (kme x).2.2.2.1).length ≤ 10 ∧ (ksp (st.take (kme x).2.2.2.1).reverse).length ≤ (kme x).2.2.2.2.1 ∧ (st.take (kme x).2.2.2.1).all kok = true) (e2 : ¬ (kme x).2.1 = 1) (e3 : (st.take (kme x).2.2.2.1).reverse = .ref a :: as) (e4 : (h.2 a).1 = (kme x).2.2.1) (e5 : st.drop (kme x).2.2.2.1 = st1) : kargs x st h = some (.ref a :: as, st1) := by
  unfold kargs
  rw [if_pos e1, if_neg e2, e3]
  show (if (h.2 a).1 = (kme x).2.2.1 then _ else none) = _
  rw [if_pos e4, e5]
section KSR
variable {D y pc x m a : Nat} {cs : List kI} {ls st : List Value} {E : Nat → kC} {S : Nat → Nat → Int} {sz : Nat × Nat} {r : kO × kH → Prop} {w : List Int}
theorem kR.sv {i : Nat} (hm : m ≤ 57) (hs : kStr E a w) (k : kR D y cs ls (.ref (a + 1) :: st) (sz, hp m E S) r) : kR D y ((pc, 35100, .getfield i) :: cs) ls (.ref a :: st) (sz, hp m E S) r := by
  refine kR.s (ls1 := ls) (st1 := .ref (a + 1) :: st) (h1 := (sz, hp m E S)) ?_ rfl k
  have e : hp m E S a = _ := (hp_out hm hs.1).trans hs.2.1
  simp [ksimple, ko_get, kget, e, k_st]
theorem kR.sc {i : Nat} (hm : m ≤ 57) (hs : kStr E a w) (k : kR D y cs ls (.int (Int32.ofInt 0) :: st) (sz, hp m E S) r) : kR D y ((pc, 5101, .getfield i) :: cs) ls (.ref a :: st) (sz, hp m E S) r := by
  refine kR.s (ls1 := ls) (st1 := .int (Int32.ofInt 0) :: st) (h1 := (sz, hp m E S)) ?_ rfl k
  have e : hp m E S a = _ := (hp_out hm hs.1).trans hs.2.1
  simp [ksimple, ko_get, kget, e, k_st]
theorem kR.sl (hm : m ≤ 57) (hs : kStr E a w) (k : kR D y cs ls (.int (Int32.ofInt (w.length : Int)) :: st) (sz, hp m E S) r) : kR D y ((pc, x, .arraylength) :: cs) ls (.ref (a + 1) :: st) (sz, hp m E S) r := by
  refine kR.s (ls1 := ls) (st1 := .int (Int32.ofInt (w.length : Int)) :: st) (h1 := (sz, hp m E S)) ?_ rfl k
  obtain ⟨f, hf, hg⟩ := hs.2.2.1
  have e : hp m E S (a + 1) = _ := (hp_out hm (by have := hs.1; omega)).trans hf
  simp [ksimple, ko_len, e, k_st, kofn]
theorem kR.sb {j : Nat} (hm : m ≤ 57) (hs : kStr E a w) (hj : j < w.length) (k : kR D y cs ls (.int (Int32.ofInt (w.getD j 0)) :: st) (sz, hp m E S) r) : kR D y ((pc, x, .baload) :: cs) ls (.int (Int32.ofInt (j : Int)) :: .ref (a + 1) :: st) (sz, hp m E S) r := by
  refine kR.s (ls1 := ls) (st1 := .int (Int32.ofInt (w.getD j 0)) :: st) (h1 := (sz, hp m E S)) ?_ rfl k
  obtain ⟨f, hf, hg⟩ := hs.2.2.1
  have hl := hs.2.2.2.1
  have e : hp m E S (a + 1) = _ := (hp_out hm (by have := hs.1; omega)).trans hf
  have e1 : kin (Int32.ofInt (j : Int)) w.length = true := kin_of (by omega) (by omega) (by omega)
  have e2 : (Int32.ofInt (j : Int)).toNatClampNeg = j := by rw [ku_nat (by omega) (by omega)]; rfl
  have e3 := hg j hj
  simp only [ksimple, ko_ald, e, e1, e2, e3, k_st, or_self, and_self, if_true]
end KSR
theorem kand255 {c : Int} (h1 : 0 ≤ c) (h2 : c < 128) : Int32.ofInt c &&& Int32.ofInt 255 = Int32.ofInt c := by
  obtain ⟨n, rfl⟩ : ∃ n : Nat, c = n := ⟨c.toNat, by omega⟩
  apply Int32.toBitVec_inj.mp
  apply BitVec.eq_of_toNat_eq
  simp
  rw [show (255 : Nat) = 2 ^ 8 - 1 from rfl, Nat.and_two_pow_sub_one_eq_mod]
  omega
theorem ki2b {c : Int} (h1 : 0 ≤ c) (h2 : c < 128) : (Int32.ofInt c).toInt8.toInt32 = Int32.ofInt c := by
  apply Int32.toInt_inj.mp
  rw [Int8.toInt_toInt32, ku_rng (by omega) (by omega)]
  have e : (Int32.ofInt c).toInt8 = Int8.ofInt c := by simp
  rw [e]
  exact Int8.toInt_ofInt_of_le (by omega) (by omega)
section KSC
variable {m a : Nat} {E : Nat → kC} {S : Nat → Nat → Int} {sz : Nat × Nat} {w : List Int}
theorem c_173 (hm : m ≤ 57) (hs : kStr E a w) : kR 0 173 (blk 173 0) (kent 173 [.ref a]) [] (sz, hp m E S) (fun r => r = (.inl (some (.int (Int32.ofInt 0))), (sz, hp m E S))) := by
  show kR 0 173 b173_0 _ _ _ _
  refine kR.s rfl rfl ?_
  refine kR.j (q := false) (st1 := []) rfl rfl (fun z => absurd z (by decide)) (fun _ => ?_)
  refine kR.s rfl rfl ?_
  refine kR.sc hm hs ?_
  refine kR.g rfl ?_
  show kR 0 173 b173_14 _ _ _ _
  exact kR.ret rfl rfl rfl
theorem c_174 (hm : m ≤ 57) (hs : kStr E a w) : kR 0 174 (blk 174 0) (kent 174 [.ref a]) [] (sz, hp m E S) (fun r => r = (.inl (some (.int (Int32.ofInt 1))), (sz, hp m E S))) := by
  show kR 0 174 b174_0 _ _ _ _
  refine kR.s rfl rfl ?_
  refine kR.j (q := false) (st1 := []) rfl rfl (fun z => absurd z (by decide)) (fun _ => ?_)
  refine kR.s rfl rfl ?_
  refine kR.sc hm hs ?_
  refine kR.zne (by decide) (by decide) (fun z => absurd rfl z) (fun _ => ?_)
  refine kR.s rfl rfl ?_
  refine kR.g rfl ?_
  show kR 0 174 b174_18 _ _ _ _
  exact kR.ret rfl rfl rfl
theorem kargs_S {x : Nat} {st as st1 : List Value} (hm : m ≤ 57) (hs : kStr E a w) (e1 : (kme x).2.2.2.1 ≤ st.length ∧ (st.drop (kme x).2.2.2.1).length ≤ 10 ∧ (ksp (st.take (kme x).2.2.2.1).reverse).length ≤ (kme x).2.2.2.2.1 ∧ (st.take (kme x).2.2.2.1).all kok = true) (e2 : (kme x).2.1 = 0 ∧ (kme x).2.2.1 = 51) (e3 : (st.take (kme x).2.2.2.1).reverse = .ref a :: as) (e5 : st.drop (kme x).2.2.2.1 = st1) : kargs x st (sz, hp m E S) = some (.ref a :: as, st1) := by
  refine kargs_r e1 (by omega) e3 ?_ e5
  show (hp m E S a).1 = _
  rw [hp_out hm hs.1, hs.2.1, e2.2]
theorem c_169 (hm : m ≤ 57) (hs : kStr E a w) : kR 1 169 (blk 169 0) (kent 169 [.ref a]) [] (sz, hp m E S) (fun r => r = (.inl (some (.int (Int32.ofInt (w.length : Int)))), (sz, hp m E S))) := by
  show kR 1 169 b169_0 _ _ _ _
  refine kR.s rfl rfl ?_
  refine kR.sv hm hs ?_
  refine kR.sl hm hs ?_
  refine kR.s rfl rfl ?_
  refine kR.cv (kargs_S hm hs ⟨Nat.le_of_ble_eq_true rfl, Nat.le_of_ble_eq_true rfl, Nat.le_of_ble_eq_true rfl, rfl⟩ (by decide) rfl rfl) rfl (c_173 hm hs) ?_
  refine kR.s (ls1 := [.ref a]) (st1 := [.int (Int32.ofInt (w.length : Int))]) (h1 := (sz, hp m E S)) ?_ rfl ?_
  · show some ([Value.ref a], [Value.int (Int32.ofInt (w.length : Int) >>> (Int32.ofInt 0 &&& 31))], (sz, hp m E S)) = _
    simp
  · exact kR.ret rfl rfl rfl
theorem c_175 {h : kH} {i n : Int} (hi : 0 ≤ i) (hn : i < n) (hb : n < 1000) : kR 1 175 (blk 175 0) (kent 175 [.int (Int32.ofInt i), .int (Int32.ofInt n)]) [] h (fun r => r = (.inl none, h)) := by
  have c_181 : kR 0 181 (blk 181 0) (kent 181 [.int (Int32.ofInt i), .int (Int32.ofInt n), .ref 1999999]) [] h (fun r => r = (.inl (some (.int (Int32.ofInt i))), h)) := by
    show kR 0 181 b181_0 _ _ _ _
    refine kR.s rfl rfl ?_
    refine kR.zlt (by omega) (by omega) (fun z => absurd z (by omega)) (fun _ => ?_)
    refine kR.s rfl rfl ?_
    refine kR.s rfl rfl ?_
    refine kR.jlt (by omega) (by omega) (by omega) (by omega) (fun _ => ?_) (fun z => absurd z (by omega))
    show kR 0 181 b181_16 _ _ _ _
    refine kR.s rfl rfl ?_
    exact kR.ret rfl rfl rfl
  show kR 1 175 b175_0 _ _ _ _
  refine kR.s rfl rfl ?_
  refine kR.s rfl rfl ?_
  refine kR.s rfl rfl ?_
  refine kR.cv rfl rfl c_181 ?_
  refine kR.s rfl rfl ?_
  exact kR.ret rfl rfl rfl
theorem c_176 {j : Nat} (hm : m ≤ 57) (hs : kStr E a w) (hj : j < w.length) : kR 2 176 (blk 176 0) (kent 176 [.ref (a + 1), .int (Int32.ofInt (j : Int))]) [] (sz, hp m E S) (fun r => r = (.inl (some (.int (Int32.ofInt (w.getD j 0)))), (sz, hp m E S))) := by
  have hl := hs.2.2.2.1
  have hc := hs.2.2.2.2 j hj
  show kR 2 176 b176_0 _ _ _ _
  refine kR.s rfl rfl ?_
  refine kR.s rfl rfl ?_
  refine kR.sl hm hs ?_
  refine kR.c0 rfl rfl (c_175 (by omega) (by omega) (by omega)) ?_
  refine kR.s rfl rfl ?_
  refine kR.s rfl rfl ?_
  refine kR.sb hm hs hj ?_
  refine kR.si rfl ?_
  refine kR.s rfl rfl ?_
  show kR 2 176 _ _ [Value.int (Int32.ofInt (w.getD j 0) &&& Int32.ofInt 255)] _ _
  rw [kand255 hc.1 hc.2]
  refine kR.chr (by omega) (by omega) ?_
  exact kR.retc rfl (by omega) (by omega) rfl
theorem c_170 {j : Nat} (hm : m ≤ 57) (hs : kStr E a w) (hj : j < w.length) : kR 3 170 (blk 170 0) (kent 170 [.ref a, .int (Int32.ofInt (j : Int))]) [] (sz, hp m E S) (fun r => r = (.inl (some (.int (Int32.ofInt (w.getD j 0)))), (sz, hp m E S))) := by
  have hc := hs.2.2.2.2 j hj
  show kR 3 170 b170_0 _ _ _ _
  refine kR.s rfl rfl ?_
  refine kR.cv (kargs_S hm hs ⟨Nat.le_of_ble_eq_true rfl, Nat.le_of_ble_eq_true rfl, Nat.le_of_ble_eq_true rfl, rfl⟩ (by decide) rfl rfl) rfl (kR.up (c_174 hm hs) (by decide)) ?_
  refine kR.zeq (by decide) (by decide) (fun z => absurd z (by decide)) (fun _ => ?_)
  refine kR.s rfl rfl ?_
  refine kR.sv hm hs ?_
  refine kR.s rfl rfl ?_
  refine kR.cv rfl rfl (c_176 hm hs hj) ?_
  exact kR.retc rfl (by omega) (by omega) rfl
/-- the first place of a character in a word; else -1 -/
def kix (w : List Int) (c : Int) : Int := if kw (fun j => decide (w.getD j 0 ≠ c)) w.length 0 < w.length then (kw (fun j => decide (w.getD j 0 ≠ c)) w.length 0 : Int) else -1
theorem l_179 (hm : m ≤ 57) (hs : kStr E a w) {c : Int} (hc : 0 ≤ c ∧ c < 128) : ∀ (j k : Nat), w.length - k = j → k ≤ w.length → kR 0 179 (blk 179 7) [.ref (a + 1), .int (Int32.ofInt c), .int (Int32.ofInt 0), .int (Int32.ofInt (w.length : Int)), .int (Int32.ofInt c), .int (Int32.ofInt (k : Int))] [] (sz, hp m E S) (fun r => r = (.inl (some (.int (Int32.ofInt (if kw (fun j => decide (w.getD j 0 ≠ c)) w.length k < w.length then (kw (fun j => decide (w.getD j 0 ≠ c)) w.length k : Int) else -1)))), (sz, hp m E S))) := by
  have hl := hs.2.2.2.1
  intro j
  induction j using Nat.strongRecOn with
  | _ j ih =>
    intro k hj hk
    show kR 0 179 b179_7 _ _ _ _
    refine kR.s rfl rfl ?_
    refine kR.s rfl rfl ?_
    refine kR.jge (by omega) (by omega) (by omega) (by omega) (fun q1 => ?_) (fun q1 => ?_)
    · show kR 0 179 b179_31 _ _ _ _
      refine kR.s rfl rfl ?_
      refine kR.ret rfl rfl ?_
      rw [kw_no (Or.inl (by omega)), if_neg (by omega)]
    · have hg := hs.2.2.2.2 k (by omega)
      refine kR.s rfl rfl ?_
      refine kR.s rfl rfl ?_
      refine kR.sb hm hs (by omega) ?_
      refine kR.s rfl rfl ?_
      refine kR.jne (by omega) (by omega) (by omega) (by omega) (fun q2 => ?_) (fun q2 => ?_)
      · show kR 0 179 b179_25 _ _ _ _
        refine kR.inc rfl ?_
        refine kR.g rfl ?_
        rw [kw_go (by omega) (decide_eq_true q2)]
        exact ih (w.length - (k + 1)) (by omega) (k + 1) rfl (by omega)
      · refine kR.s rfl rfl ?_
        refine kR.ret rfl rfl ?_
        rw [kw_no (Or.inr (decide_eq_false (fun z => z q2))), if_pos (by omega)]
theorem c_171 (hm : m ≤ 57) (hs : kStr E a w) (hw : 1 ≤ w.length) {c : Int} (hc : 0 ≤ c ∧ c < 128) : kR 4 171 (blk 171 0) (kent 171 [.ref a, .int (Int32.ofInt c)]) [] (sz, hp m E S) (fun r => r = (.inl (some (.int (Int32.ofInt (kix w c)))), (sz, hp m E S))) := by
  have hl := hs.2.2.2.1
  have c_177 : kR 0 177 (blk 177 0) (kent 177 [.int (Int32.ofInt c)]) [] (sz, hp m E S) (fun r => r = (.inl (some (.int (Int32.ofInt 1))), (sz, hp m E S))) := by
    show kR 0 177 b177_0 _ _ _ _
    refine kR.s rfl rfl ?_
    refine kR.zlt (by omega) (by omega) (fun z => absurd z (by omega)) (fun _ => ?_)
    refine kR.s rfl rfl ?_
    refine kR.si rfl ?_
    refine kR.jgt (by omega) (by omega) (by omega) (by omega) (fun z => absurd z (by omega)) (fun _ => ?_)
    refine kR.s rfl rfl ?_
    refine kR.g rfl ?_
    show kR 0 177 b177_16 _ _ _ _
    exact kR.ret rfl rfl rfl
  have c_179 : kR 0 179 (blk 179 0) (kent 179 [.ref (a + 1), .int (Int32.ofInt c), .int (Int32.ofInt 0), .int (Int32.ofInt (w.length : Int))]) [] (sz, hp m E S) (fun r => r = (.inl (some (.int (Int32.ofInt (kix w c)))), (sz, hp m E S))) := by
    show kR 0 179 b179_0 _ _ _ _
    refine kR.s rfl rfl ?_
    refine kR.s rfl rfl ?_
    show kR 0 179 _ _ [Value.int (Int32.ofInt c).toInt8.toInt32] _ _
    rw [ki2b hc.1 hc.2]
    refine kR.s rfl rfl ?_
    refine kR.s rfl rfl ?_
    refine kR.s rfl rfl ?_
    refine kR.n ?_
    exact l_179 hm hs hc w.length 0 rfl (by omega)
  have c_178 : kR 1 178 (blk 178 0) (kent 178 [.ref (a + 1), .int (Int32.ofInt c), .int (Int32.ofInt 0), .int (Int32.ofInt (w.length : Int))]) [] (sz, hp m E S) (fun r => r = (.inl (some (.int (Int32.ofInt (kix w c)))), (sz, hp m E S))) := by
    show kR 1 178 b178_0 _ _ _ _
    refine kR.s rfl rfl ?_
    refine kR.cv rfl rfl c_177 ?_
    refine kR.zne (by decide) (by decide) (fun _ => ?_) (fun z => absurd z (by decide))
    show kR 1 178 b178_9 _ _ _ _
    refine kR.s rfl rfl ?_
    refine kR.s rfl rfl ?_
    refine kR.p (st1 := [.int (Int32.ofInt 0)]) rfl rfl ?_
    refine kR.s rfl rfl ?_
    refine kR.s rfl rfl ?_
    refine kR.s rfl rfl ?_
    refine kR.sl hm hs ?_
    refine kR.p (st1 := [.int (Int32.ofInt (w.length : Int))]) ?_ rfl ?_
    · show (if ([] : List Value).length ≤ 10 then some [Value.int (if Int32.ofInt (w.length : Int) < Int32.ofInt (w.length : Int) then Int32.ofInt (w.length : Int) else Int32.ofInt (w.length : Int))] else none) = _
      rw [if_pos (by decide), ite_self]
    refine kR.s rfl rfl ?_
    refine kR.s rfl rfl ?_
    refine kR.s rfl rfl ?_
    refine kR.jlt (by omega) (by omega) (by omega) (by omega) (fun _ => ?_) (fun z => absurd z (by omega))
    show kR 1 178 b178_29 _ _ _ _
    refine kR.s rfl rfl ?_
    refine kR.s rfl rfl ?_
    refine kR.s rfl rfl ?_
    refine kR.s rfl rfl ?_
    refine kR.cv rfl rfl c_179 ?_
    exact kR.ret rfl rfl rfl
  have c_172 : kR 3 172 (blk 172 0) (kent 172 [.ref a, .int (Int32.ofInt c), .int (Int32.ofInt 0)]) [] (sz, hp m E S) (fun r => r = (.inl (some (.int (Int32.ofInt (kix w c)))), (sz, hp m E S))) := by
    show kR 3 172 b172_0 _ _ _ _
    refine kR.s rfl rfl ?_
    refine kR.cv (kargs_S hm hs ⟨Nat.le_of_ble_eq_true rfl, Nat.le_of_ble_eq_true rfl, Nat.le_of_ble_eq_true rfl, rfl⟩ (by decide) rfl rfl) rfl (kR.up (c_174 hm hs) (by decide)) ?_
    refine kR.zeq (by decide) (by decide) (fun z => absurd z (by decide)) (fun _ => ?_)
    refine kR.s rfl rfl ?_
    refine kR.sv hm hs ?_
    refine kR.s rfl rfl ?_
    refine kR.s rfl rfl ?_
    refine kR.s rfl rfl ?_
    refine kR.cv (kargs_S hm hs ⟨Nat.le_of_ble_eq_true rfl, Nat.le_of_ble_eq_true rfl, Nat.le_of_ble_eq_true rfl, rfl⟩ (by decide) rfl rfl) rfl (kR.up (c_169 hm hs) (by decide)) ?_
    refine kR.cv rfl rfl (kR.up c_178 (by decide)) ?_
    refine kR.g rfl ?_
    show kR 3 172 b172_36 _ _ _ _
    exact kR.ret rfl rfl rfl
  show kR 4 171 b171_0 _ _ _ _
  refine kR.s rfl rfl ?_
  refine kR.s rfl rfl ?_
  refine kR.s rfl rfl ?_
  refine kR.cv (kargs_S hm hs ⟨Nat.le_of_ble_eq_true rfl, Nat.le_of_ble_eq_true rfl, Nat.le_of_ble_eq_true rfl, rfl⟩ (by decide) rfl rfl) rfl c_172 ?_
  exact kR.ret rfl rfl rfl
end KSC
theorem kfing {h : kH} {v v' : Int} (e : v = v') : ((.inl (some (.int (Int32.ofInt v))), h) : kO × kH) = (.inl (some (.int (Int32.ofInt v'))), h) := by rw [e]
theorem kix_sg (c : Int) : (0 ≤ kix [95, 46, 43, 47, 126, 40, 60, 61, 36, 94] c ∧ kix [95, 46, 43, 47, 126, 40, 60, 61, 36, 94] c < 10 ∧ ksg c = 1) ∨ (kix [95, 46, 43, 47, 126, 40, 60, 61, 36, 94] c = -1 ∧ ksg c = 0) := by
  unfold kix
  have hs := ksg_o c
  split
  · rename_i h
    left
    have h' : _ < 10 := h
    refine ⟨by omega, by omega, ?_⟩
    have z := kw_at h
    generalize kw (fun j => decide (List.getD [95, 46, 43, 47, 126, 40, 60, 61, 36, 94] j 0 ≠ c)) ([95, 46, 43, 47, 126, 40, 60, 61, 36, 94] : List Int).length 0 = k at h h' z
    change k < 10 at h
    have z := of_decide_eq_false z
    have z := Classical.not_not.mp z
    rcases (show k = 0 ∨ k = 1 ∨ k = 2 ∨ k = 3 ∨ k = 4 ∨ k = 5 ∨ k = 6 ∨ k = 7 ∨ k = 8 ∨ k = 9 by omega) with rfl | rfl | rfl | rfl | rfl | rfl | rfl | rfl | rfl | rfl <;> simp at z <;> omega
  · rename_i h
    right
    refine ⟨rfl, ?_⟩
    rcases hs with ⟨h1, h2⟩ | ⟨h1, h2⟩
    · exfalso
      have z : ∀ j, j < 10 → List.getD [95, 46, 43, 47, 126, 40, 60, 61, 36, 94] j 0 ≠ c := fun j hj => of_decide_eq_true (kw_in (n := ([95, 46, 43, 47, 126, 40, 60, 61, 36, 94] : List Int).length) (p := fun j => decide (List.getD [95, 46, 43, 47, 126, 40, 60, 61, 36, 94] j 0 ≠ c)) (Nat.zero_le j) (by change ¬ _ < 10 at h; omega))
      rcases h2 with h2 | h2 | h2 | h2 | h2 | h2 | h2 | h2 | h2 | h2
      · exact z 0 (by decide) h2.symm
      · exact z 1 (by decide) h2.symm
      · exact z 2 (by decide) h2.symm
      · exact z 3 (by decide) h2.symm
      · exact z 4 (by decide) h2.symm
      · exact z 5 (by decide) h2.symm
      · exact z 6 (by decide) h2.symm
      · exact z 7 (by decide) h2.symm
      · exact z 8 (by decide) h2.symm
      · exact z 9 (by decide) h2.symm
    · exact h1
