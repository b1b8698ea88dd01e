/-! More depth of calls does no harm; a run on the canonical heap is a run at the law's heap. -/
theorem krun_dm : ∀ (n d y : Nat) (cs : List kI) (ls st : List Value) (h : kH) (r : kO × kH), krun n d y cs ls st h = some r → krun n (d + 1) y cs ls st h = some r := by
  intro n
  induction n with
  | zero => intro d y cs ls st h r e; simp [krun] at e
  | succ n ih =>
    intro d y cs ls st h r e
    cases cs with
    | nil => rw [krun.eq_def] at e; cases e
    | cons c cs =>
      obtain ⟨pc, x, i⟩ := c
      rw [krun.eq_def] at e ⊢
      dsimp only at e ⊢
      split at e
      · split at e
        · exact ih _ _ _ _ _ _ _ e
        · cases e
      · split at e
        · split at e
          · rename_i hq; rw [if_pos hq]; exact ih _ _ _ _ _ _ _ e
          · rename_i hq; rw [if_neg hq]; exact ih _ _ _ _ _ _ _ e
        · cases e
      · exact ih _ _ _ _ _ _ _ e
      · split at e
        · exact ih _ _ _ _ _ _ _ e
        · cases e
      · exact e
      · cases d with
        | zero => cases e
        | succ d =>
          dsimp only at e ⊢
          split at e
          · rename_i q hq
            cases hc : krun n d x (blk x 0) (kent x q.1) [] h with
            | none => rw [hc] at e; cases e
            | some r1 =>
              rw [ih _ _ _ _ _ _ _ hc]
              rw [hc] at e
              obtain ⟨o, h1⟩ := r1
              cases o with
              | inl v => exact ih _ _ _ _ _ _ _ e
              | inr a =>
                dsimp only [kthr] at e ⊢
                split at e
                · exact ih _ _ _ _ _ _ _ e
                · exact e
                · cases e
          · cases e
      · exact e
      · exact ih _ _ _ _ _ _ _ e
      · split at e
        · exact ih _ _ _ _ _ _ _ e
        · cases e
      · cases e
theorem krun_dle {n d d' y : Nat} {cs : List kI} {ls st : List Value} {h : kH} {r : kO × kH} (hd : d ≤ d') (e : krun n d y cs ls st h = some r) : krun n d' y cs ls st h = some r := by
  induction hd with
  | refl => exact e
  | step _ ih => exact krun_dm _ _ _ _ _ _ _ _ ih
theorem kR_of {n D y : Nat} {cs : List kI} {ls st : List Value} {h : kH} {r : kO × kH} {Q : kO × kH → Prop} (e : krun n D y cs ls st h = some r) (q : Q r) : kR D y cs ls st h Q := ⟨n, r, fun _ hd => krun_dle hd e, q⟩
theorem kR_re {π : Nat → Nat} {b c N s D y : Nat} {cs : List kI} {ls st : List Value} {h h' : kH} {Q : kO × kH → Prop} (P : kPi π b c N) (k : kR D y cs ls st h Q) (hg : ∀ q ∈ cs, kgf q.2.1 q.2.2 = true) (G : kG π b c s h h') (hN : ∀ r, Q r → r.2.1.1 ≤ N) : kR D y cs (ls.map (kpv π)) (st.map (kpv π)) h' (fun r' => ∃ r, Q r ∧ r'.1 = kpo π r.1 ∧ kG π b c s r.2 r'.2) := by
  obtain ⟨n, r, hn, hr⟩ := k
  obtain ⟨h1, e1, G1⟩ := krun_re P n D y cs ls st h h' r (hn D (Nat.le_refl _)) hg G (hN r hr)
  exact kR_of e1 ⟨r, hr, rfl, G1⟩
/-- the renaming: the two Nodes may have changed places; what is new lies behind the litter -/
def kpi (w : Bool) (c i : Nat) : Nat := if i < 53 then (if 10 ≤ i ∧ i < 20 ∧ w = true then i + 10 else if 20 ≤ i ∧ i < 30 ∧ w = true then i - 10 else i) else if i < 100 then i + c else i
theorem kpi_P {w : Bool} {c : Nat} (hc : 100 + c ≤ 1000000) : kPi (kpi w c) 53 c 100 := by
  refine ⟨hc, by omega, fun i hi => ?_, fun i j hi hj e => ?_, fun i h1 h2 => ?_, fun i hi => ?_⟩
  · unfold kpi
    rw [if_pos hi]
    split
    · omega
    · split <;> omega
  · unfold kpi at e
    rw [if_pos hi, if_pos hj] at e
    cases w
    · simpa using e
    · simp only [and_true] at e
      repeat' split at e
      all_goals omega
  · unfold kpi
    rw [if_neg (by omega), if_pos h2]
  · unfold kpi
    rw [if_neg (by omega), if_neg (by omega)]
def kW (w : Bool) (c s : Nat) (E : Nat → kC) (S : Nat → Nat → Int) (h : kH) : Prop := kG (kpi w c) 53 c s ((53, 0), hp 53 E S) h
def kEo (E : Nat → kC) : Prop := ∀ i j a, 1000000 ≤ i → (E i).2.2 j = .ref a → 1000000 ≤ a
theorem kdef_ref (t k a : Nat) : kdef t k ≠ .ref a := by
  unfold kdef
  cases kY t k <;> simp [defaultValue]
theorem kTq_ref : (List.range 53).all (fun i => (kTq i).2.2.all (fun q => decide (q.2 < 53))) = true := by decide
theorem klookup_mem {k a : Nat} : ∀ {rs : List (Nat × Nat)}, rs.lookup k = some a → ∃ q ∈ rs, q.2 = a
  | [], h => by cases h
  | (b, v) :: rs, h => by
    rw [List.lookup_cons] at h
    split at h
    · cases h
      exact ⟨_, List.mem_cons_self, rfl⟩
    · obtain ⟨q, h1, h2⟩ := klookup_mem h
      exact ⟨q, List.mem_cons_of_mem _ h1, h2⟩
theorem hp_ref {E : Nat → kC} {S : Nat → Nat → Int} (hE : kEo E) {i j a : Nat} (e : (hp 53 E S i).2.2 j = .ref a) : a < 53 ∨ 1000000 ≤ a := by
  unfold hp at e
  split at e
  · rename_i hi
    left
    change kval (kTq i).1 (kTq i).2.1 (kTq i).2.2 j (S i j) = .ref a at e
    unfold kval at e
    split at e
    · exact absurd e (kdef_ref _ _ _)
    · split at e
      · cases e
      · split at e
        · rename_i b hb
          cases e
          obtain ⟨q, hq, rfl⟩ := klookup_mem hb
          have z := List.all_eq_true.mp kTq_ref i (List.mem_range.mpr hi)
          exact of_decide_eq_true (List.all_eq_true.mp z q hq)
        · cases e
  · split at e
    · rename_i hi
      exact Or.inr (hE _ _ _ hi e)
    · cases e
theorem kpi_pi {w v : Bool} {c g i : Nat} (hi : i < 53 ∨ 1000000 ≤ i) : kpi w c (kpi v 0 i) = kpi (w != v) (c + g) i := by
  rcases hi with hi | hi
  · cases w <;> cases v <;> unfold kpi <;> simp [hi] <;> (repeat' split) <;> omega
  · have e : ∀ u d, kpi u d i = i := fun u d => by unfold kpi; rw [if_neg (by omega), if_neg (by omega)]
    rw [e, e, e]
theorem kW_next {w v : Bool} {c s g k : Nat} {E : Nat → kC} {S : Nat → Nat → Int} {h0 h1 : kH} (hE : kEo E) (G : kG (kpi w c) 53 c s h0 h1) (hs : h0.1 = (53 + g, k)) (hh : ∀ i, (i < 53 ∨ 1000000 ≤ i) → h0.2 (kpi v 0 i) = kpc (kpi v 0) (hp 53 E S i)) : kW (w != v) (c + g) (s + k) E S h1 := by
  obtain ⟨g0, g1, g2, g3⟩ := G
  rw [hs] at g0 g1 g2
  refine ⟨Nat.le_refl _, by show h1.1.1 = 53 + (c + g); rw [g1]; show 53 + g + c = _; omega, by show h1.1.2 = 0 + (s + k); rw [g2]; show k + s = _; omega, fun i hi => ?_⟩
  change (hp 53 E S i).1 ≠ 0 at hi
  have hi2 : i < 53 ∨ 1000000 ≤ i := by
    apply Classical.byContradiction
    intro hn
    unfold hp at hi
    rw [if_neg (by omega), if_neg (by omega)] at hi
    exact hi rfl
  refine ⟨hi2, ?_⟩
  show h1.2 (kpi (w != v) (c + g) i) = kpc (kpi (w != v) (c + g)) (hp 53 E S i)
  have e1 := hh i hi2
  have e2 := (g3 (kpi v 0 i) (by rw [e1]; exact hi)).2
  rw [e1, kpi_pi (g := g) hi2] at e2
  rw [e2]
  refine Prod.ext rfl (Prod.ext rfl ?_)
  funext j
  show kpv (kpi w c) (kpv (kpi v 0) ((hp 53 E S i).2.2 j)) = kpv (kpi (w != v) (c + g)) ((hp 53 E S i).2.2 j)
  cases hv : (hp 53 E S i).2.2 j with
  | ref a => show Value.ref _ = Value.ref _; rw [kpi_pi (g := g) (hp_ref hE hv)]
  | _ => rfl
theorem kpi_id (i : Nat) : kpi false 0 i = i := by
  unfold kpi
  split
  · simp
  · split <;> omega
theorem kpc_id (q : kC) : kpc (kpi false 0) q = q := by
  obtain ⟨a, b, f⟩ := q
  unfold kpc
  refine Prod.ext rfl (Prod.ext rfl ?_)
  funext j
  show kpv (kpi false 0) (f j) = f j
  cases f j with
  | ref a => show Value.ref _ = Value.ref _; rw [kpi_id]
  | _ => rfl
theorem kW_new {w : Bool} {c s t n : Nat} {E : Nat → kC} {S : Nat → Nat → Int} {h1 : kH} {f : Nat → Value} (hE : kEo E) (G : kG (kpi w c) 53 c s (knew ((53, 0), hp 53 E S) t n f) h1) : kW w (c + 1) (s + n) E S h1 := by
  have z := kW_next (v := false) (g := 1) (k := n) (S := S) hE G (by show (53 + 1, 0 + n) = (53 + 1, n); rw [Nat.zero_add]) (fun i hi => by
    rw [kpi_id, kpc_id]
    show kup (hp 53 E S) 53 _ i = _
    exact if_neg (by omega))
  rw [show (w != false) = w by cases w <;> rfl] at z
  exact z
theorem kofn (n : Nat) : Int32.ofNat n = Int32.ofInt (n : Int) := by
  first | rfl | exact (Int32.ofInt_eq_ofNat).symm | simp [Int32.ofInt, Int32.ofNat]
section KLW
variable {w : Bool} {D y pc x c s L : Nat} {i : Instr} {cs : List kI} {ls st st1 as : List Value} {E : Nat → kC} {S : Nat → Nat → Int} {h : kH} {r Q1 : kO × kH → Prop} {xs : Nat → Int32}
theorem kR.cW (hW : kW w c s E S h) (hc : 100 + c ≤ 1000000) (hx : (kme x).2.1 = 1 ∨ (kme x).2.2.1 ≠ 0) (hst : st.map (kpv (kpi w c)) = st) (e : kargs x st ((53, 0), hp 53 E S) = some (as, st1)) (hk : kkind i x = 5) (k1 : kR D x (blk x 0) (kent x as) [] ((53, 0), hp 53 E S) Q1) (hN : ∀ u, Q1 u → u.2.1.1 ≤ 100) (k2 : ∀ u h1, Q1 u → kG (kpi w c) 53 c s u.2 h1 → kCl (D + 1) y pc cs ls (st1.map (kpv (kpi w c))) r (kpo (kpi w c) u.1, h1)) : kR (D + 1) y ((pc, x, i) :: cs) ls st h r := by
  have z := kR_re (kpi_P hc) k1 (kgo_blk _ _) hW hN
  rw [← kent_re, List.map_nil] at z
  have e2 := kargs_re (s := s) (h' := h) hW hx e
  rw [hst] at e2
  refine kR.c e2 hk z (fun u hu => ?_)
  obtain ⟨u0, q, e1, G⟩ := hu
  obtain ⟨o, h2⟩ := u
  change o = _ at e1
  subst e1
  exact k2 u0 h2 q G
theorem kW_out (hW : kW w c s E S h) {a : Nat} (ha : 1000000 ≤ a) (h0 : (E a).1 ≠ 0) : h.2 a = kpc (kpi w c) (E a) := by
  have e : hp 53 E S a = E a := by unfold hp; rw [if_neg (by omega), if_pos ha]
  have z := (hW.2.2.2 a (by show (hp 53 E S a).1 ≠ 0; rw [e]; exact h0)).2
  rw [show kpi w c a = a by unfold kpi; rw [if_neg (by omega), if_neg (by omega)]] at z
  rw [z]
  show kpc _ (hp 53 E S a) = _
  rw [e]
theorem kW_scr (hW : kW w c s (kext L xs) S h) : h.2 1000000 = (50, L, fun j => .int (xs j)) := by
  rw [kW_out hW (Nat.le_refl _) (by show (50 : Nat) ≠ 0; decide)]
  rfl
theorem kR.sx {k : Nat} (hW : kW w c s (kext L xs) S h) (hk : k < L) (hL : L ≤ 2048) (kk : kR D y cs ls (.int (Int32.ofInt (xs k).toInt) :: st) h r) : kR D y ((pc, x, .iaload) :: cs) ls (.int (Int32.ofInt (k : Int)) :: .ref 1000000 :: st) h r := by
  refine kR.s (ls1 := ls) (st1 := .int (Int32.ofInt (xs k).toInt) :: st) (h1 := h) ?_ rfl kk
  have e := kW_scr hW
  have e1 : kin (Int32.ofInt (k : Int)) L = true := kin_of (by omega) (by omega) (by omega)
  have e2 : (Int32.ofInt (k : Int)).toNatClampNeg = k := by rw [ku_nat (by omega) (by omega)]; rfl
  simp [ksimple, ko_ald, e, e1, k_st, e2]
theorem kR.xl (hW : kW w c s (kext L xs) S h) (kk : kR D y cs ls (.int (Int32.ofInt (L : Int)) :: st) h r) : kR D y ((pc, x, .arraylength) :: cs) ls (.ref 1000000 :: st) h r := by
  refine kR.s (ls1 := ls) (st1 := .int (Int32.ofInt (L : Int)) :: st) (h1 := h) ?_ rfl kk
  have e := kW_scr hW
  simp [ksimple, ko_len, e, k_st, kofn]
end KLW
theorem kand15 (x : Int32) : ∃ k : Nat, k < 16 ∧ x &&& Int32.ofInt 15 = Int32.ofInt (k : Int) := by
  refine ⟨(x.toBitVec &&& 15#32).toNat, ?_, ?_⟩
  · rw [BitVec.toNat_and]
    exact Nat.and_lt_two_pow _ (n := 4) (by decide)
  · apply Int32.toBitVec_inj.mp
    apply BitVec.eq_of_toNat_eq
    simp
theorem kext_o (L : Nat) (xs : Nat → Int32) : kEo (kext L xs) := by
  intro i j a hi e
  unfold kext at e
  split at e
  · cases e
  · split at e
    · split at e
      · change (if j = 0 then Value.ref (i + 1) else Value.int 0) = Value.ref a at e
        by_cases hj : j = 0
        · rw [if_pos hj] at e
          have z : i + 1 = a := Value.ref.inj e
          rw [← z]
          exact Nat.le_succ_of_le hi
        · rw [if_neg hj] at e
          cases e
      · cases e
    · cases e
