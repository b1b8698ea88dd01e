/-! The run on a renamed heap, all in all. -/
def kgf (x : Nat) (i : Instr) : Bool := match i with
  | .getfield _ => decide (x / 100 % 100 ≠ 0)
  | .putfield _ => decide (x / 100 % 100 ≠ 0)
  | _ => true
theorem kgf_all : ((List.range 182).drop 1).all (fun y => (kblks y).all (fun b => b.2.all (fun q => kgf q.2.1 q.2.2))) = true := by decide +kernel
theorem kgf_i {x : Nat} {i : Instr} (h : kgf x i = true) : ∀ k, (i = .getfield k ∨ i = .putfield k) → x / 100 % 100 ≠ 0 := by
  intro k hk
  rcases hk with rfl | rfl <;> exact of_decide_eq_true h
set_option maxRecDepth 100000 in
theorem kblks_out {y : Nat} (h : ¬ (1 ≤ y ∧ y < 182)) : kblks y = [] := by
  by_cases h0 : y = 0
  · subst h0
    rfl
  · obtain ⟨k, rfl⟩ : ∃ k, y = k + 182 := ⟨y - 182, by omega⟩
    rfl
theorem kgo_blk (y t : Nat) : ∀ q ∈ blk y t, kgf q.2.1 q.2.2 = true := by
  unfold blk
  cases hl : (kblks y).lookup t with
  | none => intro q hq; cases hq
  | some cs =>
    by_cases hy : 1 ≤ y ∧ y < 182
    · have e := List.all_eq_true.mp (List.all_eq_true.mp kgf_all y (k_rng hy.1 hy.2)) _ (k_look hl)
      exact fun q hq => List.all_eq_true.mp e q hq
    · rw [kblks_out hy] at hl
      cases hl
theorem kme_tag : (List.range 182).all (fun y => decide (y = 0) || decide ((kme y).2.1 = 1) || decide ((kme y).2.2.1 ≠ 0)) = true := by decide +kernel
def kpo (π : Nat → Nat) (o : kO) : kO := match o with
  | .inl v => .inl (v.map (kpv π))
  | .inr a => .inr (π a)
section KRN
variable {π : Nat → Nat} {b c N s : Nat}
theorem kall_re : ∀ l : List Value, (l.map (kpv π)).all kok = l.all kok
  | [] => rfl
  | v :: l => by
    show (kok (kpv π v) && (l.map (kpv π)).all kok) = (kok v && l.all kok)
    rw [kok_re, kall_re l]
theorem kargs_re {h h' : kH} (G : kG π b c s h h') {y : Nat} (hy : (kme y).2.1 = 1 ∨ (kme y).2.2.1 ≠ 0) {st : List Value} {q : List Value × List Value} (e : kargs y st h = some q) : kargs y (st.map (kpv π)) h' = some (q.1.map (kpv π), q.2.map (kpv π)) := by
  unfold kargs at e ⊢
  split at e
  · rename_i hq
    have hq' : (kme y).2.2.2.1 ≤ (st.map (kpv π)).length ∧ ((st.map (kpv π)).drop (kme y).2.2.2.1).length ≤ 10 ∧ (ksp ((st.map (kpv π)).take (kme y).2.2.2.1).reverse).length ≤ (kme y).2.2.2.2.1 ∧ ((st.map (kpv π)).take (kme y).2.2.2.1).all kok = true := by
      refine ⟨by simpa using hq.1, by simpa using hq.2.1, ?_, ?_⟩
      · rw [← List.map_take, ← List.map_reverse, ksp_re, List.length_map]
        exact hq.2.2.1
      · rw [← List.map_take, kall_re]
        exact hq.2.2.2
    rw [if_pos hq', ← List.map_take, ← List.map_reverse, ← List.map_drop]
    split at e
    · rename_i h1
      rw [if_pos h1]
      cases e
      rfl
    · rename_i h1
      rw [if_neg h1]
      split at e
      · rename_i a as ha
        rw [ha]
        split at e
        · rename_i ht
          cases e
          have hc := G.cell (a := a) (by rw [ht]; exact hy.resolve_left h1)
          show (if (h'.2 (π a)).1 = (kme y).2.2.1 then some (Value.ref (π a) :: as.map (kpv π), (st.drop (kme y).2.2.2.1).map (kpv π)) else none) = _
          rw [hc]
          exact if_pos ht
        · cases e
      · cases e
  · cases e
theorem khl_tag (y : Nat) : ∀ q ∈ khl y, kht q.2.2.2 ≠ 0 := by
  unfold khl
  split <;> decide
theorem kfind_re {t t' : Nat} (ht : t ≠ 0 → t' = t) {pc : Nat} : ∀ (hs : List (Nat × Nat × Nat × Nat)) (_ : ∀ q ∈ hs, kht q.2.2.2 ≠ 0) (z : Option Nat), kfind hs pc t = some z → kfind hs pc t' = some z
  | [], _, _, e => e
  | q :: r, hq, z, e => by
    unfold kfind at e ⊢
    split at e
    · rename_i h1
      rw [if_pos h1]
      split at e
      · rename_i h2
        have : t ≠ 0 := by rw [← h2]; exact hq q List.mem_cons_self
        rw [ht this, if_pos h2]
        exact e
      · cases e
    · rename_i h1
      rw [if_neg h1]
      exact kfind_re ht r (fun u hu => hq u (List.mem_cons_of_mem _ hu)) z e
theorem krun_re (P : kPi π b c N) : ∀ (n d y : Nat) (cs : List kI) (ls st : List Value) (h h' : kH) (r : kO × kH), krun n d y cs ls st h = some r → (∀ q ∈ cs, kgf q.2.1 q.2.2 = true) → kG π b c s h h' → r.2.1.1 ≤ N → ∃ h1', krun n d y cs (ls.map (kpv π)) (st.map (kpv π)) h' = some (kpo π r.1, h1') ∧ kG π b c s r.2 h1' := by
  intro n
  induction n with
  | zero => intro d y cs ls st h h' r e; simp [krun] at e
  | succ n ih =>
    intro d y cs ls st h h' r e hgo G hN
    cases cs with
    | nil => rw [krun.eq_def] at e; cases e
    | cons q0 cs =>
      obtain ⟨pc, x, i⟩ := q0
      have hg0 : kgf x i = true := hgo (pc, x, i) List.mem_cons_self
      have hgo' : ∀ q ∈ cs, kgf q.2.1 q.2.2 = true := fun q hq => hgo q (List.mem_cons_of_mem _ hq)
      rw [krun.eq_def] at e ⊢
      dsimp only at e ⊢
      split at e
      · rename_i hk
        split at e
        · rename_i q hq
          have g := krun_grow _ _ _ _ _ _ _ _ e
          obtain ⟨h1', e1, G1⟩ := ksimple_re P G (Nat.le_trans g.1 hN) (kgf_i hg0) hq
          rw [e1]
          exact ih _ _ _ _ _ _ _ _ e hgo' G1 hN
        · cases e
      · split at e
        · rename_i q hq
          rw [kbr_re hq]
          dsimp only
          split at e
          · rename_i h1; rw [if_pos h1]; exact ih _ _ _ _ _ _ _ _ e (kgo_blk _ _) G hN
          · rename_i h1; rw [if_neg h1]; exact ih _ _ _ _ _ _ _ _ e hgo' G hN
        · cases e
      · exact ih _ _ _ _ _ _ _ _ e (kgo_blk _ _) G hN
      · split at e
        · rename_i q hq
          rw [kswitch_re hq]
          exact ih _ _ _ _ _ _ _ _ e (kgo_blk _ _) G hN
        · cases e
      · split at e
        · rename_i v hv
          cases e
          rw [kret_re hv]
          exact ⟨h', rfl, G⟩
        · cases e
      · split at e
        · cases e
        · split at e
          · rename_i q hq
            cases hc : krun n _ x (blk x 0) (kent x q.1) [] h with
            | none => rw [hc] at e; cases e
            | some r1 =>
              have hx : 1 ≤ x ∧ x < 182 := Classical.byContradiction fun hx => by
                have : blk x 0 = [] := by unfold blk; rw [kblks_out hx]; rfl
                exact krun_ne hc this
              have htag := List.all_eq_true.mp kme_tag x (List.mem_range.mpr hx.2)
              simp only [Bool.or_eq_true, decide_eq_true_eq] at htag
              rw [kargs_re G (by rcases htag with (z | z) | z; exact absurd z (by omega); exact Or.inl z; exact Or.inr z) hq]
              have g1 := krun_grow _ _ _ _ _ _ _ _ hc
              have hr1 : r1.2.1.1 ≤ r.2.1.1 := by
                rw [hc] at e
                obtain ⟨o, h1⟩ := r1
                cases o with
                | inl v => exact (krun_grow _ _ _ _ _ _ _ _ e).1
                | inr a =>
                  dsimp only [kthr] at e
                  split at e
                  · exact (krun_grow _ _ _ _ _ _ _ _ e).1
                  · cases e; exact Nat.le_refl _
                  · cases e
              obtain ⟨h1', e1, G1⟩ := ih _ _ _ _ _ _ _ _ hc (kgo_blk _ _) G (Nat.le_trans hr1 hN)
              rw [← kent_re, List.map_nil] at e1
              dsimp only
              rw [e1]
              rw [hc] at e
              obtain ⟨o, h1⟩ := r1
              cases o with
              | inl v =>
                have z := ih _ _ _ _ _ _ _ _ e hgo' G1 hN
                dsimp only [kpo]
                rw [show (v.map (kpv π)).toList ++ q.2.map (kpv π) = (v.toList ++ q.2).map (kpv π) by cases v <;> simp]
                exact z
              | inr a =>
                dsimp only [kpo, kthr] at e ⊢
                have hf : ∀ z, kfind (khl y) pc (h1.2 a).1 = some z → kfind (khl y) pc (h1'.2 (π a)).1 = some z := fun z hz => kfind_re (fun hne => by rw [G1.cell hne]; rfl) _ (khl_tag y) z hz
                split at e
                · rename_i t ht
                  rw [hf _ ht]
                  have z := ih _ _ _ _ _ _ _ _ e (kgo_blk _ _) G1 hN
                  exact z
                · rename_i ht
                  rw [hf _ ht]
                  cases e
                  exact ⟨h1', rfl, G1⟩
                · cases e
          · cases e
      · split at e
        · rename_i hq
          cases e
          have hN' : h.1.1 + 1 ≤ N := hN
          obtain ⟨g1, g2⟩ := G.new P (by omega) (t := x - 1000) (n := 6) (f := fun _ => .null) (f' := fun _ => .null) rfl
          rw [if_pos (by simpa using hq)]
          refine ⟨_, ?_, g1⟩
          show some (Sum.inr h'.1.1, _) = some (Sum.inr (π h.1.1), _)
          rw [g2]
        · cases e
      · exact ih _ _ _ _ _ _ _ _ e (kgo_blk _ _) G hN
      · split at e
        · rename_i st1 hq
          rw [kprim_re P hq]
          exact ih _ _ _ _ _ _ _ _ e hgo' G hN
        · cases e
      · cases e
end KRN
