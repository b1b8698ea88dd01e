/-! The run on a renamed heap. -/
section KRM
variable {π : Nat → Nat} {b c N s : Nat} {h h' : kH}
theorem ksimple_re (P : kPi π b c N) (G : kG π b c s h h') {i : Instr} {x : Nat} {ls st : List Value} {q : List Value × List Value × kH} (hN : q.2.2.1.1 ≤ N) (hx : ∀ k, (i = .getfield k ∨ i = .putfield k) → x / 100 % 100 ≠ 0) (hs : ksimple i x ls st h = some q) :
    ∃ h1', ksimple i x (ls.map (kpv π)) (st.map (kpv π)) h' = some (q.1.map (kpv π), q.2.1.map (kpv π), h1') ∧ kG π b c s q.2.2 h1' := by
  have hN0 : h.1.1 ≤ N := Nat.le_trans (ksimple_grow hs).1 hN
  cases i with
  | new idx =>
    simp only [ksimple] at hs
    split at hs
    · rename_i hq
      cases hs
      have hN' : h.1.1 + 1 ≤ N := hN
      obtain ⟨g1, g2⟩ := G.new P (by omega) (t := x) (n := kN x) (f := kdef x) (f' := kdef x) (by funext j; exact (kdef_re x j).symm)
      refine ⟨_, ?_, g1⟩
      show (if 1 ≤ x ∧ x < 20 then some (ls.map (kpv π), .ref h'.1.1 :: st.map (kpv π), knew h' x (kN x) (kdef x)) else none) = some (ls.map (kpv π), .ref (π h.1.1) :: st.map (kpv π), _)
      rw [if_pos hq, g2]
    · cases hs
  | newarray at_ =>
    cases at_ with
    | int => obtain ⟨s1, e1, rfl⟩ := k_hp_i hs; obtain ⟨h1', e2, g⟩ := ko_nar_re P G rfl e1 hN; exact ⟨h1', congrArg (k_hp (ls.map (kpv π))) e2, g⟩
    | char => obtain ⟨s1, e1, rfl⟩ := k_hp_i hs; obtain ⟨h1', e2, g⟩ := ko_nar_re P G rfl e1 hN; exact ⟨h1', congrArg (k_hp (ls.map (kpv π))) e2, g⟩
    | long => obtain ⟨s1, e1, rfl⟩ := k_hp_i hs; obtain ⟨h1', e2, g⟩ := ko_nar_re P G rfl e1 hN; exact ⟨h1', congrArg (k_hp (ls.map (kpv π))) e2, g⟩
    | _ => cases hs
  | getfield v =>
    obtain ⟨s1, e1, rfl⟩ := k_st_i hs
    exact ⟨h', congrArg (k_st (ls.map (kpv π)) h') (ko_get_re G (hx v (Or.inl rfl)) e1), G⟩
  | putfield v =>
    obtain ⟨s1, e1, rfl⟩ := k_hp_i hs
    obtain ⟨h1', e2, g⟩ := ko_put_re P G hN0 (hx v (Or.inr rfl)) e1
    exact ⟨h1', congrArg (k_hp (ls.map (kpv π))) e2, g⟩
  | iastore => obtain ⟨s1, e1, rfl⟩ := k_hp_i hs; obtain ⟨h1', e2, g⟩ := ko_ast_re P G hN0 (by decide) (fun _ => rfl) e1; exact ⟨h1', congrArg (k_hp (ls.map (kpv π))) e2, g⟩
  | castore => obtain ⟨s1, e1, rfl⟩ := k_hp_i hs; obtain ⟨h1', e2, g⟩ := ko_ast_re P G hN0 (by decide) (fun _ => rfl) e1; exact ⟨h1', congrArg (k_hp (ls.map (kpv π))) e2, g⟩
  | lastore => obtain ⟨s1, e1, rfl⟩ := k_hp_i hs; obtain ⟨h1', e2, g⟩ := ko_lst_re P G hN0 e1; exact ⟨h1', congrArg (k_hp (ls.map (kpv π))) e2, g⟩
  | iinc k v =>
    simp only [ksimple] at hs
    split at hs
    · rename_i l1 e1
      cases hs
      obtain ⟨a, e2, rfl⟩ := k_inc_i e1
      refine ⟨h', ?_, G⟩
      have e3 : k_inc (ls.map (kpv π)) k v = some ((kst1 ls k (.int (a + Int32.ofInt v))).map (kpv π)) := by
        have := kst1_re (π := π) ls k (.int (a + Int32.ofInt v))
        simp only [kpv] at this
        simp [k_inc, e2, kpv, this]
      show (match k_inc (ls.map (kpv π)) k v with
        | some l => some (l, st.map (kpv π), h')
        | none => none) = _
      rw [e3]
    · cases hs
  | ldc k =>
    simp only [ksimple] at hs
    split at hs
    · rename_i hq
      cases hs
      refine ⟨h', ?_, G⟩
      show (if x < 1000 then some (ls.map (kpv π), kcst x :: st.map (kpv π), h') else none) = some (ls.map (kpv π), kpv π (kcst x) :: st.map (kpv π), h')
      rw [if_pos hq, kcst_re P]
    · cases hs
  | getstatic k =>
    simp only [ksimple] at hs
    split at hs
    · rename_i hq
      cases hs
      refine ⟨h', ?_, G⟩
      show (if x < 1000 then some (ls.map (kpv π), kcst x :: st.map (kpv π), h') else none) = some (ls.map (kpv π), kpv π (kcst x) :: st.map (kpv π), h')
      rw [if_pos hq, kcst_re P]
    · cases hs
  | ldc2_w k =>
    cases hs
    refine ⟨h', ?_, G⟩
    show some (ls.map (kpv π), kcst x :: st.map (kpv π), h') = some (ls.map (kpv π), kpv π (kcst x) :: st.map (kpv π), h')
    rw [kcst_re P]
  | _ => first
    | (obtain ⟨s1, e1, rfl⟩ := k_st_i hs; exact ⟨h', congrArg (k_st (ls.map (kpv π)) h') (kl_i_re e1), G⟩)
    | (obtain ⟨s1, e1, rfl⟩ := k_st_i hs; exact ⟨h', congrArg (k_st (ls.map (kpv π)) h') (kl_l_re e1), G⟩)
    | (obtain ⟨s1, e1, rfl⟩ := k_st_i hs; exact ⟨h', congrArg (k_st (ls.map (kpv π)) h') (kl_a_re e1), G⟩)
    | (obtain ⟨s1, e1, rfl⟩ := k_st_i hs; exact ⟨h', congrArg (k_st (ls.map (kpv π)) h') (ko_ii_re (fun _ _ => rfl) e1), G⟩)
    | (obtain ⟨s1, e1, rfl⟩ := k_st_i hs; exact ⟨h', congrArg (k_st (ls.map (kpv π)) h') (ko_ll_re (fun _ _ => rfl) e1), G⟩)
    | (obtain ⟨s1, e1, rfl⟩ := k_st_i hs; exact ⟨h', congrArg (k_st (ls.map (kpv π)) h') (ko_li_re (fun _ _ => rfl) e1), G⟩)
    | (obtain ⟨s1, e1, rfl⟩ := k_st_i hs; exact ⟨h', congrArg (k_st (ls.map (kpv π)) h') (ko_ld_re (fun _ _ => rfl) e1), G⟩)
    | (obtain ⟨s1, e1, rfl⟩ := k_st_i hs; exact ⟨h', congrArg (k_st (ls.map (kpv π)) h') (ko_i_re (fun _ => rfl) e1), G⟩)
    | (obtain ⟨s1, e1, rfl⟩ := k_st_i hs; exact ⟨h', congrArg (k_st (ls.map (kpv π)) h') (ko_l_re (fun _ => rfl) e1), G⟩)
    | (obtain ⟨s1, e1, rfl⟩ := k_st_i hs; exact ⟨h', congrArg (k_st (ls.map (kpv π)) h') (ko_dup_re e1), G⟩)
    | (obtain ⟨s1, e1, rfl⟩ := k_st_i hs; exact ⟨h', congrArg (k_st (ls.map (kpv π)) h') (ko_pop_re e1), G⟩)
    | (obtain ⟨s1, e1, rfl⟩ := k_st_i hs; exact ⟨h', congrArg (k_st (ls.map (kpv π)) h') (ko_dup2_re e1), G⟩)
    | (obtain ⟨s1, e1, rfl⟩ := k_st_i hs; exact ⟨h', congrArg (k_st (ls.map (kpv π)) h') (ko_len_re G e1), G⟩)
    | (obtain ⟨s1, e1, rfl⟩ := k_st_i hs; exact ⟨h', congrArg (k_st (ls.map (kpv π)) h') (ko_ald_re G (by decide) (by decide) e1), G⟩)
    | (obtain ⟨s1, e1, rfl⟩ := k_ls_i hs; exact ⟨h', congrArg (k_ls h') (ks_i_re e1), G⟩)
    | (obtain ⟨s1, e1, rfl⟩ := k_ls_i hs; exact ⟨h', congrArg (k_ls h') (ks_l_re e1), G⟩)
    | (obtain ⟨s1, e1, rfl⟩ := k_ls_i hs; exact ⟨h', congrArg (k_ls h') (ks_a_re e1), G⟩)
    | (cases hs; exact ⟨h', rfl, G⟩)
    | cases hs
theorem kbr_re {i : Instr} {st : List Value} {q : Bool × List Value} (e : kbr i st = some q) : kbr i (st.map (kpv π)) = some (q.1, q.2.map (kpv π)) := by
  unfold kbr at e
  split at e
  · split at e
    · cases e; rfl
    · cases e
  · split at e
    · cases e; rfl
    · cases e
  · cases e
theorem ktn_re {z : Int} {st : List Value} {q : Nat × List Value} (e : ktn z st = some q) : ktn z (st.map (kpv π)) = some (q.1, q.2.map (kpv π)) := by
  unfold ktn at e ⊢
  split at e
  · rename_i hz
    cases e
    rw [if_pos hz]
  · cases e
theorem kswitch_re {i : Instr} {pc : Nat} {st : List Value} {q : Nat × List Value} (e : kswitch i pc st = some q) : kswitch i pc (st.map (kpv π)) = some (q.1, q.2.map (kpv π)) := by
  unfold kswitch at e
  split at e
  · split at e
    · rename_i a r
      split at e
      · rename_i hz
        show (if _ then ktn _ (r.map (kpv π)) else none) = _
        rw [if_pos hz]
        exact ktn_re e
      · cases e
    · cases e
  · split at e
    · rename_i a r
      split at e
      · rename_i hz
        show (if _ then ktn _ (r.map (kpv π)) else _) = _
        rw [if_pos hz]
        exact ktn_re e
      · rename_i hz
        show (if _ then ktn _ (r.map (kpv π)) else _) = _
        rw [if_neg hz]
        split at e
        · rename_i off ho
          exact ktn_re e
        · cases e
    · cases e
  · cases e
theorem kret_re {rk : Nat} {i : Instr} {st : List Value} {v : Option Value} (e : kret rk i st = some v) : kret rk i (st.map (kpv π)) = some (v.map (kpv π)) := by
  unfold kret at e
  split at e
  · split at e
    · cases e; rfl
    · cases e
  · split at e
    · cases e; rfl
    · rename_i a
      split at e
      · rename_i hz
        cases e
        exact if_pos hz
      · cases e
    · rename_i a
      split at e
      · rename_i hz
        cases e
        exact if_pos hz
      · cases e
    · rename_i a
      split at e
      · rename_i hz
        cases e
        exact if_pos hz
      · cases e
    · cases e
  · split at e
    · cases e; rfl
    · cases e
  · cases e
theorem kok_re (v : Value) : kok (kpv π v) = kok v := by cases v <;> rfl
theorem ksp_re : ∀ l : List Value, ksp (l.map (kpv π)) = (ksp l).map (kpv π)
  | [] => rfl
  | v :: l => by
    have ih := ksp_re l
    cases v <;> simp [ksp, kpv, ih, kun]
theorem kent_re (y : Nat) (as : List Value) : kent y (as.map (kpv π)) = (kent y as).map (kpv π) := by
  unfold kent kpad
  rw [ksp_re]
  simp [kun, kpv]
theorem kprim_re (P : kPi π b c N) {x : Nat} {st st1 : List Value} (e : kprim x st = some st1) : kprim x (st.map (kpv π)) = some (st1.map (kpv π)) := by
  unfold kprim at e
  split at e
  · split at e
    · rename_i a r
      split at e
      · rename_i hz
        cases e
        exact if_pos ⟨P.lt hz.1, by simpa using hz.2⟩
      · cases e
    · cases e
  · split at e
    · split at e
      · rename_i hz
        cases e
        exact if_pos (by simpa using hz)
      · cases e
    · cases e
  · split at e
    · split at e
      · rename_i hz
        cases e
        exact if_pos (by simpa using hz)
      · cases e
    · cases e
  · split at e
    · split at e
      · rename_i hz
        cases e
        exact if_pos (by simpa using hz)
      · cases e
    · cases e
  · cases e
end KRM
