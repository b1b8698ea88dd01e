/-! What the small machine does, the machine does. -/
def kOK (y : Nat) (cs : List kI) : Prop := kdec y cs = true ∧ cs.all (fun q => kinvi q.2.1 q.2.2) = true ∧ cs.all (fun q => kthi y q.1 q.2.1 q.2.2) = true
def khd (cs : List kI) : Nat := match cs with
  | q :: _ => q.1
  | [] => 0
theorem k_rng {a n y : Nat} (h1 : a ≤ y) (h2 : y < n) : y ∈ (List.range n).drop a := by
  refine List.mem_of_getElem? (i := y - a) ?_
  rw [List.getElem?_drop, show a + (y - a) = y by omega, List.getElem?_range h2]
theorem kbok_all {y : Nat} (h1 : 1 ≤ y) (h2 : y < 182) : kbok y = true := by
  rcases (show y < 11 ∨ (11 ≤ y ∧ y < 21) ∨ (21 ≤ y ∧ y < 31) ∨ (31 ≤ y ∧ y < 41) ∨ (41 ≤ y ∧ y < 51) ∨ (51 ≤ y ∧ y < 61) ∨ (61 ≤ y ∧ y < 71) ∨ (71 ≤ y ∧ y < 81) ∨ (81 ≤ y ∧ y < 91) ∨ (91 ≤ y ∧ y < 101) ∨ (101 ≤ y ∧ y < 111) ∨ (111 ≤ y ∧ y < 121) ∨ (121 ≤ y ∧ y < 131) ∨ (131 ≤ y ∧ y < 141) ∨ (141 ≤ y ∧ y < 151) ∨ (151 ≤ y ∧ y < 161) ∨ (161 ≤ y ∧ y < 171) ∨ (171 ≤ y ∧ y < 181) ∨ (181 ≤ y ∧ y < 182) by omega) with h | ⟨a, b⟩ | ⟨a, b⟩ | ⟨a, b⟩ | ⟨a, b⟩ | ⟨a, b⟩ | ⟨a, b⟩ | ⟨a, b⟩ | ⟨a, b⟩ | ⟨a, b⟩ | ⟨a, b⟩ | ⟨a, b⟩ | ⟨a, b⟩ | ⟨a, b⟩ | ⟨a, b⟩ | ⟨a, b⟩ | ⟨a, b⟩ | ⟨a, b⟩ | ⟨a, b⟩
  · exact List.all_eq_true.mp kbok_1 y (k_rng h1 h)
  · exact List.all_eq_true.mp kbok_11 y (k_rng a b)
  · exact List.all_eq_true.mp kbok_21 y (k_rng a b)
  · exact List.all_eq_true.mp kbok_31 y (k_rng a b)
  · exact List.all_eq_true.mp kbok_41 y (k_rng a b)
  · exact List.all_eq_true.mp kbok_51 y (k_rng a b)
  · exact List.all_eq_true.mp kbok_61 y (k_rng a b)
  · exact List.all_eq_true.mp kbok_71 y (k_rng a b)
  · exact List.all_eq_true.mp kbok_81 y (k_rng a b)
  · exact List.all_eq_true.mp kbok_91 y (k_rng a b)
  · exact List.all_eq_true.mp kbok_101 y (k_rng a b)
  · exact List.all_eq_true.mp kbok_111 y (k_rng a b)
  · exact List.all_eq_true.mp kbok_121 y (k_rng a b)
  · exact List.all_eq_true.mp kbok_131 y (k_rng a b)
  · exact List.all_eq_true.mp kbok_141 y (k_rng a b)
  · exact List.all_eq_true.mp kbok_151 y (k_rng a b)
  · exact List.all_eq_true.mp kbok_161 y (k_rng a b)
  · exact List.all_eq_true.mp kbok_171 y (k_rng a b)
  · exact List.all_eq_true.mp kbok_181 y (k_rng a b)
theorem k_look {t : Nat} : ∀ {L : List (Nat × List kI)} {cs : List kI}, L.lookup t = some cs → (t, cs) ∈ L
  | [], cs, h => by cases h
  | (a, b) :: l, cs, h => by
    rw [List.lookup_cons] at h
    by_cases ht : t = a
    · subst ht
      simp at h
      subst h
      exact List.mem_cons_self
    · have hb : (t == a) = false := by simpa using ht
      rw [hb] at h
      exact List.mem_cons_of_mem _ (k_look h)
theorem kblk_ok {y t : Nat} (h1 : 1 ≤ y) (h2 : y < 182) (hne : blk y t ≠ []) : kOK y (blk y t) ∧ khd (blk y t) = t := by
  unfold blk at hne ⊢
  cases hl : (kblks y).lookup t with
  | none => rw [hl] at hne; exact absurd rfl hne
  | some cs =>
    have hm := k_look hl
    have e1 := List.all_eq_true.mp (kbok_all h1 h2) _ hm
    have e2 := List.all_eq_true.mp (List.all_eq_true.mp kinv_all y (k_rng h1 h2)) _ hm
    have e3 := List.all_eq_true.mp (List.all_eq_true.mp kth_all y (k_rng h1 h2)) _ hm
    simp only [Bool.and_eq_true, decide_eq_true_eq] at e1
    refine ⟨⟨e1.1, e2, e3⟩, ?_⟩
    have e4 := e1.2
    show khd cs = t
    cases cs with
    | nil => simp at e4
    | cons q r => simpa [khd] using e4
theorem kdec_i {y pc x : Nat} {i : Instr} {cs : List kI} (hi : i ≠ .nop) (h : kdec y ((pc, x, i) :: cs) = true) : ∃ len, decode (kby y) pc = .ok (i, len) ∧ (klen i = 0 ∨ len = klen i) ∧ (kend i x = true ∨ khd cs = pc + len ∧ cs ≠ []) ∧ klk y x i = true ∧ ktg pc x i = true ∧ kdec y cs = true := by
  unfold kdec at h
  split at h
  · rename_i hh
    cases hh
  · rename_i hh
    cases hh
    exact absurd rfl hi
  · rename_i hn hh
    cases hh
    simp only [Bool.and_eq_true] at h
    obtain ⟨⟨⟨h1, h2⟩, h3⟩, h4⟩ := h
    split at h1
    · rename_i j len hd
      simp only [Bool.and_eq_true, Bool.or_eq_true, decide_eq_true_eq] at h1
      obtain ⟨⟨rfl, h5⟩, h6⟩ := h1
      refine ⟨len, hd, h5, ?_, h2, h3, h4⟩
      rcases h6 with h6 | h6
      · exact Or.inl h6
      · split at h6
        · cases h6
        · rename_i c2 r
          exact Or.inr ⟨of_decide_eq_true h6, by simp⟩
    · cases h1
theorem ksimple_end {i : Instr} {x : Nat} {ls st : List Value} {h : kH} {q : List Value × List Value × kH} (hs : ksimple i x ls st h = some q) : kend i x = false ∧ klen i ≠ 0 ∧ i ≠ .nop := by
  cases i with
  | new idx =>
    simp only [ksimple] at hs
    split at hs
    · rename_i hq
      refine ⟨?_, (by intro z; cases z), (by intro z; cases z)⟩
      show decide (1000 ≤ x) = false
      exact decide_eq_false (by omega)
    · cases hs
  | nop => cases hs
  | _ => first | (refine ⟨rfl, (by intro z; cases z), (by intro z; cases z)⟩; done) | cases hs
theorem ksimple_grow {i : Instr} {x : Nat} {ls st : List Value} {h : kH} {q : List Value × List Value × kH} (hs : ksimple i x ls st h = some q) : h.1.1 ≤ q.2.2.1.1 ∧ h.1.2 ≤ q.2.2.1.2 := by
  cases i with
  | new idx =>
    simp only [ksimple] at hs
    split at hs
    · cases hs
      simp only [knew]
      omega
    · cases hs
  | newarray at_ =>
    cases at_ with
    | int => obtain ⟨s1, e1, rfl⟩ := k_hp_i hs; obtain ⟨n, r, rfl, hn, hn2, rfl⟩ := ko_nar_i e1; simp only [knew]; omega
    | char => obtain ⟨s1, e1, rfl⟩ := k_hp_i hs; obtain ⟨n, r, rfl, hn, hn2, rfl⟩ := ko_nar_i e1; simp only [knew]; omega
    | long => obtain ⟨s1, e1, rfl⟩ := k_hp_i hs; obtain ⟨n, r, rfl, hn, hn2, rfl⟩ := ko_nar_i e1; simp only [knew]; omega
    | _ => cases hs
  | putfield v =>
    obtain ⟨s1, e1, rfl⟩ := k_hp_i hs
    obtain ⟨a, u, r, h1, rfl, hg, rfl⟩ := ko_put_i e1
    have hcnt : h1.1 = h.1 := by
      unfold kput at hg
      split at hg
      · cases hg; rfl
      · cases hg
    show h.1.1 ≤ h1.1.1 ∧ h.1.2 ≤ h1.1.2
    rw [hcnt]
    exact ⟨Nat.le_refl _, Nat.le_refl _⟩
  | iastore => obtain ⟨s1, e1, rfl⟩ := k_hp_i hs; obtain ⟨x, i, a, r, rfl, ht, hi, rfl⟩ := ko_ast_i e1; exact ⟨Nat.le_refl _, Nat.le_refl _⟩
  | castore => obtain ⟨s1, e1, rfl⟩ := k_hp_i hs; obtain ⟨x, i, a, r, rfl, ht, hi, rfl⟩ := ko_ast_i e1; exact ⟨Nat.le_refl _, Nat.le_refl _⟩
  | lastore => obtain ⟨s1, e1, rfl⟩ := k_hp_i hs; obtain ⟨x, i, a, r, rfl, ht, hi, rfl⟩ := ko_lst_i e1; exact ⟨Nat.le_refl _, Nat.le_refl _⟩
  | iinc k v =>
    simp only [ksimple] at hs
    split at hs
    · cases hs; exact ⟨Nat.le_refl _, Nat.le_refl _⟩
    · cases hs
  | ldc k =>
    simp only [ksimple] at hs
    split at hs
    · cases hs; exact ⟨Nat.le_refl _, Nat.le_refl _⟩
    · cases hs
  | getstatic k =>
    simp only [ksimple] at hs
    split at hs
    · cases hs; exact ⟨Nat.le_refl _, Nat.le_refl _⟩
    · cases hs
  | _ => first
    | (obtain ⟨s1, e1, rfl⟩ := k_st_i hs; exact ⟨Nat.le_refl _, Nat.le_refl _⟩)
    | (obtain ⟨s1, e1, rfl⟩ := k_ls_i hs; exact ⟨Nat.le_refl _, Nat.le_refl _⟩)
    | (cases hs; exact ⟨Nat.le_refl _, Nat.le_refl _⟩)
    | cases hs
theorem krun_grow : ∀ (n d y : Nat) (cs : List kI) (ls st : List Value) (h : kH) (r : kO × kH), krun n d y cs ls st h = some r → h.1.1 ≤ r.2.1.1 ∧ h.1.2 ≤ r.2.1.2 := by
  intro n
  induction n with
  | zero => intro d y cs ls st h r e; simp [krun] at e
  | succ n ih =>
    intro d y cs ls st h r e
    cases cs with
    | nil => rw [krun.eq_def] at e; cases e
    | cons c cs =>
      obtain ⟨pc, x, i⟩ := c
      rw [krun.eq_def] at e
      dsimp only at e
      split at e
      · split at e
        · rename_i q hq
          have g1 := ksimple_grow hq
          have g2 := ih _ _ _ _ _ _ _ e
          omega
        · cases e
      · split at e
        · split at e
          · exact ih _ _ _ _ _ _ _ e
          · exact ih _ _ _ _ _ _ _ e
        · cases e
      · exact ih _ _ _ _ _ _ _ e
      · split at e
        · exact ih _ _ _ _ _ _ _ e
        · cases e
      · split at e
        · cases e; exact ⟨Nat.le_refl _, Nat.le_refl _⟩
        · cases e
      · split at e
        · cases e
        · split at e
          · rename_i q hq
            cases hc : krun n _ x (blk x 0) (kent x q.1) [] h with
            | none => rw [hc] at e; cases e
            | some r1 =>
              have g1 := ih _ _ _ _ _ _ _ hc
              rw [hc] at e
              obtain ⟨o, h1⟩ := r1
              cases o with
              | inl v => have g2 := ih _ _ _ _ _ _ _ e; dsimp only at g1; omega
              | inr a =>
                dsimp only [kthr] at e
                split at e
                · have g2 := ih _ _ _ _ _ _ _ e; dsimp only at g1; omega
                · cases e; exact g1
                · cases e
          · cases e
      · split at e
        · cases e; simp only [knew]; omega
        · cases e
      · exact ih _ _ _ _ _ _ _ e
      · split at e
        · exact ih _ _ _ _ _ _ _ e
        · cases e
      · cases e
