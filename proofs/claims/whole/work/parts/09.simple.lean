/-! One instruction without a jump, a call, an end. -/
def kFr (y : Nat) (s : State) (m : MethodId) (meth : Method) (c : Code) : Prop := c.code = kby y ∧ c.maxLocals = (kme y).2.2.2.2.1 ∧ meth.sig.returnType = krt (kme y).2.2.2.2.2 ∧ meth.locks = false ∧ s.vm.findClass (kown (kme y).1) = some m.cls ∧ c.exceptionTable.toList.map (fun q => (q.startPc, q.endPc, q.handlerPc, q.catchType)) = khl y ∧ ((kmn y).name = "<init>" → meth.name = "<init>")
theorem k_st_i {ls : List Value} {h : kH} {o : Option (List Value)} {q : List Value × List Value × kH} (e : k_st ls h o = some q) : ∃ st1, o = some st1 ∧ q = (ls, st1, h) := by
  cases o with
  | none => cases e
  | some st1 => exact ⟨st1, rfl, (Option.some.inj e).symm⟩
theorem k_ls_i {h : kH} {o : Option (List Value × List Value)} {q : List Value × List Value × kH} (e : k_ls h o = some q) : ∃ z, o = some z ∧ q = (z.1, z.2, h) := by
  cases o with
  | none => cases e
  | some z => exact ⟨z, rfl, (Option.some.inj e).symm⟩
theorem k_hp_i {ls : List Value} {o : Option (List Value × kH)} {q : List Value × List Value × kH} (e : k_hp ls o = some q) : ∃ z, o = some z ∧ q = (ls, z.1, z.2) := by
  cases o with
  | none => cases e
  | some z => exact ⟨z, rfl, (Option.some.inj e).symm⟩
theorem kl_i_i {ls st st1 : List Value} {k : Nat} (e : kl_i ls st k = some st1) : ∃ a, ls[k]? = some (.int a) ∧ st1 = .int a :: st := by
  unfold kl_i at e
  split at e
  · rename_i a ha
    exact ⟨a, ha, (Option.some.inj e).symm⟩
  · cases e
theorem kl_l_i {ls st st1 : List Value} {k : Nat} (e : kl_l ls st k = some st1) : ∃ a, ls[k]? = some (.long a) ∧ st1 = .long a :: st := by
  unfold kl_l at e
  split at e
  · rename_i a ha
    exact ⟨a, ha, (Option.some.inj e).symm⟩
  · cases e
theorem kl_a_i {ls st st1 : List Value} {k : Nat} (e : kl_a ls st k = some st1) : ∃ a, ls[k]? = some (.ref a) ∧ st1 = .ref a :: st := by
  unfold kl_a at e
  split at e
  · rename_i a ha
    exact ⟨a, ha, (Option.some.inj e).symm⟩
  · cases e
theorem ks_i_i {ls st : List Value} {k : Nat} {z : List Value × List Value} (e : ks_i ls st k = some z) : ∃ a r, st = .int a :: r ∧ k < ls.length ∧ z = (kst1 ls k (.int a), r) := by
  unfold ks_i at e
  split at e
  · split at e
    · rename_i a r hk
      exact ⟨a, r, rfl, hk, (Option.some.inj e).symm⟩
    · cases e
  · cases e
theorem ks_l_i {ls st : List Value} {k : Nat} {z : List Value × List Value} (e : ks_l ls st k = some z) : ∃ a r, st = .long a :: r ∧ k + 1 < ls.length ∧ z = (kst2 ls k (.long a), r) := by
  unfold ks_l at e
  split at e
  · split at e
    · rename_i a r hk
      exact ⟨a, r, rfl, hk, (Option.some.inj e).symm⟩
    · cases e
  · cases e
theorem ks_a_i {ls st : List Value} {k : Nat} {z : List Value × List Value} (e : ks_a ls st k = some z) : ∃ a r, st = .ref a :: r ∧ k < ls.length ∧ z = (kst1 ls k (.ref a), r) := by
  unfold ks_a at e
  split at e
  · split at e
    · rename_i a r hk
      exact ⟨a, r, rfl, hk, (Option.some.inj e).symm⟩
    · cases e
  · cases e
theorem ko_ii_i {st st1 : List Value} {f : Int32 → Int32 → Value} (e : ko_ii st f = some st1) : ∃ a b r, st = .int b :: .int a :: r ∧ st1 = f a b :: r := by
  unfold ko_ii at e
  split at e
  · rename_i b a r
    exact ⟨a, b, r, rfl, (Option.some.inj e).symm⟩
  · cases e
theorem ko_ll_i {st st1 : List Value} {f : Int64 → Int64 → Value} (e : ko_ll st f = some st1) : ∃ a b r, st = .long b :: .long a :: r ∧ st1 = f a b :: r := by
  unfold ko_ll at e
  split at e
  · rename_i b a r
    exact ⟨a, b, r, rfl, (Option.some.inj e).symm⟩
  · cases e
theorem ko_li_i {st st1 : List Value} {f : Int64 → Int32 → Value} (e : ko_li st f = some st1) : ∃ a b r, st = .int b :: .long a :: r ∧ st1 = f a b :: r := by
  unfold ko_li at e
  split at e
  · rename_i b a r
    exact ⟨a, b, r, rfl, (Option.some.inj e).symm⟩
  · cases e
theorem ko_ld_i {st st1 : List Value} {f : Int64 → Int64 → Value} (e : ko_ld st f = some st1) : ∃ a b r, st = .long b :: .long a :: r ∧ ¬ b = 0 ∧ st1 = f a b :: r := by
  unfold ko_ld at e
  split at e
  · split at e
    · cases e
    · rename_i b a r hb
      exact ⟨a, b, r, rfl, hb, (Option.some.inj e).symm⟩
  · cases e
theorem ko_i_i {st st1 : List Value} {f : Int32 → Value} (e : ko_i st f = some st1) : ∃ a r, st = .int a :: r ∧ st1 = f a :: r := by
  unfold ko_i at e
  split at e
  · rename_i a r
    exact ⟨a, r, rfl, (Option.some.inj e).symm⟩
  · cases e
theorem ko_l_i {st st1 : List Value} {f : Int64 → Value} (e : ko_l st f = some st1) : ∃ a r, st = .long a :: r ∧ st1 = f a :: r := by
  unfold ko_l at e
  split at e
  · rename_i a r
    exact ⟨a, r, rfl, (Option.some.inj e).symm⟩
  · cases e
theorem ko_dup_i {st st1 : List Value} (e : ko_dup st = some st1) : ∃ v r, st = v :: r ∧ v.category = 1 ∧ st1 = v :: v :: r := by
  unfold ko_dup at e
  split at e
  · rename_i a r
    exact ⟨_, r, rfl, rfl, (Option.some.inj e).symm⟩
  · rename_i a r
    exact ⟨_, r, rfl, rfl, (Option.some.inj e).symm⟩
  · cases e
theorem ko_pop_i {st st1 : List Value} (e : ko_pop st = some st1) : ∃ v, st = v :: st1 ∧ v.category = 1 := by
  unfold ko_pop at e
  split at e
  · cases e
    exact ⟨_, rfl, rfl⟩
  · cases e
    exact ⟨_, rfl, rfl⟩
  · cases e
theorem ko_dup2_i {st st1 : List Value} (e : ko_dup2 st = some st1) : ∃ a b r, st = .int a :: .ref b :: r ∧ st1 = .int a :: .ref b :: .int a :: .ref b :: r := by
  unfold ko_dup2 at e
  split at e
  · rename_i a b r
    exact ⟨a, b, r, rfl, (Option.some.inj e).symm⟩
  · cases e
theorem ko_get_i {h : kH} {x : Nat} {st st1 : List Value} (e : ko_get h x st = some st1) : ∃ a v r, st = .ref a :: r ∧ kget h a x = some v ∧ st1 = v :: r := by
  cases st with
  | nil => cases e
  | cons z r =>
    cases z with
    | ref a =>
      simp only [ko_get] at e
      cases hv : kget h a x with
      | none => rw [hv] at e; cases e
      | some u => rw [hv] at e; exact ⟨a, u, r, rfl, hv, (Option.some.inj e).symm⟩
    | _ => cases e
theorem ko_put_i {h : kH} {x : Nat} {st : List Value} {z : List Value × kH} (e : ko_put h x st = some z) : ∃ a v r h1, st = v :: .ref a :: r ∧ kput h a x v = some h1 ∧ z = (r, h1) := by
  cases st with
  | nil => cases e
  | cons v r0 =>
    cases r0 with
    | nil => cases e
    | cons z0 r =>
      cases z0 with
      | ref a =>
        simp only [ko_put] at e
        cases hv : kput h a x v with
        | none => rw [hv] at e; cases e
        | some h1 => rw [hv] at e; exact ⟨a, v, r, h1, rfl, hv, (Option.some.inj e).symm⟩
      | _ => cases e
theorem ko_ald_i {h : kH} {t1 t2 : Nat} {st st1 : List Value} (e : ko_ald h t1 t2 st = some st1) : ∃ i a r, st = .int i :: .ref a :: r ∧ ((h.2 a).1 = t1 ∨ (h.2 a).1 = t2) ∧ kin i (h.2 a).2.1 = true ∧ st1 = (h.2 a).2.2 i.toNatClampNeg :: r := by
  unfold ko_ald at e
  split at e
  · split at e
    · rename_i i a r hq
      exact ⟨i, a, r, rfl, hq.1, hq.2, (Option.some.inj e).symm⟩
    · cases e
  · cases e
theorem ko_ast_i {h : kH} {t : Nat} {f : Int32 → Value} {st : List Value} {z : List Value × kH} (e : ko_ast h t f st = some z) : ∃ x i a r, st = .int x :: .int i :: .ref a :: r ∧ (h.2 a).1 = t ∧ kin i (h.2 a).2.1 = true ∧ z = (r, kast h a i (f x)) := by
  unfold ko_ast at e
  split at e
  · split at e
    · rename_i x i a r hq
      exact ⟨x, i, a, r, rfl, hq.1, hq.2, (Option.some.inj e).symm⟩
    · cases e
  · cases e
theorem ko_lst_i {h : kH} {st : List Value} {z : List Value × kH} (e : ko_lst h st = some z) : ∃ x i a r, st = .long x :: .int i :: .ref a :: r ∧ (h.2 a).1 = 22 ∧ kin i (h.2 a).2.1 = true ∧ z = (r, kast h a i (.long x)) := by
  unfold ko_lst at e
  split at e
  · split at e
    · rename_i x i a r hq
      exact ⟨x, i, a, r, rfl, hq.1, hq.2, (Option.some.inj e).symm⟩
    · cases e
  · cases e
theorem ko_len_i {h : kH} {st st1 : List Value} (e : ko_len h st = some st1) : ∃ a r, st = .ref a :: r ∧ (20 ≤ (h.2 a).1 ∧ (h.2 a).1 < 24 ∨ (h.2 a).1 = 50 ∨ (h.2 a).1 = 52) ∧ st1 = .int (Int32.ofNat (h.2 a).2.1) :: r := by
  unfold ko_len at e
  split at e
  · split at e
    · rename_i a r hq
      exact ⟨a, r, rfl, hq, (Option.some.inj e).symm⟩
    · cases e
  · cases e
theorem ko_nar_i {h : kH} {t : Nat} {v : Value} {st : List Value} {z : List Value × kH} (e : ko_nar h t v st = some z) : ∃ n r, st = .int n :: r ∧ ¬ n < 0 ∧ n.toNatClampNeg ≤ 100000 ∧ z = (.ref h.1.1 :: r, knew h t n.toNatClampNeg (fun _ => v)) := by
  unfold ko_nar at e
  split at e
  · split at e
    · rename_i n r hq
      exact ⟨n, r, rfl, hq.1, hq.2, (Option.some.inj e).symm⟩
    · cases e
  · cases e
theorem k_inc_i {ls l1 : List Value} {k : Nat} {c : Int} (e : k_inc ls k c = some l1) : ∃ a, ls[k]? = some (.int a) ∧ l1 = kst1 ls k (.int (a + Int32.ofInt c)) := by
  unfold k_inc at e
  split at e
  · rename_i a ha
    exact ⟨a, ha, (Option.some.inj e).symm⟩
  · cases e
theorem klk_mem {q : Nat × Nat × Nat × Bool} (h : KFL.contains q = true) : q ∈ KFL := List.contains_iff_mem.mp h
set_option maxRecDepth 100000 in
theorem kAr_eq : [20, 21, 22].map (fun t => some (Cond.arrayClass (kat t))) = [191, 190, 271].map (fun i => lw_tbl[i]?) := rfl
theorem kAr {s : State} (K : kWd s) (args : Array Value) {t : Nat} (ht : t ∈ [20, 21, 22]) : (Cond.arrayClass (kat t)).before args s = true := K _ (klist kAr_eq ht) rfl args
section KS
variable {p : Program} {l : Launch} {e : Env} {R : Room} {s : State} {m : MethodId} {args : Array Value} {below : List Frame} {meth : Method} {c : Code} {H : Heap} {locs : List Loc} {cells slots : Nat} {Q : State → Prop}
variable {pc : Nat} {la : Array Slot} {w : kU} {h h2 : kH}
set_option maxHeartbeats 1000000 in
theorem k_simple (hx : p.tables.exec = Jvm.exec) {y : Nat} (F : kFr y s m meth c) (K : kTab w s) (S : kSt w s) (hE : kEx w) (hP : kHR w h H) {nL : Nat} {ls ls2 st st2 : List Value} (hL : kLR w la nL ls) (hlo : ∀ q ∈ locs, w.b ≤ q.base) (hN : h.1.1 ≤ 1000000) (hN2 : h2.1.1 ≤ 1000000)
    (hc : cells + h2.1.1 ≤ R.cells + h.1.1) (hsl : slots + h2.1.2 ≤ R.slots + h.1.2) {x : Nat} {i : Instr} (hd : decode (kby y) pc = .ok (i, klen i)) (hk : klk y x i = true) (hs : ksimple i x ls st h = some (ls2, st2, h2))
    (kk : ∀ (H1 : Heap) (locs1 : List Loc) (lb : Array Slot) (cells1 slots1 : Nat), cells1 + h.1.1 = cells + h2.1.1 → slots1 + h.1.2 = slots + h2.1.2 → kHR w h2 H1 → kLR w lb nL ls2 → (∀ q ∈ locs1, w.b ≤ q.base) → W p l e R s m args below meth c H1 locs1 cells1 slots1 Q (F0 m (pc + klen i) lb (st2.map (kv w)))) :
    W p l e R s m args below meth c H locs cells slots Q (F0 m pc la (st.map (kv w))) := by
  have hb := F.1
  have hown := F.2.2.2.2.1
  cases i with
  | iconst v => cases hs; exact lv_iconst hx hb hd rfl (kk H locs la cells slots rfl rfl hP hL hlo)
  | bipush v => cases hs; exact lv_bipush hx hb hd rfl (kk H locs la cells slots rfl rfl hP hL hlo)
  | sipush v => cases hs; exact lv_sipush hx hb hd rfl (kk H locs la cells slots rfl rfl hP hL hlo)
  | lconst v => cases hs; exact lv_lconst hx hb hd rfl (kk H locs la cells slots rfl rfl hP hL hlo)
  | ldc v =>
    simp only [ksimple] at hs
    split at hs
    · rename_i hlt
      cases hs
      simp only [klk, Bool.or_eq_true, List.any_eq_true, Bool.and_eq_true, decide_eq_true_eq] at hk
      rcases hk with ⟨q, hq, ⟨e1, e2⟩, e3⟩ | hk
      · subst e3
        subst e2
        exact k_ldcS hx hb S (by rw [e1]; exact hown) hq hd (kk H locs la cells slots rfl rfl hP hL hlo)
      · omega
    · cases hs
  | ldc2_w v =>
    cases hs
    simp only [klk, List.any_eq_true, Bool.and_eq_true, decide_eq_true_eq] at hk
    obtain ⟨q, hq, ⟨e1, e2⟩, e3⟩ := hk
    subst e3
    subst e2
    exact k_ldc2 hx hb K (by rw [e1]; exact hown) hq hd (kk H locs la cells slots rfl rfl hP hL hlo)
  | getstatic v =>
    simp only [ksimple] at hs
    split at hs
    · rename_i hq
      cases hs
      simp only [klk, Bool.or_eq_true, decide_eq_true_eq] at hk
      rcases hk with hk | hk
      · exact k_gets hx hb K S hown (List.contains_iff_mem.mp hk) hP hd (kk H locs la cells slots rfl rfl hP hL hlo)
      · omega
    · cases hs
  | iload k =>
    obtain ⟨s1, e1, e2⟩ := k_st_i hs
    obtain ⟨a, e3, e4⟩ := kl_i_i e1
    cases e2
    subst e4
    exact lv_iload hx hb hd (hL.at e3 (fun q z => by cases z)) (kk H locs la cells slots rfl rfl hP hL hlo)
  | iload_n k =>
    obtain ⟨s1, e1, e2⟩ := k_st_i hs
    obtain ⟨a, e3, e4⟩ := kl_i_i e1
    cases e2
    subst e4
    exact lv_iload_n hx hb hd rfl (hL.at e3 (fun q z => by cases z)) (kk H locs la cells slots rfl rfl hP hL hlo)
  | lload k =>
    obtain ⟨s1, e1, e2⟩ := k_st_i hs
    obtain ⟨a, e3, e4⟩ := kl_l_i e1
    cases e2
    subst e4
    exact lv_lload hx hb hd (hL.at e3 (fun q z => by cases z)) (kk H locs la cells slots rfl rfl hP hL hlo)
  | lload_n k =>
    obtain ⟨s1, e1, e2⟩ := k_st_i hs
    obtain ⟨a, e3, e4⟩ := kl_l_i e1
    cases e2
    subst e4
    exact lv_lload_n hx hb hd rfl (hL.at e3 (fun q z => by cases z)) (kk H locs la cells slots rfl rfl hP hL hlo)
  | aload k =>
    obtain ⟨s1, e1, e2⟩ := k_st_i hs
    obtain ⟨a, e3, e4⟩ := kl_a_i e1
    cases e2
    subst e4
    have z1 := hL.at e3 (fun q z => by cases z)
    have z2 := kk H locs la cells slots rfl rfl hP hL hlo
    rw [List.map_cons] at z2
    rcases kv_rf hE a with z | ⟨u, z⟩
    · rw [z] at z1 z2
      exact lv_aloadN hx hb hd z1 z2
    · rw [z] at z1 z2
      exact lv_aload hx hb hd z1 z2
  | aload_n k =>
    obtain ⟨s1, e1, e2⟩ := k_st_i hs
    obtain ⟨a, e3, e4⟩ := kl_a_i e1
    cases e2
    subst e4
    have z1 := hL.at e3 (fun q z => by cases z)
    have z2 := kk H locs la cells slots rfl rfl hP hL hlo
    rw [List.map_cons] at z2
    rcases kv_rf hE a with z | ⟨u, z⟩
    · rw [z] at z1 z2
      exact lv_aload_nN hx hb hd rfl z1 z2
    · rw [z] at z1 z2
      exact lv_aload_n hx hb hd rfl z1 z2
  | istore k =>
    obtain ⟨s1, e1, e2⟩ := k_ls_i hs
    obtain ⟨a, r, rfl, e3, e4⟩ := ks_i_i e1
    subst e4
    cases e2
    exact lv_istore hx hb hd hL.2 (by rw [← hL.1]; exact e3) rfl (fun lb hlb => kk H locs lb cells slots rfl rfl hP (hL.st1 hE (v := .int a) hlb) hlo)
  | istore_n k =>
    obtain ⟨s1, e1, e2⟩ := k_ls_i hs
    obtain ⟨a, r, rfl, e3, e4⟩ := ks_i_i e1
    subst e4
    cases e2
    exact lv_istore_n hx hb hd rfl hL.2 (by rw [← hL.1]; exact e3) rfl (fun lb hlb => kk H locs lb cells slots rfl rfl hP (hL.st1 hE (v := .int a) hlb) hlo)
  | lstore k =>
    obtain ⟨s1, e1, e2⟩ := k_ls_i hs
    obtain ⟨a, r, rfl, e3, e4⟩ := ks_l_i e1
    subst e4
    cases e2
    exact lv_lstore hx hb hd hL.2 (by rw [← hL.1]; exact e3) rfl (fun lb hlb => kk H locs lb cells slots rfl rfl hP (hL.st2 hE (v := .long a) hlb) hlo)
  | lstore_n k =>
    obtain ⟨s1, e1, e2⟩ := k_ls_i hs
    obtain ⟨a, r, rfl, e3, e4⟩ := ks_l_i e1
    subst e4
    cases e2
    exact lv_lstore_n hx hb hd rfl hL.2 (by rw [← hL.1]; exact e3) rfl (fun lb hlb => kk H locs lb cells slots rfl rfl hP (hL.st2 hE (v := .long a) hlb) hlo)
  | astore k =>
    obtain ⟨s1, e1, e2⟩ := k_ls_i hs
    obtain ⟨a, r, rfl, e3, e4⟩ := ks_a_i e1
    subst e4
    cases e2
    have z2 := fun lb hlb => kk H locs lb cells slots rfl rfl hP (hL.st1 hE (v := .ref a) hlb) hlo
    rw [List.map_cons]
    rcases kv_rf hE a with z | ⟨u, z⟩
    · rw [z] at z2 ⊢
      exact lv_astoreN hx hb hd hL.2 (by rw [← hL.1]; exact e3) rfl z2
    · rw [z] at z2 ⊢
      exact lv_astore hx hb hd hL.2 (by rw [← hL.1]; exact e3) rfl z2
  | astore_n k =>
    obtain ⟨s1, e1, e2⟩ := k_ls_i hs
    obtain ⟨a, r, rfl, e3, e4⟩ := ks_a_i e1
    subst e4
    cases e2
    have z2 := fun lb hlb => kk H locs lb cells slots rfl rfl hP (hL.st1 hE (v := .ref a) hlb) hlo
    rw [List.map_cons]
    rcases kv_rf hE a with z | ⟨u, z⟩
    · rw [z] at z2 ⊢
      exact lv_astore_nN hx hb hd rfl hL.2 (by rw [← hL.1]; exact e3) rfl z2
    · rw [z] at z2 ⊢
      exact lv_astore_n hx hb hd rfl hL.2 (by rw [← hL.1]; exact e3) rfl z2
  | iinc k v =>
    simp only [ksimple] at hs
    split at hs
    · rename_i l1 hl1
      obtain ⟨a, e3, e4⟩ := k_inc_i hl1
      subst e4
      cases hs
      have hm := kal_mem.mpr ⟨_, e3, (fun q z => by cases z), (rfl : kv w (.int a) = kv w (.int a))⟩
      obtain ⟨k0, hk0⟩ := List.getElem?_of_mem hm
      exact lv_iinc hx hb hd hL.2 hk0 rfl (by rw [← hL.1]; exact (List.getElem?_eq_some_iff.mp e3).1) rfl (fun lb hlb => kk H locs lb cells slots rfl rfl hP (hL.st1 hE (v := .int (a + Int32.ofInt v)) hlb) hlo)
    · cases hs
  | iadd => obtain ⟨s1, e1, e2⟩ := k_st_i hs; obtain ⟨a, b, r, rfl, rfl⟩ := ko_ii_i e1; cases e2; exact lv_iadd hx hb hd (kk H locs la cells slots rfl rfl hP hL hlo)
  | isub => obtain ⟨s1, e1, e2⟩ := k_st_i hs; obtain ⟨a, b, r, rfl, rfl⟩ := ko_ii_i e1; cases e2; exact lv_isub hx hb hd (kk H locs la cells slots rfl rfl hP hL hlo)
  | imul => obtain ⟨s1, e1, e2⟩ := k_st_i hs; obtain ⟨a, b, r, rfl, rfl⟩ := ko_ii_i e1; cases e2; exact lv_imul hx hb hd (kk H locs la cells slots rfl rfl hP hL hlo)
  | iand => obtain ⟨s1, e1, e2⟩ := k_st_i hs; obtain ⟨a, b, r, rfl, rfl⟩ := ko_ii_i e1; cases e2; exact lv_iand hx hb hd (kk H locs la cells slots rfl rfl hP hL hlo)
  | ishr => obtain ⟨s1, e1, e2⟩ := k_st_i hs; obtain ⟨a, b, r, rfl, rfl⟩ := ko_ii_i e1; cases e2; exact lv_ishr hx hb hd (kk H locs la cells slots rfl rfl hP hL hlo)
  | ladd => obtain ⟨s1, e1, e2⟩ := k_st_i hs; obtain ⟨a, b, r, rfl, rfl⟩ := ko_ll_i e1; cases e2; exact lv_ladd hx hb hd (kk H locs la cells slots rfl rfl hP hL hlo)
  | lmul => obtain ⟨s1, e1, e2⟩ := k_st_i hs; obtain ⟨a, b, r, rfl, rfl⟩ := ko_ll_i e1; cases e2; exact lv_lmul hx hb hd (kk H locs la cells slots rfl rfl hP hL hlo)
  | land => obtain ⟨s1, e1, e2⟩ := k_st_i hs; obtain ⟨a, b, r, rfl, rfl⟩ := ko_ll_i e1; cases e2; exact lv_land hx hb hd (kk H locs la cells slots rfl rfl hP hL hlo)
  | lor => obtain ⟨s1, e1, e2⟩ := k_st_i hs; obtain ⟨a, b, r, rfl, rfl⟩ := ko_ll_i e1; cases e2; exact lv_lor hx hb hd (kk H locs la cells slots rfl rfl hP hL hlo)
  | lcmp => obtain ⟨s1, e1, e2⟩ := k_st_i hs; obtain ⟨a, b, r, rfl, rfl⟩ := ko_ll_i e1; cases e2; exact W.lcmp hx hb hd (kk H locs la cells slots rfl rfl hP hL hlo)
  | ldiv => obtain ⟨s1, e1, e2⟩ := k_st_i hs; obtain ⟨a, b, r, rfl, hz, rfl⟩ := ko_ld_i e1; cases e2; exact lv_ldiv hx hb hd hz (kk H locs la cells slots rfl rfl hP hL hlo)
  | lrem => obtain ⟨s1, e1, e2⟩ := k_st_i hs; obtain ⟨a, b, r, rfl, hz, rfl⟩ := ko_ld_i e1; cases e2; exact lv_lrem hx hb hd hz (kk H locs la cells slots rfl rfl hP hL hlo)
  | lneg => obtain ⟨s1, e1, e2⟩ := k_st_i hs; obtain ⟨a, r, rfl, rfl⟩ := ko_l_i e1; cases e2; exact lv_lneg hx hb hd (kk H locs la cells slots rfl rfl hP hL hlo)
  | lshl => obtain ⟨s1, e1, e2⟩ := k_st_i hs; obtain ⟨a, b, r, rfl, rfl⟩ := ko_li_i e1; cases e2; exact lv_lshl hx hb hd rfl (kk H locs la cells slots rfl rfl hP hL hlo)
  | lshr => obtain ⟨s1, e1, e2⟩ := k_st_i hs; obtain ⟨a, b, r, rfl, rfl⟩ := ko_li_i e1; cases e2; exact lv_lshr hx hb hd rfl (kk H locs la cells slots rfl rfl hP hL hlo)
  | lushr => obtain ⟨s1, e1, e2⟩ := k_st_i hs; obtain ⟨a, b, r, rfl, rfl⟩ := ko_li_i e1; cases e2; exact lv_lushr hx hb hd rfl (kk H locs la cells slots rfl rfl hP hL hlo)
  | i2l => obtain ⟨s1, e1, e2⟩ := k_st_i hs; obtain ⟨a, r, rfl, rfl⟩ := ko_i_i e1; cases e2; exact lv_i2l hx hb hd rfl (kk H locs la cells slots rfl rfl hP hL hlo)
  | i2c => obtain ⟨s1, e1, e2⟩ := k_st_i hs; obtain ⟨a, r, rfl, rfl⟩ := ko_i_i e1; cases e2; exact lv_i2c hx hb hd rfl (kk H locs la cells slots rfl rfl hP hL hlo)
  | i2b => obtain ⟨s1, e1, e2⟩ := k_st_i hs; obtain ⟨a, r, rfl, rfl⟩ := ko_i_i e1; cases e2; exact lv_i2b hx hb hd rfl (kk H locs la cells slots rfl rfl hP hL hlo)
  | l2i => obtain ⟨s1, e1, e2⟩ := k_st_i hs; obtain ⟨a, r, rfl, rfl⟩ := ko_l_i e1; cases e2; exact lv_l2i hx hb hd rfl (kk H locs la cells slots rfl rfl hP hL hlo)
  | dup => obtain ⟨s1, e1, e2⟩ := k_st_i hs; obtain ⟨v, r, rfl, hcat, rfl⟩ := ko_dup_i e1; cases e2; exact lv_dup hx hb hd (by rw [kv_cat hE]; exact hcat) (kk H locs la cells slots rfl rfl hP hL hlo)
  | pop => obtain ⟨s1, e1, e2⟩ := k_st_i hs; obtain ⟨v, rfl, hcat⟩ := ko_pop_i e1; cases e2; exact lv_pop (va := kv w v) hx hb hd (by rw [kv_cat hE]; exact hcat) (kk H locs la cells slots rfl rfl hP hL hlo)
  | dup2 => obtain ⟨s1, e1, e2⟩ := k_st_i hs; obtain ⟨a, b, r, rfl, rfl⟩ := ko_dup2_i e1; cases e2; exact lv_dup2_11 hx hb hd rfl (by rw [kv_cat hE]; rfl) (kk H locs la cells slots rfl rfl hP hL hlo)
  | getfield v =>
    obtain ⟨s1, e1, e2⟩ := k_st_i hs
    obtain ⟨a, u, r, rfl, hg, rfl⟩ := ko_get_i e1
    cases e2
    simp only [klk, Bool.or_eq_true] at hk
    rcases hk with (hk | hk) | hk
    · exact k_get hx hb K hN hown (klk_mem hk) hP hg hd (kk H locs la cells slots rfl rfl hP hL hlo)
    · exact k_get hx hb K hN hown (klk_mem hk) hP hg hd (kk H locs la cells slots rfl rfl hP hL hlo)
    · exact k_sget hx hb K S hown (List.contains_iff_mem.mp hk) hP hg hd (kk H locs la cells slots rfl rfl hP hL hlo)
  | putfield v =>
    obtain ⟨s1, e1, e2⟩ := k_hp_i hs
    obtain ⟨a, u, r, h1, rfl, hg, rfl⟩ := ko_put_i e1
    cases e2
    simp only [klk, Bool.or_eq_true, Bool.and_eq_true, Bool.not_eq_true', decide_eq_true_eq] at hk
    have hcnt : h1.1 = h.1 := by
      unfold kput at hg
      split at hg
      · cases hg; rfl
      · cases hg
    have hfi : (kT (x / 100 % 100) (x % 100)).2.2.2 = true → meth.name = "<init>" ∧ kown (kme y).1 = kcn (x / 100 % 100) := by
      intro hf
      rcases hk.2 with z | z
      · rw [hf] at z; cases z
      · exact ⟨F.2.2.2.2.2.2 z.1, by rw [← z.2]; rfl⟩
    rcases hk.1 with z | z
    · exact k_put hx hb K hN hown (klk_mem z) hfi hP hlo hg hd (fun H1 locs1 hP1 hl1 => kk H1 locs1 la cells slots (by rw [hcnt]) (by rw [hcnt]) hP1 hL hl1)
    · exact k_put hx hb K hN hown (klk_mem z) hfi hP hlo hg hd (fun H1 locs1 hP1 hl1 => kk H1 locs1 la cells slots (by rw [hcnt]) (by rw [hcnt]) hP1 hL hl1)
  | iaload =>
    obtain ⟨s1, e1, e2⟩ := k_st_i hs
    obtain ⟨i, a, r, rfl, ht, hi, rfl⟩ := ko_ald_i e1
    cases e2
    rcases ht with ht | ht
    · exact k_iald hx hb K hN hP ht hi hd (kk H locs la cells slots rfl rfl hP hL hlo)
    · exact k_xld hx hb S hP ht hi hd (kk H locs la cells slots rfl rfl hP hL hlo)
  | caload =>
    obtain ⟨s1, e1, e2⟩ := k_st_i hs
    obtain ⟨i, a, r, rfl, ht, hi, rfl⟩ := ko_ald_i e1
    cases e2
    exact k_cald hx hb K hN hP (ht.elim id id) hi hd (kk H locs la cells slots rfl rfl hP hL hlo)
  | laload =>
    obtain ⟨s1, e1, e2⟩ := k_st_i hs
    obtain ⟨i, a, r, rfl, ht, hi, rfl⟩ := ko_ald_i e1
    cases e2
    exact k_lald hx hb K hN hP (ht.elim id id) hi hd (kk H locs la cells slots rfl rfl hP hL hlo)
  | baload =>
    obtain ⟨s1, e1, e2⟩ := k_st_i hs
    obtain ⟨i, a, r, rfl, ht, hi, rfl⟩ := ko_ald_i e1
    cases e2
    exact k_bald hx hb S hP (ht.elim id id) hi hd (kk H locs la cells slots rfl rfl hP hL hlo)
  | iastore =>
    obtain ⟨s1, e1, e2⟩ := k_hp_i hs
    obtain ⟨x, i, a, r, rfl, ht, hi, rfl⟩ := ko_ast_i e1
    cases e2
    exact k_iast hx hb K hN hP hlo ht hi hd (fun H1 locs1 hP1 hl1 => kk H1 locs1 la cells slots rfl rfl hP1 hL hl1)
  | castore =>
    obtain ⟨s1, e1, e2⟩ := k_hp_i hs
    obtain ⟨x, i, a, r, rfl, ht, hi, rfl⟩ := ko_ast_i e1
    cases e2
    exact k_cast hx hb K hN hP hlo ht hi hd (fun H1 locs1 hP1 hl1 => kk H1 locs1 la cells slots rfl rfl hP1 hL hl1)
  | lastore =>
    obtain ⟨s1, e1, e2⟩ := k_hp_i hs
    obtain ⟨x, i, a, r, rfl, ht, hi, rfl⟩ := ko_lst_i e1
    cases e2
    exact k_last hx hb K hN hP hlo ht hi hd (fun H1 locs1 hP1 hl1 => kk H1 locs1 la cells slots rfl rfl hP1 hL hl1)
  | arraylength =>
    obtain ⟨s1, e1, e2⟩ := k_st_i hs
    obtain ⟨a, r, rfl, ht, rfl⟩ := ko_len_i e1
    cases e2
    rcases ht with ht | ht | ht
    · have h23 : (h.2 a).1 < 23 := by
        rcases hP.2.2 a (by omega) with ⟨q1, q2⟩ | ⟨q1, q2, q3⟩
        · rcases q2 with ⟨z1, z2⟩ | ⟨z1, z2, z3⟩ | ⟨z1, z2, z3⟩ <;> omega
        · rw [q2] at ht; omega
      exact k_alen hx hb K hN hP ht.1 h23 rfl hd (kk H locs la cells slots rfl rfl hP hL hlo)
    · exact k_xlen hx hb S hP ht hd (kk H locs la cells slots rfl rfl hP hL hlo)
    · exact k_blen hx hb S hP ht hd (kk H locs la cells slots rfl rfl hP hL hlo)
  | newarray at_ =>
    cases at_ with
    | int =>
      obtain ⟨s1, e1, e2⟩ := k_hp_i hs
      obtain ⟨n, r, rfl, hn, hn2, rfl⟩ := ko_nar_i e1
      cases e2
      simp only [knew] at hc hsl hN2
      exact k_nar (t := 20) (atype := .int) hx hb K hP (by decide) (by decide) rfl (kAr K.1 args (t := 20) (by decide)) hn hn2 (by omega) (by omega) (by omega) hd (fun H1 hP1 => kk H1 locs la (cells + 1) (slots + n.toNatClampNeg) (by simp only [knew]; omega) (by simp only [knew]; omega) hP1 hL hlo)
    | char =>
      obtain ⟨s1, e1, e2⟩ := k_hp_i hs
      obtain ⟨n, r, rfl, hn, hn2, rfl⟩ := ko_nar_i e1
      cases e2
      simp only [knew] at hc hsl hN2
      exact k_nar (t := 21) (atype := .char) hx hb K hP (by decide) (by decide) rfl (kAr K.1 args (t := 21) (by decide)) hn hn2 (by omega) (by omega) (by omega) hd (fun H1 hP1 => kk H1 locs la (cells + 1) (slots + n.toNatClampNeg) (by simp only [knew]; omega) (by simp only [knew]; omega) hP1 hL hlo)
    | long =>
      obtain ⟨s1, e1, e2⟩ := k_hp_i hs
      obtain ⟨n, r, rfl, hn, hn2, rfl⟩ := ko_nar_i e1
      cases e2
      simp only [knew] at hc hsl hN2
      exact k_nar (t := 22) (atype := .long) hx hb K hP (by decide) (by decide) rfl (kAr K.1 args (t := 22) (by decide)) hn hn2 (by omega) (by omega) (by omega) hd (fun H1 hP1 => kk H1 locs la (cells + 1) (slots + n.toNatClampNeg) (by simp only [knew]; omega) (by simp only [knew]; omega) hP1 hL hlo)
    | _ => cases hs
  | new idx =>
    simp only [ksimple] at hs
    split at hs
    · rename_i hq
      cases hs
      simp only [knew] at hc hsl hN2
      simp only [klk] at hk
      rw [if_pos (by omega)] at hk
      exact k_new hx hb K hP hown (List.contains_iff_mem.mp hk) (by omega) (by omega) (by omega) hd (fun H1 hP1 => kk H1 locs la (cells + 1) (slots + kN x) (by simp only [knew]; omega) (by simp only [knew]; omega) hP1 hL hlo)
    · cases hs
  | _ => cases hs
end KS
