/-! Branches, switches, ends, and the members that are no rows here. -/
def kout (w : kU) (o : kO) : Outcome := match o with
  | .inl v => .returned (v.map (kv w))
  | .inr a => .threw (w.b + a)
/-- the end of a method: C cells of S slots in all were made since its start -/
def kQ (w : kU) (below : List Frame) (s : State) (C S : Nat) (r : kO × kH) : State → Prop := fun t => t.status = .running ∧ Ended t below (kout w r.1) ∧ s.WarmedH t.vm ∧ (∃ L, (∀ q ∈ L, w.b ≤ q.base) ∧ s.sameButNew ({ t with vm := s.vm } : State) L C S) ∧ kHR w r.2 t.heap
set_option maxRecDepth 100000 in
theorem KMM_eq : KMM.map (fun q => some (Cond.methodLink (kown q.1) q.2.1 (if q.2.2 = 1001 then Lib.MathLoose.abs_long.x else if q.2.2 = 1002 then Lib.Math.max.name else Lib.Math.min.name))) = KMMp.map (fun i => lw_tbl[i]?) := rfl
set_option maxRecDepth 100000 in
theorem kMt_eq : [Cond.static Lib.MathLoose.abs_long.x, Cond.static Lib.Math.max.name, Cond.static Lib.Math.min.name, Cond.initialized "java/lang/Math", Cond.instanceMethod objectInit].map (fun q => some q) = [984, 720, 723, 139, 149].map (fun i => lw_tbl[i]?) := rfl
set_option maxRecDepth 100000 in
theorem kMc_eq : [Cond.code Lib.MathLoose.abs_long.x Lib.MathLoose.abs_long.code 2 (some .long), Cond.code Lib.Math.max.name Lib.Math.max.code 2 (some .int), Cond.code Lib.Math.min.name Lib.Math.min.code 2 (some .int), Cond.code objectInit ⟨#[0xb1]⟩ 1 none].map (fun q => some q) = [985, 721, 724, 150].map (fun i => lw_tbl[i]?) := rfl
theorem k_sum {w : kU} (hE : kEx w) : ∀ st : List Value, ((st.map (kv w)).map fun v => v.category).sum ≤ 2 * st.length
  | [] => Nat.le_refl _
  | v :: l => by
    have h1 := k_sum hE l
    have h2 : (kv w v).category ≤ 2 := by rcases lv_cat (kv w v) with z | z <;> omega
    simp only [List.map_cons, List.sum_cons, List.length_cons]
    omega
section KF
variable {p : Program} {l : Launch} {e : Env} {R : Room} {s : State} {m : MethodId} {args : Array Value} {below : List Frame} {meth : Method} {c : Code} {H : Heap} {locs : List Loc} {cells slots : Nat} {Q Q' : State → Prop}
variable {pc : Nat} {la : Array Slot} {w : kU} {h : kH}
theorem k_mono {g : JFrame} (hq : ∀ t, Q t → Q' t) (k : W p l e R s m args below meth c H locs cells slots Q g) : W p l e R s m args below meth c H locs cells slots Q' g := fun T hT X => by
  obtain ⟨t, a, b⟩ := k T hT X
  exact ⟨t, a, hq t b⟩
theorem k_br (hx : p.tables.exec = Jvm.exec) {cc : ByteArray} (hb : c.code = cc) {x : Nat} {i : Instr} (hd : decode cc pc = .ok (i, 3)) (ht : ktg pc x i = true) {st st2 : List Value} {bo : Bool} (hs : kbr i st = some (bo, st2))
    (kt : bo = true → W p l e R s m args below meth c H locs cells slots Q (F0 m x la (st2.map (kv w)))) (kf : bo = false → W p l e R s m args below meth c H locs cells slots Q (F0 m (pc + 3) la (st2.map (kv w)))) : W p l e R s m args below meth c H locs cells slots Q (F0 m pc la (st.map (kv w))) := by
  cases i with
  | ifCond cd off =>
    simp only [ktg, decide_eq_true_eq] at ht
    simp only [kbr] at hs
    split at hs
    · rename_i a r
      cases hs
      cases cd with
      | eq => exact lv_if_eq hx hb hd ht (fun z => kt (decide_eq_true z)) (fun z => kf (decide_eq_false z))
      | ne => exact lv_if_ne hx hb hd ht (fun z => kt (decide_eq_true z)) (fun z => kf (decide_eq_false (fun q => q z)))
      | lt => exact lv_if_lt hx hb hd ht (fun z => kt (decide_eq_true z)) (fun z => kf (decide_eq_false z))
      | ge => exact lv_if_ge hx hb hd ht (fun z => kt (decide_eq_true z)) (fun z => kf (decide_eq_false z))
      | gt => exact lv_if_gt hx hb hd ht (fun z => kt (decide_eq_true z)) (fun z => kf (decide_eq_false z))
      | le => exact lv_if_le hx hb hd ht (fun z => kt (decide_eq_true z)) (fun z => kf (decide_eq_false z))
    · cases hs
  | if_icmp cd off =>
    simp only [ktg, decide_eq_true_eq] at ht
    simp only [kbr] at hs
    split at hs
    · rename_i b a r
      cases hs
      cases cd with
      | eq => exact lv_icmp_eq hx hb hd ht (fun z => kt (decide_eq_true z)) (fun z => kf (decide_eq_false z))
      | ne => exact lv_icmp_ne hx hb hd ht (fun z => kt (decide_eq_true z)) (fun z => kf (decide_eq_false (fun q => q z)))
      | lt => exact lv_icmp_lt hx hb hd ht (fun z => kt (decide_eq_true z)) (fun z => kf (decide_eq_false z))
      | ge => exact lv_icmp_ge hx hb hd ht (fun z => kt (decide_eq_true z)) (fun z => kf (decide_eq_false z))
      | gt => exact lv_icmp_gt hx hb hd ht (fun z => kt (decide_eq_true z)) (fun z => kf (decide_eq_false z))
      | le => exact lv_icmp_le hx hb hd ht (fun z => kt (decide_eq_true z)) (fun z => kf (decide_eq_false z))
    · cases hs
  | _ => cases hs
theorem ktn_i {z : Int} {st : List Value} {q : Nat × List Value} (e : ktn z st = some q) : z = (q.1 : Int) ∧ q.2 = st := by
  unfold ktn at e
  split at e
  · rename_i hz
    cases e
    exact ⟨(Int.toNat_of_nonneg hz).symm, rfl⟩
  · cases e
theorem k_sw (hx : p.tables.exec = Jvm.exec) {cc : ByteArray} (hb : c.code = cc) {i : Instr} {len : Nat} (hd : decode cc pc = .ok (i, len)) {st : List Value} {q : Nat × List Value} (hs : kswitch i pc st = some q)
    (kt : W p l e R s m args below meth c H locs cells slots Q (F0 m q.1 la (q.2.map (kv w)))) : W p l e R s m args below meth c H locs cells slots Q (F0 m pc la (st.map (kv w))) := by
  cases i with
  | lookupswitch dflt ps =>
    simp only [kswitch] at hs
    split at hs
    · rename_i a r
      split at hs
      · rename_i hp
        obtain ⟨e1, e2⟩ := ktn_i hs
        rw [e2] at kt
        exact lv_lookup hx hb hd hp rfl e1 kt
      · cases hs
    · cases hs
  | tableswitch dflt lo hi offs =>
    simp only [kswitch] at hs
    split at hs
    · rename_i a r
      split at hs
      · rename_i hp
        obtain ⟨e1, e2⟩ := ktn_i hs
        rw [e2] at kt
        exact lv_tableOut hx hb hd hp e1 kt
      · rename_i hp
        split at hs
        · rename_i off ho
          obtain ⟨e1, e2⟩ := ktn_i hs
          rw [e2] at kt
          exact lv_tableIn hx hb hd (fun z => hp (Or.inl z)) (fun z => hp (Or.inr z)) ho e1 kt
        · cases hs
    · cases hs
  | _ => cases hs
theorem k_end {Qc : Array Value → State → Outcome → State → Prop} {v : Option Value} (hP : kHR w h H) (hq : ∀ o t, Qc args s o t → o = .returned (v.map (kv w)) ∧ t.heap = H) : ∀ t, MQ below Qc args s cells slots (fun q => w.b ≤ q) t → kQ w below s cells slots (.inl v, h) t := by
  rintro t ⟨o, h1, h2, h3, L, ⟨-, h4, h5⟩, h6⟩
  obtain ⟨e1, e2⟩ := hq o t h3
  rw [e1] at h2
  exact ⟨h1, h2, h4, ⟨L, h6, h5⟩, by rw [e2]; exact hP⟩
theorem k_ret (hx : p.tables.exec = Jvm.exec) {y : Nat} (F : kFr y s m meth c) (hP : kHR w h H) (hlo : ∀ q ∈ locs, w.b ≤ q.base) {i : Instr} (hd : decode (kby y) pc = .ok (i, klen i)) {st : List Value} {v : Option Value} (hs : kret (kme y).2.2.2.2.2 i st = some v) :
    W p l e R s m args below meth c H locs cells slots (kQ w below s cells slots (.inl v, h)) (F0 m pc la (st.map (kv w))) := by
  have hb := F.1
  have hr := F.2.2.1
  have hlocks := F.2.2.2.1
  generalize (kme y).2.2.2.2.2 = rk at hs hr
  cases i with
  | return_ =>
    simp only [kret] at hs
    split at hs
    · cases hs
      exact k_mono (k_end (Qc := fun _ _ o t => o = .returned none ∧ t.heap = H) hP (fun o t z => z)) (W.vret hx hb hr (fun t ht _ => ⟨rfl, ht⟩) hlo hd hlocks)
    · cases hs
  | ireturn =>
    simp only [kret] at hs
    split at hs
    · rename_i a
      cases hs
      exact k_mono (k_end (Qc := fun _ _ o t => o = .returned (some (.int a)) ∧ t.heap = H) hP (fun o t z => z)) (W.zret hx hb hr rfl (fun t ht _ => ⟨rfl, ht⟩) hlo hd hlocks)
    · rename_i a
      split at hs
      · rename_i hz
        cases hs
        exact k_mono (k_end (Qc := fun _ _ o t => o = .returned (some (.int a)) ∧ t.heap = H) hP (fun o t z => z)) (W.zret hx hb hr (by rcases hz with rfl | rfl <;> rfl) (fun t ht _ => ⟨rfl, ht⟩) hlo hd hlocks)
      · cases hs
    · rename_i a
      split at hs
      · rename_i hz
        cases hs
        exact k_mono (k_end (Qc := fun _ _ o t => o = .returned (some (.int a)) ∧ t.heap = H) hP (fun o t z => z)) (W.zret hx hb hr (congrArg Value.int hz) (fun t ht _ => ⟨rfl, ht⟩) hlo hd hlocks)
      · cases hs
    · rename_i a
      split at hs
      · rename_i hz
        cases hs
        exact k_mono (k_end (Qc := fun _ _ o t => o = .returned (some (.int a)) ∧ t.heap = H) hP (fun o t z => z)) (W.zret hx hb hr (congrArg Value.int hz) (fun t ht _ => ⟨rfl, ht⟩) hlo hd hlocks)
      · cases hs
    · cases hs
  | lreturn =>
    simp only [kret] at hs
    split at hs
    · rename_i a
      cases hs
      exact k_mono (k_end (Qc := fun _ _ o t => o = .returned (some (.long a)) ∧ t.heap = H) hP (fun o t z => z)) (W.lret hx hb hr (fun t ht _ => ⟨rfl, ht⟩) hlo hd hlocks)
    · cases hs
  | _ => cases hs
theorem k_prim (hx : p.tables.exec = Jvm.exec) {y : Nat} (F : kFr y s m meth c) (K : kTab w s) (hE : kEx w) {ls : List Value} (hL : kLR w la (kme y).2.2.2.2.1 ls) (hf : 1 ≤ R.frames) (hlc : 40 ≤ R.locals) (hc : cells ≤ R.cells) (hsl : slots ≤ R.slots) {x : Nat} {i : Instr} (hd : decode (kby y) pc = .ok (i, klen i)) (hk : klk y x i = true) (hkd : kkind i x = 8) {st st1 : List Value} (hs : kprim x st = some st1)
    (kt : W p l e R s m args below meth c H locs cells slots Q (F0 m (pc + klen i) la (st1.map (kv w)))) : W p l e R s m args below meth c H locs cells slots Q (F0 m pc la (st.map (kv w))) := by
  have hb := F.1
  have hown := F.2.2.2.2.1
  have hsz : la.size = c.maxLocals := hL.2.1.trans F.2.1.symm
  have hlist : ∀ {q : Cond} {i : Nat}, lw_tbl[i]? = some q → q ∈ lw_tbl := fun z => List.mem_of_getElem? z
  cases i with
  | invokespecial idx =>
    simp only [kkind] at hkd
    split at hkd
    · cases hkd
    · rename_i hlt
      simp only [klk, Bool.or_eq_true, Bool.and_eq_true, decide_eq_true_eq] at hk
      rcases hk with ((hk | hk) | hk) | hk
      · exact absurd (List.all_eq_true.mp (show KML.all (fun q => decide (q.2.2.1 < 1000)) = true by decide +kernel) _ (List.contains_iff_mem.mp hk)) (by simpa using hlt)
      · exact absurd (List.all_eq_true.mp (show KML.all (fun q => decide (q.2.2.1 < 1000)) = true by decide +kernel) _ (List.contains_iff_mem.mp hk)) (by simpa using hlt)
      · obtain ⟨hk1, rfl⟩ := hk
        simp only [kprim] at hs
        split at hs
        · rename_i a r
          split at hs
          · rename_i hr
            cases hs
            have hsum := k_sum hE st1
            rw [List.map_cons, kv_own hr.1]
            exact W.objInit hx hb hown (K.1 _ (klist KOB_eq (q := ((kme y).1, idx)) (List.contains_iff_mem.mp hk1)) rfl args) (K.1 _ (klist kMt_eq (q := Cond.instanceMethod objectInit) (by simp)) rfl args) (K.1 _ (klist kMc_eq (q := Cond.code objectInit ⟨#[0xb1]⟩ 1 none) (by simp)) rfl args) rfl hsz rfl hd hf (by show 2 * 0 + _ + 12 ≤ _; omega) kt
          · cases hs
        · cases hs
      · omega
  | invokestatic idx =>
    simp only [kkind] at hkd
    split at hkd
    · cases hkd
    · rename_i hlt
      simp only [klk, Bool.or_eq_true, Bool.and_eq_true, decide_eq_true_eq] at hk
      rcases hk with ((hk | hk) | hk) | hk
      · exact absurd (List.all_eq_true.mp (show KML.all (fun q => decide (q.2.2.1 < 1000)) = true by decide +kernel) _ (List.contains_iff_mem.mp hk)) (by simpa using hlt)
      · exact absurd (List.all_eq_true.mp (show KML.all (fun q => decide (q.2.2.1 < 1000)) = true by decide +kernel) _ (List.contains_iff_mem.mp hk)) (by simpa using hlt)
      · have hln := K.1 _ (klist KMM_eq (List.contains_iff_mem.mp hk)) rfl args
        have hz := K.1 _ (klist kMt_eq (q := Cond.initialized "java/lang/Math") (by decide)) rfl args
        rcases (show x = 1001 ∨ x = 1002 ∨ x = 1003 by
          have := List.all_eq_true.mp (show KMM.all (fun q => decide (q.2.2 = 1001 ∨ q.2.2 = 1002 ∨ q.2.2 = 1003)) = true by decide +kernel) _ (List.contains_iff_mem.mp hk)
          exact of_decide_eq_true this) with rfl | rfl | rfl
        · simp only [kprim] at hs
          split at hs
          · rename_i a r
            split at hs
            · cases hs
              have hsum := k_sum hE r
              exact va_mabs_long hx hb hsz.symm hown hln (K.1 _ (klist kMt_eq (q := Cond.static Lib.MathLoose.abs_long.x) (by decide)) rfl args) hz (K.1 _ (klist kMc_eq (q := Cond.code Lib.MathLoose.abs_long.x Lib.MathLoose.abs_long.code 2 (some .long)) (by decide)) rfl args) hf (by omega) hc hsl hd kt
            · cases hs
          · cases hs
        · simp only [kprim] at hs
          split at hs
          · rename_i b a r
            split at hs
            · cases hs
              have hsum := k_sum hE r
              exact va_mmax hx hb hsz.symm hown hln (K.1 _ (klist kMt_eq (q := Cond.static Lib.Math.max.name) (by decide)) rfl args) hz (K.1 _ (klist kMc_eq (q := Cond.code Lib.Math.max.name Lib.Math.max.code 2 (some .int)) (by decide)) rfl args) hf (by omega) hc hsl hd kt
            · cases hs
          · cases hs
        · simp only [kprim] at hs
          split at hs
          · rename_i b a r
            split at hs
            · cases hs
              have hsum := k_sum hE r
              exact va_mmin hx hb hsz.symm hown hln (K.1 _ (klist kMt_eq (q := Cond.static Lib.Math.min.name) (by decide)) rfl args) hz (K.1 _ (klist kMc_eq (q := Cond.code Lib.Math.min.name Lib.Math.min.code 2 (some .int)) (by decide)) rfl args) hf (by omega) hc hsl hd kt
            · cases hs
          · cases hs
      · omega
  | _ => first | cases hkd | (simp only [kkind] at hkd; split at hkd <;> cases hkd)
end KF
