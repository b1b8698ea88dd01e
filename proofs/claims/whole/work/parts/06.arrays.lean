/-! Arrays and new objects. -/
section KA
variable {p : Program} {l : Launch} {e : Env} {R : Room} {s : State} {m : MethodId} {args : Array Value} {below : List Frame} {meth : Method} {c : Code} {H : Heap} {locs : List Loc} {cells slots : Nat} {Q : State → Prop}
variable {cc : ByteArray} {pc : Nat} {ls : Array Slot} {rest : List Value} {w : kU} {h : kH}
theorem kin_ok {i : Int32} {n : Nat} (hi : kin i n = true) : ¬ (i < 0 ∨ n ≤ i.toNatClampNeg) ∧ i.toNatClampNeg < n := by
  have h1 : ¬ (i < 0 ∨ n ≤ i.toNatClampNeg) := by
    intro z
    simp only [kin, Bool.not_eq_true', Bool.or_eq_false_iff, decide_eq_false_iff_not] at hi
    rcases z with z | z
    · exact hi.1 z
    · exact hi.2 z
  exact ⟨h1, Nat.not_le.mp fun q => h1 (Or.inr q)⟩
theorem k_iald (hx : p.tables.exec = Jvm.exec) (hb : c.code = cc) (K : kTab w s) (hN : h.1.1 ≤ 1000000) (hP : kHR w h H) {a : Nat} {i : Int32} (ht : (h.2 a).1 = 20) (hi : kin i (h.2 a).2.1 = true) (hdg : decode cc pc = .ok (.iaload, 1))
    (kk : W p l e R s m args below meth c H locs cells slots Q (F0 m (pc + 1) ls (kv w ((h.2 a).2.2 i.toNatClampNeg) :: rest))) : W p l e R s m args below meth c H locs cells slots Q (F0 m pc ls (.int i :: kv w (.ref a) :: rest)) := by
  obtain ⟨q1, q2⟩ := k_ar hP (by decide) (by decide) ht
  obtain ⟨z1, z2⟩ := kin_ok hi
  rw [kv_own (Nat.lt_of_lt_of_le q1 hN)]
  exact W.iald hx hb q2 ((K.2.2.1 20 (by decide) (by decide)).1 _ _) (fun q => by cases q) (by rw [arrV_size]; exact z1) (by rw [arrV_read _ _ z2]) rfl rfl hdg kk
theorem k_cald (hx : p.tables.exec = Jvm.exec) (hb : c.code = cc) (K : kTab w s) (hN : h.1.1 ≤ 1000000) (hP : kHR w h H) {a : Nat} {i : Int32} (ht : (h.2 a).1 = 21) (hi : kin i (h.2 a).2.1 = true) (hdg : decode cc pc = .ok (.caload, 1))
    (kk : W p l e R s m args below meth c H locs cells slots Q (F0 m (pc + 1) ls (kv w ((h.2 a).2.2 i.toNatClampNeg) :: rest))) : W p l e R s m args below meth c H locs cells slots Q (F0 m pc ls (.int i :: kv w (.ref a) :: rest)) := by
  obtain ⟨q1, q2⟩ := k_ar hP (by decide) (by decide) ht
  obtain ⟨z1, z2⟩ := kin_ok hi
  rw [kv_own (Nat.lt_of_lt_of_le q1 hN)]
  exact W.cald hx hb q2 ((K.2.2.1 21 (by decide) (by decide)).1 _ _) (fun q => by cases q) (by rw [arrV_size]; exact z1) (by rw [arrV_read _ _ z2]) rfl rfl hdg kk
theorem k_lald (hx : p.tables.exec = Jvm.exec) (hb : c.code = cc) (K : kTab w s) (hN : h.1.1 ≤ 1000000) (hP : kHR w h H) {a : Nat} {i : Int32} (ht : (h.2 a).1 = 22) (hi : kin i (h.2 a).2.1 = true) (hdg : decode cc pc = .ok (.laload, 1))
    (kk : W p l e R s m args below meth c H locs cells slots Q (F0 m (pc + 1) ls (kv w ((h.2 a).2.2 i.toNatClampNeg) :: rest))) : W p l e R s m args below meth c H locs cells slots Q (F0 m pc ls (.int i :: kv w (.ref a) :: rest)) := by
  obtain ⟨q1, q2⟩ := k_ar hP (by decide) (by decide) ht
  obtain ⟨z1, z2⟩ := kin_ok hi
  rw [kv_own (Nat.lt_of_lt_of_le q1 hN)]
  exact W.lald hx hb q2 ((K.2.2.1 22 (by decide) (by decide)).1 _ _) (fun q => by cases q) (by rw [arrV_size]; exact z1) (by rw [arrV_read _ _ z2]) rfl rfl hdg kk
theorem k_stc {t a n : Nat} {f : Nat → Value} {i : Nat} {v : Value} (h1 : 20 ≤ t) (h2 : t < 23) {H1 : Heap} (he : H1[w.b + a]? = some ((arrV (w.A t) n (fun j => kv w (f j))).setSlot i (kv w v))) : kCell w a (t, n, kup f i v) H1 := by
  refine Or.inr (Or.inl ⟨h1, h2, ?_⟩)
  rw [he, arrV_store]
  congr 2
  funext j
  exact kup_eq f w i v j
theorem k_iast (hx : p.tables.exec = Jvm.exec) (hb : c.code = cc) (K : kTab w s) (hN : h.1.1 ≤ 1000000) (hP : kHR w h H) (hlo : ∀ q ∈ locs, w.b ≤ q.base) {a : Nat} {i x : Int32} (ht : (h.2 a).1 = 20) (hi : kin i (h.2 a).2.1 = true) (hdg : decode cc pc = .ok (.iastore, 1))
    (kk : ∀ (H1 : Heap) (locs1 : List Loc), kHR w (kast h a i (.int x)) H1 → (∀ q ∈ locs1, w.b ≤ q.base) → W p l e R s m args below meth c H1 locs1 cells slots Q (F0 m (pc + 1) ls rest)) : W p l e R s m args below meth c H locs cells slots Q (F0 m pc ls (.int x :: .int i :: kv w (.ref a) :: rest)) := by
  obtain ⟨q1, q2⟩ := k_ar hP (by decide) (by decide) ht
  obtain ⟨z1, z2⟩ := kin_ok hi
  rw [kv_own (Nat.lt_of_lt_of_le q1 hN)]
  refine W.iast hx hb q2 ((K.2.2.1 20 (by decide) (by decide)).1 _ _) (fun q => by cases q) (by rw [arrV_size]; exact z1) rfl rfl hdg fun H1 e1 e2 e3 => ?_
  refine kk H1 _ (hP.set q1 e2 e3 ?_) (k_lc hlo (by omega))
  rw [ht]
  exact k_stc (v := .int x) (by decide) (by decide) e1
theorem k_cast (hx : p.tables.exec = Jvm.exec) (hb : c.code = cc) (K : kTab w s) (hN : h.1.1 ≤ 1000000) (hP : kHR w h H) (hlo : ∀ q ∈ locs, w.b ≤ q.base) {a : Nat} {i x : Int32} (ht : (h.2 a).1 = 21) (hi : kin i (h.2 a).2.1 = true) (hdg : decode cc pc = .ok (.castore, 1))
    (kk : ∀ (H1 : Heap) (locs1 : List Loc), kHR w (kast h a i (.int (vp_nar .char x))) H1 → (∀ q ∈ locs1, w.b ≤ q.base) → W p l e R s m args below meth c H1 locs1 cells slots Q (F0 m (pc + 1) ls rest)) : W p l e R s m args below meth c H locs cells slots Q (F0 m pc ls (.int x :: .int i :: kv w (.ref a) :: rest)) := by
  obtain ⟨q1, q2⟩ := k_ar hP (by decide) (by decide) ht
  obtain ⟨z1, z2⟩ := kin_ok hi
  rw [kv_own (Nat.lt_of_lt_of_le q1 hN)]
  refine W.cast hx hb q2 ((K.2.2.1 21 (by decide) (by decide)).1 _ _) (fun q => by cases q) (by rw [arrV_size]; exact z1) rfl rfl hdg fun H1 e1 e2 e3 => ?_
  refine kk H1 _ (hP.set q1 e2 e3 ?_) (k_lc hlo (by omega))
  rw [ht]
  exact k_stc (v := .int (vp_nar .char x)) (by decide) (by decide) e1
theorem k_last (hx : p.tables.exec = Jvm.exec) (hb : c.code = cc) (K : kTab w s) (hN : h.1.1 ≤ 1000000) (hP : kHR w h H) (hlo : ∀ q ∈ locs, w.b ≤ q.base) {a : Nat} {i : Int32} {x : Int64} (ht : (h.2 a).1 = 22) (hi : kin i (h.2 a).2.1 = true) (hdg : decode cc pc = .ok (.lastore, 1))
    (kk : ∀ (H1 : Heap) (locs1 : List Loc), kHR w (kast h a i (.long x)) H1 → (∀ q ∈ locs1, w.b ≤ q.base) → W p l e R s m args below meth c H1 locs1 cells slots Q (F0 m (pc + 1) ls rest)) : W p l e R s m args below meth c H locs cells slots Q (F0 m pc ls (.long x :: .int i :: kv w (.ref a) :: rest)) := by
  obtain ⟨q1, q2⟩ := k_ar hP (by decide) (by decide) ht
  obtain ⟨z1, z2⟩ := kin_ok hi
  rw [kv_own (Nat.lt_of_lt_of_le q1 hN)]
  refine W.last hx hb q2 ((K.2.2.1 22 (by decide) (by decide)).1 _ _) (fun q => by cases q) (by rw [arrV_size]; exact z1) rfl rfl hdg fun H1 e1 e2 e3 => ?_
  refine kk H1 _ (hP.set q1 e2 e3 ?_) (k_lc hlo (by omega))
  rw [ht]
  exact k_stc (v := .long x) (by decide) (by decide) e1
theorem k_alen (hx : p.tables.exec = Jvm.exec) (hb : c.code = cc) (K : kTab w s) (hN : h.1.1 ≤ 1000000) (hP : kHR w h H) {a t : Nat} (h1 : 20 ≤ t) (h2 : t < 23) (ht : (h.2 a).1 = t) (hdg : decode cc pc = .ok (.arraylength, 1))
    (kk : W p l e R s m args below meth c H locs cells slots Q (F0 m (pc + 1) ls (.int (Int32.ofNat (h.2 a).2.1) :: rest))) : W p l e R s m args below meth c H locs cells slots Q (F0 m pc ls (kv w (.ref a) :: rest)) := by
  obtain ⟨q1, q2⟩ := k_ar hP h1 h2 ht
  rw [kv_own (Nat.lt_of_lt_of_le q1 hN)]
  exact W.alen (n := Int32.ofNat (h.2 a).2.1) hx hb q2 ((K.2.2.1 t h1 h2).1 _ _) (by rw [arrV_size]) rfl rfl hdg kk
theorem k_new (hx : p.tables.exec = Jvm.exec) (hb : c.code = cc) (K : kTab w s) (hP : kHR w h H) {o idx x : Nat} (hown : s.vm.findClass (kown o) = some m.cls) (hl : (o, idx, x) ∈ KCL) (hcells : cells + 1 ≤ R.cells) (hslots : slots + kN x ≤ R.slots) (hN : h.1.1 < 1000000) (hdg : decode cc pc = .ok (.new idx, 3))
    (kk : ∀ H1 : Heap, kHR w (knew h x (kN x) (kdef x)) H1 → W p l e R s m args below meth c H1 locs (cells + 1) (slots + kN x) Q (F0 m (pc + 3) ls (kv w (.ref h.1.1) :: rest))) : W p l e R s m args below meth c H locs cells slots Q (F0 m pc ls rest) := by
  have hok := List.all_eq_true.mp KCL_ok _ hl
  simp only [Bool.and_eq_true, decide_eq_true_eq] at hok
  obtain ⟨g1, g2⟩ := hok
  have hm : x ∈ (List.range 9).drop 1 := by
    rcases (show x = 1 ∨ x = 2 ∨ x = 3 ∨ x = 4 ∨ x = 5 ∨ x = 6 ∨ x = 7 ∨ x = 8 by omega) with rfl | rfl | rfl | rfl | rfl | rfl | rfl | rfl <;> decide
  have hKn := K.2.1.1 (x - 1) _ (kcl_at g1 g2)
  have hsz := hP.1
  refine W.newcK hx hb hown (K.1 _ (klist KCL_eq hl) rfl args) (K.1 _ (klist KNi_eq hm) rfl args) (K.1 _ (klist KNz_eq hm) rfl args) rfl hdg hcells hslots hKn.2.1 rfl fun H1 kC hkC e1 z1 o1 => ?_
  have hk2 := kk H1 (hP.new z1 o1 (Or.inl ⟨g2, rfl, ?_⟩))
  · rw [kv_own hN, ← hsz] at hk2
    exact hk2
  · have hbn := u_born (kY x) (k_hts K.1 args g1 g2) (fun _ z => z) hKn hkC e1 (fun k hk => (kty_ok g1 g2 hk).1)
    rw [hsz] at hbn
    refine hbn.to fun k hk => ?_
    show defaultValue (kY x k) = kv w (defaultValue (kY x k))
    cases kY x k <;> rfl
theorem k_nar (hx : p.tables.exec = Jvm.exec) (hb : c.code = cc) (K : kTab w s) (hP : kHR w h H) {atype : ArrayType} {t : Nat} (h1 : 20 ≤ t) (h2 : t < 23) (hty : newarray.typeOf atype = kat t) (harr : (Cond.arrayClass (newarray.typeOf atype)).before args s = true) {n : Int32} (hn : ¬ n < 0) (hn2 : n.toNatClampNeg ≤ 100000) (hcells : cells + 1 ≤ R.cells) (hslots : slots + n.toNatClampNeg ≤ R.slots) (hN : h.1.1 < 1000000) (hdg : decode cc pc = .ok (.newarray atype, 2))
    (kk : ∀ H1 : Heap, kHR w (knew h t n.toNatClampNeg (fun _ => defaultValue (kat t))) H1 → W p l e R s m args below meth c H1 locs (cells + 1) (slots + n.toNatClampNeg) Q (F0 m (pc + 2) ls (kv w (.ref h.1.1) :: rest))) : W p l e R s m args below meth c H locs cells slots Q (F0 m pc ls (.int n :: rest)) := by
  have hsz := hP.1
  have hbt : n.toNatClampNeg * componentBytes (newarray.typeOf atype) ≤ 536870912 := by
    have h8 : componentBytes (newarray.typeOf atype) ≤ 8 := by cases atype <;> decide
    calc n.toNatClampNeg * componentBytes (newarray.typeOf atype) ≤ 100000 * 8 := Nat.mul_le_mul hn2 h8
      _ ≤ 536870912 := by decide
  refine va_newaK hx hb harr rfl hdg rfl hn rfl hbt hcells hslots rfl fun H1 cA e1 z1 o1 hAr hNm => ?_
  rw [hty] at e1 hNm
  have hcA : cA = w.A t := Option.some.inj (hNm.symm.trans (K.2.2.1 t h1 h2).2)
  subst hcA
  have hk2 := kk H1 (hP.new z1 o1 (Or.inr (Or.inl ⟨h1, h2, ?_⟩)))
  · rw [kv_own hN, ← hsz] at hk2
    exact hk2
  · show H1[w.b + h.1.1]? = some (arrV (w.A t) n.toNatClampNeg (fun _ => kv w (defaultValue (kat t))))
    rw [← hsz, e1]
    congr 2
    funext j
    rcases (show t = 20 ∨ t = 21 ∨ t = 22 by omega) with rfl | rfl | rfl <;> rfl
end KA
