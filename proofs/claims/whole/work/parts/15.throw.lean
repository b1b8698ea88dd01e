/-! A new exception is made and thrown. -/
theorem k_ths {w : kU} {s : State} (Z : kThr w s) (hB : w.h.size = w.b) (hh : ∀ q : Nat, q < w.b → s.heap[q]? = w.h[q]?) (args : Array Value) {q : String × String} (hq : q ∈ kTs) : (Cond.laysStatic Bundle.tN q.1 q.2).before args s = true ∧ (Cond.isRef (.static Bundle.tN q.1 q.2)).before args s = true := by
  obtain ⟨c, k, i, fd, a, cell, v, h1, h2, h3, h4, h5, h6, h7, h8, h9, h10, h11⟩ := Z.1 q hq
  have h5' : s.heap[a]? = some cell := by
    rw [hh a (by have := (Array.getElem?_eq_some_iff.mp h5).1; omega)]
    exact h5
  refine ⟨by simp [Cond.before, Cond.holds, Cond.value, h1, h2, h3, h4, h5', h6, h7, h8, h9], ?_⟩
  have he : (Term.static Bundle.tN q.1 q.2).eval args s none [] s = some v := by
    simp [Term.eval, State.fieldNamed?, h2, h3, h4, h5', h6, h10]
  simp only [Cond.before, Cond.holds, Cond.value, he]
  rcases h11 with rfl | ⟨t, rfl⟩ <;> rfl
theorem k_own {w : kU} {s : State} (K : kTab w s) (Z : kThr w s) (hB : w.h.size = w.b) (hh : ∀ q : Nat, q < w.b → s.heap[q]? = w.h[q]?) (args : Array Value) {own : String} {ic t : Nat} (h1 : 30 ≤ t) (h2 : t < 33) (hl : Cond.methodLink own ic (Bundle.initS (kxn t)) ∈ lw_tbl) : ∀ a ∈ Bundle.ownAtoms own ic (kxn t) knames, a.before args s = true := by
  have hall : ∀ a ∈ kAT (kxn t), a.before args s = true := by
    intro a ha
    have hk : kkeep a = true ∨ kkeep3 a = true := by
      rcases (show t = 30 ∨ t = 31 ∨ t = 32 by omega) with rfl | rfl | rfl
      · simpa using List.all_eq_true.mp kATk_30 a ha
      · simpa using List.all_eq_true.mp kATk_31 a ha
      · simpa using List.all_eq_true.mp kATk_32 a ha
    have hm : a ∈ lw_tbl := by
      rcases (show t = 30 ∨ t = 31 ∨ t = 32 by omega) with rfl | rfl | rfl
      · exact klist kAT_30 ha
      · exact klist kAT_31 ha
      · exact klist kAT_32 ha
    rcases hk with hk | hk
    · exact K.1 a hm hk args
    · cases a with
      | castable x y =>
        have hxy : x = kxn t ∧ y = kxn t := by
          rcases (show t = 30 ∨ t = 31 ∨ t = 32 by omega) with rfl | rfl | rfl <;> simpa [kAT, Bundle.throwableAtoms, Bundle.throwableSAtoms, Bundle.chainSAtoms, Bundle.passSAtoms] using ha
        obtain ⟨rfl, rfl⟩ := hxy
        simp [Cond.before, Cond.holds, Cond.value, K.2.2.2 t h1 h2, va_asg]
      | laysStatic x y z =>
        have hxyz : x = Bundle.tN ∧ (y, z) ∈ kTs := by
          rcases (show t = 30 ∨ t = 31 ∨ t = 32 by omega) with rfl | rfl | rfl <;> simpa [kAT, kTs, Bundle.throwableAtoms, Bundle.throwableSAtoms, Bundle.chainSAtoms, Bundle.passSAtoms, and_or_left] using ha
        obtain ⟨rfl, hyz⟩ := hxyz
        exact (k_ths Z hB hh args hyz).1
      | _ => simp [kkeep3] at hk
  intro a ha
  simp only [Bundle.ownAtoms, List.mem_append, List.mem_cons, List.not_mem_nil, or_false] at ha
  rcases ha with ((ha | ha) | ha) | ha
  · exact hall a (by simp [kAT, ha])
  · exact hall a (by simp [kAT, ha])
  · exact hall a (by simp [kAT, ha])
  · rcases ha with rfl | rfl | rfl | rfl | rfl | rfl | rfl | rfl | rfl | rfl | rfl | rfl | rfl | rfl
    · exact K.1 _ hl rfl args
    · exact hall _ (by simp [kAT])
    · exact hall _ (by simp [kAT])
    · exact hall _ (by simp [kAT])
    · exact hall _ (by simp [kAT])
    · exact hall _ (by simp [kAT])
    · exact hall _ (by simp [kAT])
    · exact hall _ (by simp [kAT])
    · exact hall _ (by simp [kAT])
    · exact (k_ths Z hB hh args (q := ("UNASSIGNED_STACK", Bundle.steD)) (by simp [kTs])).2
    · exact (k_ths Z hB hh args (q := ("SUPPRESSED_SENTINEL", Bundle.listD)) (by simp [kTs])).2
    · exact hall _ (by simp [kAT])
    · exact hall _ (by simp [kAT])
    · exact hall _ (by simp [kAT])
section KR
variable {p : Program} {l : Launch} {e : Env} {R : Room} {s : State} {m : MethodId} {args : Array Value} {below : List Frame} {meth : Method} {c : Code} {H : Heap} {locs : List Loc} {cells slots : Nat}
variable {pc : Nat} {la : Array Slot} {w : kU} {h : kH} {T : State}
/-- a walk begun anew where it stands -/
theorem k_rebase (X : Stand p l e R s m args below meth c T locs cells slots) (h1 : cells ≤ R.cells) (h2 : slots ≤ R.slots) : Stand p l e { frames := R.frames, cells := R.cells - cells, slots := R.slots - slots, locals := R.locals } (T.setFrames (.invoking m args :: below)) m args below meth c T [] 0 0 := by
  obtain ⟨g₀, hfr⟩ := X.frames_eq
  have hcur : T.cur < T.threads.size := State.cur_lt_of_frames hfr
  have hF : (T.setFrames (.invoking m args :: below)).frames = .invoking m args :: below := State.frames_setFrames _ hcur
  have hmeth : (T.setFrames (.invoking m args :: below)).vm.method? m = some meth := X.method'
  have hr := X.room
  have hs0 := X.heapSize
  have hu0 := X.used
  have hl0 := State.localsInUse_invoking X.frames X.method X.code
  have hl1 := State.localsInUse_invoking hF hmeth X.code
  have hlim : e.platform.stackLimits (T.setFrames (.invoking m args :: below)).me = e.platform.stackLimits s.me := by rw [State.stackLimits_setFrames]; exact X.limits
  have hby : (T.setFrames (.invoking m args :: below)).me.stackBytes = s.me.stackBytes := by rw [State.stackBytes_setFrames]; exact X.bytes
  have hbook : (T.setFrames (.invoking m args :: below)).slotsTrue = true := X.book
  refine ⟨X.admits, X.cas, X.clock, hF, ?_, ?_, hmeth, X.code, X.here, X.tail, State.WarmedH.refl _, ?_, ?_, ?_⟩
  · simp only [State.hasRoom, Bool.and_eq_true, decide_eq_true_eq] at hr ⊢
    rw [hF, hlim, hby, hl1]
    rw [X.frames, hl0] at hr
    refine ⟨⟨⟨⟨hr.1.1.1.1, hr.1.1.1.2⟩, ?_⟩, ?_⟩, hbook⟩
    · show T.heap.size + (R.cells - cells) ≤ _
      have := hr.1.1.2
      omega
    · show T.slotsUsed + (R.slots - slots) ≤ _
      have := hr.1.2
      omega
  · have hgen : ∀ bl : List Frame, s.hears m bl = true → (T.setFrames (.invoking m args :: below)).hears m bl = true := by
      intro bl hb
      have ev : (T.setFrames (.invoking m args :: below)).vm = T.vm := rfl
      rcases bl with _ | ⟨z, r⟩
      · simp only [State.hears, ev, X.method', X.method] at hb ⊢
        exact hb
      · cases z <;> first
          | (simp only [State.hears, State.code?_eq, ev, X.warmed.alike.method?] at hb ⊢; exact hb)
          | rfl
    exact hgen below X.hears
  · rw [State.stackLimits_setFrames]
  · rw [State.stackBytes_setFrames]
  · obtain ⟨th, hth, -⟩ := State.frames_cons hF
    have z := (State.sameButNew.refl (T.setFrames (.invoking m args :: below)) hth).setFrames T.frames (State.cur_lt_of_frames hF)
    rw [State.setFrames_setFrames] at z
    obtain ⟨th0, hth0, -⟩ := State.frames_cons hfr
    rw [State.setFrames_self hth0] at z
    exact z
theorem k_rebase_end (X : Stand p l e R s m args below meth c T locs cells slots) {t : State} {L : List Loc} {k n : Nat} (hW : (T.setFrames (.invoking m args :: below)).WarmedH t.vm) (hs : (T.setFrames (.invoking m args :: below)).sameButNew ({ t with vm := (T.setFrames (.invoking m args :: below)).vm } : State) L k n) : s.WarmedH t.vm ∧ s.sameButNew ({ t with vm := s.vm } : State) (locs ++ L) (cells + k) (slots + n) := by
  have hW' : T.WarmedH t.vm := hW
  refine ⟨State.WarmedH.trans X.warmed hW', ?_⟩
  have hs' : T.sameButNew ({ t with vm := T.vm } : State) L k n := by
    obtain ⟨e1, q2, q3, q4, q5, q6⟩ := hs
    rw [State.setFrames_setFrames] at e1
    exact ⟨e1, q2, q3, q4, q5, q6⟩
  exact X.same.trans (hs'.setVm s.vm)
theorem k_cells {s0 t : State} {k n : Nat} (hs : s0.sameButNew t [] k n) : ∀ z : Nat, z < s0.heap.size → t.heap[z]? = s0.heap[z]? := by
  intro z hz
  obtain ⟨-, -, -, -, -, q6⟩ := hs
  have hc : s0.heap[z]? = some s0.heap[z] := Array.getElem?_eq_getElem hz
  obtain ⟨c', h1, h2, h3, h4⟩ := q6 z _ hc
  rw [h1, hc]
  have e1 : c'.slots = s0.heap[z].slots := by
    apply Array.ext_getElem?
    intro i
    exact h4 i (fun q => by cases q)
  rw [h2, e1]
set_option maxHeartbeats 1000000 in
theorem k_throw (hx : p.tables.exec = Jvm.exec) (hfl : l.flags = pinnedFlags ++ [noTraceFlag]) {q : Nat × Nat × Nat × Nat × Nat × Nat × String} (hq : q ∈ KTH) (F : kFr q.1 s m meth c) (K : kTab w s) (S : kSt w s) (Z : kThr w s) (hE : kEx w) (hP : kHR w h H) (hlo : ∀ z ∈ locs, w.b ≤ z.base) {ls : List Value} (hL : kLR w la (kme q.1).2.2.2.2.1 ls) (hd : decode (kby q.1) q.2.1 = .ok (.new q.2.2.1, 3)) (hkh : (khl q.1).isEmpty = true) (hc : cells + 1 ≤ R.cells) (hsl : slots + 6 ≤ R.slots) (hf : 8 ≤ R.frames) (hlc : 150 ≤ R.locals) {st : List Value} (hst : st.length ≤ 10) :
    W p l e R s m args below meth c H locs cells slots (kQ w below s (cells + 1) (slots + 6) (.inr h.1.1, knew h q.2.2.2.1 6 (fun _ => .null))) (F0 m q.2.1 la (st.map (kv w))) := by
  have hok := List.all_eq_true.mp KTH_ok q hq
  simp only [kTHc, Bool.and_eq_true, decide_eq_true_eq] at hok
  obtain ⟨⟨⟨⟨⟨d3, d4⟩, d6⟩, d9⟩, t1⟩, t2⟩ := hok
  intro T hT X
  have X0 := k_rebase X (by omega) (by omega)
  have hW0 : s.WarmedH (T.setFrames (.invoking m args :: below)).vm := X.warmed
  have htrc : e.platform.stackTraces = false := Launch.traces_off hfl X.admits
  have hlk := F.2.2.2.1
  generalize hs0 : T.setFrames (.invoking m args :: below) = s0 at X0 hW0
  have hh0 : s0.heap = H := by rw [← hs0]; exact hT
  have F0' := F.warm hW0
  have K0 := K.warm hW0
  have Z0 := Z.warm hW0
  have hown := F0'.2.2.2.2.1
  have hcl := K0.1 _ (klist KTHc_eq hq) rfl args
  have hfc := K0.2.2.2 q.2.2.2.1 t1 t2
  have hat := k_own K0 Z0 S.1 (fun z hz => by rw [hh0]; exact hP.2.1 z hz) args t1 t2 (klist KTHm_eq hq)
  have hins : (Cond.instantiable (kxn q.2.2.2.1) 6).before args s0 = true := hat _ (by simp [Bundle.ownAtoms])
  have hini : (Cond.initialized (kxn q.2.2.2.1)).before args s0 = true := by
    refine K0.1 _ ?_ rfl args
    have z : Cond.initialized (kxn q.2.2.2.1) ∈ kAT (kxn q.2.2.2.1) := by simp [kAT]
    rcases (show q.2.2.2.1 = 30 ∨ q.2.2.2.1 = 31 ∨ q.2.2.2.1 = 32 by omega) with z1 | z1 | z1
    · rw [z1] at z ⊢; exact klist kAT_30 z
    · rw [z1] at z ⊢; exact klist kAT_31 z
    · rw [z1] at z ⊢; exact klist kAT_32 z
  obtain ⟨ms, hms⟩ := Z0.2 q hq
  have hsum := k_sum hE st
  have hsz : la.size = c.maxLocals := hL.2.1.trans F.2.1.symm
  have hout : ∀ x ∈ c.exceptionTable.toList, covers x (q.2.1 + 9) = false := by
    have z := F.2.2.2.2.2.1
    rw [List.isEmpty_iff.mp hkh] at z
    have z2 : c.exceptionTable.toList = [] := List.map_eq_nil_iff.mp z
    rw [z2]
    intro x hx'
    cases hx'
  have key : W p l e { frames := R.frames, cells := R.cells - cells, slots := R.slots - slots, locals := R.locals } s0 m args below meth c H [] 0 0 (fun t => t.status = .running ∧ Ended t below (.threw H.size) ∧ s0.WarmedH t.vm ∧ s0.sameButNew ({ t with vm := s0.vm } : State) [] 1 6 ∧ ∃ ce : Cell, t.heap[H.size]? = some ce ∧ s0.vm.findClass (kxn q.2.2.2.1) = some ce.cls ∧ ce.vm = .none) (F0 m q.2.1 la (st.map (kv w))) := by
    refine W.newcK hx F.1 hown hcl hins hini rfl hd (by show 0 + 1 ≤ R.cells - cells; omega) (by show 0 + 6 ≤ R.slots - slots; omega) hfc rfl fun H1 kC hkC e1 z1 o1 => ?_
    refine lv_dup hx F.1 d3 rfl ?_
    refine va_ldcS hx F.1 hown hms d4 ?_
    intro T2 hT2 X2
    have hz9 : ((Value.ref H.size :: st.map (kv w)).map fun v => v.category).sum ≤ 21 := by
      rw [List.map_cons, List.sum_cons]
      have : (Value.ref H.size).category = 1 := rfl
      omega
    obtain ⟨U, u1, u2, u3, u4, u5, ce, u6, u7⟩ := X2.ctorThrowS hx htrc (cls := kxn q.2.2.2.1) (names := knames) (ic := q.2.2.2.2.2.1) hown (by rcases (show q.2.2.2.1 = 30 ∨ q.2.2.2.1 = 31 ∨ q.2.2.2.1 = 32 by omega) with z | z | z <;> rw [z] <;> decide +kernel) (by decide +kernel) hat (fun x hx' => by cases hx') (a := H.size) (cX := w.X q.2.2.2.1) (kX := kC) hfc hkC (by rw [hT2]; exact e1) (by rw [hh0]; exact Nat.le_refl _) (msg := .ref ms) rfl (g := F0 m (q.2.1 + 3 + 1 + 2) la (.ref ms :: .ref H.size :: .ref H.size :: st.map (kv w))) rfl hsz rfl rfl (rest := st.map (kv w)) rfl (by rw [F.1]; exact d6) (by rw [F.1]; exact d9) hout (by show 2 + 3 < R.frames; omega) (by show 2 * 0 + ((Value.ref H.size :: st.map (kv w)).map fun v => v.category).sum + (13 * (2 + 1) + 42) ≤ R.locals; omega) hlk
    exact ⟨U, u1, u2, u3, u4, u5, ce, u6, u7.cls, u7.vm⟩
  obtain ⟨t, st1, k1, k2, k3, k4, ce, k5, k6, k7⟩ := key T hT X0
  obtain ⟨r1, r2⟩ := k_rebase_end X (t := t) (L := []) (k := 1) (n := 6) (by rw [hs0]; exact k3) (by rw [hs0]; exact k4)
  rw [List.append_nil] at r2
  have hHz := hP.1
  have hold : ∀ z : Nat, z < H.size → t.heap[z]? = H[z]? := fun z hz => by
    have := k_cells k4 z (by rw [hh0]; exact hz)
    rw [hh0] at this
    exact this
  have hsize : t.heap.size = H.size + 1 := by
    have a1 := k4.2.2.1
    have a2 := (Array.getElem?_eq_some_iff.mp k5).1
    change t.heap.size ≤ s0.heap.size + 1 at a1
    rw [hh0] at a1
    omega
  refine ⟨t, st1, k1, ?_, r1, ⟨locs, hlo, r2⟩, hP.new hsize hold (Or.inr (Or.inr ⟨t1, t2, ce, ?_, ?_, k7⟩))⟩
  · show Ended t below (.threw (w.b + h.1.1))
    rw [← hHz]
    exact k2
  · rw [← hHz]
    exact k5
  · exact Option.some.inj (k6.symm.trans hfc)
end KR
