/-! Behind a call: it came back; it threw and nothing catches; it threw and the method's one handler catches, its class resolved or not. -/
theorem k_stepCatch {e : Env} {s : State} {a : Addr} {f : JFrame} {r : List Frame} {pc : Nat} {vm' : Vm} (hfind : ∀ (Q : Handler → Pre) (E : CtlPost) (d : Bool) (acts : List Action), wp (findHandler f a) Q E e d acts s ↔ Q (.found pc) d acts (s.setVm vm')) :
    (stepThrowing e s a (.java f :: r)).Is ((s.setVm vm').setFrames (.java { f with pc := pc, stack := [.ref a] } :: r)) [] := by
  simp only [stepThrowing, searchFrame, vmDo]
  generalize hr : Sem.go _ e false [] s = res
  obtain ⟨as, rfl, ha⟩ := Sem.eq_ok_of hr (a := Handler.found pc) (s' := s.setVm vm') (acts' := []) (by simp [hfind _ _ _ _])
  exact ⟨rfl, ha⟩
section KB
variable {p : Program} {l : Launch} {e : Env} {R : Room} {s : State} {m : MethodId} {args : Array Value} {below : List Frame} {meth : Method} {c : Code} {H : Heap} {locs : List Loc} {cells slots : Nat} {Q : State → Prop}
variable {pc : Nat} {la : Array Slot} {w : kU} {h : kH} {T : State}
theorem k_caught (X : Stand p l e R s m args below meth c T locs cells slots) {own name : String} {x : ExceptionTableEntry} (htab : c.exceptionTable.toList = [x]) (hown : s.vm.findClass own = some m.cls) (hlink : (Cond.classLink own x.catchType name).before args s = true) (h0 : x.catchType ≠ 0)
    {a : Addr} {cell : Cell} {cT : ClassId} {g : JFrame} (hg : g.method = m) (hx : covers x g.pc = true) (hcell : T.heap[a]? = some cell) (hobj : ∀ k, cell.vm ≠ .statics k) (hcT : s.vm.findClass name = some cT) (hasg : s.vm.assignable cell.cls cT = true) :
    ∃ vm', Stand p l e R s m args below meth c (T.setVm vm') locs cells slots ∧
      ∀ target, Steps p.tables e below ((T.setVm vm').setTop { g with pc := x.handlerPc, stack := [.ref a] }) target → Steps p.tables e below ((T.setTop g).pushFrame (.throwing a)) target := by
  have hpl : e.platform.magicAccessors = ({} : Platform).magicAccessors := by rw [X.admits.platform]
  obtain ⟨c', hc', hcl⟩ := Cond.classLink_spec hown hlink e.platform hpl
  cases hcT.symm.trans hc'
  obtain ⟨dk, _, _, kt, hd, _, _, _, _, hkt, _, hopen⟩ := hcl.here
  obtain ⟨ks, hks⟩ := Vm.classAt_of_assignable hasg ⟨kt, hkt⟩
  have hcl₀ := X.warmed.classLinks hcl
  have hW' : s.WarmedH (T.vm.noted m.cls x.catchType (.cls cT)) := X.warmed.noted hd hopen (State.rightAt_cls hcl)
  obtain ⟨ks', hks', -⟩ := hW'.alike.2.2 _ _ hks
  obtain ⟨kt', hkt', -⟩ := hW'.alike.2.2 _ _ hkt
  refine ⟨_, X.noted hW', fun target hrest => ?_⟩
  subst hg
  have h : At T g.method c below := X.here
  obtain ⟨hgo, hw⟩ := h.throwing a
  have hasg' : (T.vm.noted g.method.cls x.catchType (.cls cT)).assignable cell.cls cT = true := by rw [hW'.alike.assignable]; exact hasg
  have hvmU : ((T.setTop g).pushFrame (.throwing a)).vm = T.vm := Stand.throwing_vm T g a
  have hheapU : ((T.setTop g).pushFrame (.throwing a)).heap = T.heap := Stand.throwing_heap T g a
  have hgv : (Jvm.resolveClass g.method.cls x.catchType).Gives e.toSetting ((T.setTop g).pushFrame (.throwing a)).vm (.ok cT) (T.vm.noted g.method.cls x.catchType (.cls cT)) := by
    rw [hvmU]
    exact resolveClass_links e.toSetting hcl₀
  have hsz : (T.vm.noted g.method.cls x.catchType (.cls cT)).classes.size ≤ ((T.setTop g).pushFrame (.throwing a)).vm.classes.size := by
    rw [hvmU, Vm.size_noted]
    exact Nat.le_refl _
  have hfind : ∀ (Q : Handler → Pre) (E : CtlPost) (d : Bool) (acts : List Action), wp (findHandler g a) Q E e d acts ((T.setTop g).pushFrame (.throwing a)) ↔ Q (.found x.handlerPc) d acts (((T.setTop g).pushFrame (.throwing a)).setVm (T.vm.noted g.method.cls x.catchType (.cls cT))) := by
    intro Q E d acts
    rw [W.findHandler_eq (meth := meth) (code := c) (by rw [hvmU]; exact X.method') X.code, htab]
    simp only [covers] at hx
    obtain ⟨ha, ht⟩ := hgv.op (op := VmOp.resolveClass g.method.cls x.catchType) rfl
    have hl9 := VmOp.lands_eq ht hsz
    simp [findHandler.go, hx, h0, ha, ht, hl9, hheapU, hcell, hobj, hks', hkt', hasg', VmOp.dirties, VmOp.acts]
  refine Steps.head hgo hw ?_
  rw [stepThread_throwing (frames_entered h.top _), (k_stepCatch (s := (T.setTop g).pushFrame (.throwing a)) hfind).1]
  obtain ⟨g₀, hg0⟩ := Option.isSome_iff_exists.mp h.top
  obtain ⟨r, hr⟩ := State.topJava?_eq_some.mp hg0
  have hr' : (T.setVm (T.vm.noted g.method.cls x.catchType (.cls cT))).frames = .java g₀ :: r := hr
  rw [State.setTop_of_frames _ hr'] at hrest
  rw [State.pushFrame, State.setTop_of_frames _ hr, hr]
  have e1 : ((T.setFrames (Frame.java g :: r)).setFrames (Frame.throwing a :: (T.setFrames (Frame.java g :: r)).frames)).setVm (T.vm.noted g.method.cls x.catchType (.cls cT)) = ((T.setVm (T.vm.noted g.method.cls x.catchType (.cls cT))).setFrames (Frame.java g :: r)).setFrames (Frame.throwing a :: (T.setFrames (Frame.java g :: r)).frames) := rfl
  rw [e1, State.setFrames_setFrames, State.setFrames_setFrames]
  exact hrest
theorem k_back {g g0 : JFrame} (hg : g.method = m) {ig : Instr} (hdg : decode c.code g.pc = .ok (ig, 3)) {mk : MethodId} {a : Array Value} {C' S' : Nat} {v : Option Value} {h1 : kH} (hlo : ∀ q ∈ locs, w.b ≤ q.base)
    (hrun : ∀ T : State, T.heap = H → Stand p l e R s m args below meth c T locs cells slots → ∃ T₁ t : State, T₁.heap = H ∧ Stand p l e R s m args below meth c T₁ locs cells slots ∧ kQ w (.java g :: below) (T₁.calling g mk a) C' S' (.inl v, h1) t ∧ ∀ target, Steps p.tables e below t target → Steps p.tables e below (T.setTop g0) target)
    (kk : ∀ (H1 : Heap) (locs1 : List Loc), kHR w h1 H1 → (∀ q ∈ locs1, w.b ≤ q.base) → W p l e R s m args below meth c H1 locs1 (cells + C') (slots + S') Q { g with pc := g.pc + 3, stack := (v.map (kv w)).toList ++ g.stack }) : W p l e R s m args below meth c H locs cells slots Q g0 := by
  intro T hT X
  obtain ⟨T₁, t, hT₁, X₁, ⟨q1, q2, q3, ⟨L, q4, q5⟩, q6⟩, hst⟩ := hrun T hT X
  obtain ⟨T2, X2, -, -, ht⟩ := X₁.outOf hg hdg q2 q3 q5
  have hh : T2.heap = t.heap := by rw [ht]; simp [State.setTop, State.modifyTopJava]
  obtain ⟨t2, a2, b2⟩ := kk T2.heap (locs ++ L) (by rw [hh]; exact q6) (t_lL hlo q4) T2 rfl X2
  exact ⟨t2, hst t2 (by rw [ht]; exact a2), b2⟩
theorem k_out {g g0 : JFrame} (hg : g.method = m) (hlk : meth.locks = false) (hld : g.locked = none) (hen : g.entered = []) (hout : ∀ x ∈ c.exceptionTable.toList, covers x g.pc = false) {mk : MethodId} {a : Array Value} {C' S' b : Nat} {h1 : kH} (hlo : ∀ q ∈ locs, w.b ≤ q.base)
    (hrun : ∀ T : State, T.heap = H → Stand p l e R s m args below meth c T locs cells slots → ∃ T₁ t : State, T₁.heap = H ∧ Stand p l e R s m args below meth c T₁ locs cells slots ∧ kQ w (.java g :: below) (T₁.calling g mk a) C' S' (.inr b, h1) t ∧ ∀ target, Steps p.tables e below t target → Steps p.tables e below (T.setTop g0) target) :
    W p l e R s m args below meth c H locs cells slots (kQ w below s (cells + C') (slots + S') (.inr b, h1)) g0 := by
  intro T hT X
  obtain ⟨T₁, t, hT₁, X₁, ⟨q1, q2, q3, ⟨L, q4, q5⟩, q6⟩, hst⟩ := hrun T hT X
  obtain ⟨T2, X2, -, -, ht⟩ := X₁.outOfThrown hg q2 q3 q5
  have hh : T2.heap = t.heap := by rw [ht, Stand.throwing_heap]
  obtain ⟨z1, z2, z3, z4, z5⟩ := X2.leaveThrown (w.b + b) hg hld hen hout hlk
  exact ⟨_, hst _ (by rw [ht]; exact z1), z2, z3, z4, ⟨locs ++ L, t_lL hlo q4, z5⟩, by show kHR w h1 T2.heap; rw [hh]; exact q6⟩
theorem k_catch {g g0 : JFrame} (hg : g.method = m) {own name : String} {x : ExceptionTableEntry} (htab : c.exceptionTable.toList = [x]) (hown : s.vm.findClass own = some m.cls) (hlink : (Cond.classLink own x.catchType name).before args s = true) (h0 : x.catchType ≠ 0) (hx : covers x g.pc = true) {cT : ClassId} (hcT : s.vm.findClass name = some cT) {mk : MethodId} {a : Array Value} {C' S' b : Nat} {h1 : kH} (hlo : ∀ q ∈ locs, w.b ≤ q.base) (hb : ∀ H1 : Heap, kHR w h1 H1 → ∃ cell : Cell, H1[w.b + b]? = some cell ∧ cell.cls = cT ∧ cell.vm = .none)
    (hrun : ∀ T : State, T.heap = H → Stand p l e R s m args below meth c T locs cells slots → ∃ T₁ t : State, T₁.heap = H ∧ Stand p l e R s m args below meth c T₁ locs cells slots ∧ kQ w (.java g :: below) (T₁.calling g mk a) C' S' (.inr b, h1) t ∧ ∀ target, Steps p.tables e below t target → Steps p.tables e below (T.setTop g0) target)
    (kk : ∀ (H1 : Heap) (locs1 : List Loc), kHR w h1 H1 → (∀ q ∈ locs1, w.b ≤ q.base) → W p l e R s m args below meth c H1 locs1 (cells + C') (slots + S') Q { g with pc := x.handlerPc, stack := [.ref (w.b + b)] }) : W p l e R s m args below meth c H locs cells slots Q g0 := by
  intro T hT X
  obtain ⟨T₁, t, hT₁, X₁, ⟨q1, q2, q3, ⟨L, q4, q5⟩, q6⟩, hst⟩ := hrun T hT X
  obtain ⟨T2, X2, -, -, ht⟩ := X₁.outOfThrown hg q2 q3 q5
  have hh : T2.heap = t.heap := by rw [ht, Stand.throwing_heap]
  have q7 : kHR w h1 T2.heap := by rw [hh]; exact q6
  obtain ⟨cell, c1, c2, c3⟩ := hb _ q7
  obtain ⟨vm', X3, st3⟩ := k_caught X2 htab hown hlink h0 hg hx c1 (by rw [c3]; exact fun k z => by cases z) hcT (by rw [c2]; exact va_asg _ _)
  obtain ⟨t2, a2, b2⟩ := kk T2.heap (locs ++ L) q7 (t_lL hlo q4) (T2.setVm vm') rfl X3
  exact ⟨t2, hst t2 (by rw [ht]; exact st3 t2 a2), b2⟩
end KB
