/-! Calls: into the callee, and back. -/
theorem k_weak {tb : Tables} {e : Env} {f : Frame} {below : List Frame} {a b : State} (h : Steps tb e (f :: below) a b) : Steps tb e below a b := by
  obtain ⟨n, hn, hw⟩ := h
  refine ⟨n, hn, fun k hk => ?_⟩
  obtain ⟨ab, h1, h2, h3⟩ := hw k hk
  refine ⟨ab ++ [f], by rw [h1]; simp, by simp, fun z hz => ?_⟩
  cases ab with
  | nil => exact h2 rfl
  | cons q r => simp at hz
set_option maxRecDepth 100000 in
set_option maxHeartbeats 4000000 in
theorem KYo_eq : KYL.map (fun q => kown (kme q.1).1) = KYL.map (fun q => (kmn q.1).cls) := rfl
theorem KYo {q : Nat × Nat} (hq : q ∈ KYL) : kown (kme q.1).1 = (kmn q.1).cls := by
  have h := List.map_inj_left.mp KYo_eq
  exact h q hq
theorem KYp_ok : KYL.all (fun q => plainFor (kmn q.1) && decide ((parseMethodDescriptor (kmn q.1).desc).map (fun d => d.parameters.length) = some ((kme q.1).2.2.2.1 - (1 - q.2))) && decide ((kme q.1).2.1 = q.2) && decide (q.2 ≤ 1) && decide ((kmn q.1).cls ≠ "java/lang/invoke/MethodHandle") && decide ((kmn q.1).cls ≠ "java/lang/invoke/VarHandle")) = true := by decide +kernel
/-- a method by its number: what the tables say of it -/
theorem k_meth {s : State} (K : kWd s) {q : Nat × Nat} (hq : q ∈ KYL) : ∃ (mk : MethodId) (methk : Method) (ck : Code), s.methodNamed? (kmn q.1) = some mk ∧ s.vm.method? mk = some methk ∧ methk.code = some ck ∧ kFr q.1 s mk methk ck ∧ parseMethodDescriptor (kmn q.1).desc = some methk.sig := by
  have hc := K _ (klist KYc_eq hq)
  unfold kcodew at hc
  split at hc
  · rename_i he
    have h1 := hc rfl #[]
    obtain ⟨mk, hn⟩ := Cond.code_named h1
    obtain ⟨methk, ck, h2, h3, h4, h5, h6, h7, h8, h9⟩ := Cond.code_spec hn h1
    refine ⟨mk, methk, ck, hn, h2, h3, ⟨h4, h5, h6, h7, by rw [KYo hq]; exact findClass_of_methodNamed hn, ?_, fun z => (name_of_methodNamed hn h2).1.trans z⟩, h9⟩
    have e0 : ck.exceptionTable.toList = [] := by
      have h0 : ck.exceptionTable.size = 0 := by simpa [Array.isEmpty] using h8
      exact List.eq_nil_of_length_eq_zero (by simpa using h0)
    rw [e0, List.isEmpty_iff.mp he]
    rfl
  · have h1 := hc rfl #[]
    obtain ⟨mk, methk, ck, hn, h2, h3, h4, h5, h8, h6, h7, h9⟩ := Cond.codeWith_spec h1
    exact ⟨mk, methk, ck, hn, h2, h3, ⟨h4, h5, h6, h7, by rw [KYo hq]; exact findClass_of_methodNamed hn, h8, fun z => (name_of_methodNamed hn h2).1.trans z⟩, h9⟩
theorem kFr.warm {y : Nat} {s U : State} {m : MethodId} {meth : Method} {c : Code} (F : kFr y s m meth c) (hW : s.WarmedH U.vm) : kFr y U m meth c := ⟨F.1, F.2.1, F.2.2.1, F.2.2.2.1, by rw [hW.alike.findClass]; exact F.2.2.2.2.1, F.2.2.2.2.2⟩
section KC
variable {p : Program} {l : Launch} {e : Env} {R : Room} {s : State} {m : MethodId} {args : Array Value} {below : List Frame} {meth : Method} {c : Code} {H : Heap} {locs : List Loc} {cells slots : Nat} {Q : State → Prop}
variable {pc : Nat} {la : Array Slot} {w : kU} {h : kH}
/-- the callee's run, from its entry to its end -/
def kIn (p : Program) (l : Launch) (e : Env) (w : kU) (x : Nat) (mk : MethodId) (a : Array Value) (methk : Method) (ck : Code) (H : Heap) (f' l' C' S' : Nat) (r1 : kO × kH) : Prop :=
  ∀ (s' : State) (below' : List Frame), kTab w s' → kSt w s' → kThr w s' → kFr x s' mk methk ck → s'.heap = H → W p l e { frames := f', cells := C', slots := S', locals := l' } s' mk a below' methk ck H [] 0 0 (kQ w below' s' C' S' r1) (entryFrame mk a ck.maxLocals)
theorem k_run (K : kTab w s) (S : kSt w s) (Z : kThr w s) {x : Nat} {b : Nat} (hq : (x, b) ∈ KYL) {mk : MethodId} {methk : Method} {ck : Code} (hn : s.methodNamed? (kmn x) = some mk) (hm : s.vm.method? mk = some methk) (hck : methk.code = some ck) (Fk : kFr x s mk methk ck) {a : Array Value} {g g0 : JFrame} (hg : g.method = m) (hsize : g.locals.size = c.maxLocals) {ig : Instr} (hdg : decode c.code g.pc = .ok (ig, 3)) (hmon : g.monitorRoom = 0) (hst : (g.stack.map fun v => v.category).sum ≤ 20)
    (hent : ∀ T : State, T.heap = H → Stand p l e R s m args below meth c T locs cells slots → ∃ vm₁, Stand p l e R s m args below meth c (T.setVm vm₁) locs cells slots ∧ ∀ target, (∀ acts, Steps p.tables e below (doInvoke e ((T.setVm vm₁).setTop g) acts mk a).1 target) → Steps p.tables e below (T.setTop g0) target)
    {f' l' C' S' : Nat} {r1 : kO × kH} (ih : kIn p l e w x mk a methk ck H f' l' C' S' r1) (hf : f' + 1 ≤ R.frames) (hl : 20 + ((kme x).2.2.2.2.1 + 11) + l' ≤ R.locals) (hc : cells + C' ≤ R.cells) (hs : slots + S' ≤ R.slots) :
    ∀ T : State, T.heap = H → Stand p l e R s m args below meth c T locs cells slots → ∃ T₁ t : State, T₁.heap = H ∧ Stand p l e R s m args below meth c T₁ locs cells slots ∧ kQ w (.java g :: below) (T₁.calling g mk a) C' S' r1 t ∧ ∀ target, Steps p.tables e below t target → Steps p.tables e below (T.setTop g0) target := by
  intro T hT X
  obtain ⟨vm₁, X₁, hstep⟩ := hent T hT X
  have hpl : plainFor (kmn x) = true := by
    have z := List.all_eq_true.mp KYp_ok _ hq
    simp only [Bool.and_eq_true] at z
    exact z.1.1.1.1.1
  have hm₁ : (T.setVm vm₁).vm.method? mk = some methk := by
    rw [X₁.warmed.alike.method?]
    exact hm
  obtain ⟨Y₀, hin⟩ := X₁.into (g := g) hg hsize hdg a (R' := { frames := f', cells := C', slots := S', locals := l' }) hm₁ hck Fk.2.2.2.1 (State.plainMethod.of_named hpl (X₁.named hn) hm₁) hf (by rw [hmon, Fk.2.1]; show 2 * 0 + _ + _ + l' ≤ _; omega) hc hs
  have hWs : s.WarmedH ((T.setVm vm₁).calling g mk a).vm := X₁.warmed
  have hHc : ((T.setVm vm₁).calling g mk a).heap = H := hT
  obtain ⟨t, st, hq⟩ := ih ((T.setVm vm₁).calling g mk a) (.java g :: below) (K.warm hWs) (S.warm hWs) (Z.warm hWs) (Fk.warm hWs) hHc _ (by simpa [State.pushFrame, State.setFrames, State.setTop, State.modifyTopJava] using hT) Y₀
  exact ⟨T.setVm vm₁, t, hT, X₁, hq, fun target ht => hstep target fun acts => by rw [hin acts]; exact (k_weak st).trans ht⟩
end KC
