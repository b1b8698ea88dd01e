/-! The invoking instructions. -/
def kinvi (x : Nat) (i : Instr) : Bool := match i with
  | .invokevirtual _ => decide (x = 0) || decide (1000 ≤ x) || KYV.contains x
  | .invokestatic _ => decide (x = 0) || decide (1000 ≤ x) || decide ((kme x).2.1 = 1)
  | .invokespecial _ => decide (x = 0) || decide (1000 ≤ x) || (decide ((kmn x).name = "<init>") && decide ((kme x).2.1 = 0) && decide ((kme x).2.2.2.2.2 = 0) && (khl x).isEmpty)
  | _ => true
theorem kinv_all : ((List.range 182).drop 1).all (fun y => (kblks y).all (fun b => b.2.all (fun q => kinvi q.2.1 q.2.2))) = true := by decide +kernel
theorem KMY_ok : KML.all (fun q => KYL.contains (q.2.2.1, (kme q.2.2.1).2.1)) = true := by decide +kernel
theorem KYV_ok : KYV.all (fun x => decide ((kme x).2.1 = 0) && (decide ((kme x).2.2.1 = (kme x).1 + 1 ∧ (kme x).2.2.1 < 9) || decide ((kme x).2.2.1 = 51 ∧ (kme x).1 = 9))) = true := by decide +kernel
theorem kargs_i {y : Nat} {st : List Value} {h : kH} {q : List Value × List Value} (e : kargs y st h = some q) : st = q.1.reverse ++ q.2 ∧ q.1.length = (kme y).2.2.2.1 ∧ q.2.length ≤ 10 ∧ (ksp q.1).length ≤ (kme y).2.2.2.2.1 ∧ (∀ v ∈ q.1, kok v = true) ∧ ((kme y).2.1 ≠ 1 → ∃ a as, q.1 = .ref a :: as ∧ (h.2 a).1 = (kme y).2.2.1) := by
  unfold kargs at e
  split at e
  · rename_i hq
    have hlen : (st.take (kme y).2.2.2.1).reverse.length = (kme y).2.2.2.1 := by simp; omega
    have hall : ∀ v ∈ (st.take (kme y).2.2.2.1).reverse, kok v = true := fun v hv => List.all_eq_true.mp hq.2.2.2 v (List.mem_reverse.mp hv)
    split at e
    · rename_i h1
      cases e
      exact ⟨by simp, hlen, hq.2.1, hq.2.2.1, hall, fun z => absurd h1 z⟩
    · split at e
      · rename_i a as hr
        split at e
        · rename_i ht
          cases e
          have h3 := hq.2.2.1
          rw [hr] at hlen hall h3
          refine ⟨?_, hlen, hq.2.1, h3, hall, fun _ => ⟨a, as, rfl, ht⟩⟩
          show st = (Value.ref a :: as).reverse ++ _
          rw [← hr]
          simp
        · cases e
      · cases e
  · cases e
section KN
variable {p : Program} {l : Launch} {e : Env} {R : Room} {s : State} {m : MethodId} {args : Array Value} {below : List Frame} {meth : Method} {c : Code} {H : Heap} {locs : List Loc} {cells slots : Nat} {Q : State → Prop}
variable {pc : Nat} {la : Array Slot} {w : kU} {h : kH}
/-- the call is entered: behind the resolution, the invocation -/
def kEnt (p : Program) (l : Launch) (e : Env) (R : Room) (s : State) (m : MethodId) (args : Array Value) (below : List Frame) (meth : Method) (c : Code) (H : Heap) (locs : List Loc) (cells slots : Nat) (mk : MethodId) (a : Array Value) (g g0 : JFrame) : Prop :=
  ∀ T : State, T.heap = H → Stand p l e R s m args below meth c T locs cells slots → ∃ vm₁, Stand p l e R s m args below meth c (T.setVm vm₁) locs cells slots ∧ ∀ target, (∀ acts, Steps p.tables e below (doInvoke e ((T.setVm vm₁).setTop g) acts mk a).1 target) → Steps p.tables e below (T.setTop g0) target
theorem k_recv (K : kTab w s) (S : kSt w s) (hN : h.1.1 ≤ 1000000) (hP : kHR w h H) {x a : Nat} (hx : x ∈ KYV) (ht : (h.2 a).1 = (kme x).2.2.1) : ∃ (q : Nat) (cell : Cell), kv w (.ref a) = .ref q ∧ H[q]? = some cell ∧ cell.vm.isStatics = false ∧ s.vm.findClass (kown (kme x).1) = some cell.cls := by
  have hok := List.all_eq_true.mp KYV_ok _ hx
  simp only [Bool.and_eq_true, Bool.or_eq_true, decide_eq_true_eq] at hok
  rcases hok.2 with ⟨h1, h2⟩ | ⟨h1, h2⟩
  · obtain ⟨q1, q2, cell, c1, c2, c3, c4⟩ := k_ob hP (a := a) (t := (kme x).2.2.1) (by omega) h2 ht
    refine ⟨w.b + a, cell, kv_own (by omega), c1, by rw [c3]; rfl, ?_⟩
    have hKn := K.2.1.1 ((kme x).2.2.1 - 1) _ (kcl_at (by omega) h2)
    rw [c2]
    have e1 : kown (kme x).1 = kcn (kme x).2.2.1 := by rw [h1]; rfl
    rw [e1]
    exact hKn.2.1
  · obtain ⟨q1, q2, q3⟩ := k_ex S hP (a := a) (by omega)
    rw [q2, h1] at ht
    obtain ⟨-, q, v, e1, e2, -⟩ := S.2.2.2.2.1 a ht
    obtain ⟨cell, d1, d2, d3, -⟩ := e2.kept (hP.out S.1)
    exact ⟨q, cell, q3.trans e1, d1, d2, by rw [h2]; exact d3⟩
theorem k_entV (hx : p.tables.exec = Jvm.exec) {y x idx : Nat} {ns : Bool} (F : kFr y s m meth c) (K : kTab w s) (hl : ((kme y).1, idx, x, ns) ∈ KML) (hq : (x, 0) ∈ KYL) (hv : x ∈ KYV) {mk : MethodId} {methk : Method} (hn : s.methodNamed? (kmn x) = some mk) (hm : s.vm.method? mk = some methk) {q : Nat} {cell : Cell} (hcell : H[q]? = some cell) (hst : cell.vm.isStatics = false) (hcls : s.vm.findClass (kown (kme x).1) = some cell.cls) {argsL rest : List Value} (hlen : argsL.length = methk.sig.parameters.length) (hd : decode (kby y) pc = .ok (.invokevirtual idx, 3)) :
    kEnt p l e R s m args below meth c H locs cells slots mk (Value.ref q :: argsL).toArray (F0 m pc la rest) (F0 m pc la (argsL.reverse ++ .ref q :: rest)) := by
  have hy : (kmn x).cls ≠ "java/lang/invoke/MethodHandle" ∧ (kmn x).cls ≠ "java/lang/invoke/VarHandle" := by
    have z := List.all_eq_true.mp KYp_ok _ hq
    simp only [Bool.and_eq_true, decide_eq_true_eq] at z
    exact ⟨z.1.2, z.2⟩
  have hinst : (Cond.instanceMethod (kmn x)).before args s = true := K.1 _ (klist KYi_eq hq) rfl args
  have hsel : (Cond.selects (kown (kme x).1) (kmn x) (kmn x)).before args s = true := K.1 _ (klist KYs_eq hv) rfl args
  have hln := K.1 _ (klist KML_eq hl)
  obtain ⟨mk', methM, hnamed, hmethM, hstM, habM⟩ := Cond.instanceMethod_spec hinst
  cases hn.symm.trans hnamed
  cases hm.symm.trans hmethM
  obtain ⟨c2, r2, m2, q1, q2, q3, q4, kP, hkP, hkPi⟩ := Cond.selects_spec hsel
  cases hcls.symm.trans q1
  cases (State.methodFound?_of_named hnamed hy).symm.trans q2
  cases hnamed.symm.trans q3
  intro T hT X
  have hselP : selectMethod e.platform s.vm cell.cls mk = .method mk := by rw [Launch.admits_selectMethod X.admits]; exact q4
  have hd' : decode c.code (F0 m pc la (argsL.reverse ++ .ref q :: rest)).pc = .ok (.invokevirtual idx, 3) := by rw [F.1]; exact hd
  cases ns with
  | true =>
    obtain ⟨vm₁, X₁, hstep⟩ := X.invokevirtualNest hx F.2.2.2.2.1 (host := "IndentedNotes") (hln rfl args) hnamed hmethM hstM hkP hkPi hy (a := q) (cell := cell) (by rw [hT]; exact hcell) (fun z hz => by rw [hz] at hst; cases hst) hselP hmethM habM hkP hkPi (g := F0 m pc la (argsL.reverse ++ .ref q :: rest)) rfl (argsL := argsL) (rest := rest) hlen rfl hd'
    exact ⟨vm₁, X₁, fun target ht => hstep target ht⟩
  | false =>
    obtain ⟨vm₁, X₁, hstep⟩ := X.invokevirtual hx F.2.2.2.2.1 (hln rfl args) hnamed hmethM hstM hkP hkPi hy (a := q) (cell := cell) (by rw [hT]; exact hcell) (fun z hz => by rw [hz] at hst; cases hst) hselP hmethM habM hkP hkPi (g := F0 m pc la (argsL.reverse ++ .ref q :: rest)) rfl (argsL := argsL) (rest := rest) hlen rfl hd'
    exact ⟨vm₁, X₁, fun target ht => hstep target ht⟩
theorem k_entS (hx : p.tables.exec = Jvm.exec) {y x idx : Nat} {ns : Bool} (F : kFr y s m meth c) (K : kTab w s) (hl : ((kme y).1, idx, x, ns) ∈ KML) (hq : (x, 1) ∈ KYL) (hz : x ∈ KYZ) {mk : MethodId} {methk : Method} (hn : s.methodNamed? (kmn x) = some mk) (hm : s.vm.method? mk = some methk) {argsL rest : List Value} (hlen : argsL.length = methk.sig.parameters.length) (hd : decode (kby y) pc = .ok (.invokestatic idx, 3)) :
    kEnt p l e R s m args below meth c H locs cells slots mk argsL.toArray (F0 m pc la rest) (F0 m pc la (argsL.reverse ++ rest)) := by
  have hy : (kmn x).cls ≠ "java/lang/invoke/MethodHandle" ∧ (kmn x).cls ≠ "java/lang/invoke/VarHandle" := by
    have z := List.all_eq_true.mp KYp_ok _ hq
    simp only [Bool.and_eq_true, decide_eq_true_eq] at z
    exact ⟨z.1.2, z.2⟩
  have hstat : (Cond.static (kmn x)).before args s = true := K.1 _ (klist KYi_eq hq) rfl args
  have hini : (Cond.initialized (kown (kme x).1)).before args s = true := K.1 _ (klist KYz_eq hz) rfl args
  rw [KYo hq] at hini
  have hln := K.1 _ (klist KML_eq hl)
  have hstatic : methk.isStatic = true := Cond.static_spec hn hm hstat
  obtain ⟨kP, hkP, -⟩ := className_of_methodNamed hn
  have hinitP : kP.init = .initialized := Cond.initialized_spec (findClass_of_methodNamed hn) hkP hini
  intro T hT X
  have hd' : decode c.code (F0 m pc la (argsL.reverse ++ rest)).pc = .ok (.invokestatic idx, 3) := by rw [F.1]; exact hd
  cases ns with
  | true =>
    obtain ⟨vm₁, X₁, hstep⟩ := X.invokestaticNest hx F.2.2.2.2.1 (host := "IndentedNotes") (hln rfl args) hn hm hstatic hkP hinitP hy (g := F0 m pc la (argsL.reverse ++ rest)) rfl (argsL := argsL) (rest := rest) hlen rfl hd'
    exact ⟨vm₁, X₁, fun target ht => hstep target ht⟩
  | false =>
    obtain ⟨vm₁, X₁, hstep⟩ := X.invokestatic hx F.2.2.2.2.1 (hln rfl args) hn hm hstatic hkP hinitP hy (g := F0 m pc la (argsL.reverse ++ rest)) rfl (argsL := argsL) (rest := rest) hlen rfl hd'
    exact ⟨vm₁, X₁, fun target ht => hstep target ht⟩
theorem k_entI (hx : p.tables.exec = Jvm.exec) {y x idx : Nat} {ns : Bool} (F : kFr y s m meth c) (K : kTab w s) (hl : ((kme y).1, idx, x, ns) ∈ KML) (hq : (x, 0) ∈ KYL) (hnm : (kmn x).name = "<init>") (hrk : (kme x).2.2.2.2.2 = 0) (hkh : (khl x).isEmpty = true) {mk : MethodId} {methk : Method} (hn : s.methodNamed? (kmn x) = some mk) (hm : s.vm.method? mk = some methk) (hsig : parseMethodDescriptor (kmn x).desc = some methk.sig) {q : Nat} {argsL rest : List Value} (hlen : argsL.length = methk.sig.parameters.length) (hd : decode (kby y) pc = .ok (.invokespecial idx, 3)) :
    kEnt p l e R s m args below meth c H locs cells slots mk (Value.ref q :: argsL).toArray (F0 m pc la rest) (F0 m pc la (argsL.reverse ++ .ref q :: rest)) := by
  have hy : (kmn x).cls ≠ "java/lang/invoke/MethodHandle" ∧ (kmn x).cls ≠ "java/lang/invoke/VarHandle" := by
    have z := List.all_eq_true.mp KYp_ok _ hq
    simp only [Bool.and_eq_true, decide_eq_true_eq] at z
    exact ⟨z.1.2, z.2⟩
  have hinst : (Cond.instanceMethod (kmn x)).before args s = true := K.1 _ (klist KYi_eq hq) rfl args
  have hcode : (Cond.code (kmn x) (kby x) (kme x).2.2.2.2.1 none).before args s = true := by
    have z := K.1 _ (klist KYc_eq hq)
    simp only [kcodew, hkh, if_true, hrk, krt] at z
    exact z rfl args
  have hln := K.1 _ (klist KML_eq hl)
  intro T hT X
  have hpl : e.platform.magicAccessors = ({} : Platform).magicAccessors := by rw [X.admits.platform]
  have hd' : decode c.code (F0 m pc la (argsL.reverse ++ .ref q :: rest)).pc = .ok (.invokespecial idx, 3) := by rw [F.1]; exact hd
  have hlen' : ∀ sig, parseMethodDescriptor (kmn x).desc = some sig → argsL.length = sig.parameters.length := fun sig hs => by rw [hsig] at hs; cases hs; exact hlen
  cases ns with
  | true =>
    obtain ⟨mk', methM, cM, kP, vm₁, hnamed, -, -, -, -, -, -, -, hW₁, hstep⟩ := Steps.initColdArgsNest (e := e) X.here hx X.warmed hpl F.2.2.2.2.1 hnm hy (host := "IndentedNotes") (hln rfl args) hinst hcode (f := F0 m pc la (argsL.reverse ++ .ref q :: rest)) rfl hlen' rfl hd'
    cases hn.symm.trans hnamed
    exact ⟨vm₁, X.noted hW₁, fun target ht => hstep target ht⟩
  | false =>
    obtain ⟨mk', methM, cM, kP, vm₁, hnamed, -, -, -, -, -, -, -, hW₁, hstep⟩ := Steps.initColdArgs (e := e) X.here hx X.warmed hpl F.2.2.2.2.1 hnm hy (hln rfl args) hinst hcode (f := F0 m pc la (argsL.reverse ++ .ref q :: rest)) rfl hlen' rfl hd'
    cases hn.symm.trans hnamed
    exact ⟨vm₁, X.noted hW₁, fun target ht => hstep target ht⟩
end KN
