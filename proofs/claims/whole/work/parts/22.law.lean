/-! THE CLAIM OUT OF ONE WALK OF THE LAW'S BODY. Your part is whole_start (and what it stands on); all else here is the same for every law, but numbers. -/
def R_law : String := "IndentedNotesLaw"
def lw_P (b : Addr) (xs : List Int32) (args : Array Value) (s : State) : Prop := args = #[.ref b] ∧ s.IntsAt b xs ∧ xs.length ≤ 2048 ∧ (Jvm.Cond.and given_1 narrow_1).before args s = true
def lw_Q (_ : Array Value) (s : State) (o : Outcome) (t : State) : Prop := o = .returned (some (.int 1)) ∧ Framed s o t [] 601024 7293034
def lw_Z (below : List Frame) (a : Array Value) (s : State) : State → Prop := fun t => ∃ o, t.status = .running ∧ Ended t below o ∧ lw_Q a s o t
/-- the law's own end, with 1 on the stack, nothing written that was there before, its room as the claim has it -/
theorem lw_ret {p : Program} {l : Launch} {e : Env} {s : State} {m : MethodId} {below : List Frame} {meth : Method} {c : Code} {b : Nat} (hx : p.tables.exec = Jvm.exec) (hb : c.code = code) (hr : meth.sig.returnType = ret) (hlocks : meth.locks = false) {pc : Nat} {H : Heap} {ls : Array Slot} (hdg : decode code pc = .ok (.ireturn, 1)) : W p l e room_1 s m #[Value.ref b] below meth c H [] 601024 7293034 (lw_Z below #[Value.ref b] s) (F0 m pc ls [.int 1]) := by
  intro T hT X
  obtain ⟨fs, hret, hrun, hended, hW, hframe⟩ := X.leave (v := some (.int 1)) (hlocks := hlocks) (fun h => by rw [hr] at h; cases h)
  have hmeth' : T.vm.method? m = some meth := X.method'
  refine ⟨T.setFrames fs, ?_, .returned (some (.int 1)), hrun, hended, rfl, ⟨_, rfl⟩, hW, hframe⟩
  jvm_step X.here [X.here.top, hx, hb, hdg, hmeth', hr, ret, narrow_b1]
  (try refine ⟨rfl, ?_⟩); (try refine ⟨rfl, ?_⟩)
  first | (intro acts; rw [hret _ acts rfl rfl rfl]) | rw [hret _ _ rfl rfl rfl]
  exact Steps.refl _
/-- what holds at the law's entry: the machine, the code, the tables' words (any of lw_tbl by 'hts w (by decide +kernel)'), the script of L ints xs at the cell b, what the Statement gives of the start (any of its parts by flat_of_before) -/
def lw_At (p : Program) (s : State) (m : MethodId) (meth : Method) (c : Code) (b L : Nat) (xs : Nat → Int32) : Prop :=
  p.tables.exec = Jvm.exec ∧ c.code = code ∧ meth.sig.returnType = ret ∧ c.maxLocals = 8 ∧ s.vm.findClass R_law = some m.cls ∧ (∀ w ∈ lw_tbl, w.before #[Value.ref b] s = true) ∧ va_X b L xs s s.heap ∧ b < s.heap.size ∧ meth.locks = false ∧ (Jvm.Cond.and given_1 narrow_1).before #[Value.ref b] s = true
theorem kHR0 {w : kU} {s : State} {L : Nat} {xs : Nat → Int32} (h1 : w.b = s.heap.size) (h2 : w.h = s.heap) (h3 : w.c = kext L xs) : kHR w ((0, 0), kext L xs) s.heap := by
  refine ⟨by rw [h1]; rfl, fun q _ => by rw [h2], fun i hi => Or.inr ?_⟩
  change (kext L xs i).1 ≠ 0 at hi
  show 1000000 ≤ i ∧ kext L xs i = w.c i ∧ 50 ≤ (w.c i).1
  rw [h3]
  unfold kext at hi ⊢
  split
  · rename_i h
    exact ⟨by omega, rfl, Nat.le_refl _⟩
  · rename_i h
    rw [if_neg h] at hi
    split
    · rename_i g
      refine ⟨by omega, rfl, ?_⟩
      split <;> simp
    · rename_i g
      rw [if_neg g] at hi
      exact absurd rfl hi
/-- what is left to show: the small machine's run of the law's body ends with true -/
def kGoal (L : Nat) (xs : Nat → Int32) : Prop := ∃ (n : Nat) (h : kH), krun n 1300 163 (blk 163 0) (kent 163 [.ref 1000000]) [] ((0, 0), kext L xs) = some (.inl (some (.int 1)), h) ∧ h.1.1 ≤ 601024 ∧ h.1.2 ≤ 7293034
theorem k_law {p : Program} {e : Env} {s : State} {m : MethodId} {below : List Frame} {meth : Method} {c : Code} (l : Launch) (hfl : l.flags = pinnedFlags ++ [noTraceFlag]) {b L : Nat} {xs : Nat → Int32} (C0 : lw_At p s m meth c b L xs) (hex : c.exceptionTable.isEmpty = true) (hk : kGoal L xs) : W p l e room_1 s m #[Value.ref b] below meth c s.heap [] 0 0 (lw_Z below #[Value.ref b] s) (entryFrame m ([Value.ref b] : List Value).toArray 8) := by
  obtain ⟨hx, hcode, hret, hml, hown, hts, hX, hb, hlk, hg⟩ := C0
  obtain ⟨w, w1, w2, w3, w4, hE, K, S, Z⟩ := k_world hts hg hX hb
  obtain ⟨n, h, hr, hc, hs⟩ := hk
  have F : kFr 163 s m meth c := by
    refine ⟨hcode, hml, hret, hlk, hown, ?_, fun z => ?_⟩
    · have e1 : c.exceptionTable.toList = [] := by
        rw [Array.isEmpty_iff] at hex
        rw [hex]
      rw [e1]
      rfl
    · exact absurd z (by decide)
  have e0 : kv w (.ref 1000000) = .ref b := by
    unfold kv
    exact w4
  have hL' := k_entry (w := w) hE (as := [.ref 1000000]) (by intro v hv; rw [List.mem_singleton.mp hv]; rfl) (n := 8) (by decide)
  have z := k_blk (ksound hfl n) hr (p := p) (e := e) (w := w) (R := room_1) (s := s) (m := m) (args := #[Value.ref b]) (below := below) (meth := meth) (c := c) (H := s.heap) (locs := []) (cells := 0) (slots := 0) (C := h.1.1) (S0 := h.1.2) hx (by decide) (by decide) F K S Z hE (kHR0 w1 w2 w3) hL' (fun z hz => by cases hz) (Nat.le_trans hc (by decide)) (by simp) (by simp) hc hs (by decide) (by decide)
  rw [lg_entry_eq]
  intro T hT X
  rw [List.map_cons, List.map_nil, e0] at z
  obtain ⟨t, a1, q1, q2, q3, ⟨L1, q4, q5⟩, q6⟩ := z T hT X
  refine ⟨t, a1, .returned (some (.int 1)), q1, q2, rfl, ⟨_, rfl⟩, q3, ?_⟩
  refine State.sameButNew.mono (State.sameButNew.drop_fresh (L := []) (J := L1) q5 (fun x hx => ?_)) hc hs
  rw [← w1]
  exact q4 x hx
