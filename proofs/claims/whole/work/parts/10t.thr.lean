/-! The two statics of Throwable, and the texts of the exceptions. -/
def kTs : List (String × String) := [("UNASSIGNED_STACK", Bundle.steD), ("SUPPRESSED_SENTINEL", Bundle.listD)]
/-- the two statics of Throwable -/
def kThr (w : kU) (s : State) : Prop := (∀ q ∈ kTs, ∃ (c : ClassId) (k : Class) (i : Nat) (fd : Field) (a : Nat) (cell : Cell) (v : Value), s.vm.findClass Bundle.tN = some c ∧ s.fieldFound? Bundle.tN q.1 q.2 = some (c, k, i, fd) ∧ fd.isStatic = true ∧ k.statics = some a ∧ w.h[a]? = some cell ∧ cell.vm.isStatics = true ∧ cell.cls = c ∧ fd.slot < cell.slots.size ∧ k.staticTypes[fd.slot]? = some fd.type ∧ cell.slots[fd.slot]? = some v ∧ (v = .null ∨ ∃ t : Nat, v = .ref t)) ∧
  ∀ q ∈ KTH, ∃ a : Nat, vk_R (kown (kme q.1).1) q.2.2.2.2.1 q.2.2.2.2.2.2 a s
theorem kThr.warm {w : kU} {s U : State} (Z : kThr w s) (hW : s.WarmedH U.vm) : kThr w U := by
  refine ⟨fun q hq => ?_, fun q hq => ?_⟩
  · obtain ⟨c, k, i, fd, a, cell, v, h1, h2, h3, h4, h5, h6, h7, h8, h9, h10⟩ := Z.1 q hq
    obtain ⟨k', hi', he⟩ := State.fieldFound?_setVm hW.alike h2
    exact ⟨c, k', i, fd, a, cell, v, by rw [hW.alike.findClass]; exact h1, hi', h3, by rw [he]; exact h4, h5, h6, h7, h8, by rw [he]; exact h9, h10⟩
  · obtain ⟨a, ha⟩ := Z.2 q hq
    exact ⟨a, ha.warm hW⟩
