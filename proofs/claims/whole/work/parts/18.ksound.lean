/-! The main theorem. -/
theorem kk_1 {i : Instr} {x : Nat} (h : kkind i x = 1) : klen i = 3 ∧ i ≠ .nop ∧ kend i x = false := by
  cases i with
  | ifCond a b => exact ⟨rfl, (by intro z; cases z), rfl⟩
  | if_icmp a b => exact ⟨rfl, (by intro z; cases z), rfl⟩
  | new a => simp only [kkind] at h; split at h <;> cases h
  | invokevirtual a => simp only [kkind] at h; split at h <;> cases h
  | invokestatic a => simp only [kkind] at h; split at h <;> cases h
  | invokespecial a => simp only [kkind] at h; split at h <;> cases h
  | _ => cases h
theorem kk_5 {i : Instr} {x : Nat} (h : kkind i x = 5 ∨ kkind i x = 8) : klen i = 3 ∧ i ≠ .nop ∧ kend i x = false := by
  cases i with
  | invokevirtual a => exact ⟨rfl, (by intro z; cases z), rfl⟩
  | invokestatic a => exact ⟨rfl, (by intro z; cases z), rfl⟩
  | invokespecial a => exact ⟨rfl, (by intro z; cases z), rfl⟩
  | new a => simp only [kkind] at h; split at h <;> rcases h with h | h <;> cases h
  | _ => rcases h with h | h <;> cases h
theorem kk_2 {i : Instr} {x : Nat} (h : kkind i x = 2) : ∃ off, i = .goto off := by
  cases i with
  | goto a => exact ⟨a, rfl⟩
  | new a => simp only [kkind] at h; split at h <;> cases h
  | invokevirtual a => simp only [kkind] at h; split at h <;> cases h
  | invokestatic a => simp only [kkind] at h; split at h <;> cases h
  | invokespecial a => simp only [kkind] at h; split at h <;> cases h
  | _ => cases h
theorem kk_6 {i : Instr} {x : Nat} (h : kkind i x = 6) : ∃ idx, i = .new idx ∧ 1000 ≤ x := by
  cases i with
  | new a =>
    simp only [kkind] at h
    split at h
    · cases h
    · exact ⟨a, rfl, by omega⟩
  | invokevirtual a => simp only [kkind] at h; split at h <;> cases h
  | invokestatic a => simp only [kkind] at h; split at h <;> cases h
  | invokespecial a => simp only [kkind] at h; split at h <;> cases h
  | _ => cases h
theorem kk_7 {i : Instr} {x : Nat} (h : kkind i x = 7) : i = .nop := by
  cases i with
  | nop => rfl
  | new a => simp only [kkind] at h; split at h <;> cases h
  | invokevirtual a => simp only [kkind] at h; split at h <;> cases h
  | invokestatic a => simp only [kkind] at h; split at h <;> cases h
  | invokespecial a => simp only [kkind] at h; split at h <;> cases h
  | _ => cases h
theorem kk_3 {i : Instr} {x : Nat} (h : kkind i x = 3 ∨ kkind i x = 4) : i ≠ .nop := by
  intro z
  subst z
  rcases h with h | h <;> cases h
theorem kret_len {rk : Nat} {i : Instr} {st : List Value} {v : Option Value} (h : kret rk i st = some v) : klen i = 1 := by
  cases i <;> first | rfl | cases h
section KM
variable {p : Program} {l : Launch} {e : Env} {R : Room} {s : State} {m : MethodId} {args : Array Value} {below : List Frame} {meth : Method} {c : Code} {H : Heap} {locs : List Loc} {cells slots : Nat}
variable {pc : Nat} {la : Array Slot} {w : kU} {h : kH}
/-- the callee of a call, found and entered -/
theorem k_ent (hx : p.tables.exec = Jvm.exec) {y x : Nat} {i : Instr} (F : kFr y s m meth c) (K : kTab w s) (S : kSt w s) (hN : h.1.1 ≤ 1000000) (hP : kHR w h H) (hkd : kkind i x = 5) (hk : klk y x i = true) (hi : kinvi x i = true) (hd : decode (kby y) pc = .ok (i, 3)) {st : List Value} {q : List Value × List Value} (hs : kargs x st h = some q) :
    ∃ (b : Nat) (mk : MethodId) (methk : Method) (ck : Code), (x, b) ∈ KYL ∧ s.methodNamed? (kmn x) = some mk ∧ s.vm.method? mk = some methk ∧ methk.code = some ck ∧ kFr x s mk methk ck ∧ kEnt p l e R s m args below meth c H locs cells slots mk (q.1.map (kv w)).toArray (F0 m pc la (q.2.map (kv w))) (F0 m pc la (st.map (kv w))) := by
  obtain ⟨a1, a2, a3, a4, a5, a6⟩ := kargs_i hs
  have hx0 : x ≠ 0 := by
    intro z
    subst z
    obtain ⟨a, as, z1, z2⟩ := a6 (by decide)
    rw [z1] at a2
    cases a2
  have hmem : ∀ {idx : Nat} {ns : Bool}, ((kme y).1, idx, x, ns) ∈ KML → (x, (kme x).2.1) ∈ KYL := fun z => List.contains_iff_mem.mp (List.all_eq_true.mp KMY_ok _ z)
  have hlen : ∀ {b : Nat} {methk : Method}, (x, b) ∈ KYL → parseMethodDescriptor (kmn x).desc = some methk.sig → methk.sig.parameters.length = (kme x).2.2.2.1 - (1 - b) ∧ (kme x).2.1 = b := by
    intro b methk z1 z2
    have z := List.all_eq_true.mp KYp_ok _ z1
    simp only [Bool.and_eq_true, decide_eq_true_eq] at z
    have z3 := z.1.1.1.1.2
    rw [z2] at z3
    exact ⟨Option.some.inj z3, z.1.1.1.2⟩
  cases i with
  | invokevirtual idx =>
    simp only [kinvi, Bool.or_eq_true, decide_eq_true_eq] at hi
    simp only [kkind] at hkd
    split at hkd
    · rename_i hlt
      have hv : x ∈ KYV := by
        rcases hi with (z | z) | z
        · exact absurd z hx0
        · omega
        · exact List.contains_iff_mem.mp z
      have hb0 : (kme x).2.1 = 0 := by
        have z := List.all_eq_true.mp KYV_ok _ hv
        simp only [Bool.and_eq_true, decide_eq_true_eq] at z
        exact z.1
      obtain ⟨a, as, z1, z2⟩ := a6 (by rw [hb0]; decide)
      obtain ⟨qq, cell, r1, r2, r3, r4⟩ := k_recv K S hN hP hv z2
      simp only [klk, Bool.or_eq_true, decide_eq_true_eq] at hk
      have hml : ∃ ns, ((kme y).1, idx, x, ns) ∈ KML := by
        rcases hk with (z | z) | z
        · exact ⟨_, List.contains_iff_mem.mp z⟩
        · exact ⟨_, List.contains_iff_mem.mp z⟩
        · exact absurd z hx0
      obtain ⟨ns, hml⟩ := hml
      have hq := hmem hml
      rw [hb0] at hq
      obtain ⟨mk, methk, ck, n1, n2, n3, n4, n5⟩ := k_meth K.1 hq
      have hl := (hlen hq n5).1
      refine ⟨0, mk, methk, ck, hq, n1, n2, n3, n4, ?_⟩
      have hst : st.map (kv w) = (as.map (kv w)).reverse ++ .ref qq :: q.2.map (kv w) := by
        rw [a1, z1, ← r1]
        simp
      have hqq : q.1.map (kv w) = .ref qq :: as.map (kv w) := by rw [z1, List.map_cons, r1]
      rw [hst, hqq]
      refine k_entV hx F K hml hq hv n1 n2 r2 r3 r4 ?_ hd
      rw [List.length_map, hl]
      rw [z1] at a2
      simp only [List.length_cons] at a2
      omega
    · cases hkd
  | invokestatic idx =>
    simp only [kinvi, Bool.or_eq_true, decide_eq_true_eq] at hi
    simp only [kkind] at hkd
    split at hkd
    · rename_i hlt
      have hb1 : (kme x).2.1 = 1 := by
        rcases hi with (z | z) | z
        · exact absurd z hx0
        · omega
        · exact z
      simp only [klk, Bool.or_eq_true, decide_eq_true_eq] at hk
      have hml : ∃ ns, ((kme y).1, idx, x, ns) ∈ KML := by
        rcases hk with ((z | z) | z) | z
        · exact ⟨_, List.contains_iff_mem.mp z⟩
        · exact ⟨_, List.contains_iff_mem.mp z⟩
        · have := of_decide_eq_true (List.all_eq_true.mp (show KMM.all (fun q => decide (1000 ≤ q.2.2)) = true by decide +kernel) _ (List.contains_iff_mem.mp z))
          dsimp only at this
          omega
        · exact absurd z hx0
      obtain ⟨ns, hml⟩ := hml
      have hq := hmem hml
      rw [hb1] at hq
      obtain ⟨mk, methk, ck, n1, n2, n3, n4, n5⟩ := k_meth K.1 hq
      have hl := (hlen hq n5).1
      refine ⟨1, mk, methk, ck, hq, n1, n2, n3, n4, ?_⟩
      have hst : st.map (kv w) = (q.1.map (kv w)).reverse ++ q.2.map (kv w) := by
        rw [a1]
        simp
      rw [hst]
      have hz : x ∈ KYZ := by
        have z := List.all_eq_true.mp KYm_ok _ hq
        simp only [Bool.and_eq_true] at z
        exact List.contains_iff_mem.mp z.2
      refine k_entS hx F K hml hq hz n1 n2 ?_ hd
      rw [List.length_map, hl]
      omega
    · cases hkd
  | invokespecial idx =>
    simp only [kinvi, Bool.or_eq_true, Bool.and_eq_true, decide_eq_true_eq] at hi
    simp only [kkind] at hkd
    split at hkd
    · rename_i hlt
      have hb3 : (((kmn x).name = "<init>" ∧ (kme x).2.1 = 0) ∧ (kme x).2.2.2.2.2 = 0) ∧ (khl x).isEmpty = true := by
        rcases hi with (z | z) | z
        · exact absurd z hx0
        · omega
        · exact z
      obtain ⟨⟨⟨b1, b2⟩, b3⟩, b4⟩ := hb3
      obtain ⟨a, as, z1, z2⟩ := a6 (by rw [b2]; decide)
      simp only [klk, Bool.or_eq_true, Bool.and_eq_true, decide_eq_true_eq] at hk
      have hml : ∃ ns, ((kme y).1, idx, x, ns) ∈ KML := by
        rcases hk with ((z | z) | z) | z
        · exact ⟨_, List.contains_iff_mem.mp z⟩
        · exact ⟨_, List.contains_iff_mem.mp z⟩
        · omega
        · exact absurd z hx0
      obtain ⟨ns, hml⟩ := hml
      have hq := hmem hml
      rw [b2] at hq
      obtain ⟨mk, methk, ck, n1, n2, n3, n4, n5⟩ := k_meth K.1 hq
      have hl := (hlen hq n5).1
      refine ⟨0, mk, methk, ck, hq, n1, n2, n3, n4, ?_⟩
      have hown : ∃ qq : Nat, kv w (.ref a) = .ref qq := by
        rcases Nat.lt_or_ge (h.2 a).1 50 with z | z
        · have h1 : (h.2 a).1 ≠ 0 := by
            rw [z2]
            have := of_decide_eq_true (List.all_eq_true.mp (show KYL.all (fun q => decide (q.2 = 0 → (kme q.1).2.2.1 ≠ 0)) = true by decide +kernel) _ hq)
            exact this rfl
          rcases hP.2.2 a h1 with ⟨q1, -⟩ | ⟨-, q2, q3⟩
          · exact ⟨w.b + a, kv_own (by omega)⟩
          · rw [q2] at z; omega
        · obtain ⟨q1, q2, q3⟩ := k_ex S hP z
          rw [q2] at z
          rcases S.2.1 a z with z3 | z3 | z3
          · obtain ⟨qq, xs, e1, -⟩ := S.2.2.1 a z3
            exact ⟨qq, q3.trans e1⟩
          · obtain ⟨-, qq, v, e1, -⟩ := S.2.2.2.2.1 a z3
            exact ⟨qq, q3.trans e1⟩
          · obtain ⟨qq, xs, e1, -⟩ := S.2.2.2.1 a z3
            exact ⟨qq, q3.trans e1⟩
      obtain ⟨qq, r1⟩ := hown
      have hst : st.map (kv w) = (as.map (kv w)).reverse ++ .ref qq :: q.2.map (kv w) := by
        rw [a1, z1, ← r1]
        simp
      have hqq : q.1.map (kv w) = .ref qq :: as.map (kv w) := by rw [z1, List.map_cons, r1]
      rw [hst, hqq]
      refine k_entI hx F K hml hq b1 b3 b4 n1 n2 n5 ?_ hd
      rw [List.length_map, hl]
      rw [z1] at a2
      simp only [List.length_cons] at a2
      omega
    · cases hkd
  | new a => simp only [kkind] at hkd; split at hkd <;> cases hkd
  | _ => cases hkd
end KM
