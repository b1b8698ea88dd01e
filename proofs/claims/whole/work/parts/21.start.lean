/-! The world at the law's entry. -/
theorem klistF {α : Type} {L : List α} {f : α → Cond} {P : List Nat} (h : L.map (fun q => some (f q)) = P.map (fun i => kFl[i]?)) {q : α} (hq : q ∈ L) : f q ∈ kFl := by
  have h1 : some (f q) ∈ L.map (fun q => some (f q)) := List.mem_map.mpr ⟨q, hq, rfl⟩
  rw [h] at h1
  obtain ⟨i, -, hi⟩ := List.mem_map.mp h1
  exact List.mem_of_getElem? hi
/-- what is outside, as cells: the script, and for each text its String and its bytes -/
def kext (L : Nat) (xs : Nat → Int32) (i : Nat) : kC :=
  if i = 1000000 then (50, L, fun j => .int (xs j))
  else if 1000001 ≤ i ∧ i < 1000021 then
    (if (i - 1000001) % 2 = 0 then (51, 2, fun j => if j = 0 then .ref (i + 1) else .int 0) else (52, (KSD.getD ((i - 1000001) / 2) ("", 0, [])).2.2.length, fun j => .int ((KSD.getD ((i - 1000001) / 2) ("", 0, [])).2.2.getD j 0)))
  else (0, 0, fun _ => .null)
theorem kext50 {L : Nat} {xs : Nat → Int32} {i : Nat} (h : (kext L xs i).1 = 50) : i = 1000000 ∧ kext L xs i = (50, L, fun j => .int (xs j)) := by
  unfold kext at h ⊢
  split at h
  · rename_i h1
    exact ⟨h1, if_pos h1⟩
  · split at h
    · split at h
      · simp at h
      · simp at h
    · simp at h
theorem kext51 {L : Nat} {xs : Nat → Int32} {i : Nat} (h : (kext L xs i).1 = 51) : (1000001 ≤ i ∧ i < 1000021) ∧ (i - 1000001) % 2 = 0 ∧ kext L xs i = (51, 2, fun j => if j = 0 then .ref (i + 1) else .int 0) := by
  unfold kext at h ⊢
  split at h
  · simp at h
  · rename_i h1
    split at h
    · rename_i h2
      split at h
      · rename_i h3
        exact ⟨h2, h3, by rw [if_neg h1, if_pos h2, if_pos h3]⟩
      · simp at h
    · simp at h
theorem kext52 {L : Nat} {xs : Nat → Int32} {i : Nat} (h : (kext L xs i).1 = 52) : (1000001 ≤ i ∧ i < 1000021) ∧ ¬ (i - 1000001) % 2 = 0 ∧ kext L xs i = (52, (KSD.getD ((i - 1000001) / 2) ("", 0, [])).2.2.length, fun j => .int ((KSD.getD ((i - 1000001) / 2) ("", 0, [])).2.2.getD j 0)) := by
  unfold kext at h ⊢
  split at h
  · simp at h
  · rename_i h1
    split at h
    · rename_i h2
      split at h
      · simp at h
      · rename_i h3
        exact ⟨h2, h3, by rw [if_neg h1, if_pos h2, if_neg h3]⟩
    · simp at h
def kadr (b : Nat) (ad : Nat → Nat × Nat) (v : Value) (i : Nat) : Value :=
  if i = 0 then .ref b else if i = 999999 then v else if i < 21 then (if (i - 1) % 2 = 0 then .ref (ad ((i - 1) / 2)).1 else .ref (ad ((i - 1) / 2)).2) else .null
theorem kadr1 {b : Nat} {ad : Nat → Nat × Nat} {v : Value} {i : Nat} (h1 : 1000001 ≤ i ∧ i < 1000021) (h2 : (i - 1000001) % 2 = 0) : kadr b ad v (i - 1000000) = .ref (ad ((i - 1000001) / 2)).1 := by
  unfold kadr
  rw [if_neg (by omega), if_neg (by omega), if_pos (by omega), if_pos (by omega)]
  rw [show (i - 1000000 - 1) / 2 = (i - 1000001) / 2 by omega]
theorem kadr2 {b : Nat} {ad : Nat → Nat × Nat} {v : Value} {i : Nat} (h1 : 1000001 ≤ i ∧ i < 1000021) (h2 : ¬ (i - 1000001) % 2 = 0) : kadr b ad v (i - 1000000) = .ref (ad ((i - 1000001) / 2)).2 := by
  unfold kadr
  rw [if_neg (by omega), if_neg (by omega), if_pos (by omega), if_neg (by omega)]
  rw [show (i - 1000000 - 1) / 2 = (i - 1000001) / 2 by omega]
theorem kadr3 {w : kU} {b : Nat} {ad : Nat → Nat × Nat} {v : Value} {i : Nat} (hw : w.e = kadr b ad v) (h1 : 1000001 ≤ i ∧ i < 1000021) (h2 : (i - 1000001) % 2 = 0) : kv w (.ref (i + 1)) = .ref (ad ((i - 1000001) / 2)).2 := by
  have hn : ¬ i + 1 < 1000000 := by omega
  unfold kv
  rw [hw]
  show (if i + 1 < 1000000 then _ else kadr b ad v (i + 1 - 1000000)) = _
  rw [if_neg hn]
  unfold kadr
  rw [if_neg (by omega), if_neg (by omega), if_pos (by omega), if_neg (by omega)]
  rw [show (i + 1 - 1000000 - 1) / 2 = (i - 1000001) / 2 by omega]
theorem kStr1 {s : State} {args : Array Value} {A : Nat → Prop} (hF : ∀ z ∈ kFl, z.before args s = true) (hA : ∀ a : Nat, a < s.heap.size → ¬ A a) {q : String × Nat × List Int32} (hq : q ∈ KSD) :
    ∃ a v : Nat, (Term.string q.1 q.2.1).eval args s none [] s = some (.ref a) ∧ va_O "java/lang/String" a A s s.heap ∧ va_OF "java/lang/String" "coder" "B" (.int 0) a A s s.heap ∧ va_OF "java/lang/String" "value" "[B" (.ref v) a A s s.heap ∧ va_T .byte v q.2.2.length (fun j => .int (q.2.2.getD j 0)) A s s.heap := by
  have hsc : ∀ z ∈ kSc q.1 q.2.1 q.2.2, z.before args s = true := fun z hz => hF z (klistF KSD_eq (List.mem_flatMap.mpr ⟨q, hq, hz⟩))
  have hlen : q.2.2.length < 2 ^ 31 := by
    have := of_decide_eq_true (List.all_eq_true.mp (show KSD.all (fun q => decide (q.2.2.length < 2 ^ 31)) = true by decide +kernel) q hq)
    exact this
  obtain ⟨a, c, cA, kA, q1, q2, q3, q4, q5, q6, -⟩ := Cond.exactly_spec (args := args) (first := s) (o := none) (s := s) (idx := []) (t := .string q.1 q.2.1) (cls := "java/lang/String") (hsc _ (by simp [kSc]))
  obtain ⟨t, ht, hT⟩ := va_Tof (f := fun j => .int (q.2.2.getD j 0)) (A := A) hlen (hsc (.arrayOf (.field (.string q.1 q.2.1) "java/lang/String" "value" "[B") .byte) (by simp [kSc])) (va_eqt (hsc (.eq (.length (.field (.string q.1 q.2.1) "java/lang/String" "value" "[B")) (.int (Int32.ofNat q.2.2.length))) (by simp [kSc])))
    (fun j hj => va_eqt (hsc (.eq (.elem (.field (.string q.1 q.2.1) "java/lang/String" "value" "[B") (.int (Int32.ofNat j))) (.int (q.2.2.getD j 0))) (List.mem_append_right _ (List.mem_map.mpr ⟨j, List.mem_range.mpr hj, rfl⟩)))) hA
  exact ⟨a, t, q1, ⟨cA, q3, q5, by rw [q6]; exact q2, hA a (Array.getElem?_eq_some_iff.mp q3).1⟩, vk_OFof q1 (va_eqt (hsc (.eq (.field (.string q.1 q.2.1) "java/lang/String" "coder" "B") (.int 0)) (by simp [kSc]))) hA, vk_OFof q1 ht hA, hT⟩
theorem k_world {s : State} {b L : Nat} {xs : Nat → Int32} (hts : ∀ z ∈ lw_tbl, z.before #[Value.ref b] s = true) (hg : (Jvm.Cond.and given_1 narrow_1).before #[Value.ref b] s = true) (hX : va_X b L xs s s.heap) (hb : b < s.heap.size) :
    ∃ w : kU, w.b = s.heap.size ∧ w.h = s.heap ∧ w.c = kext L xs ∧ w.e 0 = .ref b ∧ kEx w ∧ kTab w s ∧ kSt w s ∧ kThr w s := by
  have hK := kWd.of hts
  have hF : ∀ z ∈ kFl, z.before #[Value.ref b] s = true := flat_of_before _ hg
  have hA : ∀ a : Nat, a < s.heap.size → ¬ (fun q => s.heap.size ≤ q) a := fun a ha => by show ¬ s.heap.size ≤ a; omega
  -- the classes
  have hD0 : ∀ k : Nat, ∃ z : ClassId × (Nat → Nat), k < 8 → u_Kn s (kcn (k + 1)) (kT (k + 1)) (kN (k + 1)) z.1 z.2 := by
    intro k
    by_cases hk : k < 8
    · have hm : k + 1 ∈ (List.range 9).drop 1 := k_rng (by omega) (by omega)
      obtain ⟨cC, iS, h1⟩ := u_known (k_hts hK #[Value.ref b] (t := k + 1) (by omega) (by omega)) (fun _ z => z) (hK _ (klist KNi_eq hm) rfl #[Value.ref b])
      exact ⟨(cC, iS), fun _ => h1⟩
    · exact ⟨(0, fun _ => 0), fun h => absurd h hk⟩
  obtain ⟨dz, hdz⟩ := Classical.axiomOfChoice hD0
  have hA0 : ∀ t : Nat, ∃ z : ClassId, 20 ≤ t → t < 23 → ArrOfT s z (kat t) ∧ s.vm.findClass ("[" ++ (kat t).toString) = some z := by
    intro t
    by_cases ht : 20 ≤ t ∧ t < 23
    · obtain ⟨cA, kA, comp, h1, h2, h3⟩ := Cond.arrayClass_spec (kAr hK #[Value.ref b] (t := t) (by rcases (show t = 20 ∨ t = 21 ∨ t = 22 by omega) with rfl | rfl | rfl <;> decide))
      exact ⟨cA, fun _ _ => ⟨fun n z => ⟨fun k h => (by cases h), kA, h2, comp, h3⟩, h1⟩⟩
    · exact ⟨0, fun h1 h2 => absurd ⟨h1, h2⟩ ht⟩
  obtain ⟨da, hda⟩ := Classical.axiomOfChoice hA0
  have hX0 : ∀ t : Nat, ∃ z : ClassId, 30 ≤ t → t < 33 → s.vm.findClass (kxn t) = some z := by
    intro t
    by_cases ht : 30 ≤ t ∧ t < 33
    · have hi : (Cond.instantiable (kxn t) 6).before #[Value.ref b] s = true := by
        have z : Cond.instantiable (kxn t) 6 ∈ kAT (kxn t) := by simp [kAT]
        refine hK _ ?_ rfl _
        rcases (show t = 30 ∨ t = 31 ∨ t = 32 by omega) with rfl | rfl | rfl
        · exact klist kAT_30 z
        · exact klist kAT_31 z
        · exact klist kAT_32 z
      obtain ⟨cC, kC, hfc, -⟩ := Cond.instantiable_spec hi
      exact ⟨cC, fun _ _ => hfc⟩
    · exact ⟨0, fun h1 h2 => absurd ⟨h1, h2⟩ ht⟩
  obtain ⟨dx, hdx⟩ := Classical.axiomOfChoice hX0
  -- the Strings
  have hS0 : ∀ k : Nat, ∃ z : Nat × Nat, k < 10 → (Term.string (KSD.getD k ("", 0, [])).1 (KSD.getD k ("", 0, [])).2.1).eval #[Value.ref b] s none [] s = some (.ref z.1) ∧ va_O "java/lang/String" z.1 (fun q => s.heap.size ≤ q) s s.heap ∧ va_OF "java/lang/String" "coder" "B" (.int 0) z.1 (fun q => s.heap.size ≤ q) s s.heap ∧ va_OF "java/lang/String" "value" "[B" (.ref z.2) z.1 (fun q => s.heap.size ≤ q) s s.heap ∧ va_T .byte z.2 (KSD.getD k ("", 0, [])).2.2.length (fun j => .int ((KSD.getD k ("", 0, [])).2.2.getD j 0)) (fun q => s.heap.size ≤ q) s s.heap := by
    intro k
    by_cases hk : k < 10
    · have hm : KSD.getD k ("", 0, []) ∈ KSD := by
        have hl : k < KSD.length := hk
        have e : KSD.getD k ("", 0, []) = KSD[k] := by simp [List.getD, List.getElem?_eq_getElem hl]
        rw [e]
        exact List.getElem_mem hl
      obtain ⟨a, v, h1⟩ := kStr1 (A := fun q => s.heap.size ≤ q) hF hA hm
      exact ⟨(a, v), fun _ => h1⟩
    · exact ⟨(0, 0), fun h => absurd h hk⟩
  obtain ⟨ad, had⟩ := Classical.axiomOfChoice hS0
  -- the statics
  have hT : ∀ z ∈ [Cond.laysStatic "java/lang/String" "COMPACT_STRINGS" "Z", Cond.initialized "java/lang/String", Cond.laysStatic "jdk/internal/util/Preconditions" "SIOOBE_FORMATTER" "Ljava/util/function/BiFunction;", Cond.initialized "jdk/internal/util/Preconditions", Cond.laysStatic "java/lang/Throwable" "UNASSIGNED_STACK" "[Ljava/lang/StackTraceElement;", Cond.laysStatic "java/lang/Throwable" "SUPPRESSED_SENTINEL" "Ljava/util/List;", Cond.initialized "java/lang/Throwable"], z.before #[Value.ref b] s = true := fun z hz => hts z (klist KLS_eq hz)
  have hV : ∀ z ∈ [Cond.isRef (.static "java/lang/Throwable" "UNASSIGNED_STACK" "[Ljava/lang/StackTraceElement;"), Cond.isRef (.static "java/lang/Throwable" "SUPPRESSED_SENTINEL" "Ljava/util/List;"), Cond.eq (.static "java/lang/String" "COMPACT_STRINGS" "Z") (.int 1), Cond.isRef (.static "jdk/internal/util/Preconditions" "SIOOBE_FORMATTER" "Ljava/util/function/BiFunction;")], z.before #[Value.ref b] s = true := fun z hz => hF z (klistF KST_eq hz)
  have hZ1 := va_Zof (A := fun q => s.heap.size ≤ q) (hT (Cond.laysStatic "java/lang/String" "COMPACT_STRINGS" "Z") (by simp)) (hT (Cond.initialized "java/lang/String") (by simp)) (va_eqi (hV (Cond.eq (.static "java/lang/String" "COMPACT_STRINGS" "Z") (.int 1)) (by simp))) hA
  have hZ2 : ∃ v : Value, (v = .null ∨ ∃ t : Nat, v = .ref t) ∧ va_Z "jdk/internal/util/Preconditions" "SIOOBE_FORMATTER" "Ljava/util/function/BiFunction;" v (fun q => s.heap.size ≤ q) s s.heap := by
    rcases va_Zqof (A := fun q => s.heap.size ≤ q) (hT (Cond.laysStatic "jdk/internal/util/Preconditions" "SIOOBE_FORMATTER" "Ljava/util/function/BiFunction;") (by simp)) (hT (Cond.initialized "jdk/internal/util/Preconditions") (by simp)) (hV (Cond.isRef (.static "jdk/internal/util/Preconditions" "SIOOBE_FORMATTER" "Ljava/util/function/BiFunction;")) (by simp)) hA with z | ⟨t, z⟩
    · exact ⟨.null, Or.inl rfl, z⟩
    · exact ⟨.ref t, Or.inr ⟨t, rfl⟩, z⟩
  obtain ⟨vS, hvS, hZ2⟩ := hZ2
  have we : kU.e ((fun k => (dz k).1, fun k => (dz k).2), da, dx, s.heap.size, kadr b ad vS, kext L xs, s.heap) = kadr b ad vS := rfl
  refine ⟨((fun k => (dz k).1, fun k => (dz k).2), da, dx, s.heap.size, kadr b ad vS, kext L xs, s.heap), rfl, rfl, rfl, rfl, ?_, ?_, ?_, ?_⟩
  · intro i
    show kadr b ad vS i = .null ∨ ∃ x : Nat, kadr b ad vS i = .ref x
    unfold kadr
    split
    · exact Or.inr ⟨_, rfl⟩
    · split
      · exact hvS
      · split
        · split
          · exact Or.inr ⟨_, rfl⟩
          · exact Or.inr ⟨_, rfl⟩
        · exact Or.inl rfl
  · refine ⟨hK, ⟨fun k q hq => ?_, fun k q hq => by simp at hq⟩, fun t h1 h2 => hda t h1 h2, fun t h1 h2 => hdx t h1 h2⟩
    have hk : k < 8 := (List.getElem?_eq_some_iff.mp hq).1
    have h1 := kcl_at (t := k + 1) (by omega) (by omega)
    rw [Nat.add_sub_cancel] at h1
    cases hq.symm.trans h1
    exact hdz k hk
  · refine ⟨rfl, fun i hi => ?_, fun i hi => ?_, fun i hi => ?_, fun i hi => ?_, fun q hq => ?_, fun q hq => ?_⟩
    · change 50 ≤ (kext L xs i).1 at hi
      show (kext L xs i).1 = 50 ∨ (kext L xs i).1 = 51 ∨ (kext L xs i).1 = 52
      unfold kext at hi ⊢
      split
      · exact Or.inl rfl
      · split
        · split
          · exact Or.inr (Or.inl rfl)
          · exact Or.inr (Or.inr rfl)
        · rename_i h1 h2
          rw [if_neg h1, if_neg h2] at hi
          exact absurd hi (by decide)
    · obtain ⟨rfl, e⟩ := kext50 hi
      refine ⟨b, xs, rfl, hb, ?_, fun j => ?_⟩
      · show va_X b (kext L xs 1000000).2.1 xs s s.heap
        exact hX
      · rfl
    · obtain ⟨h1, h2, h3⟩ := kext52 hi
      obtain ⟨-, -, -, -, hT⟩ := had ((i - 1000001) / 2) (by omega)
      refine ⟨(ad ((i - 1000001) / 2)).2, fun j => (KSD.getD ((i - 1000001) / 2) ("", 0, [])).2.2.getD j 0, ?_, ?_, ?_⟩
      · exact (congrFun we (i - 1000000)).trans (kadr2 h1 h2)
      · show va_T .byte _ (kext L xs i).2.1 _ _ _ _
        rw [h3]
        exact hT
      · intro j
        show (kext L xs i).2.2 j = _
        rw [h3]
    · obtain ⟨h1, h2, h3⟩ := kext51 hi
      obtain ⟨-, hO, hC, hV1, -⟩ := had ((i - 1000001) / 2) (by omega)
      refine ⟨?_, (ad ((i - 1000001) / 2)).1, (ad ((i - 1000001) / 2)).2, ?_, hO, hC, hV1, ?_, ?_⟩
      · show (kext L xs i).2.1 = 2
        rw [h3]
      · exact (congrFun we (i - 1000000)).trans (kadr1 h1 h2)
      · show kv _ ((kext L xs i).2.2 0) = _
        rw [h3]
        exact kadr3 we h1 h2
      · show (kext L xs i).2.2 1 = _
        rw [h3]
        rfl
    · have hw := hts _ (klist KSL_eq hq)
      have hE : ∀ z ∈ KSE, (Cond.eq (.string z.1.1 z.1.2) (.string z.2.1 z.2.2)).before #[Value.ref b] s = true := fun z hz => hF _ (klistF KSE_eq hz)
      simp only [KSL, List.mem_cons, List.mem_nil_iff, or_false] at hq
      rcases hq with rfl | rfl | rfl | rfl | rfl | rfl | rfl | rfl | rfl | rfl | rfl | rfl | rfl
      · exact ⟨(ad 8).1, vk_R.of hw (had 8 (by decide)).1, rfl⟩
      · exact ⟨(ad 9).1, vk_R.of hw (had 9 (by decide)).1, rfl⟩
      · exact ⟨(ad 5).1, vk_R.of hw (had 5 (by decide)).1, rfl⟩
      · exact ⟨(ad 6).1, vk_R.of hw (had 6 (by decide)).1, rfl⟩
      · exact ⟨(ad 2).1, vk_R.of hw (had 2 (by decide)).1, rfl⟩
      · exact ⟨(ad 0).1, vk_R.of hw (had 0 (by decide)).1, rfl⟩
      · exact ⟨(ad 1).1, vk_R.of hw (had 1 (by decide)).1, rfl⟩
      · exact ⟨(ad 7).1, vk_R.of hw (had 7 (by decide)).1, rfl⟩
      · exact ⟨(ad 0).1, vk_R.of hw (va_eqR (hE (("IndentedNotes$ValueReader", 201), ("IndentedNotes$Writer", 60)) (by simp [KSE])) (had 0 (by decide)).1), rfl⟩
      · exact ⟨(ad 1).1, vk_R.of hw (va_eqR (hE (("IndentedNotes$ValueReader", 203), ("IndentedNotes$Writer", 62)) (by simp [KSE])) (had 1 (by decide)).1), rfl⟩
      · exact ⟨(ad 2).1, vk_R.of hw (va_eqR (hE (("IndentedNotes$ValueReader", 199), ("IndentedNotes$Writer", 79)) (by simp [KSE])) (had 2 (by decide)).1), rfl⟩
      · exact ⟨(ad 3).1, vk_R.of hw (had 3 (by decide)).1, rfl⟩
      · exact ⟨(ad 4).1, vk_R.of hw (had 4 (by decide)).1, rfl⟩
    · simp only [KGL, List.mem_cons, List.mem_nil_iff, or_false] at hq
      rcases hq with rfl | rfl
      · exact hZ2
      · exact hZ1
  · refine ⟨fun q hq => ?_, fun q hq => ?_⟩
    · have key : ∀ n d : String, (Cond.laysStatic Bundle.tN n d).before #[Value.ref b] s = true → (Cond.isRef (.static Bundle.tN n d)).before #[Value.ref b] s = true → ∃ (c : ClassId) (k : Class) (i : Nat) (fd : Field) (a : Nat) (cell : Cell) (v : Value), s.vm.findClass Bundle.tN = some c ∧ s.fieldFound? Bundle.tN n d = some (c, k, i, fd) ∧ fd.isStatic = true ∧ k.statics = some a ∧ s.heap[a]? = some cell ∧ cell.vm.isStatics = true ∧ cell.cls = c ∧ fd.slot < cell.slots.size ∧ k.staticTypes[fd.slot]? = some fd.type ∧ cell.slots[fd.slot]? = some v ∧ (v = .null ∨ ∃ t : Nat, v = .ref t) := by
        intro n d hl h
        obtain ⟨c, k, i, f, a, cell, hc, hi, hst, ha, hcell, hs, hcls, hlt, hty⟩ := Cond.laysStatic_spec hl
        cases hv : (Term.static Bundle.tN n d).eval #[Value.ref b] s none [] s with
        | none => simp [Cond.before, Cond.holds, Cond.value, hv] at h
        | some v =>
          simp only [Cond.before, Cond.holds, Cond.value, hv] at h
          obtain ⟨hst', a', cell', ha', hcell', -, hslot⟩ := Term.static_spec hi hv
          cases ha.symm.trans ha'
          cases hcell.symm.trans hcell'
          refine ⟨c, k, i, f, a, cell, v, hc, hi, hst, ha, hcell, hs, hcls, hlt, hty, hslot, ?_⟩
          cases v with
          | null => exact Or.inl rfl
          | ref t => exact Or.inr ⟨t, rfl⟩
          | _ => simp at h
      simp only [kTs, List.mem_cons, List.mem_nil_iff, or_false] at hq
      rcases hq with rfl | rfl
      · exact key _ _ (hT (Cond.laysStatic "java/lang/Throwable" "UNASSIGNED_STACK" "[Ljava/lang/StackTraceElement;") (by simp)) (hV (Cond.isRef (.static "java/lang/Throwable" "UNASSIGNED_STACK" "[Ljava/lang/StackTraceElement;")) (by simp))
      · exact key _ _ (hT (Cond.laysStatic "java/lang/Throwable" "SUPPRESSED_SENTINEL" "Ljava/util/List;") (by simp)) (hV (Cond.isRef (.static "java/lang/Throwable" "SUPPRESSED_SENTINEL" "Ljava/util/List;")) (by simp))
    · have hx := of_decide_eq_true (List.all_eq_true.mp KTHx_ok q hq)
      obtain ⟨a, c, cA, kA, q1, -⟩ := Cond.exactly_spec (args := #[Value.ref b]) (first := s) (o := none) (s := s) (idx := []) (t := .string (kown (kme q.1).1) q.2.2.2.2.1) (cls := "java/lang/String") (hF _ (klistF KSX_eq hx))
      exact ⟨a, vk_R.of (hts _ (klist KTHs_eq hq)) q1⟩
