/-! Locals: the small machine's list against the machine's array. -/
def kEx (w : kU) : Prop := ∀ i, w.e i = .null ∨ ∃ x : Nat, w.e i = .ref x
theorem kv_rf {w : kU} (hE : kEx w) (a : Nat) : kv w (.ref a) = .null ∨ ∃ x : Nat, kv w (.ref a) = .ref x := by
  by_cases h : a < 1000000
  · exact Or.inr ⟨w.b + a, kv_own h⟩
  · have e : kv w (.ref a) = w.e (a - 1000000) := by
      unfold kv
      exact if_neg h
    rw [e]
    exact hE _
theorem kv_cat {w : kU} (hE : kEx w) (v : Value) : (kv w v).category = v.category := by
  cases v with
  | ref a => rcases kv_rf hE a with h | ⟨x, h⟩ <;> rw [h] <;> rfl
  | _ => rfl
def kalf (w : kU) (ls : List Value) (j : Nat) : Option (Nat × Value) := match ls[j]? with
  | some (.retAddr _) => none
  | some v => some (j, kv w v)
  | none => none
def kal (w : kU) (ls : List Value) : List (Nat × Value) := (List.range ls.length).filterMap (kalf w ls)
def kLR (w : kU) (la : Array Slot) (nL : Nat) (ls : List Value) : Prop := ls.length = nL ∧ lv_has la nL (kal w ls)
theorem kal_mem {w : kU} {ls : List Value} {j : Nat} {u : Value} : (j, u) ∈ kal w ls ↔ ∃ v, ls[j]? = some v ∧ (∀ q, v ≠ .retAddr q) ∧ u = kv w v := by
  constructor
  · intro h
    obtain ⟨i, -, hi⟩ := List.mem_filterMap.mp h
    unfold kalf at hi
    split at hi
    · cases hi
    · rename_i v hv hne
      cases hi
      exact ⟨v, hne, fun q e => hv q e, rfl⟩
    · cases hi
  · rintro ⟨v, h1, h2, rfl⟩
    refine List.mem_filterMap.mpr ⟨j, List.mem_range.mpr (List.getElem?_eq_some_iff.mp h1).1, ?_⟩
    unfold kalf
    rw [h1]
    cases v with
    | retAddr q => exact absurd rfl (h2 q)
    | _ => rfl
theorem kLR.at {w : kU} {la : Array Slot} {nL : Nat} {ls : List Value} (h : kLR w la nL ls) {k : Nat} {v : Value} (hk : ls[k]? = some v) (hv : ∀ q, v ≠ .retAddr q) : la[k]? = some (.val (kv w v)) := h.2.2.2 (k, kv w v) (kal_mem.mpr ⟨v, hk, hv, rfl⟩)
theorem kst1_len : ∀ (ls : List Value) (k : Nat) (v : Value), (kst1 ls k v).length = ls.length
  | [], _, _ => rfl
  | _ :: l, 0, v => rfl
  | a :: l, 1, v => by simp [kst1]
  | a :: l, n + 2, v => by simp [kst1, kst1_len l (n + 1) v]
theorem kst1_get : ∀ (ls : List Value) (k : Nat) (v : Value) (j : Nat) (u : Value), (kst1 ls k v)[j]? = some u → (j = k ∧ u = v) ∨ (j ≠ k ∧ j + 1 ≠ k ∧ ls[j]? = some u) ∨ (j + 1 = k ∧ ∃ u0, ls[j]? = some u0 ∧ u = kkill u0)
  | [], _, _, j, u, h => by simp [kst1] at h
  | a :: l, 0, v, j, u, h => by
    cases j with
    | zero => simp [kst1] at h; exact Or.inl ⟨rfl, h.symm⟩
    | succ j => simp [kst1] at h; exact Or.inr (Or.inl ⟨by omega, by omega, by simpa using h⟩)
  | a :: l, 1, v, j, u, h => by
    cases j with
    | zero => simp [kst1] at h; exact Or.inr (Or.inr ⟨rfl, a, by simp, h.symm⟩)
    | succ j =>
      cases j with
      | zero =>
        simp [kst1, List.getElem?_set] at h
        exact Or.inl ⟨rfl, h.2.symm⟩
      | succ j =>
        simp [kst1, List.getElem?_set] at h
        exact Or.inr (Or.inl ⟨by omega, by omega, by simpa using h⟩)
  | a :: l, n + 2, v, j, u, h => by
    cases j with
    | zero => simp [kst1] at h; exact Or.inr (Or.inl ⟨by omega, by omega, by simpa using h⟩)
    | succ j =>
      simp only [kst1, List.getElem?_cons_succ] at h
      rcases kst1_get l (n + 1) v j u h with ⟨h1, h2⟩ | ⟨h1, h2, h3⟩ | ⟨h1, h2⟩
      · exact Or.inl ⟨by omega, h2⟩
      · exact Or.inr (Or.inl ⟨by omega, by omega, by simpa using h3⟩)
      · exact Or.inr (Or.inr ⟨by omega, by simpa using h2⟩)
theorem kkill_ok {u : Value} (h : ∀ q, kkill u ≠ .retAddr q) : kkill u = u ∧ u.category = 1 := by
  cases u with
  | long x => exact absurd rfl (h 0)
  | double x => exact absurd rfl (h 0)
  | _ => exact ⟨rfl, rfl⟩
theorem kLR.st1 {w : kU} (hE : kEx w) {la lb : Array Slot} {nL : Nat} {ls : List Value} {k : Nat} {v : Value} (h : kLR w la nL ls) (hb : lv_has lb nL ((k, kv w v) :: (kal w ls).filter (fun q => !(q.1 == k) && !(q.1 + 1 == k && q.2.category == 2)))) : kLR w lb nL (kst1 ls k v) := by
  refine ⟨(kst1_len ls k v).trans h.1, hb.1, hb.2.1, fun q hq => ?_⟩
  obtain ⟨j, u⟩ := q
  obtain ⟨u0, h1, h2, rfl⟩ := kal_mem.mp hq
  refine hb.2.2 _ ?_
  rcases kst1_get ls k v j u0 h1 with ⟨e1, e2⟩ | ⟨e1, e2, e3⟩ | ⟨e1, u1, e2, e3⟩
  · rw [e1, e2]
    exact List.mem_cons_self
  · refine List.mem_cons_of_mem _ (List.mem_filter.mpr ⟨kal_mem.mpr ⟨u0, e3, h2, rfl⟩, ?_⟩)
    have b1 : (j == k) = false := by simpa using e1
    have b2 : (j + 1 == k) = false := by simpa using e2
    simp [b1, b2]
  · rw [e3] at h2 ⊢
    obtain ⟨f1, f2⟩ := kkill_ok h2
    rw [f1] at h2 ⊢
    refine List.mem_cons_of_mem _ (List.mem_filter.mpr ⟨kal_mem.mpr ⟨u1, e2, h2, rfl⟩, ?_⟩)
    have b1 : (j == k) = false := by simp; omega
    have b2 : ((kv w u1).category == 2) = false := by rw [kv_cat hE, f2]; rfl
    simp [b1, b2]
theorem kLR.st2 {w : kU} (hE : kEx w) {la lb : Array Slot} {nL : Nat} {ls : List Value} {k : Nat} {v : Value} (h : kLR w la nL ls) (hb : lv_has lb nL ((k, kv w v) :: (kal w ls).filter (fun q => !(q.1 == k) && (!(q.1 == k + 1) && !(q.1 + 1 == k && q.2.category == 2))))) : kLR w lb nL (kst2 ls k v) := by
  refine ⟨by rw [← h.1, ← kst1_len ls k v]; simp [kst2], hb.1, hb.2.1, fun q hq => ?_⟩
  obtain ⟨j, u⟩ := q
  obtain ⟨u0, h1, h2, rfl⟩ := kal_mem.mp hq
  refine hb.2.2 _ ?_
  unfold kst2 at h1
  by_cases hj : j = k + 1
  · subst hj
    rw [List.getElem?_set] at h1
    simp only [if_true] at h1
    split at h1
    · exact absurd (Option.some.inj h1).symm (h2 0)
    · cases h1
  · rw [List.getElem?_set_ne (Ne.symm hj)] at h1
    rcases kst1_get ls k v j u0 h1 with ⟨e1, e2⟩ | ⟨e1, e2, e3⟩ | ⟨e1, u1, e2, e3⟩
    · rw [e1, e2]
      exact List.mem_cons_self
    · refine List.mem_cons_of_mem _ (List.mem_filter.mpr ⟨kal_mem.mpr ⟨u0, e3, h2, rfl⟩, ?_⟩)
      have b1 : (j == k) = false := by simpa using e1
      have b2 : (j + 1 == k) = false := by simpa using e2
      have b3 : (j == k + 1) = false := by simpa using hj
      simp [b1, b2, b3]
    · rw [e3] at h2 ⊢
      obtain ⟨f1, f2⟩ := kkill_ok h2
      rw [f1] at h2 ⊢
      refine List.mem_cons_of_mem _ (List.mem_filter.mpr ⟨kal_mem.mpr ⟨u1, e2, h2, rfl⟩, ?_⟩)
      have b1 : (j == k) = false := by simp; omega
      have b2 : ((kv w u1).category == 2) = false := by rw [kv_cat hE, f2]; rfl
      have b3 : (j == k + 1) = false := by simpa using hj
      simp [b1, b2, b3]
/-- a method's first locals -/
theorem kent_get : ∀ (as : List Value) (b j : Nat) (u : Value), (∀ v ∈ as, ∀ q, v ≠ .retAddr q) → (∀ v ∈ as, ∀ q, v ≠ .double q) → (ksp as)[j]? = some u → (∀ q, u ≠ .retAddr q) → (b + j, u) ∈ lv_args b as
  | [], b, j, u, _, _, h, _ => by simp [ksp] at h
  | v :: l, b, j, u, ha, hd, h, hu => by
    have ha' : ∀ v ∈ l, ∀ q, v ≠ .retAddr q := fun v hv => ha v (List.mem_cons_of_mem _ hv)
    have hd' : ∀ v ∈ l, ∀ q, v ≠ .double q := fun v hv => hd v (List.mem_cons_of_mem _ hv)
    cases j with
    | zero =>
      have e : u = v := by cases v <;> simp [ksp] at h <;> exact h.symm
      subst e
      rw [lv_args]
      exact List.mem_cons_self
    | succ j =>
      rw [lv_args]
      refine List.mem_cons_of_mem _ ?_
      cases v with
      | long x =>
        cases j with
        | zero => simp [ksp] at h; exact absurd h.symm (hu 0)
        | succ j =>
          simp only [ksp, List.getElem?_cons_succ] at h
          have z := kent_get l (b + 2) j u ha' hd' h hu
          rw [show b + (j + 1 + 1) = b + 2 + j by omega]
          exact z
      | double x => exact absurd rfl (hd _ List.mem_cons_self x)
      | retAddr x => exact absurd rfl (ha _ List.mem_cons_self x)
      | int x =>
        simp only [ksp, List.getElem?_cons_succ] at h
        have z := kent_get l (b + 1) j u ha' hd' h hu
        rw [show b + (j + 1) = b + 1 + j by omega]
        exact z
      | float x =>
        simp only [ksp, List.getElem?_cons_succ] at h
        have z := kent_get l (b + 1) j u ha' hd' h hu
        rw [show b + (j + 1) = b + 1 + j by omega]
        exact z
      | null =>
        simp only [ksp, List.getElem?_cons_succ] at h
        have z := kent_get l (b + 1) j u ha' hd' h hu
        rw [show b + (j + 1) = b + 1 + j by omega]
        exact z
      | ref x =>
        simp only [ksp, List.getElem?_cons_succ] at h
        have z := kent_get l (b + 1) j u ha' hd' h hu
        rw [show b + (j + 1) = b + 1 + j by omega]
        exact z
