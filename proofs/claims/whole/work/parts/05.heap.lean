/-! The small heap against the machine's: a world holds the classes' numbers and slots, the arrays' and exceptions' classes, the first own address, what is outside, the heap at the start. -/
abbrev kU : Type := va_G × (Nat → ClassId) × (Nat → ClassId) × Nat × (Nat → Value) × (Nat → kC) × Heap
abbrev kU.D (w : kU) : va_G := w.1
abbrev kU.A (w : kU) : Nat → ClassId := w.2.1
abbrev kU.X (w : kU) : Nat → ClassId := w.2.2.1
abbrev kU.b (w : kU) : Nat := w.2.2.2.1
abbrev kU.e (w : kU) : Nat → Value := w.2.2.2.2.1
abbrev kU.c (w : kU) : Nat → kC := w.2.2.2.2.2.1
abbrev kU.h (w : kU) : Heap := w.2.2.2.2.2.2
def kv (w : kU) (v : Value) : Value := match v with
  | .ref i => if i < 1000000 then .ref (w.b + i) else w.e (i - 1000000)
  | u => u
def kCell (w : kU) (i : Nat) (q : kC) (H : Heap) : Prop :=
  (q.1 < 9 ∧ q.2.1 = kN q.1 ∧ t_OB (w.b + i) (w.D.1 (q.1 - 1)) (kN q.1) (w.D.2 (q.1 - 1)) H (fun k => kv w (q.2.2 k))) ∨
  (20 ≤ q.1 ∧ q.1 < 23 ∧ H[w.b + i]? = some (arrV (w.A q.1) q.2.1 (fun j => kv w (q.2.2 j)))) ∨
  (30 ≤ q.1 ∧ q.1 < 33 ∧ ∃ cell : Cell, H[w.b + i]? = some cell ∧ cell.cls = w.X q.1 ∧ cell.vm = .none)
def kHR (w : kU) (h : kH) (H : Heap) : Prop := H.size = w.b + h.1.1 ∧ (∀ q : Nat, q < w.b → H[q]? = w.h[q]?) ∧ ∀ i : Nat, (h.2 i).1 ≠ 0 → (i < h.1.1 ∧ kCell w i (h.2 i) H) ∨ (1000000 ≤ i ∧ h.2 i = w.c i ∧ 50 ≤ (w.c i).1)
def kxn (t : Nat) : String := match t with
  | 30 => "java/lang/IllegalArgumentException"
  | 31 => "java/lang/IndexOutOfBoundsException"
  | _ => "java/lang/IllegalStateException"
def kat (t : Nat) : FieldType := match t with
  | 20 => .int
  | 21 => .char
  | _ => .long
def kTab (w : kU) (s : State) : Prop := kWd s ∧ va_K w.D kcl [] s ∧ (∀ t, 20 ≤ t → t < 23 → ArrOfT s (w.A t) (kat t) ∧ s.vm.findClass ("[" ++ (kat t).toString) = some (w.A t)) ∧ ∀ t, 30 ≤ t → t < 33 → s.vm.findClass (kxn t) = some (w.X t)
theorem kTab.warm {w : kU} {s U : State} (K : kTab w s) (hW : s.WarmedH U.vm) : kTab w U :=
  ⟨K.1.warm hW, va_K.moved hW.alike K.2.1, fun t h1 h2 => ⟨arrOfT_moved hW.alike (K.2.2.1 t h1 h2).1, by rw [hW.alike.findClass]; exact (K.2.2.1 t h1 h2).2⟩, fun t h1 h2 => by rw [hW.alike.findClass]; exact K.2.2.2 t h1 h2⟩
theorem kv_own {w : kU} {a : Nat} (h : a < 1000000) : kv w (.ref a) = .ref (w.b + a) := by
  unfold kv
  exact if_pos h
theorem kkeep_lay (C : String) (T : u_T) (k : Nat) : kkeep (u_lay C T k) = true := by
  unfold u_lay
  split <;> rfl
theorem k_hts {s : State} (K : kWd s) (args : Array Value) {t : Nat} (h1 : 1 ≤ t) (h2 : t < 9) : ∀ q ∈ u_ws (kcn t) (kT t) (kN t), q.before args s = true := by
  intro q hq
  have h3 := kws_in h1 h2 q hq
  obtain ⟨k, hk, rfl⟩ := List.mem_map.mp hq
  exact K _ h3 (kkeep_lay _ _ _) args
theorem k_ob {w : kU} {h : kH} {H : Heap} (hP : kHR w h H) {a t : Nat} (h1 : 1 ≤ t) (h2 : t < 9) (ht : (h.2 a).1 = t) : a < h.1.1 ∧ (h.2 a).2.1 = kN t ∧ t_OB (w.b + a) (w.D.1 (t - 1)) (kN t) (w.D.2 (t - 1)) H (fun k => kv w ((h.2 a).2.2 k)) := by
  obtain ⟨-, -, hC⟩ := hP
  rcases hC a (by omega) with ⟨q1, q2⟩ | ⟨q1, q2, q3⟩
  · rcases q2 with ⟨z1, z2, z3⟩ | ⟨z1, z2, z3⟩ | ⟨z1, z2, z3⟩
    · rw [ht] at z2 z3
      exact ⟨q1, z2, z3⟩
    · omega
    · omega
  · rw [← q2] at q3
    omega
theorem k_ar {w : kU} {h : kH} {H : Heap} (hP : kHR w h H) {a t : Nat} (h1 : 20 ≤ t) (h2 : t < 23) (ht : (h.2 a).1 = t) : a < h.1.1 ∧ H[w.b + a]? = some (arrV (w.A t) (h.2 a).2.1 (fun j => kv w ((h.2 a).2.2 j))) := by
  obtain ⟨-, -, hC⟩ := hP
  rcases hC a (by omega) with ⟨q1, q2⟩ | ⟨q1, q2, q3⟩
  · rcases q2 with ⟨z1, z2, z3⟩ | ⟨z1, z2, z3⟩ | ⟨z1, z2, z3⟩
    · omega
    · rw [ht] at z3
      exact ⟨q1, z3⟩
    · omega
  · rw [← q2] at q3
    omega
/-- one cell changes: the rest stays -/
theorem kHR.set {w : kU} {h : kH} {H H1 : Heap} (hP : kHR w h H) {a : Nat} {q : kC} (ha : a < h.1.1) (hz : H1.size = H.size) (ho : ∀ z : Nat, z ≠ w.b + a → H1[z]? = H[z]?) (hc : kCell w a q H1) : kHR w (h.1, kup h.2 a q) H1 := by
  obtain ⟨p1, p2, p3⟩ := hP
  refine ⟨hz.trans p1, fun z hz => (ho z (by omega)).trans (p2 z hz), fun i hi => ?_⟩
  by_cases hia : i = a
  · subst hia
    refine Or.inl ⟨ha, ?_⟩
    show kCell w i (kup h.2 i q i) H1
    rw [show kup h.2 i q i = q from if_pos rfl]
    exact hc
  · have e1 : kup h.2 a q i = h.2 i := if_neg hia
    show (i < h.1.1 ∧ kCell w i (kup h.2 a q i) H1) ∨ (1000000 ≤ i ∧ kup h.2 a q i = w.c i ∧ 50 ≤ (w.c i).1)
    change (kup h.2 a q i).1 ≠ 0 at hi
    rw [e1] at hi ⊢
    rcases p3 i hi with ⟨q1, q2⟩ | q1
    · refine Or.inl ⟨q1, ?_⟩
      have e2 : H1[w.b + i]? = H[w.b + i]? := ho _ (by omega)
      rcases q2 with ⟨z1, z2, z3⟩ | ⟨z1, z2, z3⟩ | ⟨z1, z2, cell, z3, z4⟩
      · exact Or.inl ⟨z1, z2, z3.kept e2⟩
      · exact Or.inr (Or.inl ⟨z1, z2, e2.trans z3⟩)
      · exact Or.inr (Or.inr ⟨z1, z2, cell, e2.trans z3, z4⟩)
    · exact Or.inr q1
/-- a cell is made -/
theorem kHR.new {w : kU} {h : kH} {H H1 : Heap} (hP : kHR w h H) {t n : Nat} {f : Nat → Value} (hz : H1.size = H.size + 1) (ho : ∀ z : Nat, z < H.size → H1[z]? = H[z]?) (hc : kCell w h.1.1 (t, n, f) H1) : kHR w (knew h t n f) H1 := by
  obtain ⟨p1, p2, p3⟩ := hP
  refine ⟨by show H1.size = w.b + (h.1.1 + 1); omega, fun z hz => (ho z (by omega)).trans (p2 z hz), fun i hi => ?_⟩
  by_cases hia : i = h.1.1
  · subst hia
    refine Or.inl ⟨Nat.lt_succ_self _, ?_⟩
    show kCell w h.1.1 (kup h.2 h.1.1 (t, n, f) h.1.1) H1
    rw [show kup h.2 h.1.1 (t, n, f) h.1.1 = (t, n, f) from if_pos rfl]
    exact hc
  · have e1 : kup h.2 h.1.1 (t, n, f) i = h.2 i := if_neg hia
    show (i < h.1.1 + 1 ∧ kCell w i (kup h.2 h.1.1 (t, n, f) i) H1) ∨ (1000000 ≤ i ∧ kup h.2 h.1.1 (t, n, f) i = w.c i ∧ 50 ≤ (w.c i).1)
    change (kup h.2 h.1.1 (t, n, f) i).1 ≠ 0 at hi
    rw [e1] at hi ⊢
    rcases p3 i hi with ⟨q1, q2⟩ | q1
    · refine Or.inl ⟨by omega, ?_⟩
      have e2 : H1[w.b + i]? = H[w.b + i]? := ho _ (by omega)
      rcases q2 with ⟨z1, z2, z3⟩ | ⟨z1, z2, z3⟩ | ⟨z1, z2, cell, z3, z4⟩
      · exact Or.inl ⟨z1, z2, z3.kept e2⟩
      · exact Or.inr (Or.inl ⟨z1, z2, e2.trans z3⟩)
      · exact Or.inr (Or.inr ⟨z1, z2, cell, e2.trans z3, z4⟩)
    · exact Or.inr q1
def khash (z : String) : Nat := z.toList.foldl (fun a c => a * 256 + c.toNat) 0
def khl8 (t : Nat) : List Nat := (List.range (kN t)).map (fun k => khash (kT t k).2.1)
theorem khl_nd : ((List.range 9).drop 1).all (fun t => decide ((khl8 t).Nodup)) = true := by decide +kernel
theorem knm_ok {t : Nat} (h1 : 1 ≤ t) (h2 : t < 9) : ∀ a, a < kN t → ∀ b, b < kN t → a ≠ b → (kT t a).2.1 ≠ (kT t b).2.1 := by
  intro a ha b hb hne he
  have h := List.all_eq_true.mp khl_nd t (by rcases (show t = 1 ∨ t = 2 ∨ t = 3 ∨ t = 4 ∨ t = 5 ∨ t = 6 ∨ t = 7 ∨ t = 8 by omega) with rfl | rfl | rfl | rfl | rfl | rfl | rfl | rfl <;> decide)
  have hn : (khl8 t).Nodup := of_decide_eq_true h
  have la : a < (khl8 t).length := by simpa [khl8] using ha
  have lb : b < (khl8 t).length := by simpa [khl8] using hb
  refine hne ((List.getElem_inj (h₀ := la) (h₁ := lb) hn).mp ?_)
  simp only [khl8, List.getElem_map, List.getElem_range, he]
section KH
variable {p : Program} {l : Launch} {e : Env} {R : Room} {s : State} {m : MethodId} {args : Array Value} {below : List Frame} {meth : Method} {c : Code} {H : Heap} {locs : List Loc} {cells slots : Nat} {Q : State → Prop}
variable {cc : ByteArray} {pc : Nat} {ls : Array Slot} {rest : List Value} {w : kU} {h : kH}
theorem k_get (hx : p.tables.exec = Jvm.exec) (hb : c.code = cc) (K : kTab w s) (hN : h.1.1 ≤ 1000000) {o idx x : Nat} {ns : Bool} (hown : s.vm.findClass (kown o) = some m.cls) (hl : (o, idx, x, ns) ∈ KFL) (hP : kHR w h H) {a : Nat} {v : Value} (hg : kget h a x = some v) (hdg : decode cc pc = .ok (.getfield idx, 3))
    (kk : W p l e R s m args below meth c H locs cells slots Q (F0 m (pc + 3) ls (kv w v :: rest))) : W p l e R s m args below meth c H locs cells slots Q (F0 m pc ls (kv w (.ref a) :: rest)) := by
  have hok := List.all_eq_true.mp KFL_ok _ hl
  simp only [kFok, Bool.and_eq_true, decide_eq_true_eq] at hok
  obtain ⟨⟨⟨g1, g2⟩, g3⟩, -⟩ := hok
  unfold kget at hg
  split at hg
  · rename_i hq
    cases hg
    obtain ⟨q1, q2, q3⟩ := k_ob hP g1 g2 hq.1
    rw [kv_own (Nat.lt_of_lt_of_le q1 hN)]
    obtain ⟨cell, c1, c2, c3, c4⟩ := q3
    obtain ⟨hS, hfc, kC, hkC, hkind⟩ := K.2.1.1 (x / 100 % 100 - 1) _ (kcl_at g1 g2)
    obtain ⟨cf, kf, fi, f, hi, hsl⟩ := hS (x % 100) g3
    have hst := (u_facts hfc hkC (u_lays (k_hts K.1 args g1 g2) (fun _ z => z) g3) hi).1
    change s.fieldFound? (kT (x / 100 % 100) (x % 100)).1 _ _ = _ at hi
    rw [(kty_ok g1 g2 g3).2] at hi
    have hin := K.1 _ (klist KFL_eq hl)
    have hv : cell.slots[f.slot]? = some (kv w ((h.2 a).2.2 (x % 100))) := by
      rw [hsl]
      exact c4 _ g3
    cases ns with
    | true => exact va_Wgetf hx hb hown (hin rfl args) hi hst c1 (by rw [c3]; exact fun z => by cases z) hv rfl rfl hdg kk
    | false => exact W.getf hx hb hown (hin rfl args) hi hst c1 (by rw [c3]; exact fun z => by cases z) hv rfl rfl hdg kk
  · cases hg
def kYg (ty : FieldType) : Bool := match ty with
  | .int => true
  | .boolean => true
  | .long => true
  | .array _ => true
  | .object _ => true
  | _ => false
theorem kYg_all : kTK.all (fun q => kYg (kY q.1 q.2)) = true := by decide +kernel
theorem kfit_ok {w : kU} {ty : FieldType} {v : Value} (hg : kYg ty = true) (hk : kfit (kkd ty) v = true) : narrow ty (kv w v) = kv w v ∧ fits ty (kv w v) = true := by
  cases ty with
  | int => cases v <;> simp [kfit, kkd] at hk <;> exact ⟨rfl, rfl⟩
  | boolean =>
    cases v with
    | int z =>
      simp only [kfit, kkd, Bool.or_eq_true, decide_eq_true_eq] at hk
      rcases hk with rfl | rfl <;> exact ⟨rfl, rfl⟩
    | _ => simp [kfit, kkd] at hk
  | long => cases v <;> simp [kfit, kkd] at hk <;> exact ⟨rfl, rfl⟩
  | array t =>
    cases v with
    | ref a =>
      simp only [kfit, kkd, decide_eq_true_eq] at hk
      rw [kv_own hk]
      exact ⟨rfl, rfl⟩
    | _ => simp [kfit, kkd] at hk
  | object t =>
    cases v with
    | ref a =>
      simp only [kfit, kkd, decide_eq_true_eq] at hk
      rw [kv_own hk]
      exact ⟨rfl, rfl⟩
    | _ => simp [kfit, kkd] at hk
  | _ => simp [kYg] at hg
theorem k_lc {b : Nat} {locs : List Loc} {a i : Nat} (h : ∀ q ∈ locs, b ≤ q.base) (ha : b ≤ a) : ∀ q ∈ locs ++ [⟨a, i⟩], b ≤ q.base := by
  intro q hq
  rcases List.mem_append.mp hq with z | z
  · exact h q z
  · rw [List.mem_singleton.mp z]
    exact ha
theorem kup_eq (f : Nat → Value) (w : kU) (k : Nat) (v : Value) (j : Nat) : updV (fun k => kv w (f k)) k (kv w v) j = kv w (kup f k v j) := by
  by_cases hj : j = k
  · subst hj
    simp [updV, kup]
  · simp [updV, kup, hj]
theorem k_put (hx : p.tables.exec = Jvm.exec) (hb : c.code = cc) (K : kTab w s) (hN : h.1.1 ≤ 1000000) {o idx x : Nat} {ns : Bool} (hown : s.vm.findClass (kown o) = some m.cls) (hl : (o, idx, x, ns) ∈ KFL) (hfi : (kT (x / 100 % 100) (x % 100)).2.2.2 = true → meth.name = "<init>" ∧ kown o = kcn (x / 100 % 100)) (hP : kHR w h H) (hlo : ∀ q ∈ locs, w.b ≤ q.base) {a : Nat} {v : Value} {h1 : kH} (hg : kput h a x v = some h1) (hdg : decode cc pc = .ok (.putfield idx, 3))
    (kk : ∀ (H1 : Heap) (locs1 : List Loc), kHR w h1 H1 → (∀ q ∈ locs1, w.b ≤ q.base) → W p l e R s m args below meth c H1 locs1 cells slots Q (F0 m (pc + 3) ls rest)) : W p l e R s m args below meth c H locs cells slots Q (F0 m pc ls (kv w v :: kv w (.ref a) :: rest)) := by
  have hok := List.all_eq_true.mp KFL_ok _ hl
  simp only [kFok, Bool.and_eq_true, decide_eq_true_eq] at hok
  obtain ⟨⟨⟨g1, g2⟩, g3⟩, g4⟩ := hok
  unfold kput at hg
  split at hg
  · rename_i hq
    cases hg
    obtain ⟨hq1, hq2, hq3⟩ := hq
    obtain ⟨q1, q2, q3⟩ := k_ob hP g1 g2 hq1
    rw [kv_own (Nat.lt_of_lt_of_le q1 hN)]
    obtain ⟨cell, c1, c2, c3, c4⟩ := q3
    have hts := k_hts K.1 args g1 g2
    have hap := va_apart (own := kown o) hts (fun _ z => z) (kY (x / 100 % 100)) (fun k hk => (kty_ok g1 g2 hk).1) (fun a ha b hb hne => ?_) K.2.1 (kcl_at g1 g2)
    · obtain ⟨hS, hfc, kC, hkC, hkind⟩ := K.2.1.1 (x / 100 % 100 - 1) _ (kcl_at g1 g2)
      obtain ⟨cf, kf, fi, f, hi, hsl⟩ := hS (x % 100) g3
      have hlay := u_lays hts (fun _ z => z) g3
      have hst := (u_facts hfc hkC hlay hi).1
      have hfit := kfit_ok (w := w) (v := v) (List.all_eq_true.mp kYg_all _ (kTK_mem g1 g2 g3)) (by rw [g4]; exact hq3)
      have h6 := u_fits hfc hkC hkind hlay hi (kty_ok g1 g2 g3).1 hfit.1 hfit.2
      have hfin : hasFlag f.accessFlags Acc.final = false ∨ (m.cls = cf ∧ meth.name = "<init>") := by
        have hly := hts _ (u_in_lay g3)
        unfold u_lay at hly
        cases hf : (kT (x / 100 % 100) (x % 100)).2.2.2 with
        | true =>
          rw [if_pos hf] at hly
          obtain ⟨hnm, hoc⟩ := hfi hf
          refine Or.inr ⟨?_, hnm⟩
          obtain ⟨_, _, c', _, _, _, -, -, hf', -, -, -, hown2, -⟩ := Cond.laysFinal_spec hly
          have e1 : c' = cf := by
            have z := hi.symm.trans hf'
            simp at z
            exact z.1.symm
          rw [(kty_ok g1 g2 g3).2, ← hoc] at hown2
          rw [← e1]
          exact Option.some.inj (hown.symm.trans hown2)
        | false =>
          rw [if_neg (by rw [hf]; decide)] at hly
          exact Or.inl (u_store hfc hkC hkind hly hi (kty_ok g1 g2 g3).1 hfit.1 hfit.2).1
      change s.fieldFound? (kT (x / 100 % 100) (x % 100)).1 _ _ = _ at hi
      rw [(kty_ok g1 g2 g3).2] at hi
      have hin := K.1 _ (klist KFL_eq hl)
      have hba : w.b + a < H.size := (Array.getElem?_eq_some_iff.mp c1).1
      have hlt : f.slot < cell.slots.size := by
        rw [hsl]
        exact k2_hasslot (c4 _ g3)
      have hend : kHR w (h.1, kup h.2 a ((h.2 a).1, (h.2 a).2.1, kup (h.2 a).2.2 (x % 100) v)) (H.setIfInBounds (w.b + a) (cell.setSlot f.slot (kv w v))) := by
        refine hP.set q1 (by simp) (fun z hz => by simp [Array.getElem?_setIfInBounds, Ne.symm hz]) (Or.inl ⟨by rw [hq1]; exact g2, by rw [hq1]; exact q2, ?_⟩)
        refine ⟨cell.setSlot f.slot (kv w v), by simp [Array.getElem?_setIfInBounds, hba], by rw [hq1]; exact c2, c3, fun k hk => ?_⟩
        rw [hq1] at hk ⊢
        have z := t_set c4 hap g3 (kv w v) k hk
        rw [hsl]
        exact z.trans (congrArg some (kup_eq _ w _ v k))
      cases ns with
      | true => exact va_Wputf hx hb hown (hin rfl args) hi hst hfin c1 (by rw [c3]; exact fun z => by cases z) hlt h6.1 (by rw [c3, c2]; exact h6.2) rfl rfl hdg (kk _ _ hend (k_lc hlo (by omega)))
      | false => exact W.putf hx hb hown (hin rfl args) hi hst hfin c1 (by rw [c3]; exact fun z => by cases z) hlt h6.1 (by rw [c3, c2]; exact h6.2) rfl rfl hdg (kk _ _ hend (k_lc hlo (by omega)))
    · exact knm_ok g1 g2 a ha b hb hne
  · cases hg
end KH
