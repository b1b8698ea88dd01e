/-! What the tables' words are worth in every later state; the program's data against them. -/
def kkeep (w : Cond) : Bool := match w with
  | .fieldLinkNest _ _ _ _ _ _ => true
  | .methodLinkNest _ _ _ _ => true
  | .stringRef _ _ _ => true
  | .declares _ => true
  | w => goodWord w
/-- the words, at a state: whatever the arguments -/
def kWd (s : State) : Prop := ∀ w ∈ lw_tbl, kkeep w = true → ∀ a : Array Value, w.before a s = true
theorem kword {s U : State} (hW : s.WarmedH U.vm) {w : Cond} (hk : kkeep w = true) (h : ∀ a : Array Value, w.before a s = true) : ∀ a : Array Value, w.before a U = true := by
  intro a
  cases w with
  | fieldLinkNest x1 x2 x3 x4 x5 x6 => exact va_Nw.use rfl (va_Nw.warmF hW (h #[]))
  | methodLinkNest x1 x2 x3 x4 => exact va_Nw.use rfl (va_Nw.warmM hW (h #[]))
  | declares x1 => exact va_Nw.use rfl (va_Nw.warmD hW (h #[]))
  | stringRef x1 x2 x3 =>
    have h1 : (Cond.stringRef x1 x2 x3).before a (s.setVm U.vm) = true := Cond.stringRef_warmed hW (h a)
    simp only [Cond.before, Cond.holds, Cond.value, State.names, State.poolOf?, State.resolvedAt?] at h1 ⊢
    exact h1
  | _ => exact word_at hW (good_of_word hk) (h a)
theorem kWd.warm {s U : State} (h : kWd s) (hW : s.WarmedH U.vm) : kWd U := fun w hw hk => kword hW hk (h w hw hk)
theorem kWd.of {s : State} {b : Nat} (h : ∀ w ∈ lw_tbl, w.before #[Value.ref b] s = true) : kWd s := by
  intro w hw hk a
  have h1 := h w hw
  have hW : s.WarmedH s.vm := State.WarmedH.refl s
  cases w with
  | fieldLinkNest x1 x2 x3 x4 x5 x6 => exact va_Nw.use rfl (va_Nw.of rfl h1)
  | methodLinkNest x1 x2 x3 x4 => exact va_Nw.use rfl (va_Nw.of rfl h1)
  | declares x1 => exact va_Nw.use rfl (va_Nw.of rfl h1)
  | stringRef x1 x2 x3 => exact h1
  | _ => exact word_at hW (good_of_word hk) h1
theorem klist {α : Type} {L : List α} {f : α → Cond} {P : List Nat} (h : L.map (fun q => some (f q)) = P.map (fun i => lw_tbl[i]?)) {q : α} (hq : q ∈ L) : f q ∈ lw_tbl := by
  have h1 : some (f q) ∈ L.map (fun q => some (f q)) := List.mem_map.mpr ⟨q, hq, rfl⟩
  rw [h] at h1
  obtain ⟨i, -, hi⟩ := List.mem_map.mp h1
  exact List.mem_of_getElem? hi
def kT (t : Nat) : u_T := match t with
  | 1 => kT1
  | 2 => kT2
  | 3 => kT3
  | 4 => kT4
  | 5 => kT5
  | 6 => kT6
  | 7 => kT7
  | _ => kT8
def kcn (t : Nat) : String := kown (t - 1)
theorem kcl_at {t : Nat} (h1 : 1 ≤ t) (h2 : t < 9) : kcl[t - 1]? = some (kcn t, kT t, kN t) := by
  rcases (show t = 1 ∨ t = 2 ∨ t = 3 ∨ t = 4 ∨ t = 5 ∨ t = 6 ∨ t = 7 ∨ t = 8 by omega) with rfl | rfl | rfl | rfl | rfl | rfl | rfl | rfl <;> rfl
/-- the words of the classes' fields -/
def kTK : List (Nat × Nat) := ((List.range 9).drop 1).flatMap (fun t => (List.range (kN t)).map (fun k => (t, k)))
set_option maxRecDepth 100000 in
set_option maxHeartbeats 4000000 in
theorem kTK_eq : kTK.map (fun q => some (u_lay (kcn q.1) (kT q.1) q.2)) = KWp.map (fun i => lw_tbl[i]?) := rfl
theorem kTK_mem {t k : Nat} (h1 : 1 ≤ t) (h2 : t < 9) (hk : k < kN t) : (t, k) ∈ kTK := by
  refine List.mem_flatMap.mpr ⟨t, ?_, List.mem_map.mpr ⟨k, List.mem_range.mpr hk, rfl⟩⟩
  rcases (show t = 1 ∨ t = 2 ∨ t = 3 ∨ t = 4 ∨ t = 5 ∨ t = 6 ∨ t = 7 ∨ t = 8 by omega) with rfl | rfl | rfl | rfl | rfl | rfl | rfl | rfl <;> decide
theorem kws_in {t : Nat} (h1 : 1 ≤ t) (h2 : t < 9) : ∀ w ∈ u_ws (kcn t) (kT t) (kN t), w ∈ lw_tbl := by
  intro w hw
  obtain ⟨k, hk, rfl⟩ := List.mem_map.mp hw
  exact klist kTK_eq (kTK_mem h1 h2 (List.mem_range.mp hk))
theorem kty_all : kTK.all (fun q => decide (parseFieldDescriptor (kT q.1 q.2).2.2.1 = some (kY q.1 q.2)) && decide ((kT q.1 q.2).1 = kcn q.1)) = true := by decide +kernel
theorem kty_ok {t : Nat} (h1 : 1 ≤ t) (h2 : t < 9) {k : Nat} (hk : k < kN t) : parseFieldDescriptor (kT t k).2.2.1 = some (kY t k) ∧ (kT t k).1 = kcn t := by
  have h := List.all_eq_true.mp kty_all _ (kTK_mem h1 h2 hk)
  simp only [Bool.and_eq_true, decide_eq_true_eq] at h
  exact h
/-- the link of a field: own class, pool place, the field's number, a nest mate's -/
def kfw (q : Nat × Nat × Nat × Bool) : Cond := if q.2.2.2 = true then .fieldLinkNest (kown q.1) q.2.1 (kcn (q.2.2.1 / 100 % 100)) (kT (q.2.2.1 / 100 % 100) (q.2.2.1 % 100)).2.1 (kT (q.2.2.1 / 100 % 100) (q.2.2.1 % 100)).2.2.1 "IndentedNotes" else .fieldLink (kown q.1) q.2.1 (kcn (q.2.2.1 / 100 % 100)) (kT (q.2.2.1 / 100 % 100) (q.2.2.1 % 100)).2.1 (kT (q.2.2.1 / 100 % 100) (q.2.2.1 % 100)).2.2.1
def kkd (ty : FieldType) : Nat := match ty with
  | .int => 0
  | .boolean => 1
  | .long => 2
  | _ => 3
def kFok (q : Nat × Nat × Nat × Bool) : Bool := decide (1 ≤ q.2.2.1 / 100 % 100) && decide (q.2.2.1 / 100 % 100 < 9) && decide (q.2.2.1 % 100 < kN (q.2.2.1 / 100 % 100)) && decide (kkd (kY (q.2.2.1 / 100 % 100) (q.2.2.1 % 100)) = q.2.2.1 / 10000)
theorem KFL_ok : KFL.all kFok = true := by decide +kernel
set_option maxRecDepth 100000 in
set_option maxHeartbeats 4000000 in
theorem KFL_eq : KFL.map (fun q => some (kfw q)) = KFLp.map (fun i => lw_tbl[i]?) := rfl
/-- the link of a method -/
def kmw (q : Nat × Nat × Nat × Bool) : Cond := if q.2.2.2 = true then .methodLinkNest (kown q.1) q.2.1 (kmn q.2.2.1) "IndentedNotes" else .methodLink (kown q.1) q.2.1 (kmn q.2.2.1)
set_option maxRecDepth 100000 in
set_option maxHeartbeats 4000000 in
theorem KML_eq : KML.map (fun q => some (kmw q)) = KMLp.map (fun i => lw_tbl[i]?) := rfl
theorem KCL_ok : KCL.all (fun q => decide (1 ≤ q.2.2) && decide (q.2.2 < 9)) = true := by decide +kernel
set_option maxRecDepth 100000 in
set_option maxHeartbeats 4000000 in
theorem KCL_eq : KCL.map (fun q => some (Cond.classLink (kown q.1) q.2.1 (kcn q.2.2))) = KCLp1.map (fun i => lw_tbl[i]?) := rfl
set_option maxRecDepth 100000 in
set_option maxHeartbeats 4000000 in
theorem KNi_eq : ((List.range 9).drop 1).map (fun t => some (Cond.instantiable (kcn t) (kN t))) = KNip.map (fun i => lw_tbl[i]?) := rfl
set_option maxRecDepth 100000 in
set_option maxHeartbeats 4000000 in
theorem KNz_eq : ((List.range 9).drop 1).map (fun t => some (Cond.initialized (kcn t))) = KNzp.map (fun i => lw_tbl[i]?) := rfl
/-- what a method gives back -/
def krt (rk : Nat) : Option FieldType := match rk with
  | 1 => some .int
  | 2 => some .boolean
  | 3 => some .char
  | 4 => some .long
  | 5 => some .byte
  | _ => none
def kcodew (y : Nat) : Cond := if (khl y).isEmpty = true then .code (kmn y) (kby y) (kme y).2.2.2.2.1 (krt (kme y).2.2.2.2.2) else .codeWith (kmn y) (kby y) (kme y).2.2.2.2.1 (krt (kme y).2.2.2.2.2) (khl y)
set_option maxRecDepth 100000 in
set_option maxHeartbeats 4000000 in
theorem KYc_eq : KYL.map (fun q => some (kcodew q.1)) = KYcp.map (fun i => lw_tbl[i]?) := rfl
set_option maxRecDepth 100000 in
set_option maxHeartbeats 4000000 in
theorem KYi_eq : KYL.map (fun q => some (if q.2 = 1 then Cond.static (kmn q.1) else Cond.instanceMethod (kmn q.1))) = KYip.map (fun i => lw_tbl[i]?) := rfl
set_option maxRecDepth 100000 in
set_option maxHeartbeats 4000000 in
theorem KYs_eq : KYV.map (fun y => some (Cond.selects (kown (kme y).1) (kmn y) (kmn y))) = KYsp.map (fun i => lw_tbl[i]?) := rfl
set_option maxRecDepth 100000 in
set_option maxHeartbeats 4000000 in
theorem KYz_eq : KYZ.map (fun y => some (Cond.initialized (kown (kme y).1))) = KYzp.map (fun i => lw_tbl[i]?) := rfl
set_option maxRecDepth 100000 in
set_option maxHeartbeats 4000000 in
theorem KOB_eq : KOB.map (fun q => some (Cond.methodLink (kown q.1) q.2 objectInit)) = KOBp.map (fun i => lw_tbl[i]?) := rfl
