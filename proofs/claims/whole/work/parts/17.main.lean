/-! The main theorem: a run of the small machine is a run of the machine. -/
theorem KYm_ok : KYL.all (fun q => decide (1 ≤ q.1) && decide (q.1 < 182) && decide ((kme q.1).2.2.2.2.1 ≤ 20) && KYZ.contains q.1) = true := by decide +kernel
theorem ksp_len {w : kU} (hE : kEx w) : ∀ as : List Value, (∀ v ∈ as, kok v = true) → (lg_sl (as.map (kv w))).length = (ksp as).length
  | [], _ => rfl
  | v :: l, hv => by
    have ih := ksp_len hE l (fun u hu => hv u (List.mem_cons_of_mem _ hu))
    have h1 := hv v List.mem_cons_self
    have hc := kv_cat hE v
    cases v with
    | int a =>
      show (lg_sl (.int a :: l.map (kv w))).length = (Value.int a :: ksp l).length
      have e1 : lg_sl (.int a :: l.map (kv w)) = .val (.int a) :: lg_sl (l.map (kv w)) := rfl
      rw [e1, List.length_cons, List.length_cons, ih]
    | long a =>
      show (lg_sl (.long a :: l.map (kv w))).length = (Value.long a :: kun :: ksp l).length
      have e1 : lg_sl (.long a :: l.map (kv w)) = .val (.long a) :: .second :: lg_sl (l.map (kv w)) := rfl
      rw [e1]
      simp [ih]
    | ref a =>
      show (lg_sl (kv w (.ref a) :: l.map (kv w))).length = (Value.ref a :: ksp l).length
      have e1 : lg_sl (kv w (.ref a) :: l.map (kv w)) = .val (kv w (.ref a)) :: lg_sl (l.map (kv w)) := by
        rcases kv_rf hE a with z | ⟨u, z⟩ <;> rw [z] <;> rfl
      rw [e1, List.length_cons, List.length_cons, ih]
    | _ => cases h1
theorem lv_args_map {w : kU} (hE : kEx w) : ∀ (as : List Value) (b j : Nat) (u : Value), (j, u) ∈ lv_args b as → (j, kv w u) ∈ lv_args b (as.map (kv w))
  | [], _, _, _, h => by cases h
  | v :: l, b, j, u, h => by
    rw [lv_args] at h
    rw [List.map_cons, lv_args, kv_cat hE]
    rcases List.mem_cons.mp h with h | h
    · cases h
      exact List.mem_cons_self
    · exact List.mem_cons_of_mem _ (lv_args_map hE l _ j u h)
/-- a method's locals at its entry -/
theorem k_entry {w : kU} (hE : kEx w) {as : List Value} (hv : ∀ v ∈ as, kok v = true) {n : Nat} (hn : (ksp as).length ≤ n) : kLR w ((lg_sl (as.map (kv w)) ++ List.replicate (n - (lg_sl (as.map (kv w))).length) Slot.unset).toArray) n (kpad n (ksp as)) := by
  have hl := ksp_len hE as hv
  have h := lv_entry (as.map (kv w)) (n := n) (by rw [hl]; exact hn)
  refine ⟨by simp [kpad]; omega, h.1, h.2.1, fun q hq => ?_⟩
  obtain ⟨j, u⟩ := q
  obtain ⟨v, h1, h2, rfl⟩ := kal_mem.mp hq
  refine h.2.2 _ (lv_args_map hE as 0 j v ?_)
  have h3 : (ksp as)[j]? = some v := by
    unfold kpad at h1
    by_cases hj : j < (ksp as).length
    · rw [List.getElem?_append_left hj] at h1
      exact h1
    · rw [List.getElem?_append_right (by omega), List.getElem?_replicate] at h1
      split at h1
      · exact absurd (Option.some.inj h1).symm (h2 0)
      · cases h1
  have h4 := kent_get as 0 j v (fun u hu q e => by have := hv u hu; rw [e] at this; cases this) (fun u hu q e => by have := hv u hu; rw [e] at this; cases this) h3 h2
  rw [Nat.zero_add] at h4
  exact h4
/-- what the main theorem says of a run of so much fuel -/
def kSnd (l : Launch) (n : Nat) : Prop := ∀ (d y : Nat) (cs : List kI) (ls st : List Value) (h : kH) (r : kO × kH), krun n d y cs ls st h = some r →
  ∀ (p : Program) (e : Env) (w : kU) (R : Room) (s : State) (m : MethodId) (args : Array Value) (below : List Frame) (meth : Method) (c : Code) (H : Heap) (locs : List Loc) (cells slots : Nat) (la : Array Slot) (C S0 : Nat),
    p.tables.exec = Jvm.exec → 1 ≤ y → y < 182 → kOK y cs → kFr y s m meth c → kTab w s → kSt w s → kThr w s → kEx w → kHR w h H → kLR w la (kme y).2.2.2.2.1 ls → (∀ q ∈ locs, w.b ≤ q.base) → r.2.1.1 ≤ 1000000 → cells + r.2.1.1 = C + h.1.1 → slots + r.2.1.2 = S0 + h.1.2 → C ≤ R.cells → S0 ≤ R.slots → d + 8 ≤ R.frames → 60 * d + 150 ≤ R.locals →
    W p l e R s m args below meth c H locs cells slots (kQ w below s C S0 r) (F0 m (khd cs) la (st.map (kv w)))
theorem krun_ne {n d y : Nat} {cs : List kI} {ls st : List Value} {h : kH} {r : kO × kH} (e : krun n d y cs ls st h = some r) : cs ≠ [] := by
  cases n with
  | zero => simp [krun] at e
  | succ n =>
    intro z
    subst z
    rw [krun.eq_def] at e
    cases e
/-- at a block -/
theorem k_blk {l : Launch} {n : Nat} (ih : kSnd l n) {d y t : Nat} {ls st : List Value} {h : kH} {r : kO × kH} (hr : krun n d y (blk y t) ls st h = some r) {p : Program} {e : Env} {w : kU} {R : Room} {s : State} {m : MethodId} {args : Array Value} {below : List Frame} {meth : Method} {c : Code} {H : Heap} {locs : List Loc} {cells slots : Nat} {la : Array Slot} {C S0 : Nat}
    (hx : p.tables.exec = Jvm.exec) (y1 : 1 ≤ y) (y2 : y < 182) (F : kFr y s m meth c) (K : kTab w s) (S : kSt w s) (Z : kThr w s) (hE : kEx w) (hP : kHR w h H) (hL : kLR w la (kme y).2.2.2.2.1 ls) (hlo : ∀ q ∈ locs, w.b ≤ q.base) (hN : r.2.1.1 ≤ 1000000) (hC : cells + r.2.1.1 = C + h.1.1) (hS : slots + r.2.1.2 = S0 + h.1.2) (hCR : C ≤ R.cells) (hSR : S0 ≤ R.slots) (hf : d + 8 ≤ R.frames) (hlc : 60 * d + 150 ≤ R.locals) :
    W p l e R s m args below meth c H locs cells slots (kQ w below s C S0 r) (F0 m t la (st.map (kv w))) := by
  obtain ⟨hok, hhd⟩ := kblk_ok y1 y2 (krun_ne hr)
  have z := ih d y (blk y t) ls st h r hr p e w R s m args below meth c H locs cells slots la C S0 hx y1 y2 hok F K S Z hE hP hL hlo hN hC hS hCR hSR hf hlc
  rw [hhd] at z
  exact z
