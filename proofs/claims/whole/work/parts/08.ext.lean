/-! What is outside: the script, the String constants, two statics. -/
abbrev kOut (w : kU) : Nat → Prop := fun q => w.b ≤ q
def kGn (x : Nat) : String × String × String := match x with
  | 18 => ("java/lang/String", "COMPACT_STRINGS", "Z")
  | _ => ("jdk/internal/util/Preconditions", "SIOOBE_FORMATTER", "Ljava/util/function/BiFunction;")
def kSt (w : kU) (s : State) : Prop := w.h.size = w.b ∧
  (∀ i, 50 ≤ (w.c i).1 → (w.c i).1 = 50 ∨ (w.c i).1 = 51 ∨ (w.c i).1 = 52) ∧
  (∀ i, (w.c i).1 = 50 → ∃ (q : Nat) (xs : Nat → Int32), w.e (i - 1000000) = .ref q ∧ q < w.b ∧ va_X q (w.c i).2.1 xs s w.h ∧ ∀ j, (w.c i).2.2 j = .int (xs j)) ∧
  (∀ i, (w.c i).1 = 52 → ∃ (q : Nat) (xs : Nat → Int32), w.e (i - 1000000) = .ref q ∧ va_T .byte q (w.c i).2.1 (fun j => .int (xs j)) (kOut w) s w.h ∧ ∀ j, (w.c i).2.2 j = .int (xs j)) ∧
  (∀ i, (w.c i).1 = 51 → (w.c i).2.1 = 2 ∧ ∃ q v : Nat, w.e (i - 1000000) = .ref q ∧ va_O "java/lang/String" q (kOut w) s w.h ∧ va_OF "java/lang/String" "coder" "B" (.int 0) q (kOut w) s w.h ∧ va_OF "java/lang/String" "value" "[B" (.ref v) q (kOut w) s w.h ∧ kv w ((w.c i).2.2 0) = .ref v ∧ (w.c i).2.2 1 = .int 0) ∧
  (∀ q ∈ KSL, ∃ a : Nat, vk_R (kown q.1) q.2.1 q.2.2.2 a s ∧ kv w (kcst q.2.2.1) = .ref a) ∧
  (∀ q ∈ KGL, va_Z (kGn q.2.2).1 (kGn q.2.2).2.1 (kGn q.2.2).2.2 (kv w (kcst q.2.2)) (kOut w) s w.h)
theorem kSt.warm {w : kU} {s U : State} (S : kSt w s) (hW : s.WarmedH U.vm) : kSt w U := by
  obtain ⟨s1, s2, s3, s4, s5, s6, s7⟩ := S
  have ha := hW.alike
  refine ⟨s1, s2, fun i hi => ?_, fun i hi => ?_, fun i hi => ?_, fun q hq => ?_, fun q hq => va_Z.moved ha (s7 q hq)⟩
  · obtain ⟨q, xs, h1, h2, h3, h4⟩ := s3 i hi
    exact ⟨q, xs, h1, h2, h3.moved ha, h4⟩
  · obtain ⟨q, xs, h1, h3, h4⟩ := s4 i hi
    exact ⟨q, xs, h1, h3.moved ha, h4⟩
  · obtain ⟨h0, q, v, h1, h2, h3, h4, h5, h6⟩ := s5 i hi
    exact ⟨h0, q, v, h1, h2.moved ha, h3.moved ha, h4.moved ha, h5, h6⟩
  · obtain ⟨a, h1, h2⟩ := s6 q hq
    exact ⟨a, h1.warm hW, h2⟩
theorem kHR.out {w : kU} {h : kH} {H : Heap} (hP : kHR w h H) (hB : w.h.size = w.b) : ∀ a : Nat, a < w.h.size → ¬ kOut w a → H[a]? = w.h[a]? := fun a ha _ => hP.2.1 a (by omega)
theorem k_ex {w : kU} {s : State} {h : kH} {H : Heap} (S : kSt w s) (hP : kHR w h H) {a : Nat} (ha : 50 ≤ (h.2 a).1) : 1000000 ≤ a ∧ h.2 a = w.c a ∧ kv w (.ref a) = w.e (a - 1000000) := by
  rcases hP.2.2 a (by omega) with ⟨q1, q2⟩ | ⟨q1, q2, q3⟩
  · rcases q2 with ⟨z1, z2, z3⟩ | ⟨z1, z2, z3⟩ | ⟨z1, z2, z3⟩
    · omega
    · omega
    · omega
  · refine ⟨q1, q2, ?_⟩
    unfold kv
    exact if_neg (Nat.not_lt.mpr q1)
set_option maxRecDepth 100000 in
theorem KFS_eq : KFS.map (fun q => some (Cond.fieldLink (kown q.1) q.2.1 "java/lang/String" (if q.2.2 % 100 = 0 then "value" else "coder") (if q.2.2 % 100 = 0 then "[B" else "B"))) = KFSp.map (fun i => lw_tbl[i]?) := rfl
theorem KFS_ok : KFS.all (fun q => decide (q.2.2 / 100 % 100 = 51) && decide (q.2.2 % 100 < 2)) = true := by decide +kernel
set_option maxRecDepth 100000 in
theorem KGL_eq : KGL.map (fun q => some (Cond.fieldLink (kown q.1) q.2.1 (kGn q.2.2).1 (kGn q.2.2).2.1 (kGn q.2.2).2.2)) = KGLp.map (fun i => lw_tbl[i]?) := rfl
set_option maxRecDepth 100000 in
theorem KSL_eq : KSL.map (fun q => some (Cond.stringRef (kown q.1) q.2.1 q.2.2.2)) = KSLp.map (fun i => lw_tbl[i]?) := rfl
set_option maxRecDepth 100000 in
theorem KLL_eq : KLL.map (fun q => some (Cond.constantLong (kown q.1) q.2.1 q.2.2.2)) = KLLp.map (fun i => lw_tbl[i]?) := rfl
theorem KLL_ok : KLL.all (fun q => decide (kcst q.2.2.1 = .long q.2.2.2)) = true := by decide +kernel
section KE
variable {p : Program} {l : Launch} {e : Env} {R : Room} {s : State} {m : MethodId} {args : Array Value} {below : List Frame} {meth : Method} {c : Code} {H : Heap} {locs : List Loc} {cells slots : Nat} {Q : State → Prop}
variable {cc : ByteArray} {pc : Nat} {ls : Array Slot} {rest : List Value} {w : kU} {h : kH}
theorem k_xld (hx : p.tables.exec = Jvm.exec) (hb : c.code = cc) (S : kSt w s) (hP : kHR w h H) {a : Nat} {i : Int32} (ht : (h.2 a).1 = 50) (hi : kin i (h.2 a).2.1 = true) (hdg : decode cc pc = .ok (.iaload, 1))
    (kk : W p l e R s m args below meth c H locs cells slots Q (F0 m (pc + 1) ls (kv w ((h.2 a).2.2 i.toNatClampNeg) :: rest))) : W p l e R s m args below meth c H locs cells slots Q (F0 m pc ls (.int i :: kv w (.ref a) :: rest)) := by
  obtain ⟨q1, q2, q3⟩ := k_ex S hP (a := a) (by omega)
  rw [q2] at ht hi kk
  obtain ⟨q, xs, e1, e2, ⟨scr, h1, h2, h3, h4, h5⟩, e4⟩ := S.2.2.1 a ht
  obtain ⟨z1, z2⟩ := kin_ok hi
  rw [q3, e1]
  rw [e4] at kk
  exact W.iald hx hb (by rw [hP.2.1 q e2]; exact h1) h2 h3 (by rw [h4]; exact z1) (h5 _ z2) rfl rfl hdg kk
theorem k_xlen (hx : p.tables.exec = Jvm.exec) (hb : c.code = cc) (S : kSt w s) (hP : kHR w h H) {a : Nat} (ht : (h.2 a).1 = 50) (hdg : decode cc pc = .ok (.arraylength, 1))
    (kk : W p l e R s m args below meth c H locs cells slots Q (F0 m (pc + 1) ls (.int (Int32.ofNat (h.2 a).2.1) :: rest))) : W p l e R s m args below meth c H locs cells slots Q (F0 m pc ls (kv w (.ref a) :: rest)) := by
  obtain ⟨q1, q2, q3⟩ := k_ex S hP (a := a) (by omega)
  rw [q2] at ht kk
  obtain ⟨q, xs, e1, e2, ⟨scr, h1, h2, h3, h4, h5⟩, e4⟩ := S.2.2.1 a ht
  rw [q3, e1]
  exact W.alen (n := Int32.ofNat (w.c a).2.1) hx hb (by rw [hP.2.1 q e2]; exact h1) h2 (by rw [h4]) rfl rfl hdg kk
theorem k_bald (hx : p.tables.exec = Jvm.exec) (hb : c.code = cc) (S : kSt w s) (hP : kHR w h H) {a : Nat} {i : Int32} (ht : (h.2 a).1 = 52) (hi : kin i (h.2 a).2.1 = true) (hdg : decode cc pc = .ok (.baload, 1))
    (kk : W p l e R s m args below meth c H locs cells slots Q (F0 m (pc + 1) ls (kv w ((h.2 a).2.2 i.toNatClampNeg) :: rest))) : W p l e R s m args below meth c H locs cells slots Q (F0 m pc ls (.int i :: kv w (.ref a) :: rest)) := by
  obtain ⟨q1, q2, q3⟩ := k_ex S hP (a := a) (by omega)
  rw [q2] at ht hi kk
  obtain ⟨q, xs, e1, ⟨scr, h1, h2, h3, h4, h5, h6, h7⟩, e4⟩ := S.2.2.2.1 a ht
  obtain ⟨z1, z2⟩ := kin_ok hi
  have hq : H[q]? = some scr := by
    rw [hP.2.1 q (by have := (Array.getElem?_eq_some_iff.mp h1).1; rw [S.1] at this; exact this)]
    exact h1
  rw [q3, e1]
  rw [e4] at kk
  exact W.bald hx hb hq h2 h3 (fun z => z1 (by rcases z with z | z; exact Or.inl z; exact Or.inr (by omega))) (h6 _ z2) rfl rfl hdg kk
theorem k_blen (hx : p.tables.exec = Jvm.exec) (hb : c.code = cc) (S : kSt w s) (hP : kHR w h H) {a : Nat} (ht : (h.2 a).1 = 52) (hdg : decode cc pc = .ok (.arraylength, 1))
    (kk : W p l e R s m args below meth c H locs cells slots Q (F0 m (pc + 1) ls (.int (Int32.ofNat (h.2 a).2.1) :: rest))) : W p l e R s m args below meth c H locs cells slots Q (F0 m pc ls (kv w (.ref a) :: rest)) := by
  obtain ⟨q1, q2, q3⟩ := k_ex S hP (a := a) (by omega)
  rw [q2] at ht kk
  obtain ⟨q, xs, e1, ⟨scr, h1, h2, h3, h4, h5, h6, h7⟩, e4⟩ := S.2.2.2.1 a ht
  have hq : H[q]? = some scr := by
    rw [hP.2.1 q (by have := (Array.getElem?_eq_some_iff.mp h1).1; rw [S.1] at this; exact this)]
    exact h1
  rw [q3, e1]
  exact W.alen (n := Int32.ofNat (w.c a).2.1) hx hb hq h2 h5 rfl rfl hdg kk
theorem k_sget (hx : p.tables.exec = Jvm.exec) (hb : c.code = cc) (K : kTab w s) (S : kSt w s) {o idx x : Nat} (hown : s.vm.findClass (kown o) = some m.cls) (hl : (o, idx, x) ∈ KFS) (hP : kHR w h H) {a : Nat} {v : Value} (hg : kget h a x = some v) (hdg : decode cc pc = .ok (.getfield idx, 3))
    (kk : W p l e R s m args below meth c H locs cells slots Q (F0 m (pc + 3) ls (kv w v :: rest))) : W p l e R s m args below meth c H locs cells slots Q (F0 m pc ls (kv w (.ref a) :: rest)) := by
  have hok := List.all_eq_true.mp KFS_ok _ hl
  simp only [Bool.and_eq_true, decide_eq_true_eq] at hok
  obtain ⟨g1, g2⟩ := hok
  have hin := K.1 _ (klist KFS_eq hl) rfl args
  unfold kget at hg
  split at hg
  · rename_i hq
    cases hg
    rw [g1] at hq
    obtain ⟨q1, q2, q3⟩ := k_ex S hP (a := a) (by omega)
    rw [q2] at hq kk
    obtain ⟨h0, q, v, e1, -, e3, e4, e5, e6⟩ := S.2.2.2.2.1 a hq.1
    rw [q3, e1]
    rcases (show x % 100 = 0 ∨ x % 100 = 1 by omega) with hz | hz
    · rw [hz] at kk hin
      rw [e5] at kk
      obtain ⟨cf, k, fi, f, cell, h1, h2, h3, h4, h5, h6⟩ := e4.kept (hP.out S.1)
      exact W.getf hx hb hown hin h1 h2 h3 h4 h5 rfl rfl hdg kk
    · rw [hz] at kk hin
      rw [e6] at kk
      obtain ⟨cf, k, fi, f, cell, h1, h2, h3, h4, h5, h6⟩ := e3.kept (hP.out S.1)
      exact W.getf hx hb hown hin h1 h2 h3 h4 h5 rfl rfl hdg kk
  · cases hg
theorem k_gets (hx : p.tables.exec = Jvm.exec) (hb : c.code = cc) (K : kTab w s) (S : kSt w s) {o idx x : Nat} (hown : s.vm.findClass (kown o) = some m.cls) (hl : (o, idx, x) ∈ KGL) (hP : kHR w h H) (hdg : decode cc pc = .ok (.getstatic idx, 3))
    (kk : W p l e R s m args below meth c H locs cells slots Q (F0 m (pc + 3) ls (kv w (kcst x) :: rest))) : W p l e R s m args below meth c H locs cells slots Q (F0 m pc ls rest) := by
  have hin := K.1 _ (klist KGL_eq hl) rfl args
  obtain ⟨cf, kf, fi, f, a, cell, h1, h2, h3, h4, h5, h6, h7, h8⟩ := (S.2.2.2.2.2.2 _ hl).kept (hP.out S.1)
  exact W.gets hx hb hown hin h1 h2 h3 h4 h5 (fun e => by rw [e] at h6; cases h6) h7 rfl hdg kk
theorem k_ldcS (hx : p.tables.exec = Jvm.exec) (hb : c.code = cc) (S : kSt w s) {q : Nat × Nat × Nat × String} (hown : s.vm.findClass (kown q.1) = some m.cls) (hl : q ∈ KSL) (hdg : decode cc pc = .ok (.ldc q.2.1, 2))
    (kk : W p l e R s m args below meth c H locs cells slots Q (F0 m (pc + 2) ls (kv w (kcst q.2.2.1) :: rest))) : W p l e R s m args below meth c H locs cells slots Q (F0 m pc ls rest) := by
  obtain ⟨a, h1, h2⟩ := S.2.2.2.2.2.1 q hl
  rw [h2] at kk
  exact va_ldcS hx hb hown h1 hdg kk
theorem k_ldc2 (hx : p.tables.exec = Jvm.exec) (hb : c.code = cc) (K : kTab w s) {q : Nat × Nat × Nat × Int64} (hown : s.vm.findClass (kown q.1) = some m.cls) (hl : q ∈ KLL) (hdg : decode cc pc = .ok (.ldc2_w q.2.1, 3))
    (kk : W p l e R s m args below meth c H locs cells slots Q (F0 m (pc + 3) ls (kv w (kcst q.2.2.1) :: rest))) : W p l e R s m args below meth c H locs cells slots Q (F0 m pc ls rest) := by
  have hv : kcst q.2.2.1 = .long q.2.2.2 := of_decide_eq_true (List.all_eq_true.mp KLL_ok q hl)
  rw [hv] at kk
  exact lv_ldc2 hx hb hown (K.1 _ (klist KLL_eq hl) rfl args) hdg kk
end KE
