/-! The main theorem, by induction on the fuel. -/
def khc (y : Nat) : Bool := match khl y with
  | [] => true
  | [q] => decide (30 ≤ kht q.2.2.2) && decide (kht q.2.2.2 < 33) && decide (q.2.2.2 ≠ 0) && decide ((kme y).1 = 8) && [13, 19, 31].contains q.2.2.2
  | _ => false
theorem khc_all : ((List.range 182).drop 1).all khc = true := by decide +kernel
set_option maxRecDepth 100000 in
theorem kHc_eq : [13, 19, 31].map (fun i => some (Cond.classLink (kown 8) i (kxn (kht i)))) = [345, 873, 919].map (fun i => lw_tbl[i]?) := rfl
theorem k_exc {w : kU} {h : kH} {H : Heap} (hP : kHR w h H) {a t : Nat} (h1 : 30 ≤ t) (h2 : t < 33) (ht : (h.2 a).1 = t) : a < h.1.1 ∧ ∃ cell : Cell, H[w.b + a]? = some cell ∧ cell.cls = w.X t ∧ cell.vm = .none := by
  rcases hP.2.2 a (by omega) with ⟨q1, q2⟩ | ⟨q1, q2, q3⟩
  · rcases q2 with ⟨z1, z2, z3⟩ | ⟨z1, z2, z3⟩ | ⟨z1, z2, z3⟩
    · omega
    · omega
    · rw [ht] at z3
      exact ⟨q1, z3⟩
  · rw [← q2] at q3
    omega
set_option maxHeartbeats 2000000 in
theorem ksound {l : Launch} (hfl : l.flags = pinnedFlags ++ [noTraceFlag]) : ∀ n, kSnd l n := by
  intro n
  induction n with
  | zero => intro d y cs ls st h r e; simp [krun] at e
  | succ n ih =>
    intro d y cs ls st h r er p e w R s m args below meth c H locs cells slots la C S0 hx y1 y2 hok F K S Z hE hP hL hlo hN hC hS hCR hSR hf hlc
    have hgrow := krun_grow _ _ _ _ _ _ _ _ er
    cases cs with
    | nil => exact absurd rfl (krun_ne er)
    | cons c0 cs =>
      obtain ⟨pc, x, i⟩ := c0
      obtain ⟨okd, oki, okt⟩ := hok
      rw [List.all_cons, Bool.and_eq_true] at oki okt
      show W p l e R s m args below meth c H locs cells slots (kQ w below s C S0 r) (F0 m pc la (st.map (kv w)))
      rw [krun.eq_def] at er
      dsimp only at er
      split at er
      · split at er
        · rename_i q hq
          obtain ⟨ls2, st2, h2⟩ := q
          obtain ⟨k1, k2, k3⟩ := ksimple_end hq
          obtain ⟨len, hd, hl, hnx, hk, -, hdc⟩ := kdec_i k3 okd
          have hlen : len = klen i := hl.resolve_left k2
          subst hlen
          have hnx2 : khd cs = pc + klen i := by
            rcases hnx with z | z
            · rw [k1] at z; cases z
            · exact z.1
          have g1 := krun_grow _ _ _ _ _ _ _ _ er
          have g0 := ksimple_grow hq
          dsimp only at g0 g1
          refine k_simple hx F K S hE hP hL hlo (by omega) (by omega) (by omega) (by omega) hd hk hq (fun H1 locs1 lb cells1 slots1 hc1 hs1 hP1 hL1 hl1 => ?_)
          rw [← hnx2]
          exact ih d y cs ls2 st2 h2 r er p e w R s m args below meth c H1 locs1 cells1 slots1 lb C S0 hx y1 y2 ⟨hdc, oki.2, okt.2⟩ F K S Z hE hP1 hL1 hl1 hN (by omega) (by omega) hCR hSR hf hlc
        · cases er
      · rename_i hkd
        obtain ⟨k1, k2, k3⟩ := kk_1 hkd
        obtain ⟨len, hd, hl, hnx, hk, ht, hdc⟩ := kdec_i k2 okd
        have hlen : len = 3 := by
          rcases hl with z | z
          · rw [k1] at z; cases z
          · rw [k1] at z; exact z
        subst hlen
        have hnx2 : khd cs = pc + 3 := by
          rcases hnx with z | z
          · rw [k3] at z; cases z
          · exact z.1
        split at er
        · rename_i q hq
          obtain ⟨bo, st2⟩ := q
          refine k_br hx F.1 hd ht hq (fun hb => ?_) (fun hb => ?_)
          · rw [if_pos hb] at er
            exact k_blk ih er hx y1 y2 F K S Z hE hP hL hlo hN hC hS hCR hSR hf hlc
          · rw [if_neg (fun z => Bool.noConfusion (hb.symm.trans z))] at er
            rw [← hnx2]
            exact ih d y cs ls st2 h r er p e w R s m args below meth c H locs cells slots la C S0 hx y1 y2 ⟨hdc, oki.2, okt.2⟩ F K S Z hE hP hL hlo hN hC hS hCR hSR hf hlc
        · cases er
      · rename_i hkd
        obtain ⟨off, rfl⟩ := kk_2 hkd
        obtain ⟨len, hd, hl, hnx, hk, ht, hdc⟩ := kdec_i (by intro z; cases z) okd
        have hlen : len = 3 := by
          rcases hl with z | z
          · cases z
          · exact z
        subst hlen
        simp only [ktg, decide_eq_true_eq] at ht
        exact lv_goto hx F.1 hd ht (k_blk ih er hx y1 y2 F K S Z hE hP hL hlo hN hC hS hCR hSR hf hlc)
      · rename_i hkd
        obtain ⟨len, hd, hl, hnx, hk, ht, hdc⟩ := kdec_i (kk_3 (Or.inl hkd)) okd
        split at er
        · rename_i q hq
          exact k_sw hx F.1 hd hq (k_blk ih er hx y1 y2 F K S Z hE hP hL hlo hN hC hS hCR hSR hf hlc)
        · cases er
      · rename_i hkd
        obtain ⟨len, hd, hl, hnx, hk, ht, hdc⟩ := kdec_i (kk_3 (Or.inr hkd)) okd
        split at er
        · rename_i v hv
          have h1 := kret_len hv
          have hlen : len = klen i := by
            rcases hl with z | z
            · rw [h1] at z; cases z
            · exact z
          subst hlen
          cases er
          dsimp only at hC hS
          have e1 : C = cells := by omega
          have e2 : S0 = slots := by omega
          subst e1
          subst e2
          exact k_ret hx F hP hlo hd hv
        · cases er
      · rename_i hkd
        obtain ⟨k1, k2, k3⟩ := kk_5 (Or.inl hkd)
        obtain ⟨len, hd, hl, hnx, hk, ht, hdc⟩ := kdec_i k2 okd
        have hlen : len = 3 := by
          rcases hl with z | z
          · rw [k1] at z; cases z
          · rw [k1] at z; exact z
        subst hlen
        have hnx2 : khd cs = pc + 3 := by
          rcases hnx with z | z
          · rw [k3] at z; cases z
          · exact z.1
        split at er
        · cases er
        · rename_i d
          split at er
          · rename_i q hq
            obtain ⟨b, mk, methk, ck, n1, n2, n3, n4, n5, hent⟩ := k_ent (p := p) (l := l) (e := e) (R := R) (args := args) (below := below) (locs := locs) (cells := cells) (slots := slots) (la := la) hx F K S (by omega) hP hkd hk oki.1 hd hq
            obtain ⟨a1, a2, a3, a4, a5, a6⟩ := kargs_i hq
            have hxr := List.all_eq_true.mp KYm_ok _ n1
            simp only [Bool.and_eq_true, decide_eq_true_eq] at hxr
            obtain ⟨⟨⟨x1, x2⟩, x3⟩, -⟩ := hxr
            cases hc : krun n d x (blk x 0) (kent x q.1) [] h with
            | none => rw [hc] at er; cases er
            | some r1 =>
              have g1 := krun_grow _ _ _ _ _ _ _ _ hc
              have hrn : r1.2.1.1 ≤ r.2.1.1 ∧ r1.2.1.2 ≤ r.2.1.2 := by
                rw [hc] at er
                obtain ⟨o, h1⟩ := r1
                cases o with
                | inl v => exact krun_grow _ _ _ _ _ _ _ _ er
                | inr a =>
                  dsimp only [kthr] at er
                  split at er
                  · exact krun_grow _ _ _ _ _ _ _ _ er
                  · cases er; exact ⟨Nat.le_refl _, Nat.le_refl _⟩
                  · cases er
              have hin : kIn p l e w x mk (q.1.map (kv w)).toArray methk ck H (d + 8) (60 * d + 150) (r1.2.1.1 - h.1.1) (r1.2.1.2 - h.1.2) r1 := by
                intro s' below' K' S' Z' F' hH'
                rw [lg_entry_eq]
                have hL' := k_entry (w := w) hE a5 a4
                rw [F'.2.1]
                exact k_blk ih hc hx x1 x2 F' K' S' Z' hE hP hL' (fun z hz => by cases hz) (by omega) (by omega) (by omega) (Nat.le_refl _) (Nat.le_refl _) (Nat.le_refl _) (Nat.le_refl _)
              have hsum := k_sum hE q.2
              have hrun := k_run (g := F0 m pc la (q.2.map (kv w))) (g0 := F0 m pc la (st.map (kv w))) K S Z n1 n2 n3 n4 n5 rfl (hL.2.1.trans F.2.1.symm) (ig := i) (by rw [F.1]; exact hd) rfl (by show ((q.2.map (kv w)).map fun v => v.category).sum ≤ 20; omega) hent hin (by omega) (by omega) (by omega) (by omega)
              rw [hc] at er
              obtain ⟨o, h1⟩ := r1
              dsimp only at g1 hrn hrun hin
              cases o with
              | inl v =>
                refine k_back rfl (ig := i) (by rw [F.1]; exact hd) hlo hrun (fun H1 locs1 hP1 hl1 => ?_)
                have z := ih (d + 1) y cs ls (v.toList ++ q.2) h1 r er p e w R s m args below meth c H1 locs1 (cells + (h1.1.1 - h.1.1)) (slots + (h1.1.2 - h.1.2)) la C S0 hx y1 y2 ⟨hdc, oki.2, okt.2⟩ F K S Z hE hP1 hL hl1 hN (by omega) (by omega) hCR hSR hf hlc
                rw [hnx2] at z
                have e1 : (v.toList ++ q.2).map (kv w) = (v.map (kv w)).toList ++ q.2.map (kv w) := by cases v <;> simp
                rw [e1] at z
                exact z
              | inr a =>
                have hkc := List.all_eq_true.mp khc_all y (k_rng y1 y2)
                have htb := F.2.2.2.2.2.1
                unfold khc at hkc
                unfold kthr at er
                dsimp only at er
                split at hkc
                · rename_i hkl
                  rw [hkl] at er htb
                  simp only [kfind] at er
                  cases er
                  dsimp only at hC hS
                  have hnil : c.exceptionTable.toList = [] := List.map_eq_nil_iff.mp htb
                  have z := k_out (g := F0 m pc la (q.2.map (kv w))) (g0 := F0 m pc la (st.map (kv w))) rfl F.2.2.2.1 rfl rfl (by rw [hnil]; intro x hx'; cases hx') hlo hrun
                  have e1 : C = cells + (h1.1.1 - h.1.1) := by omega
                  have e2 : S0 = slots + (h1.1.2 - h.1.2) := by omega
                  rw [e1, e2]
                  exact z
                · rename_i q0 hkl
                  rw [hkl] at er htb
                  simp only [Bool.and_eq_true, decide_eq_true_eq] at hkc
                  obtain ⟨⟨⟨⟨t1, t2⟩, t3⟩, t4⟩, t5⟩ := hkc
                  obtain ⟨xt, hxt, hxe⟩ : ∃ xt, c.exceptionTable.toList = [xt] ∧ (xt.startPc, xt.endPc, xt.handlerPc, xt.catchType) = q0 := by
                    cases hL9 : c.exceptionTable.toList with
                    | nil => rw [hL9] at htb; cases htb
                    | cons x9 r9 =>
                      rw [hL9, List.map_cons] at htb
                      have z1 := List.cons.inj htb
                      have z2 : r9 = [] := List.map_eq_nil_iff.mp z1.2
                      subst z2
                      exact ⟨x9, rfl, z1.1⟩
                  subst hxe
                  dsimp only at t1 t2 t3 t5 er
                  simp only [kfind] at er
                  split at er
                  · rename_i t9 hf9
                    split at hf9
                    · rename_i hcov
                      split at hf9
                      · rename_i htg
                        cases hf9
                        have hcl := K.1 _ (klist kHc_eq (List.contains_iff_mem.mp t5)) rfl args
                        have hown := F.2.2.2.2.1
                        rw [t4] at hown
                        have hfc := K.2.2.2 _ t1 t2
                        have hcv : covers xt pc = true := by
                          simp only [covers, Bool.and_eq_true, decide_eq_true_eq]
                          exact hcov
                        refine k_catch (g := F0 m pc la (q.2.map (kv w))) (g0 := F0 m pc la (st.map (kv w))) rfl hxt hown hcl t3 hcv hfc hlo (fun H1 hP1 => (k_exc hP1 t1 t2 htg.symm).2) hrun (fun H1 locs1 hP1 hl1 => ?_)
                        have ha := (k_exc hP1 t1 t2 htg.symm).1
                        have z := k_blk ih er (p := p) (e := e) (R := R) (s := s) (m := m) (args := args) (below := below) (meth := meth) (c := c) (H := H1) (locs := locs1) (cells := cells + (h1.1.1 - h.1.1)) (slots := slots + (h1.1.2 - h.1.2)) (la := la) (C := C) (S0 := S0) hx y1 y2 F K S Z hE hP1 hL hl1 hN (by omega) (by omega) hCR hSR hf hlc
                        rw [List.map_cons, kv_own (by omega)] at z
                        exact z
                      · cases hf9
                    · cases hf9
                  · rename_i hf9
                    split at hf9
                    · split at hf9 <;> cases hf9
                    · rename_i hcov
                      cases er
                      dsimp only at hC hS
                      have z := k_out (g := F0 m pc la (q.2.map (kv w))) (g0 := F0 m pc la (st.map (kv w))) rfl F.2.2.2.1 rfl rfl (by
                        rw [hxt]
                        intro x9 hx9
                        rw [List.mem_singleton.mp hx9]
                        simp only [covers, Bool.and_eq_false_iff, decide_eq_false_iff_not]
                        by_cases z1 : xt.startPc ≤ pc
                        · exact Or.inr (fun z2 => hcov ⟨z1, z2⟩)
                        · exact Or.inl z1) hlo hrun
                      have e1 : C = cells + (h1.1.1 - h.1.1) := by omega
                      have e2 : S0 = slots + (h1.1.2 - h.1.2) := by omega
                      rw [e1, e2]
                      exact z
                  · cases er
                · cases hkc
          · cases er
      · rename_i hkd
        obtain ⟨idx, rfl, hge⟩ := kk_6 hkd
        obtain ⟨len, hd, hl, hnx, hk, ht, hdc⟩ := kdec_i (by intro z; cases z) okd
        have hlen : len = 3 := by
          rcases hl with z | z
          · cases z
          · exact z
        subst hlen
        split at er
        · rename_i hq
          cases er
          dsimp only [knew] at hC hS hN
          have ht1 := okt.1
          simp only [kthi, Bool.or_eq_true, List.any_eq_true, Bool.and_eq_true, decide_eq_true_eq] at ht1
          rcases ht1 with z | ⟨q, hq1, ⟨⟨q1, q2⟩, q3⟩, q4⟩
          · omega
          · subst q1
            subst q2
            subst q3
            have e1 : C = cells + 1 := by omega
            have e2 : S0 = slots + 6 := by omega
            have e3 : x - 1000 = q.2.2.2.1 := by omega
            rw [e1, e2, e3]
            exact k_throw hx hfl hq1 F K S Z hE hP hlo hL hd hq.1 (by omega) (by omega) (by omega) (by omega) hq.2
        · cases er
      · rename_i hkd
        exact k_blk ih er hx y1 y2 F K S Z hE hP hL hlo hN hC hS hCR hSR hf hlc
      · rename_i hkd
        obtain ⟨k1, k2, k3⟩ := kk_5 (Or.inr hkd)
        obtain ⟨len, hd, hl, hnx, hk, ht, hdc⟩ := kdec_i k2 okd
        have hlen : len = klen i := by
          rcases hl with z | z
          · rw [k1] at z; cases z
          · exact z
        subst hlen
        have hnx2 : khd cs = pc + klen i := by
          rcases hnx with z | z
          · rw [k3] at z; cases z
          · exact z.1
        split at er
        · rename_i st1 hq
          refine k_prim hx F K hE hL (by omega) (by omega) (by omega) (by omega) hd hk hkd hq ?_
          rw [← hnx2]
          exact ih d y cs ls st1 h r er p e w R s m args below meth c H locs cells slots la C S0 hx y1 y2 ⟨hdc, oki.2, okt.2⟩ F K S Z hE hP hL hlo hN hC hS hCR hSR hf hlc
        · cases er
      · cases er
