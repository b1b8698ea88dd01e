/-! Behind a value that does not fill its line. -/
section KBW
variable {sz szT : Nat × Nat} {E : Nat → kC} {x1 : Int} {S T : Nat → Nat → Int} {t : Nat → Int} {n L l a o c u e : Nat}
theorem kqb_30 {X : Nat → Nat → Int} {cs : List Int} {j : Nat} (h : j ≠ 34) : kqb X cs 30 j = X 30 j := by
  show (if j = 34 then _ else X 30 j) = X 30 j
  exact if_neg h
theorem behind_w (hX : kTx t n L) (A : kAt S T t n L l a o c u e) (h20 : T 30 20 = 4) (h28 : T 30 28 = 1) (hLn : kLn T o) {v : Nat} (h27 : T 30 27 = (v : Int)) (hv : v < c) (hne : ¬ a = kre t n l) : ∃ T', kStep szT E x1 T T' ∧ T' 30 19 = 1 ∧ kFt T T' := by
  obtain ⟨hl, ⟨hC, c1, c2, c3⟩, ⟨hR, m1, m2, m3, m4⟩, ⟨⟨r1, r2, r3, r4, r5, r6⟩, ra, rb, rc, rd, re⟩, ⟨⟨w1, w2, w3⟩, wa, wb, wc, wd⟩, ⟨g1, g2, g3⟩, q3, q4, q5, q6, q7, q8⟩ := A
  have hln := hX.ln hl
  have hx1 := hX.1
  have hle : T 30 24 + 1 = (klb t n (l + 1) : Int) := by
    rw [m2, klb_s]
    rfl
  have hm : 53 ≤ 53 ∧ 53 ≤ 57 := by omega
  have hst : ∀ T1, kR 6 143 (blk 143 0) (kent 143 [.ref 30]) [] (szT, hp 53 E T) (fun r => r = (.inl none, (szT, hp 53 E T1))) → kStep szT E x1 T T1 := fun T1 k => kStep.of (y := 143) (fun Q q => kM_4b q4 q5 g3 hLn.ins q3 h20 q) (kR.up k (by decide))
  obtain ⟨k, hk⟩ : ∃ k, k = kVd t n L (l + 1) := ⟨_, rfl⟩
  have hkr := kVd_rng (t := t) (n := n) (L := L) (f := l + 1) (by omega)
  rw [← hk] at hkr
  rcases Nat.eq_zero_or_pos o with ho0 | ho1
  · subst ho0
    rcases Nat.lt_or_ge k L with hkL | hkL
    · exact ⟨_, hst _ (c_143_finmore1 (S := T) (E := E) (sz := szT) hm hX hR m4 m3 (by omega) h28 (Or.inr rfl) q3 (l := l + 1) (by omega) hle hk q4 ⟨rfl, hne⟩ hkL), rfl, (((kFt.rf.w (by decide)).w (by decide)).w (by decide)).w (by decide)⟩
    · exact ⟨_, hst _ (c_143_finnone1 (S := T) (E := E) (sz := szT) hm hX hR m4 m3 (by omega) h28 (Or.inr rfl) q3 (l := l + 1) (by omega) hle hk q4 ⟨rfl, hne⟩ hkL), rfl, (((kFt.rf.w (by decide)).w (by decide)).w (by decide)).w (by decide)⟩
  · obtain ⟨p1, p2, p3, p4⟩ := q8 (o - 1) (by omega)
    obtain ⟨n1, n2, n3⟩ := hLn (o - 1) (by omega)
    obtain ⟨d, hd⟩ : ∃ d : Nat, T 44 (o - 1) = (d : Int) := ⟨(T 44 (o - 1)).toNat, by omega⟩
    have hf0 : kFt T (kapm2 (ku (ku T 30 19 1) 30 28 0) o e v d) := ((kFt.rf.w (by decide)).w (by decide)).apm
    rcases Nat.lt_or_ge k L with hkL | hkL
    · have hlk := hX.ln hkL
      have hkv : krb t n k < kre t n k := by rw [hk]; exact kVd_at (by rw [← hk]; exact hkL)
      rcases n1 with n1 | n1
      · rcases Int.lt_or_le ((krb t n k : Int) - (klb t n k : Int)) (T 45 (o - 1)) with hdp | hdp
        · exact ⟨_, hst _ (c_143_cl1_1 (S := T) (E := E) (sz := szT) hm hX hR m4 m3 (by omega) h28 (Or.inr rfl) q3 (l := l + 1) (by omega) hle hk h27 r6 (by omega) q4 (by omega) hd (by omega) n1 rfl (by omega) ⟨rfl, hne⟩ hkL hdp), rfl, ((hf0.w (by decide)).w (by decide)).w (by decide)⟩
        · rcases kdash_o t (kre t n k) (krb t n k) with ⟨hda, _⟩ | ⟨hda, _⟩
          · rcases Int.lt_or_le (T 45 (o - 1)) ((krb t n k : Int) - (klb t n k : Int)) with hdp2 | hdp2
            · exact ⟨_, hst _ (c_143_rowbad1 (S := T) (E := E) (sz := szT) hm hX hR m4 m3 (by omega) h28 (Or.inr rfl) q3 (l := l + 1) (by omega) hle hk h27 r6 (by omega) q4 (by omega) hd (by omega) n1 rfl (by omega) ⟨rfl, hne⟩ hkL hdp (Or.inl hdp2)), rfl, hf0.gom.w (by decide)⟩
            · exact ⟨_, hst _ (c_143_row1 (S := T) (E := E) (sz := szT) hm hX hR m4 m3 (by omega) h28 (Or.inr rfl) q3 (l := l + 1) (by omega) hle hk h27 r6 (by omega) q4 (by omega) hd (by omega) n1 rfl (by omega) ⟨rfl, hne⟩ hkL (by omega) hda), rfl, (hf0.gom.w (by decide)).w (by decide)⟩
          · exact ⟨_, hst _ (c_143_rowbad1 (S := T) (E := E) (sz := szT) hm hX hR m4 m3 (by omega) h28 (Or.inr rfl) q3 (l := l + 1) (by omega) hle hk h27 r6 (by omega) q4 (by omega) hd (by omega) n1 rfl (by omega) ⟨rfl, hne⟩ hkL hdp (Or.inr hda)), rfl, hf0.gom.w (by decide)⟩
      · rcases Int.lt_or_le ((krb t n k : Int) - (klb t n k : Int)) (T 45 (o - 1)) with hdp | hdp
        · exact ⟨_, hst _ (c_143_cl1_2 (S := T) (E := E) (sz := szT) hm hX hR m4 m3 (by omega) h28 (Or.inr rfl) q3 (l := l + 1) (by omega) hle hk h27 r6 (by omega) q4 (by omega) hd (by omega) n1 rfl (by omega) ⟨rfl, hne⟩ hkL hdp), rfl, ((hf0.w (by decide)).w (by decide)).w (by decide)⟩
        · obtain ⟨G, hG⟩ : ∃ G, G = kgom (kapm2 (ku (ku T 30 19 1) 30 28 0) o e v d) t n k := ⟨_, rfl⟩
          have hfG : kFt T G := by rw [hG]; exact hf0.gom
          have hfB : kFt T (if kqu (kch t (kre t n k) (krb t n k)) = 1 then kqb G (kuq t (kre t n k) (kch t (kre t n k) (krb t n k)) (krb t n k + 1)) else G) := by
            split
            · exact hfG.qb
            · exact hfG
          have hbad : (T 45 (o - 1) < (krb t n k : Int) - (klb t n k : Int) ∨ kdash t (kre t n k) (krb t n k) = 1 ∨ kck t (kre t n k) 0 (krb t n k) = -1) → ∃ T', kStep szT E x1 T T' ∧ T' 30 19 = 1 ∧ kFt T T' := fun hb => by
            have hckr : -1 ≤ kck t (kre t n k) 0 (krb t n k) ∧ kck t (kre t n k) 0 (krb t n k) ≤ 200 := by
              rcases kck_rng (a := krb t n k) (e := kre t n k) (i := 0) hX (by omega) with h | ⟨z, h, h2, h3⟩ <;> omega
            have kk := c_143_tabbad1 (S := T) (E := E) (sz := szT) hm hX hR m4 m3 (by omega) h28 (Or.inr rfl) q3 (l := l + 1) (by omega) hle hk h27 r6 (by omega) q4 (by omega) hd (by omega) n1 rfl (by omega) ⟨rfl, hne⟩ hkL hdp hckr hb
            rw [← hG] at kk
            exact ⟨_, hst _ kk, rfl, hfB.w (by decide)⟩
          rcases Int.lt_or_le (T 45 (o - 1)) ((krb t n k : Int) - (klb t n k : Int)) with hdp2 | hdp2
          · exact hbad (Or.inl hdp2)
          · rcases kdash_o t (kre t n k) (krb t n k) with ⟨hda, _⟩ | ⟨hda, _⟩
            · exact hbad (Or.inr (Or.inl hda))
            · rcases kck_rng (a := krb t n k) (e := kre t n k) (i := 0) hX (by omega) with hz | ⟨z, hz, hz2, hz3⟩
              · exact hbad (Or.inr (Or.inr hz))
              · obtain ⟨B, hB⟩ : ∃ B, B = (if kqu (kch t (kre t n k) (krb t n k)) = 1 then kqb G (kuq t (kre t n k) (kch t (kre t n k) (krb t n k)) (krb t n k + 1)) else G) := ⟨_, rfl⟩
                have hB30 : ∀ j, j ≠ 34 → B 30 j = G 30 j := fun j hj => by
                  rw [hB]
                  split
                  · exact kqb_30 hj
                  · rfl
                have hB33 : B 33 = G 33 := by
                  rw [hB]
                  split
                  · rfl
                  · rfl
                have hlen := (kuq_len (t := t) (e := kre t n k) (q := kch t (kre t n k) (krb t n k)) (kre t n k - (krb t n k + 1)) (krb t n k + 1) rfl).1
                obtain ⟨X5, x1', x2, x3⟩ := ref_ent_w (szT := szT) (E := E) (T := B) (t := t) (n := n) (L := L) (o := o) (c := c) (u := u) (q := (kuq t (kre t n k) (kch t (kre t n k) (krb t n k)) (krb t n k + 1)).length) (z := z) (p := krb t n k) (r := kre t n k) hX ⟨by rw [hB30 7 (by decide), hG]; exact hR.1, fun j hj => by rw [hB33, hG]; exact hR.2 j hj⟩ (by rw [hB30 21 (by decide), hG]; rfl) (by rw [hB30 23 (by decide), hG]; rfl) (by omega) (by omega) (by rw [hB30 19 (by decide), hG]; rfl) (by rw [hB30 8 (by decide), hG]; exact r2) w1 (by rw [hB30 29 (by decide), hG]; exact q4) q5 (by rw [hB30 26 (by decide), hG]; show -1 ≤ T 30 26 ∧ T 30 26 < 26; rw [← re]; exact wd) (by rw [hB30 14 (by decide), hG]; exact r4) w2 (fun hqu => ⟨by rw [hB, if_pos hqu]; rfl, by omega⟩) hz
                rw [hB, hG] at x1'
                have kk := c_143_tab1 (S := T) (E := E) (sz := szT) hm hX hR m4 m3 (by omega) h28 (Or.inr rfl) q3 (l := l + 1) (by omega) hle hk h27 r6 (by omega) q4 (by omega) hd (by omega) n1 rfl (by omega) ⟨rfl, hne⟩ hkL (by omega) hda hz (by omega) x1'
                rw [← hB] at hfB
                exact ⟨_, hst _ kk, x2, hfB.tr x3⟩
    · rcases n1 with n1 | n1
      · exact ⟨_, hst _ (c_143_end1_1 (S := T) (E := E) (sz := szT) hm hX hR m4 m3 (by omega) h28 (Or.inr rfl) q3 (l := l + 1) (by omega) hle hk h27 r6 (by omega) q4 (by omega) hd (by omega) n1 rfl (by omega) ⟨rfl, hne⟩ hkL), rfl, ((hf0.w (by decide)).w (by decide)).w (by decide)⟩
      · exact ⟨_, hst _ (c_143_end1_2 (S := T) (E := E) (sz := szT) hm hX hR m4 m3 (by omega) h28 (Or.inr rfl) q3 (l := l + 1) (by omega) hle hk h27 r6 (by omega) q4 (by omega) hd (by omega) n1 rfl (by omega) ⟨rfl, hne⟩ hkL), rfl, ((hf0.w (by decide)).w (by decide)).w (by decide)⟩
end KBW
