/-! Class and reference make the same of a plain text: all in all. By program (wip/gen/gen58.py). -/
theorem ksay_1 {t : Nat → Int} {e f g : Nat} (hfg : f < g) (hge : g ≤ e) : ksay t e f g [126] = 1 ↔ ((g : Int) - (f : Int) = 1 ∧ t f = 126) := by
  rw [ksay_cons, ksay_nil, kch_in (by omega)]
  constructor
  · intro ⟨a, b⟩
    exact ⟨by omega, a⟩
  · intro ⟨a, b⟩
    exact ⟨b, by omega⟩
theorem ksay_4 {t : Nat → Int} {e f g : Nat} (hge : g ≤ e) (a b c d : Int) : ksay t e f g [a, b, c, d] = 1 ↔ ((g : Int) - (f : Int) = 4 ∧ t f = a ∧ t (f + 1) = b ∧ t (f + 2) = c ∧ t (f + 3) = d) := by
  rw [ksay_cons, ksay_cons, ksay_cons, ksay_cons, ksay_nil]
  constructor
  · intro ⟨h1, h2, h3, h4, h5⟩
    rw [kch_in (by omega)] at h1 h2 h3 h4
    exact ⟨by omega, h1, h2, h3, h4⟩
  · intro ⟨h5, h1, h2, h3, h4⟩
    rw [kch_in (by omega), kch_in (by omega), kch_in (by omega), kch_in (by omega)]
    exact ⟨h1, h2, h3, h4, by omega⟩
theorem ksay_5 {t : Nat → Int} {e f g : Nat} (hge : g ≤ e) (a b c d x : Int) : ksay t e f g [a, b, c, d, x] = 1 ↔ ((g : Int) - (f : Int) = 5 ∧ t f = a ∧ t (f + 1) = b ∧ t (f + 2) = c ∧ t (f + 3) = d ∧ t (f + 4) = x) := by
  rw [ksay_cons, ksay_cons, ksay_cons, ksay_cons, ksay_cons, ksay_nil]
  constructor
  · intro ⟨h1, h2, h3, h4, h6, h5⟩
    rw [kch_in (by omega)] at h1 h2 h3 h4 h6
    exact ⟨by omega, h1, h2, h3, h4, h6⟩
  · intro ⟨h5, h1, h2, h3, h4, h6⟩
    rw [kch_in (by omega), kch_in (by omega), kch_in (by omega), kch_in (by omega), kch_in (by omega)]
    exact ⟨h1, h2, h3, h4, h6, by omega⟩
theorem kDC_eq {t : Nat → Int} {e g q : Nat} (hge : g ≤ e) (hq : q ≤ g) : (if 0 < (g : Int) - q ∧ (g : Int) - q < 19 ∧ kdch t 10 (g - q) q 0 = (g : Int) - q then (1 : Int) else 0) = kad t e q g 10 18 := by
  have hD2 := kads_eq (t := t) (e := e) (p := q) (g := g) (b := 10) hge (Or.inl rfl)
  rcases kad_o t e q g 10 18 with ⟨h1, h2, h3⟩ | ⟨h1, h2⟩
  · have h4 := hD2.mp h3
    rw [h1, if_pos ⟨by omega, by omega, by omega⟩]
  · rw [h1, if_neg (fun z => h2 ⟨⟨by omega, by omega⟩, hD2.mpr (by obtain ⟨z1, z2, z3⟩ := z; rw [z3]; omega)⟩)]
theorem kHX_eq {t : Nat → Int} {e f g : Nat} (hfg : f < g) (hge : g ≤ e) : (if 2 < (g : Int) - f ∧ (g : Int) - f < 17 ∧ t f = 48 ∧ t (f + 1) = 120 ∧ kdch t 16 (g - (f + 2)) (f + 2) 0 = (g : Int) - f - 2 then (1 : Int) else 0) = if ksay t e f (f + 2) [48, 120] = 1 ∧ kad t e (f + 2) g 16 14 = 1 then (1 : Int) else 0 := by
  have hH2 := kads_eq (t := t) (e := e) (p := f + 2) (g := g) (b := 16) hge (Or.inr rfl)
  have sx : ksay t e f (f + 2) [48, 120] = 1 ↔ kch t e f = 48 ∧ kch t e (f + 1) = 120 ∧ f + 2 = f + 2 := by rw [ksay_cons, ksay_cons, ksay_nil]
  by_cases c1 : ksay t e f (f + 2) [48, 120] = 1 ∧ kad t e (f + 2) g 16 14 = 1
  · rw [if_pos c1]
    obtain ⟨x1, x2, x3⟩ := sx.mp c1.1
    rw [kch_in (by omega)] at x1
    have x4 : f + 1 < e := kch_lt (t := t) (by rw [x2]; decide)
    rw [kch_in x4] at x2
    have c2 := c1.2
    clear sx c1
    rcases kad_o t e (f + 2) g 16 14 with ⟨h1, h2, h3⟩ | ⟨h1, h2⟩
    · have h4 := hH2.mp h3
      exact if_pos ⟨by omega, by omega, x1, x2, by rw [h4]; omega⟩
    · rw [h1] at c2
      cases c2
  · rw [if_neg c1]
    refine if_neg (fun z => ?_)
    obtain ⟨z1, z2, z3, z4, z5⟩ := z
    refine c1 ⟨sx.mpr ⟨by rw [kch_in (by omega)]; exact z3, by rw [kch_in (by omega)]; exact z4, rfl⟩, ?_⟩
    rcases kad_o t e (f + 2) g 16 14 with ⟨h1, h2, h3⟩ | ⟨h1, h2⟩
    · exact h1
    · exact absurd ⟨⟨by omega, by omega⟩, hH2.mpr (by rw [z5]; omega)⟩ h2
theorem kpl_eq {t : Nat → Int} {n L e f g : Nat} (hX : kTx t n L) (hen : e ≤ n) (hfg : f < g) (hge : g ≤ e) (Bg : Int → Int → Nat → Nat → Int) (Mk : Int → Nat → Nat → Int) (v u v' u' : Nat) (w : Int) : (∃ k z : Int, (k = 0 ∧ z = 0 ∨ k = 1 ∧ (z = 0 ∨ z = 1) ∨ k = 2) ∧ -999999999999999999 ≤ z ∧ z ≤ 999999999999999999 ∧ kplc t e Bg v u f g = Bg k z ∧ kplm t Mk v' u' w f g = if k = 0 then Mk 0 else ku (Mk k) 35 v' z) ∨ (kplc t e Bg v u f g = kapl v (ksl t f g) u (Bg 3 0) ∧ kplm t Mk v' u' w f g = if w = 1 then Mk 3 else kspl v' (ksl t f g) u' (Mk 3)) := by
  have e0 : kch t e f = t f := kch_in (by omega)
  have s1 := ksay_1 (t := t) hfg hge
  have sn := ksay_4 (t := t) (f := f) hge 110 117 108 108
  have st := ksay_4 (t := t) (f := f) hge 116 114 117 101
  have sf := ksay_5 (t := t) (f := f) hge 102 97 108 115 101
  unfold kplc kplm
  simp only [e0]
  obtain ⟨q, hq⟩ : ∃ q, q = (if t f = 43 ∨ t f = 45 then f + 1 else f) := ⟨_, rfl⟩
  have hqg : f ≤ q ∧ q ≤ g := by rw [hq]; split <;> omega
  simp only [← hq]
  rw [kDC_eq hge hqg.2, kHX_eq hfg hge]
  by_cases c0 : ksay t e f g [126] = 1 ∨ ksay t e f g [110, 117, 108, 108] = 1
  · left
    refine ⟨0, 0, Or.inl ⟨rfl, rfl⟩, by decide, by decide, if_pos c0, ?_⟩
    rw [if_pos (show ((g : Int) - (f : Int) = 1 ∧ t f = 126) ∨ ((g : Int) - (f : Int) = 4 ∧ t f = 110 ∧ t (f + 1) = 117 ∧ t (f + 2) = 108 ∧ t (f + 3) = 108) from c0.imp s1.mp sn.mp), if_pos rfl]
  · rw [if_neg c0, if_neg (show ¬ (((g : Int) - (f : Int) = 1 ∧ t f = 126) ∨ ((g : Int) - (f : Int) = 4 ∧ t f = 110 ∧ t (f + 1) = 117 ∧ t (f + 2) = 108 ∧ t (f + 3) = 108)) from fun z => c0 (z.imp s1.mpr sn.mpr))]
    by_cases c2 : (g : Int) - (f : Int) = 5 ∧ t f = 102 ∧ t (f + 1) = 97 ∧ t (f + 2) = 108 ∧ t (f + 3) = 115 ∧ t (f + 4) = 101
    · left
      rw [if_pos (show ksay t e f g [116, 114, 117, 101] = 1 ∨ ksay t e f g [102, 97, 108, 115, 101] = 1 from Or.inr (sf.mpr c2))]
      have nt : ¬ t f = 116 := by rw [c2.2.1]; decide
      refine ⟨1, 0, Or.inr (Or.inl ⟨rfl, Or.inl rfl⟩), by decide, by decide, by rw [if_neg nt], ?_⟩
      rw [if_pos (show (if (g : Int) - (f : Int) = 5 ∧ t f = 102 ∧ t (f + 1) = 97 ∧ t (f + 2) = 108 ∧ t (f + 3) = 115 ∧ t (f + 4) = 101 then (1 : Int) else 0) = 1 ∨ ((g : Int) - (f : Int) = 4 ∧ t f = 116 ∧ t (f + 1) = 114 ∧ t (f + 2) = 117 ∧ t (f + 3) = 101) from Or.inl (if_pos c2)), if_pos (show (if (g : Int) - (f : Int) = 5 ∧ t f = 102 ∧ t (f + 1) = 97 ∧ t (f + 2) = 108 ∧ t (f + 3) = 115 ∧ t (f + 4) = 101 then (1 : Int) else 0) = 1 from if_pos c2), if_neg (show ¬ (1 : Int) = 0 by decide)]
    · rw [if_neg c2]
      by_cases c1 : ksay t e f g [116, 114, 117, 101] = 1
      · left
        rw [if_pos (show ksay t e f g [116, 114, 117, 101] = 1 ∨ ksay t e f g [102, 97, 108, 115, 101] = 1 from Or.inl c1)]
        have nt : t f = 116 := (st.mp c1).2.1
        refine ⟨1, 1, Or.inr (Or.inl ⟨rfl, Or.inr rfl⟩), by decide, by decide, by rw [if_pos nt], ?_⟩
        rw [if_pos (show (0 : Int) = 1 ∨ ((g : Int) - (f : Int) = 4 ∧ t f = 116 ∧ t (f + 1) = 114 ∧ t (f + 2) = 117 ∧ t (f + 3) = 101) from Or.inr (st.mp c1)), if_neg (show ¬ (0 : Int) = 1 by decide), if_neg (show ¬ (1 : Int) = 0 by decide)]
      · rw [if_neg (show ¬ (ksay t e f g [116, 114, 117, 101] = 1 ∨ ksay t e f g [102, 97, 108, 115, 101] = 1) from fun z => z.elim c1 (fun y => c2 (sf.mp y))), if_neg (show ¬ ((0 : Int) = 1 ∨ ((g : Int) - (f : Int) = 4 ∧ t f = 116 ∧ t (f + 1) = 114 ∧ t (f + 2) = 117 ∧ t (f + 3) = 101)) from fun z => z.elim (fun y => absurd y (by decide)) (fun y => c1 (st.mpr y)))]
        clear s1 sn st sf
        by_cases c3 : kad t e q g 10 18 = 1
        · left
          rw [if_pos c3]
          have h3 : kads t e q g 10 = 1 ∧ g - q ≤ 18 := by
            rcases kad_o t e q g 10 18 with ⟨h1, h2, h3⟩ | ⟨h1, h2⟩
            · exact ⟨h3, by omega⟩
            · rw [h1] at c3
              cases c3
          have hb := kvd_10 h3.1 h3.2
          have hwo : kwoh t 10 (g - q) q 0 = kvd t e 10 q g := kwoh_eq hge (g - q) q 0 (by omega) (fun k hk => by
            rcases kads_o t e q g 10 with ⟨_, z⟩ | ⟨z, _⟩
            · exact (z k hk).1
            · exact absurd h3.1 (by rw [z]; decide))
          refine ⟨2, if t f = 45 then -kvd t e 10 q g else kvd t e 10 q g, Or.inr (Or.inr rfl), by split <;> omega, by split <;> omega, rfl, ?_⟩
          rw [if_pos (show kad t e q g 10 18 = 1 ∨ (if ksay t e f (f + 2) [48, 120] = 1 ∧ kad t e (f + 2) g 16 14 = 1 then (1 : Int) else 0) = 1 from Or.inl c3), if_pos c3, hwo, if_neg (show ¬ (2 : Int) = 0 by decide)]
        · rw [if_neg c3]
          by_cases c4 : ksay t e f (f + 2) [48, 120] = 1 ∧ kad t e (f + 2) g 16 14 = 1
          · left
            rw [if_pos c4]
            have h3 : kads t e (f + 2) g 16 = 1 ∧ g - (f + 2) ≤ 14 ∧ f + 2 ≤ g := by
              rcases kad_o t e (f + 2) g 16 14 with ⟨h1, h2, h3⟩ | ⟨h1, h2⟩
              · exact ⟨h3, by omega, by omega⟩
              · exact absurd c4.2 (by rw [h1]; decide)
            have hb := kvd_16 h3.1 h3.2.1
            have hwo : kwoh t 16 (g - (f + 2)) (f + 2) 0 = kvd t e 16 (f + 2) g := kwoh_eq hge (g - (f + 2)) (f + 2) 0 (by omega) (fun k hk => by
              rcases kads_o t e (f + 2) g 16 with ⟨_, z⟩ | ⟨z, _⟩
              · exact (z k hk).1
              · exact absurd h3.1 (by rw [z]; decide))
            have n45 : ¬ t f = 45 := by
              have z := (ksay_cons t e f (f + 2) 48 [120]).mp c4.1
              rw [← e0, z.1]
              decide
            refine ⟨2, kvd t e 16 (f + 2) g, Or.inr (Or.inr rfl), by omega, by omega, rfl, ?_⟩
            rw [if_pos (show kad t e q g 10 18 = 1 ∨ (if ksay t e f (f + 2) [48, 120] = 1 ∧ kad t e (f + 2) g 16 14 = 1 then (1 : Int) else 0) = 1 from Or.inr (if_pos c4)), if_neg c3, hwo, if_neg n45, if_neg (show ¬ (2 : Int) = 0 by decide)]
          · right
            rw [if_neg c4]
            refine ⟨rfl, ?_⟩
            rw [if_neg (show ¬ (kad t e q g 10 18 = 1 ∨ (if ksay t e f (f + 2) [48, 120] = 1 ∧ kad t e (f + 2) g 16 14 = 1 then (1 : Int) else 0) = 1) from fun z => z.elim c3 (fun y => by rw [if_neg c4] at y; exact absurd y (by decide)))]
