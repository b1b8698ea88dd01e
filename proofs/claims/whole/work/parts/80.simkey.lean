/-! A key, side by side. -/
/-- a key's node has been made by both; the class stands behind the colon -/
def kLk (S T Y X : Nat → Nat → Int) (t : Nat → Int) (n L l o c e a' : Nat) : Prop := (∃ u', kAt Y (ku X 30 21 (a' : Int)) t n L l a' o (c + 1) u' e) ∧ kFx S Y c e ∧ Y 54 3 = -1 ∧ Y 21 c < 4 ∧ kFm S Y ∧ kFt T X ∧ kKp T X o ∧ X 30 19 = 0 ∧ kRt X t n ∧ X 30 23 = T 30 23 ∧ X 30 26 = -1 ∧ (S 54 3 = -1 → ∀ j, Y 55 j = S 55 j)
theorem ksp1_ku2 {S : Nat → Nat → Int} {v u a k : Nat} {y x : Int} (hk : a ≠ 30 ∧ a ≠ 37 ∧ a ≠ 38) : ksp1 (ku S a k x) v y u = ku (ksp1 S v y u) a k x := by
  unfold ksp1
  rw [show ku S a k x 37 v = S 37 v by unfold ku; show (if 37 = a then _ else S 37) v = _; rw [if_neg (by omega)], ku_comm (a := a) (k := k) (b := 38) (j := u) (by omega), ku_comm (a := a) (k := k) (b := 30) (j := 14) (by omega), ku_comm (a := a) (k := k) (b := 37) (j := v) (by omega)]
theorem kspl_ku2 {v a k : Nat} {x : Int} (hk : a ≠ 30 ∧ a ≠ 37 ∧ a ≠ 38) : ∀ (cs : List Int) (u : Nat) (S : Nat → Nat → Int), kspl v cs u (ku S a k x) = ku (kspl v cs u S) a k x
  | [], u, S => rfl
  | y :: cs, u, S => by
    show kspl v cs (u + 1) (ksp1 (ku S a k x) v y u) = ku (kspl v cs (u + 1) (ksp1 S v y u)) a k x
    rw [ksp1_ku2 hk, kspl_ku2 hk cs (u + 1)]
section KSK
variable {sz szT : Nat × Nat} {E : Nat → kC} {x1 : Int} {S T : Nat → Nat → Int} {t : Nat → Int} {n L l a o c u e : Nat}
theorem kAt.move {P : Nat} (A : kAt S T t n L l a o c u e) (h1 : a ≤ P) (h2 : P ≤ kre t n l) : kAt (ku S 53 2 (P : Int)) (ku T 30 21 (P : Int)) t n L l P o c u e := by
  obtain ⟨hl, ⟨hC, c1, c2, c3⟩, ⟨hR, m1, m2, m3, m4⟩, R, W, G, q3, q4, q5, q6, q7, q8⟩ := A
  exact ⟨hl, ⟨hC, c1, rfl, c3⟩, ⟨hR, m1, m2, m3, rfl⟩, R, W, G, q3, q4, q5, by omega, h2, q8⟩
theorem key_node {Tb X4 : Nat → Nat → Int} {k x : Int} {a' : Nat} (A : kAt S T t n L l a o c u e) (hc : c < 60) (hT : (∀ j, j ≠ 21 → j ≠ 34 → Tb 30 j = T 30 j) ∧ (∀ b, b ≠ 30 → b ≠ 47 → Tb b = T b)) (hk : k = 0 ∧ x = 0 ∨ k = 1 ∧ (x = 0 ∨ x = 1) ∨ k = 2) (hx : -999999999999999999 ≤ x ∧ x ≤ 999999999999999999) (hX4 : X4 = if k = 0 then kmk Tb 0 c else ku (kmk Tb k c) 35 c x) (haa : a ≤ a') (hae : a' ≤ kre t n l) : kLk S T (kbeg (ku S 53 2 (a' : Int)) k x c) X4 t n L l o c e a' := by
  have A0 := A
  obtain ⟨hl, ⟨hC, c1, c2, c3⟩, ⟨hR, m1, m2, m3, m4⟩, R, W, ⟨g1, g2, g3⟩, q3, q4, q5, q6, q7, q8⟩ := A
  obtain ⟨t1, t4⟩ := hT
  have hBc : ∀ (b : Nat), (b ≠ 20 ∧ b ≠ 21 ∧ b ≠ 22 ∧ b ≠ 23 ∧ b ≠ 24 ∧ b ≠ 25 ∧ b ≠ 54 ∧ b ≠ 55) → kbeg (ku S 53 2 (a' : Int)) k x c b = ku S 53 2 (a' : Int) b := fun b hb => kbeg_cell hb
  have hBt : kCt (kbeg (ku S 53 2 (a' : Int)) k x c) t n L := by
    unfold kCt
    rw [hBc 1 (by decide), hBc 2 (by decide), hBc 3 (by decide), hBc 4 (by decide), hBc 5 (by decide), hBc 6 (by decide)]
    exact hC
  have hns := kbeg_ns (S := ku S 53 2 (a' : Int)) (k := k) (z := x) (c := c)
  obtain ⟨f1, f2, f3⟩ := kNt_fin (v := (c : Int)) hX4 (fun h => by rcases hk with ⟨_, h2⟩ | ⟨h1, _⟩ | h1 <;> omega)
  have hnt : kNt T (ku X4 30 21 (a' : Int)) k x c := by
    obtain ⟨x1, x2, x3, x4, x5, x6, x7, x8, x9, x10, x11, x12, x13⟩ := f1
    rw [t1 14 (by decide) (by decide)] at x2 x7
    rw [t1 15 (by decide) (by decide)] at x3
    rw [t1 26 (by decide) (by decide), t4 42 (by decide) (by decide)] at x12
    rw [t4 34 (by decide) (by decide)] at x4
    rw [t4 37 (by decide) (by decide)] at x5
    rw [t4 35 (by decide) (by decide)] at x6
    rw [t4 36 (by decide) (by decide)] at x7
    rw [t4 38 (by decide) (by decide)] at x8
    rw [t4 39 (by decide) (by decide)] at x9
    rw [t4 40 (by decide) (by decide)] at x10
    rw [t4 41 (by decide) (by decide)] at x11
    exact ⟨x1, x2, x3, x4, x5, x6, x7, x8, x9, x10, x11, x12, x13⟩
  have hf2 : ∀ j, j ≠ 26 → j ≠ 8 → j ≠ 27 → j ≠ 20 → j ≠ 21 → j ≠ 34 → X4 30 j = T 30 j := fun j a1 a2 a3 a4 a5 a7 => by
    have z := f2 j a1 a2 a3 a4
    rw [show ku (ku X4 30 27 (c : Int)) 30 20 4 30 j = X4 30 j by show (if j = 20 then _ else if j = 27 then _ else X4 30 j) = _; rw [if_neg a4, if_neg a3]] at z
    exact z.trans (t1 j a5 a7)
  have hf3 : ∀ b, (b ≠ 30 ∧ b ≠ 34 ∧ b ≠ 35 ∧ b ≠ 36 ∧ b ≠ 37 ∧ b ≠ 42 ∧ b ≠ 47) → X4 b = T b := fun b hb => by
    have z := f3 b (by omega)
    rw [show ku (ku X4 30 27 (c : Int)) 30 20 4 b = X4 b by show (if b = 30 then _ else (if b = 30 then _ else X4 b)) = _; rw [if_neg hb.1, if_neg hb.1]] at z
    exact z.trans (t4 b (by omega) (by omega))
  have hRX : kRt X4 t n := ⟨by rw [hf2 7 (by decide) (by decide) (by decide) (by decide) (by decide) (by decide)]; exact hR.1, fun j hj => by rw [hf3 33 (by decide)]; exact hR.2 j hj⟩
  obtain ⟨A1, A2⟩ := A0.node (Y := kbeg (ku S 53 2 (a' : Int)) k x c) (X := ku X4 30 21 (a' : Int)) (a' := a') hc (by rcases hk with ⟨h1, _⟩ | ⟨h1, _⟩ | h1 <;> omega) hx haa hae hns hnt ⟨hBt, by rw [hBc 53 (by decide)]; exact c1, by rw [hBc 53 (by decide)]; rfl, by rw [hBc 53 (by decide)]; exact c3⟩ ⟨hRX, by show X4 30 22 = _; rw [hf2 22 (by decide) (by decide) (by decide) (by decide) (by decide) (by decide)]; exact m1, by show X4 30 24 = _; rw [hf2 24 (by decide) (by decide) (by decide) (by decide) (by decide) (by decide)]; exact m2, by show X4 30 23 = _; rw [hf2 23 (by decide) (by decide) (by decide) (by decide) (by decide) (by decide)]; exact m3, rfl⟩ (by show X4 30 19 = _; rw [hf2 19 (by decide) (by decide) (by decide) (by decide) (by decide) (by decide)]; exact q3) (hf2 29 (by decide) (by decide) (by decide) (by decide) (by decide) (by decide)) (hf3 43 (by decide)) (hf3 44 (by decide))
  refine ⟨⟨u, A1⟩, A2, hns.2.2.2.2.2.2.2.2.2.2.2.2.2, ?_, fun b hb => ?_, ⟨fun b e1 e2 => hf3 b (by omega), fun j hj => hf2 j (by omega) (by omega) (by omega) (by omega) (by omega) (by omega)⟩, ⟨fun j hj => ⟨by rw [hf3 43 (by decide)], by rw [hf3 44 (by decide)], by rw [hf3 45 (by decide)], by rw [hf3 46 (by decide)]⟩, hf2 28 (by decide) (by decide) (by decide) (by decide) (by decide) (by decide)⟩, (hf2 19 (by decide) (by decide) (by decide) (by decide) (by decide) (by decide)).trans q3, hRX, hf2 23 (by decide) (by decide) (by decide) (by decide) (by decide) (by decide), hnt.2.2.2.2.2.2.2.2.2.2.2.2, fun h j => by rw [hns.2.2.2.2.2.2.2.2.2.2.2.2.1, if_neg (fun z => z.1 h)]; rfl⟩
  · rw [hns.2.2.2.1, if_pos rfl]
    rcases hk with ⟨h1, _⟩ | ⟨h1, _⟩ | h1 <;> omega
  · rw [hBc b (by omega)]
    exact if_neg (by omega)
theorem key_str {Tb : Nat → Nat → Int} {cs : List Int} {a' : Nat} (hX : kTx t n L) (A : kAt S T t n L l a o c u e) (hc : c < 60) (hT : (∀ j, j ≠ 21 → j ≠ 34 → Tb 30 j = T 30 j) ∧ (∀ b, b ≠ 30 → b ≠ 47 → Tb b = T b)) (hcs : ∀ x ∈ cs, x = 10 ∨ 32 ≤ x ∧ x ≤ 126) (hlen : u + cs.length + e + o ≤ a') (haa : a ≤ a') (hae : a' ≤ kre t n l) : kLk S T (kapl c cs u (kbeg (ku S 53 2 (a' : Int)) 3 0 c)) (kspl c cs u (kmk Tb 3 c)) t n L l o c e a' := by
  have A0 := A
  obtain ⟨hl, ⟨hC, c1, c2, c3⟩, ⟨hR, m1, m2, m3, m4⟩, R, W, ⟨g1, g2, g3⟩, q3, q4, q5, q6, q7, q8⟩ := A
  obtain ⟨⟨r1, r2, r3, r4, r5, r6⟩, ra, rb, rc, rd, re⟩ := R
  obtain ⟨t1, t4⟩ := hT
  have hBc : ∀ (b : Nat), (b ≠ 20 ∧ b ≠ 21 ∧ b ≠ 22 ∧ b ≠ 23 ∧ b ≠ 24 ∧ b ≠ 25 ∧ b ≠ 54 ∧ b ≠ 55) → kbeg (ku S 53 2 (a' : Int)) 3 0 c b = ku S 53 2 (a' : Int) b := fun b hb => kbeg_cell hb
  have hBt : kCt (kbeg (ku S 53 2 (a' : Int)) 3 0 c) t n L := by
    unfold kCt
    rw [hBc 1 (by decide), hBc 2 (by decide), hBc 3 (by decide), hBc 4 (by decide), hBc 5 (by decide), hBc 6 (by decide)]
    exact hC
  have hns := kbeg_ns (S := ku S 53 2 (a' : Int)) (k := 3) (z := 0) (c := c)
  have hBu : kbeg (ku S 53 2 (a' : Int)) 3 0 c 20 7 = (u : Int) := by rw [hns.2.1]; exact r3
  have f1 := kmk_nt (T := Tb) (k := 3) (c := c)
  have hnt : kNt T (ku (kmk Tb 3 c) 30 21 (a' : Int)) 3 0 c := by
    obtain ⟨x1, x2, x3, x4, x5, x6, x7, x8, x9, x10, x11, x12, x13⟩ := f1
    rw [t1 14 (by decide) (by decide)] at x2 x7
    rw [t1 15 (by decide) (by decide)] at x3
    rw [t1 26 (by decide) (by decide), t4 42 (by decide) (by decide)] at x12
    rw [t4 34 (by decide) (by decide)] at x4
    rw [t4 37 (by decide) (by decide)] at x5
    rw [t4 35 (by decide) (by decide)] at x6
    rw [t4 36 (by decide) (by decide)] at x7
    rw [t4 38 (by decide) (by decide)] at x8
    rw [t4 39 (by decide) (by decide)] at x9
    rw [t4 40 (by decide) (by decide)] at x10
    rw [t4 41 (by decide) (by decide)] at x11
    exact ⟨x1, x2, x3, x4, x5, x6, x7, x8, x9, x10, x11, x12, x13⟩
  have hf2 : ∀ j, j ≠ 26 → j ≠ 8 → j ≠ 21 → j ≠ 34 → kmk Tb 3 c 30 j = T 30 j := fun j a1 a2 a3 a4 => (kmk_30 a1 a2).trans (t1 j a3 a4)
  have hf3 : ∀ b, (b ≠ 30 ∧ b ≠ 34 ∧ b ≠ 35 ∧ b ≠ 36 ∧ b ≠ 37 ∧ b ≠ 42 ∧ b ≠ 47) → kmk Tb 3 c b = T b := fun b hb => (kmk_cell (by omega)).trans (t4 b (by omega) (by omega))
  have hCu1 : kCu (kbeg (ku S 53 2 (a' : Int)) 3 0 c) t n L l a' := ⟨hBt, by rw [hBc 53 (by decide)]; exact c1, by rw [hBc 53 (by decide)]; rfl, by rw [hBc 53 (by decide)]; exact c3⟩
  have hCm1 : kCm (ku (kmk Tb 3 c) 30 21 (a' : Int)) t n l a' := ⟨⟨(hf2 7 (by decide) (by decide) (by decide) (by decide)).trans hR.1, fun j hj => by show kmk Tb 3 c 33 j = _; rw [hf3 33 (by decide)]; exact hR.2 j hj⟩, (hf2 22 (by decide) (by decide) (by decide) (by decide)).trans m1, (hf2 24 (by decide) (by decide) (by decide) (by decide)).trans m2, (hf2 23 (by decide) (by decide) (by decide) (by decide)).trans m3, rfl⟩
  obtain ⟨A1, A2⟩ := A0.node (Y := kbeg (ku S 53 2 (a' : Int)) 3 0 c) (X := ku (kmk Tb 3 c) 30 21 (a' : Int)) (a' := a') hc (by omega) (by omega) haa hae hns hnt hCu1 hCm1 ((hf2 19 (by decide) (by decide) (by decide) (by decide)).trans q3) (hf2 29 (by decide) (by decide) (by decide) (by decide)) (hf3 43 (by decide)) (hf3 44 (by decide))
  have hu2 : kmk Tb 3 c 30 14 = (u : Int) := (hf2 14 (by decide) (by decide) (by decide) (by decide)).trans r4
  obtain ⟨B1, B2⟩ := A1.chars (v := c) (cs := cs) (a' := a') hcs (by omega) (by rw [hns.2.2.2.1, if_pos rfl]; decide) (by rw [hns.2.2.2.2.1, if_pos rfl]) (by rw [hns.2.2.2.2.2.2.1, if_pos rfl]; exact r3) hlen hae hX hCu1 hCm1
  rw [kspl_ku (by decide)] at B1
  have hRX : kRt (kspl c cs u (kmk Tb 3 c)) t n := B1.2.2.1.1
  refine ⟨⟨_, B1⟩, A2.tr B2 (by omega) (Nat.le_refl _), by rw [kapl_cell hBu (by decide)]; exact hns.2.2.2.2.2.2.2.2.2.2.2.2.2, by rw [kapl_cell hBu (by decide), hns.2.2.2.1, if_pos rfl]; decide, fun b hb => ?_, ⟨fun b e1 e2 => by rw [kspl_cell hu2 (by omega)]; exact hf3 b (by omega), fun j hj => by rw [kspl_30 hu2 (by omega)]; exact hf2 j (by omega) (by omega) (by omega) (by omega)⟩, ⟨fun j hj => ⟨by rw [kspl_cell hu2 (by decide), hf3 43 (by decide)], by rw [kspl_cell hu2 (by decide), hf3 44 (by decide)], by rw [kspl_cell hu2 (by decide), hf3 45 (by decide)], by rw [kspl_cell hu2 (by decide), hf3 46 (by decide)]⟩, by rw [kspl_30 hu2 (by decide)]; exact hf2 28 (by decide) (by decide) (by decide) (by decide)⟩, by rw [kspl_30 hu2 (by decide)]; exact (hf2 19 (by decide) (by decide) (by decide) (by decide)).trans q3, hRX, by rw [kspl_30 hu2 (by decide)]; exact hf2 23 (by decide) (by decide) (by decide) (by decide), by rw [kspl_30 hu2 (by decide)]; exact f1.2.2.2.2.2.2.2.2.2.2.2.2, fun h j => by rw [kapl_cell hBu (by decide), hns.2.2.2.2.2.2.2.2.2.2.2.2.1, if_neg (fun z => z.1 h)]; rfl⟩
  rw [kapl_cell hBu (by omega), hBc b (by omega)]
  exact if_neg (by omega)
/-- the reference sets the key -/
theorem kAt.setKey {X : Nat → Nat → Int} {c0 : Nat} (hX : kTx t n L) (A : kAt S (ku X 30 21 (a : Int)) t n L l a o (c + 1) u e) (ho : 1 ≤ o) (h44 : X 44 (o - 1) = (c0 : Int)) (h5 : S 21 c0 = 5) (hc0 : c0 < c) (hk : S 21 c < 4) : kR 1 115 (blk 115 0) (kent 115 [.ref 30, .int (Int32.ofInt (c : Int))]) [] (szT, hp 53 E X) (fun r => r = (.inl none, (szT, hp 53 E (ku (ku X 46 (o - 1) (c : Int)) 30 19 (khk (S 21) (S 23) (S 22) (S 24) (S 26) (S 27) (S 28) e (c0 : Int) c))))) := by
  obtain ⟨hl, ⟨hC, c1, c2, c3⟩, ⟨hR, m1, m2, m3, m4⟩, R, W, ⟨g1, g2, g3⟩, q3, q4, q5, q6, q7, q8⟩ := A
  have hln := hX.ln hl
  have hx1 := hX.1
  obtain ⟨⟨r1, r2, r3, r4, r5, r6⟩, ra, rb, rc, rd, re⟩ := R
  obtain ⟨⟨w1, w2, w3⟩, wa, wb, wc, wd⟩ := W
  have hnd : ∀ j, j < c + 1 → S 21 j < 4 → kNd (S 21) (S 23) (S 22) (S 24) j := fun j hj hk => by
    obtain ⟨a1, a2, a3, a4, a5, a6, a7, a8, a9⟩ := wa j hj
    exact ⟨a1, a2, a4, a5, a3, a6, by have := a7 hk; omega⟩
  have hnt : ∀ j, j < c + 1 → S 21 j < 4 → kNd (X 34) (X 35) (X 37) (X 36) j := fun j hj hk => by
    obtain ⟨a1, a2, a3, a4, a5, a6, a7⟩ := hnd j hj hk
    obtain ⟨b1, b2, b3, b4⟩ := ra j hj
    rw [b1] at a1 a2
    rw [b3] at a3 a4
    rw [b2] at a5 a7
    rw [b4] at a6 a7
    exact ⟨a1, a2, a3, a4, a5, a6, a7⟩
  have kr := c_115 (S := X) (E := E) (sz := szT) (m := 53) ⟨by omega, by omega⟩ (b := c) (n := e) (d := c0) (by omega) r6 (by omega) (hnt c (by omega) hk) g2 (o := o) q4 (by omega) h44 (by omega) (fun j hj => by
    obtain ⟨a1, a2, a3, a4, a5, a6, a7⟩ := wb j hj
    obtain ⟨b1, b2, b3⟩ := rc j hj
    refine ⟨by show 0 ≤ X 39 j; rw [← show S 27 j = X 39 j from b1]; exact a1, by show X 39 j < 60; rw [← show S 27 j = X 39 j from b1]; omega, fun hz => ?_⟩
    have hz2 : S 27 j = (c0 : Int) := by rw [b1]; exact hz
    have hz3 : (S 27 j).toNat = c0 := by omega
    obtain ⟨d1, d2, d3⟩ := a7 (by rw [hz3]; exact h5)
    rw [← show S 28 j = X 40 j from b2]
    exact ⟨d1, by omega, by rw [← show S 21 (S 28 j).toNat = X 34 (S 28 j).toNat from (ra _ (by omega)).1]; exact d3, hnt _ (by omega) d3⟩) q3
  have hal : ∀ j, j < c + 1 → S 21 j < 4 → kalk (X 34) (X 35) (X 37) (X 36) (X 38) j c = kalk (S 21) (S 23) (S 22) (S 24) (S 26) j c := fun j hj hk2 => by
    obtain ⟨b1, b2, b3, b4⟩ := ra j hj
    obtain ⟨d1, d2, d3, d4⟩ := ra c (by omega)
    have f1 := (hnd j hj hk2).2.2.2.2
    have f2 := (hnd c (by omega) hk).2.2.2.2
    have f3 := (wa j hj).2.2.2.2.2.2.1 hk2
    have f4 := (wa c (by omega)).2.2.2.2.2.2.1 hk
    unfold kalk
    rw [← show S 21 j = X 34 j from b1, ← show S 21 c = X 34 c from d1, ← show S 23 j = X 35 j from b3, ← show S 23 c = X 35 c from d3, ← show S 22 j = X 37 j from b2, ← show S 22 c = X 37 c from d2, ← show S 24 j = X 36 j from b4, ← show S 24 c = X 36 c from d4]
    have key : (S 21 j = S 21 c ∧ S 23 j = S 23 c ∧ S 22 j = S 22 c ∧ ∀ i : Nat, i < (S 22 j).toNat → X 38 (S 24 j + i).toNat = X 38 (S 24 c + i).toNat) ↔ (S 21 j = S 21 c ∧ S 23 j = S 23 c ∧ S 22 j = S 22 c ∧ ∀ i : Nat, i < (S 22 j).toNat → S 26 (S 24 j + i).toNat = S 26 (S 24 c + i).toNat) := by
      constructor
      · rintro ⟨k1, k2, k3, k4⟩
        refine ⟨k1, k2, k3, fun i hi => ?_⟩
        rw [rb _ (by omega), rb _ (by omega)]
        exact k4 i hi
      · rintro ⟨k1, k2, k3, k4⟩
        refine ⟨k1, k2, k3, fun i hi => ?_⟩
        have z := k4 i hi
        rw [rb _ (by omega), rb _ (by omega)] at z
        exact z
    by_cases hh : (S 21 j = S 21 c ∧ S 23 j = S 23 c ∧ S 22 j = S 22 c ∧ ∀ i : Nat, i < (S 22 j).toNat → S 26 (S 24 j + i).toNat = S 26 (S 24 c + i).toNat)
    · rw [if_pos (key.mpr hh), if_pos hh]
    · rw [if_neg (fun z => hh (key.mp z)), if_neg hh]
  have hkk : khk (X 34) (X 35) (X 37) (X 36) (X 38) (X 39) (X 40) e (c0 : Int) c = khk (S 21) (S 23) (S 22) (S 24) (S 26) (S 27) (S 28) e (c0 : Int) c := by
    have key : (∃ j, j < e ∧ X 39 j = (c0 : Int) ∧ kalk (X 34) (X 35) (X 37) (X 36) (X 38) (X 40 j).toNat c = 1) ↔ (∃ j, j < e ∧ S 27 j = (c0 : Int) ∧ kalk (S 21) (S 23) (S 22) (S 24) (S 26) (S 28 j).toNat c = 1) := by
      constructor
      · rintro ⟨j, k1, k2, k3⟩
        obtain ⟨a1, a2, a3, a4, a5, a6, a7⟩ := wb j k1
        obtain ⟨b1, b2, b3⟩ := rc j k1
        have hz2 : S 27 j = (c0 : Int) := b1.trans k2
        have hz3 : (S 27 j).toNat = c0 := by omega
        obtain ⟨d1, d2, d3⟩ := a7 (by rw [hz3]; exact h5)
        refine ⟨j, k1, hz2, ?_⟩
        rw [← hal _ (by omega) d3]
        rw [b2]
        exact k3
      · rintro ⟨j, k1, k2, k3⟩
        obtain ⟨a1, a2, a3, a4, a5, a6, a7⟩ := wb j k1
        obtain ⟨b1, b2, b3⟩ := rc j k1
        have hz3 : (S 27 j).toNat = c0 := by omega
        obtain ⟨d1, d2, d3⟩ := a7 (by rw [hz3]; exact h5)
        refine ⟨j, k1, b1.symm.trans k2, ?_⟩
        rw [← hal _ (by omega) d3] at k3
        rw [b2] at k3
        exact k3
    unfold khk
    by_cases hh : (∃ j, j < e ∧ S 27 j = (c0 : Int) ∧ kalk (S 21) (S 23) (S 22) (S 24) (S 26) (S 28 j).toNat c = 1)
    · rw [if_pos (key.mpr hh), if_pos hh]
    · rw [if_neg (fun z => hh (key.mp z)), if_neg hh]
  rw [hkk] at kr
  exact kr
end KSK
