/-! A node more, side by side. -/
section KLF
variable {S T Y X : Nat → Nat → Int} {t : Nat → Int} {n L l a o c u e : Nat}
theorem kAt.node {k z : Int} {a' : Nat} (A : kAt S T t n L l a o c u e) (hc : c < 60) (hk : 0 ≤ k ∧ k ≤ 5) (hz : -999999999999999999 ≤ z ∧ z ≤ 999999999999999999) (haa : a ≤ a') (hae : a' ≤ kre t n l) (hY : kNs S Y k z c) (hX : kNt T X k z c) (hCu : kCu Y t n L l a') (hCm : kCm X t n l a') (h19 : X 30 19 = 0) (h29 : X 30 29 = T 30 29) (h43 : X 43 = T 43) (h44 : X 44 = T 44) : kAt Y X t n L l a' o (c + 1) u e ∧ kFx S Y c e := by
  obtain ⟨hl, q1, q2, R, W, ⟨g1, g2, g3⟩, q3, q4, q5, q6, q7, q8⟩ := A
  have hY0 := hY
  obtain ⟨R', W'⟩ := R.node W hc hk hz hY hX
  obtain ⟨y1, y2, y3, y4, y5, y6, y7, y8, y9, y10, y11, y12, y13, y14⟩ := hY
  obtain ⟨x1, x2, x3, x4, x5, x6, x7, x8, x9, x10, x11, x12, x13⟩ := hX
  have hfx : ∀ j, j < c → Y 21 j = S 21 j := fun j hj => by rw [y4, if_neg (by omega)]
  refine ⟨⟨hl, hCu, hCm, R', W', ⟨by rw [y9]; exact g1, by rw [x8]; exact g2, by rw [h43]; exact g3⟩, h19, by rw [h29]; exact q4, q5, by omega, hae, fun j hj => ?_⟩, hfx, fun j hj => by rw [y10, y11, y12]; exact ⟨rfl, rfl, rfl⟩, fun j hj _ => by rw [y5, y6, y7, if_neg (by omega), if_neg (by omega), if_neg (by omega)]; exact ⟨rfl, rfl, rfl⟩, ⟨by rw [y2]; exact Int.le_refl _, kNm.node hY0⟩, fun j hj => by rw [y9]⟩
  obtain ⟨p1, p2, p3, p4⟩ := q8 j hj
  rw [h43, h44]
  refine ⟨p1, by omega, fun w => ?_, fun w => ?_⟩
  · rw [hfx _ (by omega)]
    exact p3 w
  · rw [hfx _ (by omega)]
    exact p4 w
/-- characters to the string made last -/
theorem kAt.chars {v : Nat} {cs : List Int} {a' : Nat} (A : kAt S T t n L l a o c u e) (hcs : ∀ x ∈ cs, x = 10 ∨ 32 ≤ x ∧ x ≤ 126) (hv : v + 1 = c) (hk : S 21 v < 4) (hz : S 22 v = 0) (hb : S 24 v = (u : Int)) (haa : u + cs.length + e + o ≤ a') (hae : a' ≤ kre t n l) (hX : kTx t n L) (hCu : kCu S t n L l a') (hCm : kCm T t n l a') : kAt (kapl v cs u S) (kspl v cs u T) t n L l a' o c (u + cs.length) e ∧ kFx S (kapl v cs u S) v e := by
  obtain ⟨hl, q1, q2, R, W, ⟨g1, g2, g3⟩, q3, q4, q5, q6, q7, q8⟩ := A
  have hln := hX.ln hl
  have hx1 := hX.1
  obtain ⟨R', W'⟩ := R.chars (cs := cs) W hv hk hz hb (by omega) hcs
  obtain ⟨⟨r1, r2, r3, r4, r5, r6⟩, _⟩ := R
  obtain ⟨a1, a2, a3, a4⟩ := kapl_at v cs u S r3
  obtain ⟨b1, b2, b3, b4⟩ := kspl_at v cs u T r4
  have key : ∀ j, j < cs.length → -2147483648 ≤ cs.getD j 0 ∧ cs.getD j 0 < 2147483648 := fun j hj => by
    have z := hcs (cs.getD j 0) (by rw [List.getD_eq_getElem?_getD, List.getElem?_eq_getElem hj]; exact List.getElem_mem hj)
    omega
  have f21 : ∀ j, kapl v cs u S 21 j = S 21 j := fun j => a1 21 j (by omega) (by omega) (by decide)
  obtain ⟨⟨c1, c2, c3, c4⟩, c5, c6, c7⟩ := hCu
  obtain ⟨⟨d1, d2⟩, d3, d4, d5, d6⟩ := hCm
  refine ⟨⟨hl, ⟨⟨?_, ?_, fun j hj => ?_, fun j hj => ?_⟩, ?_, ?_, ?_⟩, ⟨⟨?_, fun j hj => ?_⟩, ?_, ?_, ?_, ?_⟩, R', W', ⟨fun j hj => ?_, fun j hj => ?_, fun j hj => ?_⟩, ?_, ?_, q5, haa, hae, fun j hj => ?_⟩, fun j _ => f21 j, fun j _ => ?_, fun j hj _ => ?_, ⟨by rw [a2, r3]; omega, kNm.same (a1 20 11 (by omega) (by omega) (by decide)) (funext fun j => a1 29 j (by omega) (by omega) (by decide)) (funext fun j => a1 55 j (by omega) (by omega) (by decide))⟩, fun j hj => ?_⟩
  · rw [a1 1 5 (by omega) (by omega) (by decide)]; exact c1
  · rw [a1 1 6 (by omega) (by omega) (by decide)]; exact c2
  · rw [a1 2 j (by omega) (by omega) (by decide)]; exact c3 j hj
  · rw [a1 3 j (by omega) (by omega) (by decide), a1 4 j (by omega) (by omega) (by decide), a1 5 j (by omega) (by omega) (by decide), a1 6 j (by omega) (by omega) (by decide)]; exact c4 j hj
  · rw [a1 53 1 (by omega) (by omega) (by decide)]; exact c5
  · rw [a1 53 2 (by omega) (by omega) (by decide)]; exact c6
  · rw [a1 53 3 (by omega) (by omega) (by decide)]; exact c7
  · rw [b1 30 7 (by omega) (by omega) (by decide)]; exact d1
  · rw [b1 33 j (by omega) (by omega) (by decide)]; exact d2 j hj
  · rw [b1 30 22 (by omega) (by omega) (by decide)]; exact d3
  · rw [b1 30 24 (by omega) (by omega) (by decide)]; exact d4
  · rw [b1 30 23 (by omega) (by omega) (by decide)]; exact d5
  · rw [b1 30 21 (by omega) (by omega) (by decide)]; exact d6
  · rw [a4]
    split
    · rename_i w
      exact key _ (by omega)
    · exact g1 j hj
  · rw [b4]
    split
    · rename_i w
      exact key _ (by omega)
    · exact g2 j hj
  · rw [b1 43 j (by omega) (by omega) (by decide)]; exact g3 j hj
  · rw [b1 30 19 (by omega) (by omega) (by decide)]; exact q3
  · rw [b1 30 29 (by omega) (by omega) (by decide)]; exact q4
  · obtain ⟨p1, p2, p3, p4⟩ := q8 j hj
    rw [b1 43 j (by omega) (by omega) (by decide), b1 44 j (by omega) (by omega) (by decide), f21]
    exact ⟨p1, p2, p3, p4⟩
  · rw [a1 27 j (by omega) (by omega) (by decide), a1 28 j (by omega) (by omega) (by decide), a1 29 j (by omega) (by omega) (by decide)]
    exact ⟨rfl, rfl, rfl⟩
  · rw [a1 22 j (by omega) (by omega) (by decide), a1 23 j (by omega) (by omega) (by decide), a1 24 j (by omega) (by omega) (by decide)]
    exact ⟨rfl, rfl, rfl⟩
  · rw [a4, if_neg (by omega)]
end KLF
