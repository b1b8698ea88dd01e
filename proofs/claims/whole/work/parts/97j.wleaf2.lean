/-! Writing: what is no row and no table, by both. -/
theorem kabs {z : Int} (h1 : -9223372036854775807 ≤ z) (h2 : z < 9223372036854775808) : (if 0 < Int64.ofInt z then Int64.ofInt z else -Int64.ofInt z) = Int64.ofInt (if 0 < z then z else -z) := by
  have ha : (Int64.ofInt z).toInt = z := Int64.toInt_ofInt_of_le (by omega) (by omega)
  have e : (0 < Int64.ofInt z) ↔ 0 < z := by
    rw [Int64.lt_iff_toInt_lt, ha]
    exact Iff.rfl
  by_cases h : 0 < z
  · rw [if_pos (e.mpr h), if_pos h]
  · rw [if_neg (fun q => h (e.mp q)), if_neg h, Int64.ofInt_neg]
section KWB
variable {E : Nat → kC} {S S2 : Nat → Nat → Int} {sz : Nat × Nat}
theorem num_full {z : Int} (hz : -999999999999999999 ≤ z ∧ z ≤ 999999999999999999) {w w2 : Nat} (hw : S 7 1 = (w : Int)) (hwl : w + 19 ≤ 2000) (hw2 : S2 30 37 = (w2 : Int)) (hwl2 : w2 + 19 ≤ 3000) : ∃ xs : List Int, xs.length ≤ 19 ∧ kR 1 30 (blk 30 0) (kent 30 [.ref 7, .long (Int64.ofInt z)]) [] (sz, hp 53 E S) (fun r => r = (.inl none, (sz, hp 53 E (kpts xs w S)))) ∧ kR 1 157 (blk 157 0) (kent 157 [.ref 30, .long (Int64.ofInt z)]) [] (sz, hp 53 E S2) (fun r => r = (.inl none, (sz, hp 53 E (ksas xs w2 S2)))) := by
  rcases Int.lt_or_le z 0 with hneg | hpos
  · have hab : (if 0 < z then z else -z) = -z := if_neg (by omega)
    obtain ⟨xs, x1, x2, x3⟩ := num_both (sz := sz) (E := E) (S := kpt S w 45) (S2 := ksa S2 w2 45) (z := -z) (v1 := .long (Int64.ofInt z)) (v2 := kun) (v1' := .long (Int64.ofInt z)) (v2' := kun) (v8 := kun) (v9 := kun) (w := w + 1) (w2 := w2 + 1) (by omega) rfl (by omega) rfl (by omega)
    refine ⟨45 :: xs, by rw [List.length_cons]; omega, ?_, ?_⟩
    · show kR 1 30 b30_0 _ _ _ _
      refine kR.s rfl rfl ?_
      refine kR.lcn (c := 0) rfl ?_
      refine kR.lge (by omega) (by omega) (by decide) (by decide) (fun q => absurd q (by omega)) (fun _ => ?_)
      refine kR.s rfl rfl ?_
      refine kR.bi rfl ?_
      refine kR.c0 rfl rfl (c_32 (S := S) (x := 45) hw (by omega) (by omega)) ?_
      refine kR.n ?_
      show kR 1 30 b30_12 _ _ _ _
      refine kR.s rfl rfl ?_
      refine kR.p (st1 := [.long (Int64.ofInt (-z))]) (by
        show some [Value.long (if 0 < Int64.ofInt z then Int64.ofInt z else -Int64.ofInt z)] = _
        rw [kabs (by omega) (by omega), hab]) rfl ?_
      refine kR.s rfl rfl ?_
      refine kR.s rfl rfl ?_
      refine kR.s rfl rfl ?_
      refine kR.ldl (c := 100000000000000000) rfl ?_
      refine kR.s rfl rfl ?_
      refine kR.n ?_
      exact x2
    · show kR 1 157 b157_0 _ _ _ _
      refine kR.s rfl rfl ?_
      refine kR.s rfl rfl ?_
      refine kR.s rfl rfl ?_
      refine kR.lcn (c := 0) rfl ?_
      refine kR.lge (by omega) (by omega) (by decide) (by decide) (fun q => absurd q (by omega)) (fun _ => ?_)
      refine kR.s rfl rfl ?_
      refine kR.bi rfl ?_
      refine kR.c0 rfl rfl (c_155 (S := S2) (x := 45) hw2 (by omega)) ?_
      refine kR.s rfl rfl ?_
      refine kR.lneg ?_
      refine kR.s rfl rfl ?_
      refine kR.n ?_
      show kR 1 157 b157_17 _ _ _ _
      refine kR.lcn (c := 1) rfl ?_
      refine kR.s rfl rfl ?_
      refine kR.n ?_
      exact x3
  · have hab : (if 0 < z then z else -z) = z := by
      split
      · rfl
      · omega
    obtain ⟨xs, x1, x2, x3⟩ := num_both (sz := sz) (E := E) (S := S) (S2 := S2) (z := z) (v1 := .long (Int64.ofInt z)) (v2 := kun) (v1' := .long (Int64.ofInt z)) (v2' := kun) (v8 := kun) (v9 := kun) (w := w) (w2 := w2) (by omega) hw (by omega) hw2 (by omega)
    refine ⟨xs, by omega, ?_, ?_⟩
    · show kR 1 30 b30_0 _ _ _ _
      refine kR.s rfl rfl ?_
      refine kR.lcn (c := 0) rfl ?_
      refine kR.lge (by omega) (by omega) (by decide) (by decide) (fun _ => ?_) (fun q => absurd q (by omega))
      show kR 1 30 b30_12 _ _ _ _
      refine kR.s rfl rfl ?_
      refine kR.p (st1 := [.long (Int64.ofInt z)]) (by
        show some [Value.long (if 0 < Int64.ofInt z then Int64.ofInt z else -Int64.ofInt z)] = _
        rw [kabs (by omega) (by omega), hab]) rfl ?_
      refine kR.s rfl rfl ?_
      refine kR.s rfl rfl ?_
      refine kR.s rfl rfl ?_
      refine kR.ldl (c := 100000000000000000) rfl ?_
      refine kR.s rfl rfl ?_
      refine kR.n ?_
      exact x2
    · show kR 1 157 b157_0 _ _ _ _
      refine kR.s rfl rfl ?_
      refine kR.s rfl rfl ?_
      refine kR.s rfl rfl ?_
      refine kR.lcn (c := 0) rfl ?_
      refine kR.lge (by omega) (by omega) (by decide) (by decide) (fun _ => ?_) (fun q => absurd q (by omega))
      show kR 1 157 b157_17 _ _ _ _
      refine kR.lcn (c := 1) rfl ?_
      refine kR.s rfl rfl ?_
      refine kR.n ?_
      exact x3
/-- a leaf, by both -/
theorem leaf_both (hWd : kWrd E) {v z b w w2 : Nat} {k x : Int} {dp : Int} (hv : v < 60) (hk : 0 ≤ k ∧ k < 4) (h11 : S 11 v = k) (h34 : S2 34 v = k) (hx : -999999999999999999 ≤ x ∧ x ≤ 999999999999999999) (h13 : S 13 v = x) (h35 : S2 35 v = x) (hbz : b + z ≤ 200) (h12 : S 12 v = (z : Int)) (h37 : S2 37 v = (z : Int)) (h14 : S 14 v = (b : Int)) (h36 : S2 36 v = (b : Int)) (hc : ∀ i, i < z → 0 ≤ S 16 (b + i) ∧ S 16 (b + i) < 128 ∧ S2 38 (b + i) = S 16 (b + i)) (hw : S 7 1 = (w : Int)) (hwl : w + 2 * z + 19 ≤ 2000) (hw2 : S2 30 37 = (w2 : Int)) (hwl2 : w2 + 2 * z + 19 ≤ 3000) : ∃ xs : List Int, xs.length ≤ 2 * z + 19 ∧ kR 5 26 (blk 26 0) (kent 26 [.ref 7, .ref 10, .int (Int32.ofInt (v : Int)), .int (Int32.ofInt dp)]) [] (sz, hp 53 E S) (fun r => r = (.inl none, (sz, hp 53 E (kpts xs w S)))) ∧ kR 2 159 (blk 159 0) (kent 159 [.ref 30, .int (Int32.ofInt (v : Int))]) [] (sz, hp 53 E S2) (fun r => r = (.inl none, (sz, hp 53 E (ksas xs w2 S2)))) := by
  have hk4 : k = 0 ∨ k = 1 ∨ k = 2 ∨ k = 3 := by omega
  rcases hk4 with h | h | h | h
  · subst h
    refine ⟨[110, 117, 108, 108], by simp only [List.length_cons, List.length_nil]; omega, ?_, ?_⟩
    · show kR 5 26 b26_0 _ _ _ _
      refine kR.s rfl rfl ?_
      refine kR.gr (a := 10) (b := 11) (k := 0) (by omega) rfl rfl rfl (by decide) (by decide) rfl ?_
      refine kR.s rfl rfl ?_
      refine kR.ia (a := 11) (v := 0) (by omega) rfl (by decide) (by omega) (by omega) (by exact h11) ?_
      refine kR.w (t := 131) rfl rfl ?_
      show kR 5 26 b26_131 _ _ _ _
      refine kR.s rfl rfl ?_
      refine kR.s rfl rfl ?_
      refine kR.c0 rfl rfl (c_31 (S := S) hWd.2.2.1 hw (by show w + 4 ≤ 2000; omega)) ?_
      refine kR.n ?_
      show kR 5 26 b26_137 _ _ _ _
      refine kR.ret rfl rfl ?_
      rfl
    · show kR 2 159 b159_0 _ _ _ _
      refine kR.s rfl rfl ?_
      refine kR.gr (a := 30) (b := 34) (k := 9) (by omega) rfl rfl rfl (by decide) (by decide) rfl ?_
      refine kR.s rfl rfl ?_
      refine kR.ia (a := 34) (v := 0) (by omega) rfl (by decide) (by omega) (by omega) (by exact h34) ?_
      refine kR.zne (by decide) (by decide) (fun q => absurd rfl q) (fun _ => ?_)
      refine kR.s rfl rfl ?_
      refine kR.bi rfl ?_
      refine kR.bi rfl ?_
      refine kR.bi rfl ?_
      refine kR.bi rfl ?_
      refine kR.c0 rfl rfl (c_156 (S := S2) hw2 (by omega)) ?_
      refine kR.g rfl ?_
      show kR 2 159 b159_109 _ _ _ _
      refine kR.ret rfl rfl ?_
      rfl
  · subst h
    by_cases h1 : x = 1
    · refine ⟨[116, 114, 117, 101], by simp only [List.length_cons, List.length_nil]; omega, ?_, ?_⟩
      · show kR 5 26 b26_0 _ _ _ _
        refine kR.s rfl rfl ?_
        refine kR.gr (a := 10) (b := 11) (k := 0) (by omega) rfl rfl rfl (by decide) (by decide) rfl ?_
        refine kR.s rfl rfl ?_
        refine kR.ia (a := 11) (v := 1) (by omega) rfl (by decide) (by omega) (by omega) (by exact h11) ?_
        refine kR.w (t := 40) rfl rfl ?_
        show kR 5 26 b26_40 _ _ _ _
        refine kR.s rfl rfl ?_
        refine kR.s rfl rfl ?_
        refine kR.gr (a := 10) (b := 13) (k := 2) (by omega) rfl rfl rfl (by decide) (by decide) rfl ?_
        refine kR.s rfl rfl ?_
        refine kR.la (a := 13) (v := x) (by omega) rfl (by decide) (by omega) (by omega) (by exact h13) ?_
        refine kR.lcn (c := 1) rfl ?_
        refine kR.lne (by omega) (by omega) (by decide) (by decide) (fun q => absurd h1 q) (fun _ => ?_)
        refine kR.s rfl rfl ?_
        refine kR.g rfl ?_
        show kR 5 26 b26_59 _ _ _ _
        refine kR.c0 rfl rfl (c_31 (S := S) hWd.1 hw (by show w + 4 ≤ 2000; omega)) ?_
        refine kR.g rfl ?_
        show kR 5 26 b26_137 _ _ _ _
        refine kR.ret rfl rfl ?_
        rfl
      · show kR 2 159 b159_0 _ _ _ _
        refine kR.s rfl rfl ?_
        refine kR.gr (a := 30) (b := 34) (k := 9) (by omega) rfl rfl rfl (by decide) (by decide) rfl ?_
        refine kR.s rfl rfl ?_
        refine kR.ia (a := 34) (v := 1) (by omega) rfl (by decide) (by omega) (by omega) (by exact h34) ?_
        refine kR.zne (by decide) (by decide) (fun _ => ?_) (fun q => absurd q (by decide))
        show kR 2 159 b159_24 _ _ _ _
        refine kR.s rfl rfl ?_
        refine kR.gr (a := 30) (b := 34) (k := 9) (by omega) rfl rfl rfl (by decide) (by decide) rfl ?_
        refine kR.s rfl rfl ?_
        refine kR.ia (a := 34) (v := 1) (by omega) rfl (by decide) (by omega) (by omega) (by exact h34) ?_
        refine kR.s rfl rfl ?_
        refine kR.jne (by decide) (by decide) (by decide) (by decide) (fun _ => ?_) (fun q => absurd q (by decide))
        show kR 2 159 b159_47 _ _ _ _
        refine kR.s rfl rfl ?_
        refine kR.gr (a := 30) (b := 34) (k := 9) (by omega) rfl rfl rfl (by decide) (by decide) rfl ?_
        refine kR.s rfl rfl ?_
        refine kR.ia (a := 34) (v := 1) (by omega) rfl (by decide) (by omega) (by omega) (by exact h34) ?_
        refine kR.s rfl rfl ?_
        refine kR.jne (by decide) (by decide) (by decide) (by decide) (fun _ => ?_) (fun q => absurd q (by decide))
        show kR 2 159 b159_65 _ _ _ _
        refine kR.s rfl rfl ?_
        refine kR.gr (a := 30) (b := 35) (k := 10) (by omega) rfl rfl rfl (by decide) (by decide) rfl ?_
        refine kR.s rfl rfl ?_
        refine kR.la (a := 35) (v := x) (by omega) rfl (by decide) (by omega) (by omega) (by exact h35) ?_
        refine kR.lcn (c := 1) rfl ?_
        refine kR.lne (by omega) (by omega) (by decide) (by decide) (fun q => absurd h1 q) (fun _ => ?_)
        refine kR.s rfl rfl ?_
        refine kR.bi rfl ?_
        refine kR.bi rfl ?_
        refine kR.bi rfl ?_
        refine kR.bi rfl ?_
        refine kR.c0 rfl rfl (c_156 (S := S2) hw2 (by omega)) ?_
        refine kR.g rfl ?_
        show kR 2 159 b159_109 _ _ _ _
        refine kR.ret rfl rfl ?_
        rfl
    · refine ⟨[102, 97, 108, 115, 101], by simp only [List.length_cons, List.length_nil]; omega, ?_, ?_⟩
      · show kR 5 26 b26_0 _ _ _ _
        refine kR.s rfl rfl ?_
        refine kR.gr (a := 10) (b := 11) (k := 0) (by omega) rfl rfl rfl (by decide) (by decide) rfl ?_
        refine kR.s rfl rfl ?_
        refine kR.ia (a := 11) (v := 1) (by omega) rfl (by decide) (by omega) (by omega) (by exact h11) ?_
        refine kR.w (t := 40) rfl rfl ?_
        show kR 5 26 b26_40 _ _ _ _
        refine kR.s rfl rfl ?_
        refine kR.s rfl rfl ?_
        refine kR.gr (a := 10) (b := 13) (k := 2) (by omega) rfl rfl rfl (by decide) (by decide) rfl ?_
        refine kR.s rfl rfl ?_
        refine kR.la (a := 13) (v := x) (by omega) rfl (by decide) (by omega) (by omega) (by exact h13) ?_
        refine kR.lcn (c := 1) rfl ?_
        refine kR.lne (by omega) (by omega) (by decide) (by decide) (fun _ => ?_) (fun q => absurd q h1)
        show kR 5 26 b26_57 _ _ _ _
        refine kR.s rfl rfl ?_
        refine kR.n ?_
        show kR 5 26 b26_59 _ _ _ _
        refine kR.c0 rfl rfl (c_31 (S := S) hWd.2.1 hw (by show w + 5 ≤ 2000; omega)) ?_
        refine kR.g rfl ?_
        show kR 5 26 b26_137 _ _ _ _
        refine kR.ret rfl rfl ?_
        rfl
      · show kR 2 159 b159_0 _ _ _ _
        refine kR.s rfl rfl ?_
        refine kR.gr (a := 30) (b := 34) (k := 9) (by omega) rfl rfl rfl (by decide) (by decide) rfl ?_
        refine kR.s rfl rfl ?_
        refine kR.ia (a := 34) (v := 1) (by omega) rfl (by decide) (by omega) (by omega) (by exact h34) ?_
        refine kR.zne (by decide) (by decide) (fun _ => ?_) (fun q => absurd q (by decide))
        show kR 2 159 b159_24 _ _ _ _
        refine kR.s rfl rfl ?_
        refine kR.gr (a := 30) (b := 34) (k := 9) (by omega) rfl rfl rfl (by decide) (by decide) rfl ?_
        refine kR.s rfl rfl ?_
        refine kR.ia (a := 34) (v := 1) (by omega) rfl (by decide) (by omega) (by omega) (by exact h34) ?_
        refine kR.s rfl rfl ?_
        refine kR.jne (by decide) (by decide) (by decide) (by decide) (fun _ => ?_) (fun q => absurd q (by decide))
        show kR 2 159 b159_47 _ _ _ _
        refine kR.s rfl rfl ?_
        refine kR.gr (a := 30) (b := 34) (k := 9) (by omega) rfl rfl rfl (by decide) (by decide) rfl ?_
        refine kR.s rfl rfl ?_
        refine kR.ia (a := 34) (v := 1) (by omega) rfl (by decide) (by omega) (by omega) (by exact h34) ?_
        refine kR.s rfl rfl ?_
        refine kR.jne (by decide) (by decide) (by decide) (by decide) (fun _ => ?_) (fun q => absurd q (by decide))
        show kR 2 159 b159_65 _ _ _ _
        refine kR.s rfl rfl ?_
        refine kR.gr (a := 30) (b := 35) (k := 10) (by omega) rfl rfl rfl (by decide) (by decide) rfl ?_
        refine kR.s rfl rfl ?_
        refine kR.la (a := 35) (v := x) (by omega) rfl (by decide) (by omega) (by omega) (by exact h35) ?_
        refine kR.lcn (c := 1) rfl ?_
        refine kR.lne (by omega) (by omega) (by decide) (by decide) (fun _ => ?_) (fun q => absurd q h1)
        show kR 2 159 b159_91 _ _ _ _
        refine kR.s rfl rfl ?_
        refine kR.bi rfl ?_
        refine kR.c0 rfl rfl (kR.up (c_155 (S := S2) (x := 102) hw2 (by omega)) (by decide)) ?_
        refine kR.s rfl rfl ?_
        refine kR.bi rfl ?_
        refine kR.bi rfl ?_
        refine kR.bi rfl ?_
        refine kR.bi rfl ?_
        refine kR.c0 rfl rfl (c_156 (S := ksa S2 w2 102) (w := w2 + 1) rfl (by omega)) ?_
        refine kR.n ?_
        show kR 2 159 b159_109 _ _ _ _
        refine kR.ret rfl rfl ?_
        rfl
  · subst h
    obtain ⟨xs, x1, x2, x3⟩ := num_full (sz := sz) (E := E) (S := S) (S2 := S2) hx hw (by omega) hw2 (by omega)
    refine ⟨xs, by omega, ?_, ?_⟩
    · show kR 5 26 b26_0 _ _ _ _
      refine kR.s rfl rfl ?_
      refine kR.gr (a := 10) (b := 11) (k := 0) (by omega) rfl rfl rfl (by decide) (by decide) rfl ?_
      refine kR.s rfl rfl ?_
      refine kR.ia (a := 11) (v := 2) (by omega) rfl (by decide) (by omega) (by omega) (by exact h11) ?_
      refine kR.w (t := 65) rfl rfl ?_
      show kR 5 26 b26_65 _ _ _ _
      refine kR.s rfl rfl ?_
      refine kR.s rfl rfl ?_
      refine kR.gr (a := 10) (b := 13) (k := 2) (by omega) rfl rfl rfl (by decide) (by decide) rfl ?_
      refine kR.s rfl rfl ?_
      refine kR.la (a := 13) (v := x) (by omega) rfl (by decide) (by omega) (by omega) (by exact h13) ?_
      refine kR.c0 rfl rfl (kR.up x2 (by decide)) ?_
      refine kR.g rfl ?_
      show kR 5 26 b26_137 _ _ _ _
      refine kR.ret rfl rfl ?_
      rfl
    · show kR 2 159 b159_0 _ _ _ _
      refine kR.s rfl rfl ?_
      refine kR.gr (a := 30) (b := 34) (k := 9) (by omega) rfl rfl rfl (by decide) (by decide) rfl ?_
      refine kR.s rfl rfl ?_
      refine kR.ia (a := 34) (v := 2) (by omega) rfl (by decide) (by omega) (by omega) (by exact h34) ?_
      refine kR.zne (by decide) (by decide) (fun _ => ?_) (fun q => absurd q (by decide))
      show kR 2 159 b159_24 _ _ _ _
      refine kR.s rfl rfl ?_
      refine kR.gr (a := 30) (b := 34) (k := 9) (by omega) rfl rfl rfl (by decide) (by decide) rfl ?_
      refine kR.s rfl rfl ?_
      refine kR.ia (a := 34) (v := 2) (by omega) rfl (by decide) (by omega) (by omega) (by exact h34) ?_
      refine kR.s rfl rfl ?_
      refine kR.jne (by decide) (by decide) (by decide) (by decide) (fun q => absurd rfl q) (fun _ => ?_)
      refine kR.s rfl rfl ?_
      refine kR.s rfl rfl ?_
      refine kR.gr (a := 30) (b := 35) (k := 10) (by omega) rfl rfl rfl (by decide) (by decide) rfl ?_
      refine kR.s rfl rfl ?_
      refine kR.la (a := 35) (v := x) (by omega) rfl (by decide) (by omega) (by omega) (by exact h35) ?_
      refine kR.c0 rfl rfl x3 ?_
      refine kR.g rfl ?_
      show kR 2 159 b159_109 _ _ _ _
      refine kR.ret rfl rfl ?_
      rfl
  · subst h
    have hls := kess_len (S 16) z b
    have hcg := kess_congr (C := S2 38) (C' := S 16) z b (fun i h1 h2 => by have q := (hc (i - b) (by omega)).2.2; rw [show b + (i - b) = i by omega] at q; exact q)
    have y1 := c_29 (sz := sz) (E := E) (S := S) hv hbz h12 h14 (fun i hi => ⟨(hc i hi).1, (hc i hi).2.1⟩) hw (by omega)
    have y2 := c_158 (sz := sz) (E := E) (S := S2) hv hbz h37 h36 (fun i hi => by rw [(hc i hi).2.2]; exact ⟨(hc i hi).1, (hc i hi).2.1⟩) hw2 (by omega)
    rw [hcg] at y2
    refine ⟨34 :: (kess (S 16) z b ++ [34]), by rw [List.length_cons, List.length_append]; show (kess (S 16) z b).length + 1 + 1 ≤ _; omega, ?_, ?_⟩
    · show kR 5 26 b26_0 _ _ _ _
      refine kR.s rfl rfl ?_
      refine kR.gr (a := 10) (b := 11) (k := 0) (by omega) rfl rfl rfl (by decide) (by decide) rfl ?_
      refine kR.s rfl rfl ?_
      refine kR.ia (a := 11) (v := 3) (by omega) rfl (by decide) (by omega) (by omega) (by exact h11) ?_
      refine kR.w (t := 78) rfl rfl ?_
      show kR 5 26 b26_78 _ _ _ _
      refine kR.s rfl rfl ?_
      refine kR.s rfl rfl ?_
      refine kR.s rfl rfl ?_
      refine kR.c0 rfl rfl (kR.up y1 (by decide)) ?_
      refine kR.g rfl ?_
      show kR 5 26 b26_137 _ _ _ _
      refine kR.ret rfl rfl ?_
      rfl
    · show kR 2 159 b159_0 _ _ _ _
      refine kR.s rfl rfl ?_
      refine kR.gr (a := 30) (b := 34) (k := 9) (by omega) rfl rfl rfl (by decide) (by decide) rfl ?_
      refine kR.s rfl rfl ?_
      refine kR.ia (a := 34) (v := 3) (by omega) rfl (by decide) (by omega) (by omega) (by exact h34) ?_
      refine kR.zne (by decide) (by decide) (fun _ => ?_) (fun q => absurd q (by decide))
      show kR 2 159 b159_24 _ _ _ _
      refine kR.s rfl rfl ?_
      refine kR.gr (a := 30) (b := 34) (k := 9) (by omega) rfl rfl rfl (by decide) (by decide) rfl ?_
      refine kR.s rfl rfl ?_
      refine kR.ia (a := 34) (v := 3) (by omega) rfl (by decide) (by omega) (by omega) (by exact h34) ?_
      refine kR.s rfl rfl ?_
      refine kR.jne (by decide) (by decide) (by decide) (by decide) (fun _ => ?_) (fun q => absurd q (by decide))
      show kR 2 159 b159_47 _ _ _ _
      refine kR.s rfl rfl ?_
      refine kR.gr (a := 30) (b := 34) (k := 9) (by omega) rfl rfl rfl (by decide) (by decide) rfl ?_
      refine kR.s rfl rfl ?_
      refine kR.ia (a := 34) (v := 3) (by omega) rfl (by decide) (by omega) (by omega) (by exact h34) ?_
      refine kR.s rfl rfl ?_
      refine kR.jne (by decide) (by decide) (by decide) (by decide) (fun q => absurd rfl q) (fun _ => ?_)
      refine kR.s rfl rfl ?_
      refine kR.s rfl rfl ?_
      refine kR.c0 rfl rfl y2 ?_
      refine kR.g rfl ?_
      show kR 2 159 b159_109 _ _ _ _
      refine kR.ret rfl rfl ?_
      rfl
end KWB
