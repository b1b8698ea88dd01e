/-! The law's loop: typing; looks that may throw. -/
section KTY
variable {a : Int64}
theorem kty_at : ∀ (k : Nat) (S : Nat → Nat → Int) (n : Nat), S 1 5 = (n : Int) → kty a k S 1 5 = ((n + k : Nat) : Int) ∧ (∀ j, kty a k S 2 j = if n ≤ j ∧ j < n + k then (kby8 a (k - 1 - (j - n)) : Int) else S 2 j) ∧ ∀ b, b ≠ 1 → b ≠ 2 → kty a k S b = S b
  | 0, S, n, h => ⟨h, fun j => by rw [if_neg (by omega)]; rfl, fun b _ _ => rfl⟩
  | k + 1, S, n, h => by
    obtain ⟨g1, g2, g3⟩ := kty_at k (kap S (kby8 a k : Int)) (n + 1) (by show S 1 5 + 1 = _; rw [h]; rfl)
    refine ⟨?_, fun j => ?_, fun b h1 h2 => ?_⟩
    · show kty a k (kap S (kby8 a k : Int)) 1 5 = _
      rw [g1]
      omega
    · show kty a k (kap S (kby8 a k : Int)) 2 j = _
      rw [g2]
      have hk : kap S (kby8 a k : Int) 2 j = if j = n then (kby8 a k : Int) else S 2 j := by
        show (if j = (S 1 5).toNat then (kby8 a k : Int) else S 2 j) = _
        rw [h]
        rfl
      by_cases q : j = n
      · rw [if_neg (by omega), hk, if_pos q, if_pos (by omega), show k + 1 - 1 - (j - n) = k by omega]
      · by_cases q2 : n + 1 ≤ j ∧ j < n + 1 + k
        · rw [if_pos q2, if_pos (by omega), show k + 1 - 1 - (j - n) = k - 1 - (j - (n + 1)) by omega]
        · rw [if_neg q2, hk, if_neg q, if_neg (by omega)]
    · show kty a k (kap S (kby8 a k : Int)) b = _
      rw [g3 b h1 h2]
      show (if b = 1 then _ else (if b = 2 then _ else S b)) = S b
      rw [if_neg h1, if_neg h2]
theorem ktm_at : ∀ (k : Nat) (S : Nat → Nat → Int) (n : Nat), S 30 2 = (n : Int) → ktm a k S 30 2 = ((n + k : Nat) : Int) ∧ (∀ j, ktm a k S 31 j = if n ≤ j ∧ j < n + k then (kby8 a (k - 1 - (j - n)) : Int) else S 31 j) ∧ (∀ b, b ≠ 30 → b ≠ 31 → ktm a k S b = S b) ∧ ∀ q, q ≠ 2 → ktm a k S 30 q = S 30 q
  | 0, S, n, h => ⟨h, fun j => by rw [if_neg (by omega)]; rfl, fun b _ _ => rfl, fun q _ => rfl⟩
  | k + 1, S, n, h => by
    obtain ⟨g1, g2, g3, g4⟩ := ktm_at k (kapm S (kby8 a k : Int)) (n + 1) (by show S 30 2 + 1 = _; rw [h]; rfl)
    refine ⟨?_, fun j => ?_, fun b h1 h2 => ?_, fun q hq => ?_⟩
    · show ktm a k (kapm S (kby8 a k : Int)) 30 2 = _
      rw [g1]
      omega
    · show ktm a k (kapm S (kby8 a k : Int)) 31 j = _
      rw [g2]
      have hk : kapm S (kby8 a k : Int) 31 j = if j = n then (kby8 a k : Int) else S 31 j := by
        show (if j = (S 30 2).toNat then (kby8 a k : Int) else S 31 j) = _
        rw [h]
        rfl
      by_cases q : j = n
      · rw [if_neg (by omega), hk, if_pos q, if_pos (by omega), show k + 1 - 1 - (j - n) = k by omega]
      · by_cases q2 : n + 1 ≤ j ∧ j < n + 1 + k
        · rw [if_pos q2, if_pos (by omega), show k + 1 - 1 - (j - n) = k - 1 - (j - (n + 1)) by omega]
        · rw [if_neg q2, hk, if_neg q, if_neg (by omega)]
    · show ktm a k (kapm S (kby8 a k : Int)) b = _
      rw [g3 b h1 h2]
      show (if b = 30 then _ else (if b = 31 then _ else S b)) = S b
      rw [if_neg h1, if_neg h2]
    · show ktm a k (kapm S (kby8 a k : Int)) 30 q = _
      rw [g4 q hq]
      show (if q = 2 then _ else S 30 q) = S 30 q
      rw [if_neg hq]
end KTY
section KSQ
variable {w : Bool} {c s L i : Nat} {xs : Nat → Int32} {S : Nat → Nat → Int} {h : kH} {Q : kO × kH → Prop} {v5 v6 v7 : Value}
theorem s_0 (hW : kW w c s (kext L xs) S h) (hc : 100 + c ≤ 1000000) (hL : L ≤ 2048) (hi : i + 4 ≤ L) (I : kIv (kext L xs) S) (G : kGo L xs i c s Q) : kR 100 163 (blk 163 100) [.ref 1000000, .ref 0, .ref 30, .ref 52, .int (Int32.ofInt (i : Int)), v5, v6, v7] [] h Q := by
  classical
  have hm : 53 ≤ 53 ∧ 53 ≤ 57 := by omega
  have I0 := I
  obtain ⟨i0, ⟨n, g1, g2, g3, g4⟩, i2, i3⟩ := I
  obtain ⟨p, hpp⟩ : ∃ p, p = (xs (i + 3)).toInt := ⟨_, rfl⟩
  have hr := kxr (xs (i + 3))
  rw [← hpp] at hr
  refine k_c0 (A := fun a => if kTy a p (S 1 5) then kty a p.toNat S 1 5 else -1) (S1 := fun a => if kTy a p (S 1 5) then kty a p.toNat S else S) (B := fun a => if kTy a p (S 1 5) then ktm a p.toNat (ku (kty a p.toNat S) 30 0 0) 30 2 else -1) (S2 := fun a => if kTy a p (S 1 5) then ktm a p.toNat (ku (kty a p.toNat S) 30 0 0) else ku S 30 0 0) hW hc hL hi (fun a => ?_) (fun a => ?_) (fun a => ?_) (fun a v5 v6 v7 h1 hw => G w c s _ (by omega) (by omega) ?_ v5 v6 v7 h1 hw)
  · rw [← hpp]
    refine kR.wk (kR.up (c_2 (a := a) (S := S) hm hr (by omega)) (by decide)) (fun r q => ?_)
    by_cases z : kTy a p (S 1 5)
    · show r = (.inl (some (.int (Int32.ofInt (if kTy a p (S 1 5) then kty a p.toNat S 1 5 else -1)))), ((53, 0), hp 53 (kext L xs) (if kTy a p (S 1 5) then kty a p.toNat S else S)))
      rw [if_pos z, if_pos z]
      exact q.1 z
    · show r = (.inl (some (.int (Int32.ofInt (if kTy a p (S 1 5) then kty a p.toNat S 1 5 else -1)))), ((53, 0), hp 53 (kext L xs) (if kTy a p (S 1 5) then kty a p.toNat S else S)))
      rw [if_neg z, if_neg z]
      exact q.2 z
  · rw [← hpp]
    by_cases z : kTy a p (S 1 5)
    · show kR 99 102 _ _ _ ((53, 0), hp 53 (kext L xs) (if kTy a p (S 1 5) then kty a p.toNat S else S)) (fun r => r = (.inl (some (.int (Int32.ofInt (if kTy a p (S 1 5) then ktm a p.toNat (ku (kty a p.toNat S) 30 0 0) 30 2 else -1)))), ((53, 0), hp 53 (kext L xs) (if kTy a p (S 1 5) then ktm a p.toNat (ku (kty a p.toNat S) 30 0 0) else ku S 30 0 0))))
      rw [if_pos z, if_pos z, if_pos z]
      have e30 : kty a p.toNat S 30 = S 30 := (kty_at (a := a) p.toNat S n g2).2.2 30 (by decide) (by decide)
      refine kR.wk (kR.up (c_102 (a := a) (S := kty a p.toNat S) hm hr (by rw [e30]; omega)) (by decide)) (fun r q => q.1 (by rw [e30, g3, ← g2]; exact z))
    · show kR 99 102 _ _ _ ((53, 0), hp 53 (kext L xs) (if kTy a p (S 1 5) then kty a p.toNat S else S)) (fun r => r = (.inl (some (.int (Int32.ofInt (if kTy a p (S 1 5) then ktm a p.toNat (ku (kty a p.toNat S) 30 0 0) 30 2 else -1)))), ((53, 0), hp 53 (kext L xs) (if kTy a p (S 1 5) then ktm a p.toNat (ku (kty a p.toNat S) 30 0 0) else ku S 30 0 0))))
      rw [if_neg z, if_neg z, if_neg z]
      refine kR.wk (kR.up (c_102 (a := a) (S := S) hm hr (by omega)) (by decide)) (fun r q => q.2 (by rw [g3, ← g2]; exact z))
  · show (if kTy a p (S 1 5) then kty a p.toNat S 1 5 else -1) = (if kTy a p (S 1 5) then ktm a p.toNat (ku (kty a p.toNat S) 30 0 0) 30 2 else -1)
    have k1 := kty_at (a := a) p.toNat S n g2
    have e30 : kty a p.toNat S 30 = S 30 := k1.2.2 30 (by decide) (by decide)
    rw [k1.1, (ktm_at (a := a) p.toNat (ku (kty a p.toNat S) 30 0 0) n (by show kty a p.toNat S 30 2 = _; rw [e30]; exact g3)).1]
  · by_cases z : kTy a p (S 1 5)
    · show kIv (kext L xs) (nrm (if kTy a p (S 1 5) then ktm a p.toNat (ku (kty a p.toNat S) 30 0 0) else ku S 30 0 0))
      rw [if_pos z]
      obtain ⟨k1, k2, k3⟩ := kty_at (a := a) p.toNat S n g2
      have e30 : kty a p.toNat S 30 = S 30 := k3 30 (by decide) (by decide)
      obtain ⟨m1, m2, m3, m4⟩ := ktm_at (a := a) p.toNat (ku (kty a p.toNat S) 30 0 0) n (by show kty a p.toNat S 30 2 = _; rw [e30]; exact g3)
      obtain ⟨z1, z2, z3, z4⟩ := z
      have mc : ∀ b, b ≠ 30 → b ≠ 31 → b ≠ 1 → b ≠ 2 → ktm a p.toNat (ku (kty a p.toNat S) 30 0 0) b = S b := fun b h1 h2 h3 h4 => by
        rw [m3 b h1 h2]
        show (if b = 30 then _ else kty a p.toNat S b) = S b
        rw [if_neg h1]
        exact k3 b h3 h4
      have mk : ∀ q, q ≠ 0 → q ≠ 2 → ktm a p.toNat (ku (kty a p.toNat S) 30 0 0) 30 q = S 30 q := fun q h1 h2 => by
        rw [m4 q h2]
        show (if q = 0 then _ else kty a p.toNat S 30 q) = S 30 q
        rw [if_neg h1, e30]
      have e2 : ktm a p.toNat (ku (kty a p.toNat S) 30 0 0) 2 = kty a p.toNat S 2 := m3 2 (by decide) (by decide)
      have e1 : ktm a p.toNat (ku (kty a p.toNat S) 30 0 0) 1 = kty a p.toNat S 1 := m3 1 (by decide) (by decide)
      refine kIv_nrm ⟨n + p.toNat, by omega, by rw [e1]; exact k1, m1, fun j hj => ?_⟩ (i2.fr (mc 7 (by decide) (by decide) (by decide) (by decide)) (mc 8 (by decide) (by decide) (by decide) (by decide)) (mc 48 (by decide) (by decide) (by decide) (by decide)) (mk 37 (by decide) (by decide))) (i3.fr (fun b hb => mc b (by omega) (by omega) (by omega) (by omega)) (fun q hq => mk q (by omega) (by omega)))
      rw [e2, k2, m2]
      have e31 : ku (kty a p.toNat S) 30 0 0 31 j = S 31 j := by
        show kty a p.toNat S 31 j = S 31 j
        rw [k3 31 (by decide) (by decide)]
      rw [e31]
      by_cases y : n ≤ j ∧ j < n + p.toNat
      · rw [if_pos y, if_pos y]
        exact ⟨rfl, z4 _ (by omega)⟩
      · rw [if_neg y, if_neg y]
        exact g4 j (by omega)
    · show kIv (kext L xs) (nrm (if kTy a p (S 1 5) then ktm a p.toNat (ku (kty a p.toNat S) 30 0 0) else ku S 30 0 0))
      rw [if_neg z]
      exact kIv_30 I0 rfl
theorem kIv_52 {E : Nat → kC} {S2 : Nat → Nat → Int} {x y : Int} (I : kIv E S) (h : S2 = ku (ku S 52 0 y) 30 0 x) : kIv E (nrm S2) := by
  subst h
  refine kIv_look I (fun a h1 h2 => ?_) (fun k hk => ?_)
  · show (if a = 30 then _ else (if a = 52 then _ else S a)) = S a
    rw [if_neg h1, if_neg h2]
  · show (if k = 0 then _ else S 30 k) = S 30 k
    rw [if_neg hk]
theorem kIv_300 {E : Nat → kC} {S2 : Nat → Nat → Int} {x y : Int} (I : kIv E S) (h : S2 = ku (ku S 30 0 y) 30 0 x) : kIv E (nrm S2) := by
  subst h
  refine kIv_look I (fun a h1 h2 => ?_) (fun k hk => ?_)
  · show (if a = 30 then _ else (if a = 30 then _ else S a)) = S a
    rw [if_neg h1, if_neg h1]
  · show (if k = 0 then _ else (if k = 0 then _ else S 30 k)) = S 30 k
    rw [if_neg hk, if_neg hk]
theorem s_7 (hW : kW w c s (kext L xs) S h) (hc : 200 + c ≤ 1000000) (hL : L ≤ 2048) (hi : i + 4 ≤ L) (I : kIv (kext L xs) S) (G : kGo L xs i c s Q) : kR 100 163 (blk 163 412) [.ref 1000000, .ref 0, .ref 30, .ref 52, .int (Int32.ofInt (i : Int)), v5, v6, v7] [] h Q := by
  have hm : 53 ≤ 53 ∧ 53 ≤ 57 := by omega
  obtain ⟨c0, u, e, ⟨v1, v2, v3, v4⟩, ⟨s1, s2, s3, s4⟩, va, vb, vc⟩ := I.2.2.2.view
  have hK : ∀ j : Nat, (j : Int) < S 30 8 → 0 ≤ S 34 j ∧ S 34 j ≤ 5 := fun j hj => by
    have z := va j (by omega)
    rw [← z.1.1]
    exact z.2.1
  have hq : ((0 ≤ (xs (i + 1)).toInt ∧ (xs (i + 1)).toInt < S 10 5) ∧ (S 11 (xs (i + 1)).toInt.toNat = 2 ∨ S 11 (xs (i + 1)).toInt.toNat = 1)) ↔ ((0 ≤ (xs (i + 1)).toInt ∧ (xs (i + 1)).toInt < S 30 8) ∧ (S 34 (xs (i + 1)).toInt.toNat = 2 ∨ S 34 (xs (i + 1)).toInt.toNat = 1)) := by
    rw [s1, s2]
    constructor
    · rintro ⟨a1, a2⟩
      rw [(va (xs (i + 1)).toInt.toNat (by omega)).1.1] at a2
      exact ⟨a1, a2⟩
    · rintro ⟨a1, a2⟩
      rw [← (va (xs (i + 1)).toInt.toNat (by omega)).1.1] at a2
      exact ⟨a1, a2⟩
  by_cases q : ((0 ≤ (xs (i + 1)).toInt ∧ (xs (i + 1)).toInt < S 10 5) ∧ (S 11 (xs (i + 1)).toInt.toNat = 2 ∨ S 11 (xs (i + 1)).toInt.toNat = 1))
  · refine k_c7 (Q1 := fun r => r = (.inl (some (.int (Int32.ofInt 0))), ((53, 0), hp 53 (kext L xs) (ku S 52 0 (S 13 (xs (i + 1)).toInt.toNat))))) hW (by omega) hL hi (kR.wk (kR.up (c_167 (kxr _) (by omega) (fun j hj => (va j (by omega)).2.1)) (by decide)) (fun r hr => hr.1 q)) (fun u hu => by subst hu; exact (by decide : (53 : Nat) ≤ 100)) (fun u h1 hu gg => ?_)
    subst hu
    refine ⟨0, w, c, s, ku S 52 0 (S 13 (xs (i + 1)).toInt.toNat), ku (ku S 52 0 (S 13 (xs (i + 1)).toInt.toNat)) 30 0 0, S 35 (xs (i + 1)).toInt.toNat, Or.inl rfl, rfl, by omega, gg, kR.wk (kR.up (c_152 (S := ku S 52 0 (S 13 (xs (i + 1)).toInt.toNat)) hm (kxr _) (by show 0 ≤ S 30 8 ∧ S 30 8 ≤ 60; omega) (fun j hj => hK j hj)) (by decide)) (fun r hr => hr.1 (hq.mp q)), rfl, fun _ => ?_, fun v5 v6 v7 h2 hw => G w c s _ (by omega) (by omega) (kIv_52 I rfl) v5 v6 v7 h2 hw⟩
    show S 13 (xs (i + 1)).toInt.toNat = S 35 (xs (i + 1)).toInt.toNat
    exact (va _ (by omega)).1.2.2.1
  · refine k_c7 (Q1 := fun r => r = (.inl (some (.int (Int32.ofInt 1))), knew ((53, 0), hp 53 (kext L xs) S) 30 6 (fun _ => .null))) hW (by omega) hL hi (kR.wk (kR.up (c_167 (kxr _) (by omega) (fun j hj => (va j (by omega)).2.1)) (by decide)) (fun r hr => hr.2 q)) (fun u hu => by subst hu; exact (by decide : (54 : Nat) ≤ 100)) (fun u h1 hu gg => ?_)
    subst hu
    exact ⟨1, w, c + 1, s + 6, S, ku (ku S 30 0 0) 30 0 1, 0, Or.inr rfl, rfl, by omega, kW_new (kext_o L xs) gg, kR.wk (kR.up (c_152 (S := S) hm (kxr _) (by omega) (fun j hj => hK j hj)) (by decide)) (fun r hr => hr.2 (fun z => q (hq.mpr z))), rfl, fun z => absurd z (by decide), fun v5 v6 v7 h2 hw => G w (c + 1) (s + 6) _ (by omega) (by omega) (kIv_300 I rfl) v5 v6 v7 h2 hw⟩
end KSQ
