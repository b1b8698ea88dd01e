/-! Where things lie does not matter: a run on a heap is a run on a renamed heap, which may hold more. -/
def kpv (π : Nat → Nat) (v : Value) : Value := match v with
  | .ref i => .ref (π i)
  | u => u
def kpc (π : Nat → Nat) (q : kC) : kC := (q.1, q.2.1, fun j => kpv π (q.2.2 j))
def kPi (π : Nat → Nat) (b c N : Nat) : Prop := N + c ≤ 1000000 ∧ b ≤ N ∧ (∀ i, i < b → π i < b) ∧ (∀ i j, i < b → j < b → π i = π j → i = j) ∧ (∀ i, b ≤ i → i < N → π i = i + c) ∧ (∀ i, N ≤ i → π i = i)
def kG (π : Nat → Nat) (b c s : Nat) (h h' : kH) : Prop := b ≤ h.1.1 ∧ h'.1.1 = h.1.1 + c ∧ h'.1.2 = h.1.2 + s ∧ ∀ i, (h.2 i).1 ≠ 0 → (i < h.1.1 ∨ 1000000 ≤ i) ∧ h'.2 (π i) = kpc π (h.2 i)
theorem kPi.out {π : Nat → Nat} {b c N : Nat} (P : kPi π b c N) {i : Nat} (h : 1000000 ≤ i) : π i = i := P.2.2.2.2.2 i (by have := P.1; omega)
theorem kPi.lt {π : Nat → Nat} {b c N : Nat} (P : kPi π b c N) {i : Nat} (h : i < 1000000) : π i < 1000000 := by
  obtain ⟨p1, p2, p3, p4, p5, p6⟩ := P
  by_cases h1 : i < b
  · have := p3 i h1; omega
  · by_cases h2 : i < N
    · rw [p5 i (by omega) h2]; omega
    · rw [p6 i (by omega)]; exact h
theorem kPi.inj {π : Nat → Nat} {b c N : Nat} (P : kPi π b c N) {i j : Nat} (hi : i < N ∨ 1000000 ≤ i) (hj : j < N ∨ 1000000 ≤ j) (e : π i = π j) : i = j := by
  obtain ⟨p1, p2, p3, p4, p5, p6⟩ := P
  by_cases h1 : i < b
  · have := p3 i h1
    by_cases h2 : j < b
    · exact p4 i j h1 h2 e
    · by_cases h3 : j < N
      · have := p5 j (by omega) h3; omega
      · have := p6 j (by omega); omega
  · by_cases h3 : i < N
    · have := p5 i (by omega) h3
      by_cases h2 : j < b
      · have := p3 j h2; omega
      · by_cases h4 : j < N
        · have := p5 j (by omega) h4; omega
        · have := p6 j (by omega); omega
    · have := p6 i (by omega)
      by_cases h2 : j < b
      · have := p3 j h2; omega
      · by_cases h4 : j < N
        · have := p5 j (by omega) h4; omega
        · have := p6 j (by omega); omega
section KRL
variable {π : Nat → Nat} {b c N s : Nat} {h h' : kH}
theorem kG.set (P : kPi π b c N) (G : kG π b c s h h') (hN : h.1.1 ≤ N) {a : Nat} {q q' : kC} (ha : (h.2 a).1 ≠ 0) (hq : q' = kpc π q) : kG π b c s (h.1, kup h.2 a q) (h'.1, kup h'.2 (π a) q') := by
  obtain ⟨g0, g1, g2, g3⟩ := G
  refine ⟨g0, g1, g2, fun i hi => ?_⟩
  change (kup h.2 a q i).1 ≠ 0 at hi
  show (i < h.1.1 ∨ 1000000 ≤ i) ∧ kup h'.2 (π a) q' (π i) = kpc π (kup h.2 a q i)
  have va := (g3 a ha).1
  by_cases hia : i = a
  · subst hia
    exact ⟨va, by simp [kup, hq]⟩
  · have e1 : kup h.2 a q i = h.2 i := if_neg hia
    rw [e1] at hi ⊢
    obtain ⟨vi, ei⟩ := g3 i hi
    refine ⟨vi, ?_⟩
    have hne : π i ≠ π a := fun z => hia (P.inj (by omega) (by omega) z)
    rw [show kup h'.2 (π a) q' (π i) = h'.2 (π i) from if_neg hne]
    exact ei
theorem kG.new (P : kPi π b c N) (G : kG π b c s h h') (hN : h.1.1 < N) {t n : Nat} {f f' : Nat → Value} (hf : f' = fun j => kpv π (f j)) : kG π b c s (knew h t n f) (knew h' t n f') ∧ π h.1.1 = h'.1.1 := by
  obtain ⟨g0, g1, g2, g3⟩ := G
  have hπ : π h.1.1 = h'.1.1 := by rw [P.2.2.2.2.1 _ g0 hN, g1]
  refine ⟨⟨by show b ≤ h.1.1 + 1; omega, by show h'.1.1 + 1 = h.1.1 + 1 + c; omega, by show h'.1.2 + n = h.1.2 + n + s; omega, fun i hi => ?_⟩, hπ⟩
  change (kup h.2 h.1.1 (t, n, f) i).1 ≠ 0 at hi
  show (i < h.1.1 + 1 ∨ 1000000 ≤ i) ∧ kup h'.2 h'.1.1 (t, n, f') (π i) = kpc π (kup h.2 h.1.1 (t, n, f) i)
  by_cases hia : i = h.1.1
  · rw [hia]
    refine ⟨by omega, ?_⟩
    rw [hπ]
    simp [kup, hf, kpc]
  · have e1 : kup h.2 h.1.1 (t, n, f) i = h.2 i := if_neg hia
    rw [e1] at hi ⊢
    obtain ⟨vi, ei⟩ := g3 i hi
    have hle := P.1
    refine ⟨by omega, ?_⟩
    have hne : π i ≠ h'.1.1 := by
      rw [← hπ]
      exact fun z => hia (P.inj (by omega) (by omega) z)
    rw [show kup h'.2 h'.1.1 (t, n, f') (π i) = h'.2 (π i) from if_neg hne]
    exact ei
theorem kG.cell (G : kG π b c s h h') {a : Nat} (ha : (h.2 a).1 ≠ 0) : h'.2 (π a) = kpc π (h.2 a) := (G.2.2.2 a ha).2
theorem kpv_kill (v : Value) : kkill (kpv π v) = kpv π (kkill v) := by cases v <;> rfl
theorem kst1_re : ∀ (ls : List Value) (k : Nat) (v : Value), kst1 (ls.map (kpv π)) k (kpv π v) = (kst1 ls k v).map (kpv π)
  | [], _, _ => rfl
  | _ :: l, 0, v => rfl
  | a :: l, 1, v => by
    show kkill (kpv π a) :: (l.map (kpv π)).set 0 (kpv π v) = kpv π (kkill a) :: (l.set 0 v).map (kpv π)
    rw [kpv_kill, List.map_set]
  | a :: l, n + 2, v => by
    show kpv π a :: kst1 (l.map (kpv π)) (n + 1) (kpv π v) = kpv π a :: (kst1 l (n + 1) v).map (kpv π)
    rw [kst1_re l (n + 1) v]
theorem kst2_re (ls : List Value) (k : Nat) (v : Value) : kst2 (ls.map (kpv π)) k (kpv π v) = (kst2 ls k v).map (kpv π) := by
  unfold kst2
  rw [kst1_re, List.map_set]
  rfl
theorem kl_i_re {ls st st1 : List Value} {k : Nat} (e : kl_i ls st k = some st1) : kl_i (ls.map (kpv π)) (st.map (kpv π)) k = some (st1.map (kpv π)) := by
  obtain ⟨a, h1, rfl⟩ := kl_i_i e
  simp [kl_i, h1, kpv]
theorem kl_l_re {ls st st1 : List Value} {k : Nat} (e : kl_l ls st k = some st1) : kl_l (ls.map (kpv π)) (st.map (kpv π)) k = some (st1.map (kpv π)) := by
  obtain ⟨a, h1, rfl⟩ := kl_l_i e
  simp [kl_l, h1, kpv]
theorem kl_a_re {ls st st1 : List Value} {k : Nat} (e : kl_a ls st k = some st1) : kl_a (ls.map (kpv π)) (st.map (kpv π)) k = some (st1.map (kpv π)) := by
  obtain ⟨a, h1, rfl⟩ := kl_a_i e
  simp [kl_a, h1, kpv]
theorem ks_i_re {ls st : List Value} {k : Nat} {z : List Value × List Value} (e : ks_i ls st k = some z) : ks_i (ls.map (kpv π)) (st.map (kpv π)) k = some (z.1.map (kpv π), z.2.map (kpv π)) := by
  obtain ⟨a, r, rfl, h1, rfl⟩ := ks_i_i e
  have := kst1_re (π := π) ls k (.int a)
  simp only [kpv] at this
  simp [ks_i, kpv, h1, this]
theorem ks_l_re {ls st : List Value} {k : Nat} {z : List Value × List Value} (e : ks_l ls st k = some z) : ks_l (ls.map (kpv π)) (st.map (kpv π)) k = some (z.1.map (kpv π), z.2.map (kpv π)) := by
  obtain ⟨a, r, rfl, h1, rfl⟩ := ks_l_i e
  have := kst2_re (π := π) ls k (.long a)
  simp only [kpv] at this
  simp [ks_l, kpv, h1, this]
theorem ks_a_re {ls st : List Value} {k : Nat} {z : List Value × List Value} (e : ks_a ls st k = some z) : ks_a (ls.map (kpv π)) (st.map (kpv π)) k = some (z.1.map (kpv π), z.2.map (kpv π)) := by
  obtain ⟨a, r, rfl, h1, rfl⟩ := ks_a_i e
  have := kst1_re (π := π) ls k (.ref a)
  simp only [kpv] at this
  simp [ks_a, kpv, h1, this]
theorem ko_ii_re {st st1 : List Value} {f : Int32 → Int32 → Value} (hf : ∀ a b, kpv π (f a b) = f a b) (e : ko_ii st f = some st1) : ko_ii (st.map (kpv π)) f = some (st1.map (kpv π)) := by
  obtain ⟨a, b, r, rfl, rfl⟩ := ko_ii_i e
  show some (f a b :: r.map (kpv π)) = some (kpv π (f a b) :: r.map (kpv π))
  rw [hf]
theorem ko_ll_re {st st1 : List Value} {f : Int64 → Int64 → Value} (hf : ∀ a b, kpv π (f a b) = f a b) (e : ko_ll st f = some st1) : ko_ll (st.map (kpv π)) f = some (st1.map (kpv π)) := by
  obtain ⟨a, b, r, rfl, rfl⟩ := ko_ll_i e
  show some (f a b :: r.map (kpv π)) = some (kpv π (f a b) :: r.map (kpv π))
  rw [hf]
theorem ko_li_re {st st1 : List Value} {f : Int64 → Int32 → Value} (hf : ∀ a b, kpv π (f a b) = f a b) (e : ko_li st f = some st1) : ko_li (st.map (kpv π)) f = some (st1.map (kpv π)) := by
  obtain ⟨a, b, r, rfl, rfl⟩ := ko_li_i e
  show some (f a b :: r.map (kpv π)) = some (kpv π (f a b) :: r.map (kpv π))
  rw [hf]
theorem ko_ld_re {st st1 : List Value} {f : Int64 → Int64 → Value} (hf : ∀ a b, kpv π (f a b) = f a b) (e : ko_ld st f = some st1) : ko_ld (st.map (kpv π)) f = some (st1.map (kpv π)) := by
  obtain ⟨a, b, r, rfl, h1, rfl⟩ := ko_ld_i e
  show (if b = 0 then none else some (f a b :: r.map (kpv π))) = some (kpv π (f a b) :: r.map (kpv π))
  rw [hf, if_neg h1]
theorem ko_i_re {st st1 : List Value} {f : Int32 → Value} (hf : ∀ a, kpv π (f a) = f a) (e : ko_i st f = some st1) : ko_i (st.map (kpv π)) f = some (st1.map (kpv π)) := by
  obtain ⟨a, r, rfl, rfl⟩ := ko_i_i e
  show some (f a :: r.map (kpv π)) = some (kpv π (f a) :: r.map (kpv π))
  rw [hf]
theorem ko_l_re {st st1 : List Value} {f : Int64 → Value} (hf : ∀ a, kpv π (f a) = f a) (e : ko_l st f = some st1) : ko_l (st.map (kpv π)) f = some (st1.map (kpv π)) := by
  obtain ⟨a, r, rfl, rfl⟩ := ko_l_i e
  show some (f a :: r.map (kpv π)) = some (kpv π (f a) :: r.map (kpv π))
  rw [hf]
theorem ko_dup_re {st st1 : List Value} (e : ko_dup st = some st1) : ko_dup (st.map (kpv π)) = some (st1.map (kpv π)) := by
  unfold ko_dup at e
  split at e
  · cases e; rfl
  · cases e; rfl
  · cases e
theorem ko_pop_re {st st1 : List Value} (e : ko_pop st = some st1) : ko_pop (st.map (kpv π)) = some (st1.map (kpv π)) := by
  unfold ko_pop at e
  split at e
  · cases e; rfl
  · cases e; rfl
  · cases e
theorem ko_dup2_re {st st1 : List Value} (e : ko_dup2 st = some st1) : ko_dup2 (st.map (kpv π)) = some (st1.map (kpv π)) := by
  obtain ⟨a, b, r, rfl, rfl⟩ := ko_dup2_i e
  rfl
theorem ko_get_re (G : kG π b c s h h') {x : Nat} (hx : x / 100 % 100 ≠ 0) {st st1 : List Value} (e : ko_get h x st = some st1) : ko_get h' x (st.map (kpv π)) = some (st1.map (kpv π)) := by
  obtain ⟨a, v, r, rfl, hg, rfl⟩ := ko_get_i e
  unfold kget at hg
  split at hg
  · rename_i hq
    cases hg
    have hc := G.cell (a := a) (by rw [hq.1]; exact hx)
    show (match kget h' (π a) x with
      | some v => some (v :: r.map (kpv π))
      | none => none) = _
    rw [show kget h' (π a) x = some (kpv π ((h.2 a).2.2 (x % 100))) from by
      unfold kget
      rw [hc, if_pos (show (kpc π (h.2 a)).1 = _ ∧ _ < (kpc π (h.2 a)).2.1 from hq)]
      rfl]
    rfl
  · cases hg
theorem ko_ald_re (G : kG π b c s h h') {t1 t2 : Nat} (h1 : t1 ≠ 0) (h2 : t2 ≠ 0) {st st1 : List Value} (e : ko_ald h t1 t2 st = some st1) : ko_ald h' t1 t2 (st.map (kpv π)) = some (st1.map (kpv π)) := by
  obtain ⟨i, a, r, rfl, hq, hi, rfl⟩ := ko_ald_i e
  have hc := G.cell (a := a) (by rcases hq with z | z <;> rw [z] <;> assumption)
  show (if ((h'.2 (π a)).1 = t1 ∨ (h'.2 (π a)).1 = t2) ∧ kin i (h'.2 (π a)).2.1 = true then some ((h'.2 (π a)).2.2 i.toNatClampNeg :: r.map (kpv π)) else none) = _
  rw [hc, if_pos (show ((kpc π (h.2 a)).1 = t1 ∨ (kpc π (h.2 a)).1 = t2) ∧ kin i (kpc π (h.2 a)).2.1 = true from ⟨hq, hi⟩)]
  rfl
theorem ko_len_re (G : kG π b c s h h') {st st1 : List Value} (e : ko_len h st = some st1) : ko_len h' (st.map (kpv π)) = some (st1.map (kpv π)) := by
  obtain ⟨a, r, rfl, hq, rfl⟩ := ko_len_i e
  have hc := G.cell (a := a) (by omega)
  show (if 20 ≤ (h'.2 (π a)).1 ∧ (h'.2 (π a)).1 < 24 ∨ (h'.2 (π a)).1 = 50 ∨ (h'.2 (π a)).1 = 52 then some (.int (Int32.ofNat (h'.2 (π a)).2.1) :: r.map (kpv π)) else none) = _
  rw [hc, if_pos (show 20 ≤ (kpc π (h.2 a)).1 ∧ (kpc π (h.2 a)).1 < 24 ∨ (kpc π (h.2 a)).1 = 50 ∨ (kpc π (h.2 a)).1 = 52 from hq)]
  rfl
theorem kpv_kup (f : Nat → Value) (k : Nat) (v : Value) : kup (fun j => kpv π (f j)) k (kpv π v) = fun j => kpv π (kup f k v j) := by
  funext j
  by_cases hj : j = k
  · simp [kup, hj]
  · simp [kup, hj]
theorem kfit_re (P : kPi π b c N) {kd : Nat} {v : Value} (e : kfit kd v = true) : kfit kd (kpv π v) = true := by
  cases v with
  | ref a =>
    unfold kfit at e
    split at e
    · rename_i z; cases z
    · rename_i z; cases z
    · rename_i z; cases z
    · rename_i z
      cases z
      show decide (π _ < 1000000) = true
      exact decide_eq_true (P.lt (of_decide_eq_true e))
    · cases e
  | _ => exact e
theorem ko_put_re (P : kPi π b c N) (G : kG π b c s h h') (hN : h.1.1 ≤ N) {x : Nat} (hx : x / 100 % 100 ≠ 0) {st : List Value} {z : List Value × kH} (e : ko_put h x st = some z) : ∃ h1', ko_put h' x (st.map (kpv π)) = some (z.1.map (kpv π), h1') ∧ kG π b c s z.2 h1' := by
  obtain ⟨a, v, r, h1, rfl, hg, rfl⟩ := ko_put_i e
  unfold kput at hg
  split at hg
  · rename_i hq
    cases hg
    have hne : (h.2 a).1 ≠ 0 := by rw [hq.1]; exact hx
    have hc := G.cell hne
    refine ⟨(h'.1, kup h'.2 (π a) ((h'.2 (π a)).1, (h'.2 (π a)).2.1, kup (h'.2 (π a)).2.2 (x % 100) (kpv π v))), ?_, ?_⟩
    · show (match kput h' (π a) x (kpv π v) with
        | some h1 => some (r.map (kpv π), h1)
        | none => none) = _
      have e2 : kput h' (π a) x (kpv π v) = some (h'.1, kup h'.2 (π a) ((h'.2 (π a)).1, (h'.2 (π a)).2.1, kup (h'.2 (π a)).2.2 (x % 100) (kpv π v))) := by
        unfold kput
        refine if_pos ?_
        rw [hc]
        exact ⟨hq.1, hq.2.1, kfit_re P hq.2.2⟩
      rw [e2]
    · refine G.set P hN hne ?_
      rw [hc]
      show ((h.2 a).1, (h.2 a).2.1, kup (fun j => kpv π ((h.2 a).2.2 j)) (x % 100) (kpv π v)) = _
      rw [kpv_kup]
      rfl
  · cases hg
theorem kast_re (P : kPi π b c N) (G : kG π b c s h h') (hN : h.1.1 ≤ N) {a : Nat} {i : Int32} {v : Value} (hne : (h.2 a).1 ≠ 0) : kG π b c s (kast h a i v) (kast h' (π a) i (kpv π v)) := by
  have hc := G.cell hne
  refine G.set P hN hne ?_
  rw [hc]
  show ((h.2 a).1, (h.2 a).2.1, kup (fun j => kpv π ((h.2 a).2.2 j)) i.toNatClampNeg (kpv π v)) = _
  rw [kpv_kup]
  rfl
theorem ko_ast_re (P : kPi π b c N) (G : kG π b c s h h') (hN : h.1.1 ≤ N) {t : Nat} (ht : t ≠ 0) {f : Int32 → Value} (hf : ∀ a, kpv π (f a) = f a) {st : List Value} {z : List Value × kH} (e : ko_ast h t f st = some z) : ∃ h1', ko_ast h' t f (st.map (kpv π)) = some (z.1.map (kpv π), h1') ∧ kG π b c s z.2 h1' := by
  obtain ⟨x, i, a, r, rfl, hq, hi, rfl⟩ := ko_ast_i e
  have hne : (h.2 a).1 ≠ 0 := by rw [hq]; exact ht
  have hc := G.cell hne
  refine ⟨kast h' (π a) i (f x), ?_, ?_⟩
  · show (if (h'.2 (π a)).1 = t ∧ kin i (h'.2 (π a)).2.1 = true then some (r.map (kpv π), kast h' (π a) i (f x)) else none) = _
    refine if_pos ?_
    rw [hc]
    exact ⟨hq, hi⟩
  · have z := kast_re (i := i) (v := f x) P G hN hne
    rw [hf] at z
    exact z
theorem ko_lst_re (P : kPi π b c N) (G : kG π b c s h h') (hN : h.1.1 ≤ N) {st : List Value} {z : List Value × kH} (e : ko_lst h st = some z) : ∃ h1', ko_lst h' (st.map (kpv π)) = some (z.1.map (kpv π), h1') ∧ kG π b c s z.2 h1' := by
  obtain ⟨x, i, a, r, rfl, hq, hi, rfl⟩ := ko_lst_i e
  have hne : (h.2 a).1 ≠ 0 := by rw [hq]; decide
  have hc := G.cell hne
  refine ⟨kast h' (π a) i (.long x), ?_, kast_re (i := i) (v := .long x) P G hN hne⟩
  show (if (h'.2 (π a)).1 = 22 ∧ kin i (h'.2 (π a)).2.1 = true then some (r.map (kpv π), kast h' (π a) i (.long x)) else none) = _
  refine if_pos ?_
  rw [hc]
  exact ⟨hq, hi⟩
theorem ko_nar_re (P : kPi π b c N) (G : kG π b c s h h') {t : Nat} {v : Value} (hv : kpv π v = v) {st : List Value} {z : List Value × kH} (e : ko_nar h t v st = some z) (hN : z.2.1.1 ≤ N) : ∃ h1', ko_nar h' t v (st.map (kpv π)) = some (z.1.map (kpv π), h1') ∧ kG π b c s z.2 h1' := by
  obtain ⟨n, r, rfl, h1, h2, rfl⟩ := ko_nar_i e
  have hN' : h.1.1 + 1 ≤ N := hN
  obtain ⟨g1, g2⟩ := G.new P (by omega) (t := t) (n := n.toNatClampNeg) (f := fun _ => v) (f' := fun _ => v) (by funext j; exact hv.symm)
  refine ⟨_, ?_, g1⟩
  show (if ¬ n < 0 ∧ n.toNatClampNeg ≤ 100000 then some (.ref h'.1.1 :: r.map (kpv π), knew h' t n.toNatClampNeg (fun _ => v)) else none) = some (.ref (π h.1.1) :: r.map (kpv π), _)
  rw [if_pos ⟨h1, h2⟩, g2]
theorem kcst_re (P : kPi π b c N) (x : Nat) : kpv π (kcst x) = kcst x := by
  unfold kcst
  split <;> first | rfl | (show Value.ref (π _) = _; rw [P.out (by decide)])
theorem kdef_re (t k : Nat) : kpv π (kdef t k) = kdef t k := by
  unfold kdef
  cases kY t k <;> rfl
end KRL
