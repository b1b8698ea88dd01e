/-! The law's loop; the goal. -/
theorem k_loop {L : Nat} {xs : Nat → Int32} (hL : L ≤ 2048) : ∀ (m i : Nat) (w : Bool) (c s : Nat) (S : Nat → Nat → Int) (h : kH) (v5 v6 v7 : Value), L - i = m → i ≤ L → c ≤ 2 * i → s ≤ 10678 + 11 * i → kW w c s (kext L xs) S h → kIv (kext L xs) S → kR 100 163 (blk 163 23) [.ref 1000000, .ref 0, .ref 30, .ref 52, .int (Int32.ofInt (i : Int)), v5, v6, v7] [] h (fun r => r.1 = .inl (some (.int 1)) ∧ r.2.1.1 ≤ 601024 ∧ r.2.1.2 ≤ 7293034) := by
  intro m
  induction m using Nat.strongRecOn with
  | _ m ih =>
    intro i w c s S h v5 v6 v7 hm hi hc hs hW I
    refine k_head hW hL hi (fun _ => ?_) (fun h4 t ht => ?_)
    · obtain ⟨_, g1, g2, _⟩ := hW
      refine ⟨rfl, ?_, ?_⟩
      · show h.1.1 ≤ 601024
        rw [g1]
        show 53 + c ≤ 601024
        omega
      · show h.1.2 ≤ 7293034
        rw [g2]
        show 0 + s ≤ 7293034
        omega
    · have G : kGo L xs i c s (fun r => r.1 = .inl (some (.int 1)) ∧ r.2.1.1 ≤ 601024 ∧ r.2.1.2 ≤ 7293034) := by
        intro w' c' s' S2 q1 q2 q3 v5 v6 v7 h1 hw
        refine k_next (ih (L - (i + 4)) (by omega) (i + 4) w' c' s' (nrm S2) h1 v5 v6 v7 rfl h4 (by omega) (by omega) ?_ q3)
        unfold kW at hw ⊢
        rw [hp_nrm]
        exact hw
      simp only [List.mem_cons, List.not_mem_nil, or_false] at ht
      rcases ht with e | e | e | e | e | e | e | e | e | e | e | e | e <;> subst e
      · exact s_0 hW (by omega) hL h4 I G
      · exact s_1 hW (by omega) hL h4 I G
      · exact s_2 hW (by omega) hL h4 I G
      · exact s_3 hW (by omega) hL h4 I G
      · exact s_4 hW (by omega) hL h4 I G
      · exact s_5 hW (by omega) hL h4 I G
      · exact s_6 hW (by omega) hL h4 I G
      · exact s_7 hW (by omega) hL h4 I G
      · exact s_8 hW (by omega) hL h4 I G
      · exact s_9 hW (by omega) hL h4 I G
      · exact s_10 hW (by omega) hL h4 I G
      · exact s_11 hW (by omega) hL h4 I G
      · refine k_next (ih (L - (i + 4)) (by omega) (i + 4) w c s S h v5 v6 v7 rfl h4 (by omega) (by omega) hW I)
theorem k_goal (L : Nat) (xs : Nat → Int32) (hL : L ≤ 2048) : kGoal L xs := by
  refine kGoal_of (fun h hW => k_loop hL L 0 false 0 10678 (fun _ _ => 0) h _ _ _ rfl (Nat.zero_le _) (by omega) (by omega) hW ⟨fun a k => Or.inr (show -2147483648 ≤ (0 : Int) ∧ (0 : Int) < 2147483648 by decide), ⟨0, by omega, rfl, rfl, fun j hj => absurd hj (Nat.not_lt_zero _)⟩, ⟨0, by omega, rfl, rfl, fun j hj => absurd hj (Nat.not_lt_zero _)⟩, Or.inl ⟨rfl, rfl, rfl, rfl⟩⟩)
