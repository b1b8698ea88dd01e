/-- the k-th byte of a long -/
def kby8 (a : Int64) (k : Nat) : Nat := (a.toBitVec >>> (8 * k)).toNat % 256
theorem kby8_lt (a : Int64) (k : Nat) : kby8 a k < 256 := Nat.mod_lt _ (by decide)
theorem kby8_c {a : Int64} {k : Nat} (hk : k < 8) : ((a.toUInt64 >>> ((Int32.ofInt (8 * (k : Int))).toInt64.toUInt64 &&& Int64.toUInt64 63)).toInt64.toInt32 &&& Int32.ofInt 255) = Int32.ofInt (kby8 a k : Int) := by
  apply Int32.toBitVec_inj.mp
  apply BitVec.eq_of_toNat_eq
  rcases (show k = 0 ∨ k = 1 ∨ k = 2 ∨ k = 3 ∨ k = 4 ∨ k = 5 ∨ k = 6 ∨ k = 7 by omega) with rfl | rfl | rfl | rfl | rfl | rfl | rfl | rfl
  all_goals simp [kby8]
  all_goals rw [BitVec.signExtend_eq_setWidth_of_le _ (by decide), show (255 : Nat) = 2 ^ 8 - 1 from rfl, Nat.and_two_pow_sub_one_eq_mod, BitVec.toNat_setWidth]
  all_goals (try simp only [BitVec.toNat_ushiftRight])
  all_goals (try simp only [Nat.shiftRight_eq_div_pow, Int.shiftRight_eq_div_pow])
  all_goals omega
theorem kssr (x : BitVec 64) {n : Nat} (hn : n = 8 ∨ n = 16 ∨ n = 24 ∨ n = 32 ∨ n = 40 ∨ n = 48 ∨ n = 56) : (x.sshiftRight n).toNat % 256 = x.toNat >>> n % 256 := by
  have h : (x.sshiftRight n).toInt = x.toInt >>> n := BitVec.toInt_sshiftRight
  rw [BitVec.toInt_eq_toNat_cond, BitVec.toInt_eq_toNat_cond, Int.shiftRight_eq_div_pow] at h
  have h1 := x.isLt
  have h2 := (x.sshiftRight n).isLt
  rw [Nat.shiftRight_eq_div_pow]
  rcases hn with rfl | rfl | rfl | rfl | rfl | rfl | rfl <;> split at h <;> split at h <;> simp at h ⊢ <;> omega
theorem kby8_m {a : Int64} {k : Nat} (hk : k < 8) : ((a >>> ((Int32.ofInt (8 * (k : Int))).toInt64 &&& 63)) &&& 255) = Int64.ofInt (kby8 a k : Int) := by
  apply Int64.toBitVec_inj.mp
  apply BitVec.eq_of_toNat_eq
  rcases (show k = 0 ∨ k = 1 ∨ k = 2 ∨ k = 3 ∨ k = 4 ∨ k = 5 ∨ k = 6 ∨ k = 7 by omega) with rfl | rfl | rfl | rfl | rfl | rfl | rfl | rfl
  all_goals simp [kby8]
  all_goals rw [show (255 : Nat) = 2 ^ 8 - 1 from rfl, Nat.and_two_pow_sub_one_eq_mod]
  all_goals (try rw [kssr _ (by decide)])
  all_goals (try simp only [Nat.shiftRight_eq_div_pow, Int.shiftRight_eq_div_pow])
  all_goals omega
