/-! pure: bits of sets -/
theorem xor_lt' : ∀ k, k < 256 → ∀ q, q < 8 → ¬ k &&& 2 ^ q = 0 → k ^^^ 2 ^ q < k := by decide +kernel
theorem xor_lt {k q : Nat} (hk : k < 256) (hq : q < 8) (h : ¬ k &&& 2 ^ q = 0) : k ^^^ 2 ^ q < k := xor_lt' k hk q hq h
theorem m1_i {k : Nat} (h : 0 < k) : nI k + Int32.ofInt (-1) = nI (k - 1) := by
  rw [show Int32.ofInt (-1) = (-1 : Int32) from by decide]
  exact sb_m1 h
theorem pow_in {M S : Nat} (hS : S = 2 ^ M) (hM : M ≤ 8) : 0 < S ∧ S ≤ 256 := by
  subst hS
  exact ⟨Nat.two_pow_pos M, Nat.le_trans (Nat.pow_le_pow_right (by decide) hM) (by decide)⟩
theorem xor_in {a b M S : Nat} (hS : S = 2 ^ M) (ha : a < S) (hb : b < S) : a ^^^ b < S := by
  subst hS
  exact Nat.xor_lt_two_pow ha hb
theorem shl1 : ∀ p, p < 31 → nI 1 <<< (nI p &&& 31) = nI (2 ^ p) := by decide +kernel
theorem rk_pos {k : Nat} (hk : k < 2 ^ 30) (h : ¬ nI k - nI 1 < 0) : ∃ j, k = j + 1 := by
  rcases Nat.eq_zero_or_pos k with q | q
  · exact absurd ((rk_neg hk).mpr q) h
  · exact ⟨k - 1, by omega⟩
