/-! pure: numbers by digits to the base 9, each ask's digit at its own place -/
theorem p9 (n : Nat) : 0 < 9 ^ n := Nat.pow_pos (by decide)
theorem p9s (n : Nat) : 9 ^ (n + 1) = 9 * 9 ^ n := by rw [Nat.pow_succ, Nat.mul_comm]
theorem dg_split {X j0 : Nat} (hz : X / 9 ^ j0 % 9 = 0) : ∃ A B, B < 9 ^ j0 ∧ X = 9 ^ j0 * (9 * A) + B := by
  refine ⟨X / 9 ^ j0 / 9, X % 9 ^ j0, Nat.mod_lt _ (p9 j0), ?_⟩
  have h1 : 9 * (X / 9 ^ j0 / 9) = X / 9 ^ j0 := by omega
  rw [h1]
  exact (Nat.div_add_mod X (9 ^ j0)).symm
theorem dg_add {X d j0 : Nat} (hz : X / 9 ^ j0 % 9 = 0) (hd : d < 9) (j : Nat) : (X + d * 9 ^ j0) / 9 ^ j % 9 = if j = j0 then d else X / 9 ^ j % 9 := by
  obtain ⟨A, B, hB, rfl⟩ := dg_split hz
  have e1 : 9 ^ j0 * (9 * A) + B + d * 9 ^ j0 = 9 ^ j0 * (9 * A + d) + B := by rw [Nat.mul_add, Nat.mul_comm d]; omega
  rw [e1]
  have div0 : ∀ Z : Nat, (9 ^ j0 * Z + B) / 9 ^ j0 = Z := fun Z => by
    rw [Nat.mul_add_div (p9 j0), Nat.div_eq_of_lt hB, Nat.add_zero]
  by_cases h : j = j0
  · subst h
    rw [if_pos rfl, div0]
    omega
  · rw [if_neg h]
    rcases Nat.lt_or_gt_of_ne h with hlt | hgt
    · obtain ⟨i, hi⟩ : ∃ i, j0 = j + (i + 1) := ⟨j0 - j - 1, by omega⟩
      subst hi
      have e2 : ∀ Z : Nat, 9 ^ (j + (i + 1)) * Z + B = 9 ^ j * (9 * (9 ^ i * Z)) + B := fun Z => by
        rw [Nat.pow_add, p9s, Nat.mul_assoc, Nat.mul_assoc]
      rw [e2, e2, Nat.mul_add_div (p9 j), Nat.mul_add_div (p9 j)]
      omega
    · obtain ⟨i, hi⟩ : ∃ i, j = j0 + (i + 1) := ⟨j - j0 - 1, by omega⟩
      subst hi
      rw [Nat.pow_add, ← Nat.div_div_eq_div_mul, ← Nat.div_div_eq_div_mul, div0, div0, p9s, ← Nat.div_div_eq_div_mul, ← Nat.div_div_eq_div_mul]
      have e3 : (9 * A + d) / 9 = A := by omega
      have e4 : 9 * A / 9 = A := by omega
      rw [e3, e4]
theorem dg_lt {X d j0 m : Nat} (hz : X / 9 ^ j0 % 9 = 0) (hd : d < 9) (hj : j0 < m) (hX : X < 9 ^ m) : X + d * 9 ^ j0 < 9 ^ m := by
  obtain ⟨A, B, hB, rfl⟩ := dg_split hz
  obtain ⟨i, hi⟩ : ∃ i, m = j0 + (i + 1) := ⟨m - j0 - 1, by omega⟩
  subst hi
  rw [Nat.pow_add, p9s] at hX ⊢
  have h1 : 9 * A < 9 * 9 ^ i := by
    rcases Nat.lt_or_ge (9 * A) (9 * 9 ^ i) with q | q
    · exact q
    · exact absurd hX (Nat.not_lt.mpr (Nat.le_trans (Nat.mul_le_mul_left (9 ^ j0) q) (Nat.le_add_right _ _)))
  have h2 : 9 * A + d + 1 ≤ 9 * 9 ^ i := by omega
  have h3 := Nat.mul_le_mul_left (9 ^ j0) h2
  have e1 : 9 ^ j0 * (9 * A + d + 1) = 9 ^ j0 * (9 * A) + d * 9 ^ j0 + 9 ^ j0 := by
    rw [Nat.mul_add, Nat.mul_add, Nat.mul_one, Nat.mul_comm (9 ^ j0) d]
  omega
def dig (d pos : Nat → Nat) : Nat → Nat
  | 0 => 0
  | k + 1 => dig d pos k + d k * 9 ^ pos k
theorem dig_at {d pos : Nat → Nat} : ∀ k, (∀ a, a < k → d a < 9) → (∀ a b, a < k → b < k → pos a = pos b → a = b) → (∀ j, (∀ a, a < k → pos a ≠ j) → dig d pos k / 9 ^ j % 9 = 0) ∧ (∀ a, a < k → dig d pos k / 9 ^ pos a % 9 = d a)
  | 0, _, _ => ⟨fun j _ => by show 0 / 9 ^ j % 9 = 0; rw [Nat.zero_div], fun a ha => absurd ha (Nat.not_lt_zero _)⟩
  | k + 1, hd, hp => by
    obtain ⟨h1, h2⟩ := dig_at k (fun a ha => hd a (by omega)) (fun a b ha hb => hp a b (by omega) (by omega))
    have hz : dig d pos k / 9 ^ pos k % 9 = 0 := h1 (pos k) (fun a ha e => by have := hp a k (by omega) (by omega) e; omega)
    refine ⟨fun j hj => ?_, fun a ha => ?_⟩
    · show (dig d pos k + d k * 9 ^ pos k) / 9 ^ j % 9 = 0
      rw [dg_add hz (hd k (by omega)), if_neg (fun e => hj k (by omega) e.symm)]
      exact h1 j (fun a ha => hj a (by omega))
    · show (dig d pos k + d k * 9 ^ pos k) / 9 ^ pos a % 9 = d a
      rw [dg_add hz (hd k (by omega))]
      by_cases e : a = k
      · subst e; rw [if_pos rfl]
      · rw [if_neg (fun q => e (hp a k ha (by omega) q))]
        exact h2 a (by omega)
theorem dig_lt {d pos : Nat → Nat} {m : Nat} : ∀ k, (∀ a, a < k → d a < 9) → (∀ a b, a < k → b < k → pos a = pos b → a = b) → (∀ a, a < k → pos a < m) → dig d pos k < 9 ^ m
  | 0, _, _, _ => p9 m
  | k + 1, hd, hp, hm => by
    have h1 := dig_at (d := d) (pos := pos) k (fun a ha => hd a (by omega)) (fun a b ha hb => hp a b (by omega) (by omega))
    have hz : dig d pos k / 9 ^ pos k % 9 = 0 := h1.1 (pos k) (fun a ha e => by have := hp a k (by omega) (by omega) e; omega)
    exact dg_lt hz (hd k (by omega)) (hm k (by omega)) (dig_lt k (fun a ha => hd a (by omega)) (fun a b ha hb => hp a b (by omega) (by omega)) (fun a ha => hm a (by omega)))
/-- the digit of an assigned member: none 0, part 0 is 8, part 7 is 1 -/
def dgt (x : Option Nat) : Nat := match x with
  | none => 0
  | some p => 8 - p
/-- shares as the class makes them -/
def enc (w : Nat → Nat → Option Nat) (pos : Nat → Nat) : Nat → Nat → Option Nat := fun a p => (w a p).map (fun v => v * 43046721 + (8 - p) * 9 ^ pos a)
theorem wt_enc (w : Nat → Nat → Option Nat) (pos : Nat → Nat) (S : Nat → Bool) (f : Nat → Option Nat) (k : Nat) (h : okF w S k f) : wt (enc w pos) f k = wt w f k * 43046721 + dig (fun a => dgt (f a)) pos k := by
  induction k with
  | zero => simp only [wt, dig, Nat.zero_mul, Nat.add_zero]
  | succ k ih =>
    have ih := ih ⟨fun a ha => h.1 a (by omega), fun a b ha hb => h.2 a b (by omega) (by omega)⟩
    simp only [wt, dig]
    rw [ih]
    cases hf : f k with
    | none => simp only [wt1, dgt]; omega
    | some p =>
      obtain ⟨-, v, hv⟩ := h.1 k (by omega) p hf
      simp only [wt1, enc, hv, dgt, Option.map_some, Option.getD_some]
      rw [Nat.add_mul]
      omega
theorem enc_ok {w : Nat → Nat → Option Nat} {pos : Nat → Nat} {S : Nat → Bool} {k : Nat} {f : Nat → Option Nat} : okF (enc w pos) S k f ↔ okF w S k f := by
  constructor
  · intro h
    refine ⟨fun a ha p hp => ?_, h.2⟩
    obtain ⟨h1, v, h2⟩ := h.1 a ha p hp
    refine ⟨h1, ?_⟩
    cases hw : w a p with
    | none => simp [enc, hw] at h2
    | some u => exact ⟨u, rfl⟩
  · intro h
    refine ⟨fun a ha p hp => ?_, h.2⟩
    obtain ⟨h1, v, h2⟩ := h.1 a ha p hp
    exact ⟨h1, v * 43046721 + (8 - p) * 9 ^ pos a, by simp only [enc, h2, Option.map_some]⟩
