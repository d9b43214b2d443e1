/-! pure: assignments of rows to members, the greatest weight by sets of members -/
def okF (sh : Nat → Nat → Option Nat) (S : Nat → Bool) (k : Nat) (f : Nat → Option Nat) : Prop :=
  (∀ a, a < k → ∀ p, f a = some p → S p = true ∧ ∃ v, sh a p = some v) ∧ (∀ a b, a < k → b < k → ∀ p, f a = some p → f b = some p → a = b)
def wt1 (r : Nat → Option Nat) (x : Option Nat) : Nat := match x with
  | none => 0
  | some p => (r p).getD 0
def wt (sh : Nat → Nat → Option Nat) (f : Nat → Option Nat) : Nat → Nat
  | 0 => 0
  | k + 1 => wt sh f k + wt1 (sh k) (f k)
def rowOpt (g : Nat → Nat) (r : Nat → Option Nat) (S : Nat) : Nat → Nat
  | 0 => g S
  | p + 1 => if S.testBit p = true then (match r p with | some v => max (rowOpt g r S p) (g (S ^^^ 2 ^ p) + v) | none => rowOpt g r S p) else rowOpt g r S p
def opt (sh : Nat → Nat → Option Nat) (M : Nat) : Nat → Nat → Nat
  | 0, _ => 0
  | k + 1, S => rowOpt (opt sh M k) (sh k) S M
theorem rowOpt_step (g : Nat → Nat) (r : Nat → Option Nat) (S p : Nat) : rowOpt g r S p ≤ rowOpt g r S (p + 1) := by
  show _ ≤ (if S.testBit p = true then (match r p with | some v => max (rowOpt g r S p) (g (S ^^^ 2 ^ p) + v) | none => rowOpt g r S p) else rowOpt g r S p)
  split
  · split
    · exact Nat.le_max_left _ _
    · exact Nat.le_refl _
  · exact Nat.le_refl _
theorem rowOpt_base (g : Nat → Nat) (r : Nat → Option Nat) (S : Nat) : ∀ M, g S ≤ rowOpt g r S M
  | 0 => Nat.le_refl _
  | M + 1 => Nat.le_trans (rowOpt_base g r S M) (rowOpt_step g r S M)
theorem rowOpt_ge (g : Nat → Nat) (r : Nat → Option Nat) (S : Nat) {p v : Nat} (hb : S.testBit p = true) (hr : r p = some v) : ∀ M, p < M → g (S ^^^ 2 ^ p) + v ≤ rowOpt g r S M
  | 0, h => absurd h (Nat.not_lt_zero _)
  | M + 1, h => by
    by_cases e : p = M
    · subst e
      show _ ≤ (if S.testBit p = true then (match r p with | some v => max (rowOpt g r S p) (g (S ^^^ 2 ^ p) + v) | none => rowOpt g r S p) else rowOpt g r S p)
      rw [if_pos hb, hr]
      exact Nat.le_max_right _ _
    · exact Nat.le_trans (rowOpt_ge g r S hb hr M (by omega)) (rowOpt_step g r S M)
theorem rowOpt_or (g : Nat → Nat) (r : Nat → Option Nat) (S : Nat) : ∀ M, rowOpt g r S M = g S ∨ ∃ p v, p < M ∧ S.testBit p = true ∧ r p = some v ∧ rowOpt g r S M = g (S ^^^ 2 ^ p) + v
  | 0 => Or.inl rfl
  | M + 1 => by
    have key : rowOpt g r S (M + 1) = rowOpt g r S M ∨ ∃ v, S.testBit M = true ∧ r M = some v ∧ rowOpt g r S (M + 1) = g (S ^^^ 2 ^ M) + v := by
      show (if S.testBit M = true then (match r M with | some v => max (rowOpt g r S M) (g (S ^^^ 2 ^ M) + v) | none => rowOpt g r S M) else rowOpt g r S M) = _ ∨ ∃ v, S.testBit M = true ∧ r M = some v ∧ (if S.testBit M = true then (match r M with | some v => max (rowOpt g r S M) (g (S ^^^ 2 ^ M) + v) | none => rowOpt g r S M) else rowOpt g r S M) = _
      by_cases hb : S.testBit M = true
      · rw [if_pos hb]
        cases hr : r M with
        | none => exact Or.inl rfl
        | some v =>
          by_cases hm : rowOpt g r S M ≤ g (S ^^^ 2 ^ M) + v
          · exact Or.inr ⟨v, hb, rfl, Nat.max_eq_right hm⟩
          · exact Or.inl (Nat.max_eq_left (by omega))
      · rw [if_neg hb]
        exact Or.inl rfl
    rcases key with h | ⟨v, h1, h2, h3⟩
    · rcases rowOpt_or g r S M with q | ⟨p, v, q1, q2, q3, q4⟩
      · exact Or.inl (h.trans q)
      · exact Or.inr ⟨p, v, by omega, q2, q3, h.trans q4⟩
    · exact Or.inr ⟨M, v, by omega, h1, h2, h3⟩
theorem tb_xor (S p q : Nat) (h : q ≠ p) : (S ^^^ 2 ^ p).testBit q = S.testBit q := by
  rw [Nat.testBit_xor, Nat.testBit_two_pow, decide_eq_false (Ne.symm h), Bool.xor_false]
theorem tb_xorS (S p : Nat) : (S ^^^ 2 ^ p).testBit p = !S.testBit p := by
  rw [Nat.testBit_xor, Nat.testBit_two_pow, decide_eq_true rfl, Bool.xor_true]
def setB (M S : Nat) : Nat → Bool := fun p => decide (p < M) && S.testBit p
theorem opt_ub (sh : Nat → Nat → Option Nat) (M : Nat) : ∀ (k S : Nat) (f : Nat → Option Nat), okF sh (setB M S) k f → wt sh f k ≤ opt sh M k S
  | 0, _, _, _ => Nat.le_refl _
  | k + 1, S, f, h => by
    have hk : okF sh (setB M S) k f := ⟨fun a ha => h.1 a (by omega), fun a b ha hb => h.2 a b (by omega) (by omega)⟩
    show wt sh f k + wt1 (sh k) (f k) ≤ rowOpt (opt sh M k) (sh k) S M
    cases hf : f k with
    | none => exact Nat.le_trans (opt_ub sh M k S f hk) (rowOpt_base _ _ _ _)
    | some p =>
      obtain ⟨hs, v, hv⟩ := h.1 k (Nat.lt_succ_self k) p hf
      simp only [setB, Bool.and_eq_true, decide_eq_true_eq] at hs
      have h2 : okF sh (setB M (S ^^^ 2 ^ p)) k f := by
        refine ⟨fun a ha q hq => ?_, hk.2⟩
        obtain ⟨e1, e2⟩ := hk.1 a ha q hq
        have hne : q ≠ p := fun e => by
          subst e
          have := h.2 a k (by omega) (Nat.lt_succ_self k) q hq hf
          omega
        refine ⟨?_, e2⟩
        simp only [setB, Bool.and_eq_true, decide_eq_true_eq] at e1 ⊢
        exact ⟨e1.1, by rw [tb_xor _ _ _ hne]; exact e1.2⟩
      have h3 := opt_ub sh M k (S ^^^ 2 ^ p) f h2
      have h4 := rowOpt_ge (opt sh M k) (sh k) S hs.2 hv M hs.1
      have h5 : wt1 (sh k) (some p) = v := by simp [wt1, hv]
      rw [h5]
      omega
theorem wt_congr (sh : Nat → Nat → Option Nat) {f g : Nat → Option Nat} : ∀ k, (∀ a, a < k → f a = g a) → wt sh f k = wt sh g k
  | 0, _ => rfl
  | k + 1, h => by
    show wt sh f k + wt1 (sh k) (f k) = wt sh g k + wt1 (sh k) (g k)
    rw [wt_congr sh k (fun a ha => h a (by omega)), h k (by omega)]
def updO (f : Nat → Option Nat) (a : Nat) (x : Option Nat) : Nat → Option Nat := fun b => if b = a then x else f b
theorem updO_s (f : Nat → Option Nat) (a : Nat) (x : Option Nat) : updO f a x a = x := if_pos rfl
theorem updO_n (f : Nat → Option Nat) {a b : Nat} (x : Option Nat) (h : b ≠ a) : updO f a x b = f b := if_neg h
theorem opt_ex (sh : Nat → Nat → Option Nat) (M : Nat) : ∀ (k S : Nat), ∃ f, okF sh (setB M S) k f ∧ wt sh f k = opt sh M k S ∧ ∀ a, k ≤ a → f a = none
  | 0, _ => ⟨fun _ => none, ⟨fun a ha => absurd ha (Nat.not_lt_zero _), fun a _ ha => absurd ha (Nat.not_lt_zero _)⟩, rfl, fun _ _ => rfl⟩
  | k + 1, S => by
    rcases rowOpt_or (opt sh M k) (sh k) S M with h | ⟨p, v, hp, hb, hv, h⟩
    · obtain ⟨f, h1, h2, h3⟩ := opt_ex sh M k S
      have hn : f k = none := h3 k (Nat.le_refl k)
      refine ⟨f, ⟨fun a ha q hq => ?_, fun a b ha hb q hqa hqb => ?_⟩, ?_, fun a ha => h3 a (by omega)⟩
      · by_cases e : a = k
        · subst e; rw [hn] at hq; cases hq
        · exact h1.1 a (by omega) q hq
      · have ea : a ≠ k := fun e => by subst e; rw [hn] at hqa; cases hqa
        have eb : b ≠ k := fun e => by subst e; rw [hn] at hqb; cases hqb
        exact h1.2 a b (by omega) (by omega) q hqa hqb
      · show wt sh f k + wt1 (sh k) (f k) = rowOpt (opt sh M k) (sh k) S M
        rw [hn, h, h2]
        rfl
    · obtain ⟨f, h1, h2, h3⟩ := opt_ex sh M k (S ^^^ 2 ^ p)
      refine ⟨updO f k (some p), ⟨fun a ha q hq => ?_, fun a b ha hb2 q hqa hqb => ?_⟩, ?_, fun a ha => ?_⟩
      · by_cases e : a = k
        · subst e
          rw [updO_s] at hq
          cases hq
          refine ⟨?_, v, hv⟩
          simp only [setB, Bool.and_eq_true, decide_eq_true_eq]
          exact ⟨hp, hb⟩
        · rw [updO_n _ _ e] at hq
          obtain ⟨e1, e2⟩ := h1.1 a (by omega) q hq
          refine ⟨?_, e2⟩
          simp only [setB, Bool.and_eq_true, decide_eq_true_eq] at e1 ⊢
          have hne : q ≠ p := fun e3 => by
            subst e3
            rw [tb_xorS, hb] at e1
            exact absurd e1.2 (by decide)
          rw [tb_xor _ _ _ hne] at e1
          exact e1
      · have key : ∀ c, c < k → f c = some p → False := fun c hc hfc => by
          have e1 := (h1.1 c hc p hfc).1
          simp only [setB, Bool.and_eq_true, decide_eq_true_eq] at e1
          rw [tb_xorS, hb] at e1
          exact absurd e1.2 (by decide)
        by_cases ea : a = k <;> by_cases eb : b = k
        · omega
        · rw [ea, updO_s] at hqa
          rw [updO_n _ _ eb] at hqb
          cases hqa
          exact (key b (by omega) hqb).elim
        · rw [updO_n _ _ ea] at hqa
          rw [eb, updO_s] at hqb
          cases hqb
          exact (key a (by omega) hqa).elim
        · rw [updO_n _ _ ea] at hqa
          rw [updO_n _ _ eb] at hqb
          exact h1.2 a b (by omega) (by omega) q hqa hqb
      · show wt sh (updO f k (some p)) k + wt1 (sh k) (updO f k (some p) k) = rowOpt (opt sh M k) (sh k) S M
        rw [wt_congr sh (g := f) k (fun a ha => updO_n _ _ (by omega)), updO_s, h, h2]
        simp [wt1, hv]
      · rw [updO_n _ _ (show a ≠ k by omega)]
        exact h3 a (by omega)
