/-! pure: the machine's rows of numbers are the greatest weights -/
def encI (x : Option Nat) : Int64 := match x with
  | none => -1
  | some v => lN v
theorem lN_ne {v : Nat} (h : v < 2 ^ 63) : ¬ lN v = -1 := fun e => by
  have h1 := congrArg Int64.toInt e
  rw [pk_lT h] at h1
  have h2 : (-1 : Int64).toInt = -1 := by decide
  rw [h2] at h1
  omega
theorem encI_n {x : Option Nat} (hb : ∀ v, x = some v → v < 2 ^ 63) : encI x = -1 ↔ x = none := by
  cases x with
  | none => exact ⟨fun _ => rfl, fun _ => rfl⟩
  | some v => exact ⟨fun h => absurd h (lN_ne (hb v rfl)), fun h => by cases h⟩
theorem mxL_N {a b : Nat} (ha : a < 2 ^ 63) (hb : b < 2 ^ 63) : mxL (lN a) (lN b) = lN (max a b) := by
  unfold mxL
  by_cases h : b < a
  · rw [if_pos ((pk_lLT hb ha).mpr h), Nat.max_eq_left (Nat.le_of_lt h)]
  · rw [if_neg (fun q => h ((pk_lLT hb ha).mp q)), Nat.max_eq_right (by omega)]
def rowMN (nb ov bt : Nat → Nat) (set : Nat) : Nat → Nat
  | 0 => nb set
  | i + 1 => if set &&& bt i = 0 then rowMN nb ov bt set i else max (rowMN nb ov bt set i) (nb (set ^^^ bt i) + ov i)
theorem rowMN_le {nb ov bt : Nat → Nat} {set B1 B2 S : Nat} (h0 : set < S) (h1 : ∀ j, j < S → nb j ≤ B1) : ∀ c, (∀ i, i < c → ov i ≤ B2) → (∀ i, i < c → set ^^^ bt i < S) → rowMN nb ov bt set c ≤ B1 + B2
  | 0, _, _ => Nat.le_trans (h1 set h0) (Nat.le_add_right _ _)
  | c + 1, h2, h3 => by
    have ih := rowMN_le h0 h1 c (fun i hi => h2 i (by omega)) (fun i hi => h3 i (by omega))
    show (if set &&& bt c = 0 then rowMN nb ov bt set c else max (rowMN nb ov bt set c) (nb (set ^^^ bt c) + ov c)) ≤ B1 + B2
    have a1 := h1 _ (h3 c (by omega))
    have a2 := h2 c (by omega)
    split
    · exact ih
    · exact Nat.max_le.mpr ⟨ih, by omega⟩
theorem rowMost_N {be os : Nat → Int64} {nb ov bt : Nat → Nat} {set B1 B2 S : Nat} (h0 : set < S) (h1 : ∀ j, j < S → nb j ≤ B1) (hb : ∀ j, j < S → be j = lN (nb j)) (hB : B1 + B2 < 2 ^ 63) : ∀ c, (∀ i, i < c → ov i ≤ B2) → (∀ i, i < c → set ^^^ bt i < S) → (∀ i, i < c → os i = lN (ov i)) → rowMost be os bt set c = lN (rowMN nb ov bt set c)
  | 0, _, _, _ => hb set h0
  | c + 1, h2, h3, h4 => by
    have ih := rowMost_N h0 h1 hb hB c (fun i hi => h2 i (by omega)) (fun i hi => h3 i (by omega)) (fun i hi => h4 i (by omega))
    have le := rowMN_le (B2 := B2) (ov := ov) h0 h1 c (fun i hi => h2 i (by omega)) (fun i hi => h3 i (by omega))
    have a1 := h1 _ (h3 c (by omega))
    have a2 := h2 c (by omega)
    show (if set &&& bt c = 0 then rowMost be os bt set c else mxL (rowMost be os bt set c) (be (set ^^^ bt c) + os c)) = lN (if set &&& bt c = 0 then rowMN nb ov bt set c else max (rowMN nb ov bt set c) (nb (set ^^^ bt c) + ov c))
    by_cases e : set &&& bt c = 0
    · rw [if_pos e, if_pos e, ih]
    · rw [if_neg e, if_neg e, ih, hb _ (h3 c (by omega)), h4 c (by omega), lN_add, mxL_N (by omega) (by omega)]
def cntR (r : Nat → Option Nat) : Nat → Nat
  | 0 => 0
  | p + 1 => match r p with | none => cntR r p | some _ => cntR r p + 1
def bitR (r : Nat → Option Nat) : Nat → Nat → Nat
  | 0 => fun _ => 1
  | p + 1 => match r p with | none => bitR r p | some _ => fun i => if i = cntR r p then 2 ^ p else bitR r p i
def valR (r : Nat → Option Nat) : Nat → Nat → Nat
  | 0 => fun _ => 0
  | p + 1 => match r p with | none => valR r p | some v => fun i => if i = cntR r p then v else valR r p i
theorem rowMN_congr {nb ov ov' bt bt' : Nat → Nat} {set : Nat} : ∀ c, (∀ i, i < c → ov i = ov' i ∧ bt i = bt' i) → rowMN nb ov bt set c = rowMN nb ov' bt' set c
  | 0, _ => rfl
  | c + 1, h => by
    show (if set &&& bt c = 0 then rowMN nb ov bt set c else max (rowMN nb ov bt set c) (nb (set ^^^ bt c) + ov c)) = (if set &&& bt' c = 0 then rowMN nb ov' bt' set c else max (rowMN nb ov' bt' set c) (nb (set ^^^ bt' c) + ov' c))
    rw [rowMN_congr c (fun i hi => h i (by omega)), (h c (by omega)).1, (h c (by omega)).2]
theorem and_pow (S p : Nat) : S &&& 2 ^ p = 0 ↔ ¬ S.testBit p = true := by
  constructor
  · intro h hb
    have h1 : (S &&& 2 ^ p).testBit p = true := by rw [Nat.testBit_and, hb, Nat.testBit_two_pow, decide_eq_true rfl]; rfl
    rw [h, Nat.zero_testBit] at h1
    cases h1
  · intro h
    apply Nat.eq_of_testBit_eq
    intro i
    rw [Nat.testBit_and, Nat.zero_testBit, Nat.testBit_two_pow]
    by_cases e : p = i
    · subst e
      simp [h]
    · simp [e]
theorem rowMN_opt (nb : Nat → Nat) (r : Nat → Option Nat) (set : Nat) : ∀ p, rowMN nb (valR r p) (bitR r p) set (cntR r p) = rowOpt nb r set p
  | 0 => rfl
  | p + 1 => by
    have ih := rowMN_opt nb r set p
    simp only [valR, bitR, cntR, rowOpt]
    cases hr : r p with
    | none => simp only [ih, ite_self]
    | some v =>
      have hc : rowMN nb (fun i => if i = cntR r p then v else valR r p i) (fun i => if i = cntR r p then 2 ^ p else bitR r p i) set (cntR r p) = rowOpt nb r set p := by
        rw [← ih]
        exact rowMN_congr _ (fun i hi => ⟨if_neg (by omega), if_neg (by omega)⟩)
      simp only [rowMN, if_true, hc]
      by_cases e : set.testBit p = true
      · rw [if_neg (fun q => (and_pow set p).mp q e), if_pos e]
      · rw [if_pos ((and_pow set p).mpr e), if_neg e]
theorem co_N (sh : Nat → Int64) (f st : Nat) (r : Nat → Option Nat) (hbd : ∀ p v, r p = some v → v < 2 ^ 63) (os : Nat → Int64) : ∀ M, (∀ p, p < M → sh (f + p * st) = encI (r p)) → coC sh f st M = cntR r M ∧ coT sh f st M = bitR r M ∧ ∀ i, i < cntR r M → coS sh f st os M i = lN (valR r M i)
  | 0, _ => ⟨rfl, rfl, fun i hi => absurd hi (Nat.not_lt_zero _)⟩
  | M + 1, h => by
    obtain ⟨h1, h2, h3⟩ := co_N sh f st r hbd os M (fun p hp => h p (by omega))
    have hm := h M (by omega)
    simp only [coC, coT, coS, cntR, bitR, valR]
    cases hr : r M with
    | none =>
      have e : sh (f + M * st) = -1 := by rw [hm, hr]; rfl
      simp only [e, if_true]
      exact ⟨h1, h2, h3⟩
    | some v =>
      have e1 : sh (f + M * st) = lN v := by rw [hm, hr]; rfl
      have e : ¬ sh (f + M * st) = -1 := by rw [e1]; exact lN_ne (hbd M v hr)
      simp only [if_neg e, h1, h2]
      refine ⟨trivial, trivial, fun i hi => ?_⟩
      by_cases ei : i = cntR r M
      · rw [if_pos ei, ei, pk_uLs, e1]
      · rw [if_neg ei, pk_uLn ei]
        exact h3 i (by omega)
