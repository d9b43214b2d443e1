/-! what the class's matching does to its rows of numbers, step by step, in the machine's own numbers -/
abbrev mxL (x y : Int64) : Int64 := if y < x then x else y
def rowMost (be os : Nat → Int64) (bt : Nat → Nat) (set : Nat) : Nat → Int64
  | 0 => be set
  | i + 1 => if set &&& bt i = 0 then rowMost be os bt set i else mxL (rowMost be os bt set i) (be (set ^^^ bt i) + os i)
/-- the sets above k have the new row already -/
def addRowF (be os : Nat → Int64) (bt : Nat → Nat) (c S k : Nat) : Nat → Int64 := fun j => if k < j ∧ j < S then rowMost be os bt j c else be j
def coC (sh : Nat → Int64) (f st : Nat) : Nat → Nat
  | 0 => 0
  | p + 1 => if sh (f + p * st) = -1 then coC sh f st p else coC sh f st p + 1
def coB (sh : Nat → Int64) (f st : Nat) (ob : Nat → Int32) : Nat → Nat → Int32
  | 0 => ob
  | p + 1 => if sh (f + p * st) = -1 then coB sh f st ob p else upd (coB sh f st ob p) (coC sh f st p) (nI (2 ^ p))
def coS (sh : Nat → Int64) (f st : Nat) (os : Nat → Int64) : Nat → Nat → Int64
  | 0 => os
  | p + 1 => if sh (f + p * st) = -1 then coS sh f st os p else vp_updL (coS sh f st os p) (coC sh f st p) (sh (f + p * st))
def coT (sh : Nat → Int64) (f st : Nat) : Nat → Nat → Nat
  | 0 => fun _ => 1
  | p + 1 => if sh (f + p * st) = -1 then coT sh f st p else fun i => if i = coC sh f st p then 2 ^ p else coT sh f st p i
theorem coC_le (sh : Nat → Int64) (f st : Nat) : ∀ p, coC sh f st p ≤ p
  | 0 => Nat.le_refl 0
  | p + 1 => by
    have := coC_le sh f st p
    show (if sh (f + p * st) = -1 then coC sh f st p else coC sh f st p + 1) ≤ p + 1
    split <;> omega
theorem coB_T (sh : Nat → Int64) (f st : Nat) (ob : Nat → Int32) : ∀ p i, i < coC sh f st p → coB sh f st ob p i = nI (coT sh f st p i) ∧ ∃ q, q < p ∧ coT sh f st p i = 2 ^ q
  | 0, i, h => absurd h (Nat.not_lt_zero _)
  | p + 1, i, h => by
    have ih := coB_T sh f st ob p i
    simp only [coC, coB, coT] at h ⊢
    by_cases e : sh (f + p * st) = -1
    · rw [if_pos e] at h ⊢
      rw [if_pos e]
      obtain ⟨h1, q, h2, h3⟩ := ih h
      exact ⟨h1, q, by omega, h3⟩
    · rw [if_neg e] at h ⊢
      rw [if_neg e]
      by_cases ei : i = coC sh f st p
      · subst ei
        rw [if_pos rfl]
        exact ⟨pk_us, p, by omega, rfl⟩
      · rw [if_neg ei, pk_un ei]
        obtain ⟨h1, q, h2, h3⟩ := ih (by omega)
        exact ⟨h1, q, by omega, h3⟩
/-- the sets below i hold 0 -/
def zeroF (be : Nat → Int64) (i : Nat) : Nat → Int64 := fun j => if j < i then lN 0 else be j
theorem zeroF_0 (be : Nat → Int64) : zeroF be 0 = be := by funext j; simp [zeroF]
theorem zeroF_s (be : Nat → Int64) (i : Nat) : vp_updL (zeroF be i) i (lN 0) = zeroF be (i + 1) := by
  funext j
  simp only [vp_updL, zeroF]
  by_cases h : j = i
  · subst h; simp
  · rw [if_neg h]
    by_cases h2 : j < i
    · rw [if_pos h2, if_pos (by omega)]
    · rw [if_neg h2, if_neg (by omega)]
theorem addRowF_s (be os : Nat → Int64) (bt : Nat → Nat) (c S k : Nat) (hk : 0 < k) (hS : k < S) : vp_updL (addRowF be os bt c S k) k (rowMost be os bt k c) = addRowF be os bt c S (k - 1) := by
  funext j
  simp only [vp_updL, addRowF]
  by_cases h : j = k
  · subst h; rw [if_pos rfl, if_pos (by omega)]
  · rw [if_neg h]
    by_cases h2 : k < j ∧ j < S
    · rw [if_pos h2, if_pos (by omega)]
    · rw [if_neg h2, if_neg (by omega)]
theorem addRowF_S (be os : Nat → Int64) (bt : Nat → Nat) (c S : Nat) : addRowF be os bt c S (S - 1) = be := by
  funext j
  simp only [addRowF]
  rw [if_neg (by omega)]
theorem addRowF_0 (be os : Nat → Int64) (bt : Nat → Nat) (S k : Nat) : addRowF be os bt 0 S k = be := by
  funext j
  simp only [addRowF, rowMost]
  split <;> rfl
theorem addRowF_le (be os : Nat → Int64) (bt : Nat → Nat) (c S k j : Nat) (h : j ≤ k) : addRowF be os bt c S k j = be j := by
  simp only [addRowF]
  rw [if_neg (by omega)]
/-- one ask's row of worths becomes shares -/
def shr1 (pl : Int64) (p : Nat) (x : Int64) : Int64 := if x = -1 then -1 else x * lN 43046721 + lN (8 - p) * pl
def turnRow (a pn : Nat) (pl : Int64) (sh : Nat → Int64) (i : Nat) : Nat → Int64 := fun j => if 8 * a ≤ j ∧ j < 8 * a + i then shr1 pl (j - 8 * a) (sh j) else sh j
def turnF (ar : Nat → Nat) (pn : Nat) : Nat → (Nat → Int64) → Int64 → Nat → Int64
  | 0, sh, _ => sh
  | k + 1, sh, pl => turnF ar pn k (turnRow (ar k) pn pl sh pn) (pl * lN 9)
/-- the parts that the asks get, read off the digits -/
def gvF (ar : Nat → Nat) : Nat → Nat → (Nat → Int32) → Nat → Int32
  | 0, _, gi => gi
  | k + 1, d, gi => gvF ar k (d / 9) (upd gi (ar k) (if d % 9 = 0 then -1 else nI (8 - d % 9)))
def gvN : Nat → Nat → Nat → Nat
  | 0, _, n => n
  | k + 1, d, n => gvN k (d / 9) (n + if d % 9 = 0 then 0 else 1)
def gnF (be pg : Nat → Int64) (tot : Int64) (M i : Nat) : Nat → Int64 := fun j => if j < i then tot - be ((2 ^ M - 1) ^^^ 2 ^ j) / lN 43046721 else pg j
