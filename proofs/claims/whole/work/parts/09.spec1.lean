/-! what the class's matching does to its rows of numbers, step by step, in the machine's own numbers -/
abbrev mxL (x y : Int64) : Int64 := if y < x then x else y
def rowMost (be os : Nat → Int64) (bt : Nat → Nat) (set : Nat) : Nat → Int64
  | 0 => be set
  | i + 1 => if set &&& bt i = 0 then rowMost be os bt set i else mxL (rowMost be os bt set i) (be (set ^^^ bt i) + os i)
/-- the sets above k have the new row already -/
def addRowF (be os : Nat → Int64) (bt : Nat → Nat) (c S k : Nat) : Nat → Int64 := fun j => if k < j ∧ j < S then rowMost be os bt j c else be j
def coC (sh : Nat → Int64) (f st : Nat) : Nat → Nat
  | 0 => 0
  | p + 1 => if sh (f + p * st) = -1 then coC sh f st p else coC sh f st p + 1
def coB (sh : Nat → Int64) (f st : Nat) (ob : Nat → Int32) : Nat → Nat → Int32
  | 0 => ob
  | p + 1 => if sh (f + p * st) = -1 then coB sh f st ob p else upd (coB sh f st ob p) (coC sh f st p) (nI (2 ^ p))
def coS (sh : Nat → Int64) (f st : Nat) (os : Nat → Int64) : Nat → Nat → Int64
  | 0 => os
  | p + 1 => if sh (f + p * st) = -1 then coS sh f st os p else vp_updL (coS sh f st os p) (coC sh f st p) (sh (f + p * st))
def coT (sh : Nat → Int64) (f st : Nat) : Nat → Nat → Nat
  | 0 => fun _ => 1
  | p + 1 => if sh (f + p * st) = -1 then coT sh f st p else fun i => if i = coC sh f st p then 2 ^ p else coT sh f st p i
theorem coC_le (sh : Nat → Int64) (f st : Nat) : ∀ p, coC sh f st p ≤ p
  | 0 => Nat.le_refl 0
  | p + 1 => by
    have := coC_le sh f st p
    show (if sh (f + p * st) = -1 then coC sh f st p else coC sh f st p + 1) ≤ p + 1
    split <;> omega
theorem coB_T (sh : Nat → Int64) (f st : Nat) (ob : Nat → Int32) : ∀ p i, i < coC sh f st p → coB sh f st ob p i = nI (coT sh f st p i) ∧ ∃ q, q < p ∧ coT sh f st p i = 2 ^ q
  | 0, i, h => absurd h (Nat.not_lt_zero _)
  | p + 1, i, h => by
    have ih := coB_T sh f st ob p i
    simp only [coC, coB, coT] at h ⊢
    by_cases e : sh (f + p * st) = -1
    · rw [if_pos e] at h ⊢
      rw [if_pos e]
      obtain ⟨h1, q, h2, h3⟩ := ih h
      exact ⟨h1, q, by omega, h3⟩
    · rw [if_neg e] at h ⊢
      rw [if_neg e]
      by_cases ei : i = coC sh f st p
      · subst ei
        rw [if_pos rfl]
        exact ⟨pk_us, p, by omega, rfl⟩
      · rw [if_neg ei, pk_un ei]
        obtain ⟨h1, q, h2, h3⟩ := ih (by omega)
        exact ⟨h1, q, by omega, h3⟩
/-- the sets below i hold 0 -/
def zeroF (be : Nat → Int64) (i : Nat) : Nat → Int64 := fun j => if j < i then lN 0 else be j
theorem zeroF_0 (be : Nat → Int64) : zeroF be 0 = be := by funext j; simp [zeroF]
theorem zeroF_s (be : Nat → Int64) (i : Nat) : vp_updL (zeroF be i) i (lN 0) = zeroF be (i + 1) := by
  funext j
  simp only [vp_updL, zeroF]
  by_cases h : j = i
  · subst h; simp
  · rw [if_neg h]
    by_cases h2 : j < i
    · rw [if_pos h2, if_pos (by omega)]
    · rw [if_neg h2, if_neg (by omega)]
theorem addRowF_s (be os : Nat → Int64) (bt : Nat → Nat) (c S k : Nat) (hk : 0 < k) (hS : k < S) : vp_updL (addRowF be os bt c S k) k (rowMost be os bt k c) = addRowF be os bt c S (k - 1) := by
  funext j
  simp only [vp_updL, addRowF]
  by_cases h : j = k
  · subst h; rw [if_pos rfl, if_pos (by omega)]
  · rw [if_neg h]
    by_cases h2 : k < j ∧ j < S
    · rw [if_pos h2, if_pos (by omega)]
    · rw [if_neg h2, if_neg (by omega)]
theorem addRowF_S (be os : Nat → Int64) (bt : Nat → Nat) (c S : Nat) : addRowF be os bt c S (S - 1) = be := by
  funext j
  simp only [addRowF]
  rw [if_neg (by omega)]
theorem addRowF_0 (be os : Nat → Int64) (bt : Nat → Nat) (S k : Nat) : addRowF be os bt 0 S k = be := by
  funext j
  simp only [addRowF, rowMost]
  split <;> rfl
theorem addRowF_le (be os : Nat → Int64) (bt : Nat → Nat) (c S k j : Nat) (h : j ≤ k) : addRowF be os bt c S k j = be j := by
  simp only [addRowF]
  rw [if_neg (by omega)]
/-- one ask's row of worths becomes shares: its first i places -/
def shr1 (pl : Int64) (i : Nat) (x : Int64) : Int64 := if x = -1 then -1 else x * lN 43046721 + lN (8 - i) * pl
def turnRow (a : Nat) (pl : Int64) (sh : Nat → Int64) (i : Nat) : Nat → Int64 := fun j => if a * 8 ≤ j ∧ j < a * 8 + i then shr1 pl (j - a * 8) (sh j) else sh j
def turnF (ar : Nat → Nat) (pn : Nat) : Nat → (Nat → Int64) → Int64 → Nat → Int64
  | 0, sh, _ => sh
  | k + 1, sh, pl => turnF ar pn k (turnRow (ar k) pl sh pn) (pl * lN 9)
theorem turnRow_0 (a : Nat) (pl : Int64) (sh : Nat → Int64) : turnRow a pl sh 0 = sh := by
  funext j
  simp only [turnRow]
  rw [if_neg (by omega)]
theorem turnRow_s (a : Nat) (pl : Int64) (sh : Nat → Int64) (i : Nat) : vp_updL (turnRow a pl sh i) (a * 8 + i) (shr1 pl i (sh (a * 8 + i))) = turnRow a pl sh (i + 1) := by
  funext j
  simp only [vp_updL, turnRow]
  by_cases h : j = a * 8 + i
  · subst h
    rw [if_pos rfl, if_pos (by omega), Nat.add_sub_cancel_left]
  · rw [if_neg h]
    by_cases h2 : a * 8 ≤ j ∧ j < a * 8 + i
    · rw [if_pos h2, if_pos (by omega)]
    · rw [if_neg h2, if_neg (by omega)]
theorem turnRow_at (a : Nat) (pl : Int64) (sh : Nat → Int64) (i : Nat) : turnRow a pl sh i (a * 8 + i) = sh (a * 8 + i) := by
  simp only [turnRow]
  rw [if_neg (by omega)]
theorem updL_same (f : Nat → Int64) (k : Nat) : vp_updL f k (f k) = f := by
  funext j
  simp only [vp_updL]
  split
  · rename_i h; rw [h]
  · rfl
theorem turnRow_t {a : Nat} {pl : Int64} {sh : Nat → Int64} {i : Nat} (h : sh (a * 8 + i) = -1) : turnRow a pl sh i = turnRow a pl sh (i + 1) := by
  rw [← turnRow_s, show shr1 pl i (sh (a * 8 + i)) = turnRow a pl sh i (a * 8 + i) from by rw [turnRow_at, h]; exact if_pos rfl, updL_same]
theorem turnRow_f {a : Nat} {pl : Int64} {sh : Nat → Int64} {i : Nat} (h : ¬ sh (a * 8 + i) = -1) : vp_updL (turnRow a pl sh i) (a * 8 + i) (sh (a * 8 + i) * lN 43046721 + lN (8 - i) * pl) = turnRow a pl sh (i + 1) := by
  rw [← turnRow_s, show shr1 pl i (sh (a * 8 + i)) = _ from if_neg h]
/-- the parts that the asks get, read off the digits -/
def gvF (ar : Nat → Nat) : Nat → Nat → (Nat → Int32) → Nat → Int32
  | 0, _, gi => gi
  | k + 1, d, gi => gvF ar k (d / 9) (upd gi (ar k) (if d % 9 = 0 then -1 else nI (8 - d % 9)))
def gvN : Nat → Nat → Nat → Nat
  | 0, _, n => n
  | k + 1, d, n => gvN k (d / 9) (if d % 9 = 0 then n + 0 else n + 1)
def gnF (be pg : Nat → Int64) (tot : Int64) (S i : Nat) : Nat → Int64 := fun j => if j < i then tot - be ((S - 1) ^^^ 2 ^ j) / lN 43046721 else pg j
theorem gnF_0 (be pg : Nat → Int64) (tot : Int64) (S : Nat) : gnF be pg tot S 0 = pg := by
  funext j
  simp [gnF]
theorem gnF_s (be pg : Nat → Int64) (tot : Int64) (S i : Nat) : vp_updL (gnF be pg tot S i) i (tot - be ((S - 1) ^^^ 2 ^ i) / lN 43046721) = gnF be pg tot S (i + 1) := by
  funext j
  simp only [vp_updL, gnF]
  by_cases h : j = i
  · subst h
    rw [if_pos rfl, if_pos (by omega)]
  · rw [if_neg h]
    by_cases h2 : j < i
    · rw [if_pos h2, if_pos (by omega)]
    · rw [if_neg h2, if_neg (by omega)]
/-- all rows of shares weighed -/
def wsOb (sh : Nat → Int64) (rs st M : Nat) (ob : Nat → Int32) : Nat → Nat → Int32
  | 0 => ob
  | r + 1 => coB sh (r * rs) st (wsOb sh rs st M ob r) M
def wsOs (sh : Nat → Int64) (rs st M : Nat) (os : Nat → Int64) : Nat → Nat → Int64
  | 0 => os
  | r + 1 => coS sh (r * rs) st (wsOs sh rs st M os r) M
def wsOc (sh : Nat → Int64) (rs st M oc : Nat) : Nat → Nat
  | 0 => oc
  | r + 1 => coC sh (r * rs) st M
def wsB (sh : Nat → Int64) (rs st M S : Nat) (be os : Nat → Int64) : Nat → Nat → Int64
  | 0 => zeroF be S
  | r + 1 => addRowF (wsB sh rs st M S be os r) (wsOs sh rs st M os (r + 1)) (coT sh (r * rs) st M) (coC sh (r * rs) st M) S 0
theorem wsB_skip {sh : Nat → Int64} {rs st M S : Nat} {be os : Nat → Int64} {r : Nat} (h : coC sh (r * rs) st M = 0) : wsB sh rs st M S be os r = wsB sh rs st M S be os (r + 1) := by
  show _ = addRowF _ _ _ _ _ _
  rw [h, addRowF_0]
/-- a number that is a place of n -/
abbrev inR (x : Int32) (n : Nat) : Prop := 0 ≤ x.toInt ∧ x.toInt < n
theorem in_of {x : Int32} {n : Nat} (hn : n < 2 ^ 31) (h0 : ¬ x < 0) (h1 : ¬ nI n ≤ x) : ∃ j : Nat, j < n ∧ x = nI j := by
  rcases pk_ix x hn with h | h | h
  · exact absurd h h0
  · exact absurd h h1
  · exact h
theorem inR_nI {j n : Nat} (hj : j < 2 ^ 31) : inR (nI j) n ↔ j < n := by
  unfold inR
  rw [nI_toInt hj]
  omega
theorem inR_lt {x : Int32} {n : Nat} (h : x < 0) : ¬ inR x n := fun q => by
  have h1 := Int32.lt_iff_toInt_lt.mp h
  have h2 : (0 : Int32).toInt = 0 := by decide
  rw [h2] at h1
  unfold inR at q
  omega
theorem inR_ge {x : Int32} {n : Nat} (hn : n < 2 ^ 31) (h : nI n ≤ x) : ¬ inR x n := fun q => by
  have h1 := Int32.le_iff_toInt_le.mp h
  rw [nI_toInt hn] at h1
  unfold inR at q
  omega
/-- f at x if x is a place of n, else d -/
def atR (f : Nat → Int32) (d x : Int32) (n : Nat) : Int32 := if 0 ≤ x.toInt ∧ x.toInt < n then f x.toNatClampNeg else d
theorem atR_no {f : Nat → Int32} {d x : Int32} {n : Nat} (h : ¬ inR x n) : atR f d x n = d := if_neg h
theorem atR_nI {f : Nat → Int32} {d : Int32} {j n : Nat} (h : j < n) (hn : n < 2 ^ 31) : atR f d (nI j) n = f j := by
  have h1 : inR (nI j) n := (inR_nI (by omega)).mpr h
  have h2 : atR f d (nI j) n = f (nI j).toNatClampNeg := if_pos h1
  rw [h2, nI_clamp (by omega)]
def atL (f : Nat → Int64) (d : Int64) (x : Int32) (n : Nat) : Int64 := if 0 ≤ x.toInt ∧ x.toInt < n then f x.toNatClampNeg else d
theorem atL_no {f : Nat → Int64} {d : Int64} {x : Int32} {n : Nat} (h : ¬ inR x n) : atL f d x n = d := if_neg h
theorem atL_nI {f : Nat → Int64} {d : Int64} {j n : Nat} (h : j < n) (hn : n < 2 ^ 31) : atL f d (nI j) n = f j := by
  have h1 : inR (nI j) n := (inR_nI (by omega)).mpr h
  have h2 : atL f d (nI j) n = f (nI j).toNatClampNeg := if_pos h1
  rw [h2, nI_clamp (by omega)]
theorem rk_neg {k : Nat} (hk : k < 2 ^ 30) : nI k - nI 1 < 0 ↔ k = 0 := by
  constructor
  · intro h
    rcases Nat.eq_zero_or_pos k with q | q
    · exact q
    · rw [pk_sub q] at h
      exact absurd h (nI_pos (by omega))
  · intro h
    subst h
    decide
