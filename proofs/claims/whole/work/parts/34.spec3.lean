/-! what the reference's sorting and its greatest() do to their rows -/
def insP (mN od : Nat → Nat) (k : Nat) : Nat → Nat
  | 0 => 0
  | b + 1 => if mN k < mN (od b) then insP mN od k b else b + 1
def insS (od : Nat → Nat) (n b : Nat) : Nat → Nat := fun j => if b < j ∧ j ≤ n then od (j - 1) else od j
def insO (od : Nat → Nat) (n b k : Nat) : Nat → Nat := updN (insS od n b) b k
theorem insS_n (od : Nat → Nat) (n : Nat) : insS od n n = od := by
  funext j
  simp only [insS]
  rw [if_neg (by omega)]
theorem insS_lt (od : Nat → Nat) (n b j : Nat) (h : j ≤ b) : insS od n b j = od j := if_neg (by omega)
theorem insS_s (od : Nat → Nat) (n b : Nat) (h0 : 0 < b) (hn : b ≤ n) : updN (insS od n b) b (od (b - 1)) = insS od n (b - 1) := by
  funext j
  simp only [updN, insS]
  by_cases h : j = b
  · subst h
    rw [if_pos rfl, if_pos (by omega)]
  · rw [if_neg h]
    by_cases h2 : b < j ∧ j ≤ n
    · rw [if_pos h2, if_pos (by omega)]
    · rw [if_neg h2, if_neg (by omega)]
theorem insO_lt {od : Nat → Nat} {n b k B : Nat} (h : ∀ j, od j < B) (hk : k < B) : ∀ j, insO od n b k j < B := fun j => by
  simp only [insO, updN, insS]
  split
  · exact hk
  · split
    · exact h _
    · exact h _
def srN (sv : Nat → Int32) : Nat → Nat
  | 0 => 0
  | k + 1 => if sv k = 0 then srN sv k + 1 else srN sv k
def srO (sv : Nat → Int32) (mN od : Nat → Nat) : Nat → Nat → Nat
  | 0 => od
  | k + 1 => if sv k = 0 then insO (srO sv mN od k) (srN sv k) (insP mN (srO sv mN od k) k (srN sv k)) k else srO sv mN od k
theorem srN_le (sv : Nat → Int32) : ∀ k, srN sv k ≤ k
  | 0 => Nat.le_refl 0
  | k + 1 => by
    have := srN_le sv k
    show (if sv k = 0 then srN sv k + 1 else srN sv k) ≤ k + 1
    split <;> omega
theorem srO_lt {sv : Nat → Int32} {mN od : Nat → Nat} (h : ∀ j, od j < 8) : ∀ k, k ≤ 8 → ∀ j, srO sv mN od k j < 8
  | 0, _ => h
  | k + 1, hk => by
    have ih := srO_lt (sv := sv) (mN := mN) h k (by omega)
    intro j
    show (if sv k = 0 then insO (srO sv mN od k) (srN sv k) (insP mN (srO sv mN od k) k (srN sv k)) k else srO sv mN od k) j < 8
    split
    · exact insO_lt ih (by omega) j
    · exact ih j
/-- one ask's best, by the sets of parts that are used already -/
def rwG (w : Nat → Option Nat) (g : Nat → Nat) (z : Nat) : Nat → Nat
  | 0 => g z
  | q + 1 => match w q with
    | some v => if z / 2 ^ q % 2 = 0 then max (rwG w g z q) (v + g (z ||| 2 ^ q)) else rwG w g z q
    | none => rwG w g z q
/-- the greatest worth of the last r asks in order -/
def gO (w : Nat → Nat → Option Nat) (pn n : Nat) : Nat → Nat → Nat
  | 0, _ => 0
  | r + 1, z => rwG (w (n - 1 - r)) (gO w pn n r) z pn
theorem rwG_le {w : Nat → Option Nat} {g : Nat → Nat} {B C : Nat} (hg : ∀ z, g z ≤ B) (hw : ∀ q v, w q = some v → v ≤ C) (z : Nat) : ∀ q, rwG w g z q ≤ B + C
  | 0 => Nat.le_trans (hg z) (Nat.le_add_right _ _)
  | q + 1 => by
    have ih := rwG_le hg hw z q
    simp only [rwG]
    cases hq : w q with
    | none => exact ih
    | some v =>
      have h1 := hw q v hq
      have h2 := hg (z ||| 2 ^ q)
      show (if z / 2 ^ q % 2 = 0 then max (rwG w g z q) (v + g (z ||| 2 ^ q)) else rwG w g z q) ≤ B + C
      split
      · exact Nat.max_le.mpr ⟨ih, by omega⟩
      · exact ih
theorem gO_le {w : Nat → Nat → Option Nat} {pn n C : Nat} (hw : ∀ i q v, w i q = some v → v ≤ C) : ∀ r z, gO w pn n r z ≤ r * C
  | 0, _ => Nat.zero_le _
  | r + 1, z => by
    have h := rwG_le (w := w (n - 1 - r)) (g := gO w pn n r) (fun z => gO_le hw r z) (fun q v h => hw _ q v h) z pn
    show rwG (w (n - 1 - r)) (gO w pn n r) z pn ≤ (r + 1) * C
    rw [Nat.succ_mul]
    exact h
/-- the table: the rows from n down to n - r are done -/
def brF (w : Nat → Nat → Option Nat) (pn n : Nat) (br : Nat → Nat) (r : Nat) : Nat → Nat := fun j => if 256 * (n - r) ≤ j ∧ j < 256 * (n + 1) then gO w pn n (n - j / 256) (j % 256) else br j
def brP (w : Nat → Nat → Option Nat) (pn n : Nat) (br : Nat → Nat) (r t : Nat) : Nat → Nat := fun j => if 256 * (n - 1 - r) ≤ j ∧ j < 256 * (n - 1 - r) + t then gO w pn n (r + 1) (j - 256 * (n - 1 - r)) else brF w pn n br r j
def brZ (n : Nat) (br : Nat → Nat) (t : Nat) : Nat → Nat := fun j => if 256 * n ≤ j ∧ j < 256 * n + t then 0 else br j
theorem brZ_0 (n : Nat) (br : Nat → Nat) : brZ n br 0 = br := by
  funext j
  simp only [brZ]
  rw [if_neg (by omega)]
theorem brZ_s (n : Nat) (br : Nat → Nat) (t : Nat) : updN (brZ n br t) (256 * n + t) 0 = brZ n br (t + 1) := by
  funext j
  simp only [updN, brZ]
  by_cases h : j = 256 * n + t
  · rw [if_pos h, if_pos (by omega)]
  · rw [if_neg h]
    by_cases h2 : 256 * n ≤ j ∧ j < 256 * n + t
    · rw [if_pos h2, if_pos (by omega)]
    · rw [if_neg h2, if_neg (by omega)]
theorem brF_0 (w : Nat → Nat → Option Nat) (pn n : Nat) (br : Nat → Nat) : brZ n br 256 = brF w pn n br 0 := by
  funext j
  simp only [brZ, brF, Nat.sub_zero]
  by_cases h : 256 * n ≤ j ∧ j < 256 * n + 256
  · have e : n - j / 256 = 0 := by omega
    rw [if_pos h, if_pos (by omega), e]
    rfl
  · rw [if_neg h, if_neg (by omega)]
theorem brP_0 (w : Nat → Nat → Option Nat) (pn n : Nat) (br : Nat → Nat) (r : Nat) : brP w pn n br r 0 = brF w pn n br r := by
  funext j
  simp only [brP]
  rw [if_neg (by omega)]
theorem brP_s (w : Nat → Nat → Option Nat) (pn n : Nat) (br : Nat → Nat) (r t : Nat) : updN (brP w pn n br r t) (256 * (n - 1 - r) + t) (gO w pn n (r + 1) t) = brP w pn n br r (t + 1) := by
  funext j
  simp only [updN, brP]
  by_cases h : j = 256 * (n - 1 - r) + t
  · subst h
    rw [if_pos rfl, if_pos (by omega), Nat.add_sub_cancel_left]
  · rw [if_neg h]
    by_cases h2 : 256 * (n - 1 - r) ≤ j ∧ j < 256 * (n - 1 - r) + t
    · rw [if_pos h2, if_pos (by omega)]
    · rw [if_neg h2, if_neg (by omega)]
theorem brP_e (w : Nat → Nat → Option Nat) (pn n : Nat) (br : Nat → Nat) (r : Nat) (hr : r < n) : brP w pn n br r 256 = brF w pn n br (r + 1) := by
  funext j
  simp only [brP, brF]
  by_cases h : 256 * (n - 1 - r) ≤ j ∧ j < 256 * (n - 1 - r) + 256
  · have e1 : n - j / 256 = r + 1 := by omega
    have e2 : j % 256 = j - 256 * (n - 1 - r) := by omega
    rw [if_pos h, if_pos (by omega), e1, e2]
  · rw [if_neg h]
    by_cases h2 : 256 * (n - r) ≤ j ∧ j < 256 * (n + 1)
    · rw [if_pos h2, if_pos (by omega)]
    · rw [if_neg h2, if_neg (by omega)]
/-- reading the row above while a row is being done -/
theorem brP_up (w : Nat → Nat → Option Nat) (pn n : Nat) (br : Nat → Nat) (r t z : Nat) (hr : r < n) (hz : z < 256) (ht : t ≤ 256) : brP w pn n br r t (256 * (n - 1 - r + 1) + z) = gO w pn n r z := by
  simp only [brP, brF]
  have e1 : n - (256 * (n - 1 - r + 1) + z) / 256 = r := by omega
  have e2 : (256 * (n - 1 - r + 1) + z) % 256 = z := by omega
  rw [if_neg (by omega), if_pos (by omega), e1, e2]
theorem brF_at (w : Nat → Nat → Option Nat) (pn n : Nat) (br : Nat → Nat) (i z : Nat) (hi : i ≤ n) (hz : z < 256) : brF w pn n br n (256 * i + z) = gO w pn n (n - i) z := by
  simp only [brF]
  have e1 : n - (256 * i + z) / 256 = n - i := by omega
  have e2 : (256 * i + z) % 256 = z := by omega
  rw [if_pos (by omega), e1, e2]
theorem or_lt' : ∀ z, z < 256 → ∀ q, q < 8 → z ||| 2 ^ q < 256 := by decide +kernel
theorem nx_or (a b : Nat) : nI a ||| nI b = nI (a ||| b) := by
  apply Int32.toBitVec_inj.1
  show BitVec.ofNat 32 a ||| BitVec.ofNat 32 b = BitVec.ofNat 32 (a ||| b)
  apply BitVec.eq_of_getLsbD_eq
  intro i hi
  simp [hi]
theorem m1_leN {b : Nat} (h : b < 2 ^ 63) : (-1 : Int64) ≤ lN b := by
  rw [Int64.le_iff_toInt_le, pk_lT h]
  have : (-1 : Int64).toInt = -1 := by decide
  omega
