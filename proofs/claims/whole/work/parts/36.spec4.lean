/-! the reference's choice of parts, its gains, its costs -/
def pfI (o : Option Nat) : Int32 := match o with
  | none => -1
  | some q => nI q
def pfO (w : Nat → Option Nat) (g1 : Nat → Nat) (tgt z : Nat) : Nat → Nat → Option Nat
  | 0, _ => none
  | f + 1, q => if z / 2 ^ q % 2 = 0 ∧ (∃ v, w q = some v ∧ v + g1 (z ||| 2 ^ q) = tgt) then some q else pfO w g1 tgt z f (q + 1)
theorem pfO_lt {w : Nat → Option Nat} {g1 : Nat → Nat} {tgt z : Nat} : ∀ f q b, pfO w g1 tgt z f q = some b → b < q + f
  | 0, _, _, h => nomatch h
  | f + 1, q, b, h => by
    simp only [pfO] at h
    split at h
    · cases h; omega
    · have := pfO_lt f (q + 1) b h; omega
/-- the shares as the reference has them: without a part x, without an ask y -/
def wOf (td rn an : Nat) (rA rC : Nat → Nat) (ft : Nat → Int32) (kd aG sT wh dY pd cN : Nat → Nat) (sv : Nat → Int32) (od : Nat → Nat) (x y : Int32) : Nat → Nat → Option Nat := fun i q =>
  if nI (od i) = y then none else if ¬ nI q = x ∧ prsO td rn an rA rC ft kd aG sT wh dY pd cN sv q (od i) then some (cN (od i) - prM rA rC (aG q) rn) else none
theorem wOf_le {td rn an : Nat} {rA rC : Nat → Nat} {ft : Nat → Int32} {kd aG sT wh dY pd cN : Nat → Nat} {sv : Nat → Int32} {od : Nat → Nat} {x y : Int32} (h : ∀ j, cN j ≤ 1000000) : ∀ i q v, wOf td rn an rA rC ft kd aG sT wh dY pd cN sv od x y i q = some v → v ≤ 1000000 := fun i q v e => by
  simp only [wOf] at e
  split at e
  · cases e
  · split at e
    · cases e; have := h (od i); omega
    · cases e
theorem wOf_m1 {td rn an : Nat} {rA rC : Nat → Nat} {ft : Nat → Int32} {kd aG sT wh dY pd cN : Nat → Nat} {sv : Nat → Int32} {od : Nat → Nat} (ho : ∀ j, od j < 8) {i q : Nat} (hq : q < 8) : wOf td rn an rA rC ft kd aG sT wh dY pd cN sv od (-1) (-1) i q = if prsO td rn an rA rC ft kd aG sT wh dY pd cN sv q (od i) then some (cN (od i) - prM rA rC (aG q) rn) else none := by
  have m1 : ∀ j, j < 8 → ¬ nI j = -1 := by decide +kernel
  simp only [wOf]
  rw [if_neg (m1 _ (ho i))]
  by_cases h : prsO td rn an rA rC ft kd aG sT wh dY pd cN sv q (od i)
  · rw [if_pos ⟨m1 q hq, h⟩, if_pos h]
  · rw [if_neg (fun z => h z.2), if_neg h]
/-- the table behind k calls of greatest() -/
def brI (wf : Nat → Nat → Nat → Option Nat) (pn n : Nat) (br : Nat → Nat) : Nat → Nat → Nat
  | 0 => br
  | k + 1 => brF (wf k) pn n (brI wf pn n br k) n
/-- places base .. base + k - 1 hold F -/
def fillL (gn : Nat → Int64) (base : Nat) (F : Nat → Int64) (k : Nat) : Nat → Int64 := fun j => if base ≤ j ∧ j < base + k then F (j - base) else gn j
theorem fillL_0 (gn : Nat → Int64) (base : Nat) (F : Nat → Int64) : fillL gn base F 0 = gn := by
  funext j; simp only [fillL]; rw [if_neg (by omega)]
theorem fillL_s (gn : Nat → Int64) (base : Nat) (F : Nat → Int64) (k : Nat) : vp_updL (fillL gn base F k) (base + k) (F k) = fillL gn base F (k + 1) := by
  funext j
  simp only [vp_updL, fillL]
  by_cases h : j = base + k
  · subst h; rw [if_pos rfl, if_pos (by omega), Nat.add_sub_cancel_left]
  · rw [if_neg h]
    by_cases h2 : base ≤ j ∧ j < base + k
    · rw [if_pos h2, if_pos (by omega)]
    · rw [if_neg h2, if_neg (by omega)]
theorem fillL_s0 (gn : Nat → Int64) (F : Nat → Int64) (k : Nat) : vp_updL (fillL gn 0 F k) k (F k) = fillL gn 0 F (k + 1) := by
  have h := fillL_s gn 0 F k
  rw [Nat.zero_add] at h
  exact h
def fillM (gv : Nat → Int32) (k : Nat) : Nat → Int32 := fun j => if j < k then -1 else gv j
theorem fillM_0 (gv : Nat → Int32) : fillM gv 0 = gv := by funext j; simp [fillM]
theorem fillM_s (gv : Nat → Int32) (k : Nat) : upd (fillM gv k) k (-1) = fillM gv (k + 1) := by
  funext j
  simp only [upd, fillM]
  by_cases h : j = k
  · rw [if_pos h, if_pos (by omega)]
  · rw [if_neg h]
    by_cases h2 : j < k
    · rw [if_pos h2, if_pos (by omega)]
    · rw [if_neg h2, if_neg (by omega)]
/-- the part that the i-th ask in order gets when the parts of z are used -/
def pfW (w : Nat → Nat → Option Nat) (pn n i z : Nat) : Option Nat := pfO (w i) (gO w pn n (n - (i + 1))) (gO w pn n (n - i) z) z pn 0
def mtZ (w : Nat → Nat → Option Nat) (pn n : Nat) : Nat → Nat
  | 0 => 0
  | i + 1 => match pfW w pn n i (mtZ w pn n i) with
    | none => mtZ w pn n i ||| 0
    | some q => mtZ w pn n i ||| 2 ^ q
def mtN (w : Nat → Nat → Option Nat) (pn n : Nat) : Nat → Nat
  | 0 => 0
  | i + 1 => match pfW w pn n i (mtZ w pn n i) with
    | none => mtN w pn n i + 0
    | some _ => mtN w pn n i + 1
def mtG (w : Nat → Nat → Option Nat) (pn n : Nat) (od : Nat → Nat) (gv : Nat → Int32) : Nat → Nat → Int32
  | 0 => gv
  | i + 1 => upd (mtG w pn n od gv i) (od i) (pfI (pfW w pn n i (mtZ w pn n i)))
theorem pfW_lt {w : Nat → Nat → Option Nat} {pn n i z b : Nat} (h : pfW w pn n i z = some b) : b < pn := by
  have := pfO_lt _ _ _ h
  omega
theorem mtZ_lt (w : Nat → Nat → Option Nat) {pn : Nat} (hp : pn ≤ 8) (n : Nat) : ∀ i, mtZ w pn n i < 256
  | 0 => by show 0 < 256; decide
  | i + 1 => by
    have ih := mtZ_lt w hp n i
    simp only [mtZ]
    split
    · rw [Nat.or_zero]; exact ih
    · rename_i q h
      exact or_lt' _ ih q (by have := pfW_lt h; omega)
theorem mtN_le (w : Nat → Nat → Option Nat) (pn n : Nat) : ∀ i, mtN w pn n i ≤ i
  | 0 => Nat.le_refl 0
  | i + 1 => by
    have ih := mtN_le w pn n i
    simp only [mtN]
    split <;> omega
