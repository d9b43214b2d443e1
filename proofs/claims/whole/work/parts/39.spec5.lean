/-! the reference's costs and plan -/
theorem pfI_neg {o : Option Nat} (hb : ∀ b, o = some b → b < 2 ^ 31) (h : pfI o < 0) : o = none := by
  cases o with
  | none => rfl
  | some b => exact absurd h (nI_pos (hb b rfl))
theorem pfI_pos {o : Option Nat} (h : ¬ pfI o < 0) : ∃ b, o = some b := by
  cases o with
  | none => exact absurd (by decide) h
  | some b => exact ⟨b, rfl⟩
def betB (pz : Nat → Nat) (q : Nat) (o : Option Nat) : Bool := match o with
  | none => true
  | some b => decide (pz q < pz b)
def selM (kd sT dY pz : Nat → Nat) (td k z : Nat) : Nat → Option Nat
  | 0 => none
  | q + 1 => if (kd q = k ∧ stOn (sT q) (dY q) td = 0 ∧ z / 2 ^ q % 2 = 0) ∧ betB pz q (selM kd sT dY pz td k z q) = true then some q else selM kd sT dY pz td k z q
theorem selM_lt {kd sT dY pz : Nat → Nat} {td k z : Nat} : ∀ q b, selM kd sT dY pz td k z q = some b → b < q
  | 0, _, h => nomatch h
  | q + 1, b, h => by
    simp only [selM] at h
    split at h
    · cases h; omega
    · have := selM_lt q b h; omega
def csT (sel : Nat → Option Nat) (pz : Nat → Nat) : Nat → Option (Nat × Nat)
  | 0 => some (0, 0)
  | n + 1 => match csT sel pz n with
    | none => none
    | some x => match sel x.2 with
      | none => none
      | some b => some (x.1 + pz b, x.2 ||| 2 ^ b)
theorem csT_none {sel : Nat → Option Nat} {pz : Nat → Nat} {n : Nat} (h : csT sel pz n = none) : ∀ d, csT sel pz (n + d) = none
  | 0 => h
  | d + 1 => by
    show csT sel pz (n + d + 1) = none
    simp only [csT, csT_none h d]
def cost1 (sel : Nat → Option Nat) (pz : Nat → Nat) (n : Nat) : Option Nat := match csT sel pz n with
  | none => none
  | some x => some x.1
def mnM (nd : Nat → Nat) (z k : Nat) : Nat → Nat
  | 0 => 0
  | j + 1 => mnM nd z k j + if z / 2 ^ j % 2 = 1 then nd (6 * j + k) else 0
theorem mnM_le {nd : Nat → Nat} {z k : Nat} (h : ∀ j, nd j ≤ 3) : ∀ j, mnM nd z k j ≤ 3 * j
  | 0 => Nat.le_refl 0
  | j + 1 => by
    have ih := mnM_le (z := z) (k := k) h j
    have := h (6 * j + k)
    show mnM nd z k j + (if z / 2 ^ j % 2 = 1 then nd (6 * j + k) else 0) ≤ 3 * (j + 1)
    split <;> omega
def cjM (C : Nat → Option Nat) : Nat → Option Nat
  | 0 => some 0
  | k + 1 => match cjM C k with
    | none => none
    | some c => match C k with
      | none => none
      | some o => some (c + o)
theorem cjM_none {C : Nat → Option Nat} {n : Nat} (h : cjM C n = none) : ∀ d, cjM C (n + d) = none
  | 0 => h
  | d + 1 => by
    show cjM C (n + d + 1) = none
    simp only [cjM, cjM_none h d]
/-- the best set of jobs and its cost, among the sets up to t -/
def plM (cj : Nat → Option Nat) : Nat → Nat × Nat
  | 0 => (0, 0)
  | t + 1 => match cj (t + 1) with
    | none => plM cj t
    | some c => if szM (plM cj t).1 6 < szM (t + 1) 6 ∨ (szM (t + 1) 6 = szM (plM cj t).1 6 ∧ c < (plM cj t).2) then (t + 1, c) else plM cj t
theorem plM_le (cj : Nat → Option Nat) : ∀ t, (plM cj t).1 ≤ t
  | 0 => Nat.le_refl 0
  | t + 1 => by
    have ih := plM_le cj t
    simp only [plM]
    split
    · omega
    · split
      · exact Nat.le_refl _
      · omega
theorem csT_b {sel : Nat → Option Nat} {pz : Nat → Nat} {B : Nat} (hp : ∀ b, pz b ≤ B) (hs : ∀ z b, sel z = some b → b < 8) : ∀ n x, csT sel pz n = some x → x.1 ≤ n * B ∧ x.2 < 256
  | 0, x, h => by cases h; exact ⟨Nat.zero_le _, by decide⟩
  | n + 1, x, h => by
    simp only [csT] at h
    cases hn : csT sel pz n with
    | none => rw [hn] at h; cases h
    | some y =>
      obtain ⟨h1, h2⟩ := csT_b hp hs n y hn
      rw [hn] at h
      cases hb : sel y.2 with
      | none => simp only [hb] at h; cases h
      | some b =>
        simp only [hb] at h
        cases h
        have := hp b
        refine ⟨?_, or_lt' _ h2 b (hs _ _ hb)⟩
        show y.1 + pz b ≤ (n + 1) * B
        rw [Nat.succ_mul]
        omega
theorem cjM_b {C : Nat → Option Nat} {B : Nat} (hC : ∀ k c, C k = some c → c ≤ B) : ∀ n c, cjM C n = some c → c ≤ n * B
  | 0, c, h => by cases h; exact Nat.zero_le _
  | n + 1, c, h => by
    simp only [cjM] at h
    cases hn : cjM C n with
    | none => rw [hn] at h; cases h
    | some d =>
      have h1 := cjM_b hC n d hn
      rw [hn] at h
      cases hb : C n with
      | none => simp only [hb] at h; cases h
      | some o =>
        simp only [hb] at h
        cases h
        have := hC n o hb
        rw [Nat.succ_mul]
        omega
theorem plM_b {cj : Nat → Option Nat} {B : Nat} (hc : ∀ z c, cj z = some c → c ≤ B) : ∀ t, (plM cj t).2 ≤ B
  | 0 => Nat.zero_le _
  | t + 1 => by
    have ih := plM_b hc t
    simp only [plM]
    split
    · exact ih
    · rename_i c h
      split
      · exact hc _ _ h
      · exact ih
