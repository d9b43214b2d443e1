/-! pure: worth and digits of the greatest number; rows and members changed -/
theorem dgt_lt (x : Option Nat) : dgt x < 9 := by
  cases x with
  | none => exact by decide
  | some p => show 8 - p < 9; omega
theorem dgt_inj {x y : Option Nat} (hx : ∀ p, x = some p → p < 8) (hy : ∀ p, y = some p → p < 8) (h : dgt x = dgt y) : x = y := by
  cases x with
  | none =>
    cases y with
    | none => rfl
    | some q => have := hy q rfl; simp only [dgt] at h; omega
  | some p =>
    have h1 := hx p rfl
    cases y with
    | none => simp only [dgt] at h; omega
    | some q => have := hy q rfl; simp only [dgt] at h; congr 1; omega
section PS
variable {w : Nat → Nat → Option Nat} {pos : Nat → Nat} {n M : Nat}
theorem enc_div {S : Nat → Bool} {f : Nat → Option Nat} (hp : ∀ a b, a < n → b < n → pos a = pos b → a = b) (h8 : ∀ a, a < n → pos a < 8) (h : okF w S n f) : wt (enc w pos) f n / 43046721 = wt w f n ∧ wt (enc w pos) f n % 43046721 = dig (fun a => dgt (f a)) pos n := by
  have h1 := wt_enc w pos S f n h
  have h2 : dig (fun a => dgt (f a)) pos n < 9 ^ 8 := dig_lt n (fun a _ => dgt_lt _) hp h8
  have h3 : (9 : Nat) ^ 8 = 43046721 := by decide
  rw [h3] at h2
  rw [h1]
  omega
theorem opt_enc (hp : ∀ a b, a < n → b < n → pos a = pos b → a = b) (h8 : ∀ a, a < n → pos a < 8) (S : Nat) : opt (enc w pos) M n S / 43046721 = opt w M n S := by
  obtain ⟨f, h1, h2, -⟩ := opt_ex (enc w pos) M n S
  obtain ⟨g, g1, g2, -⟩ := opt_ex w M n S
  have hf := enc_div hp h8 (enc_ok.mp h1)
  have hg := enc_div hp h8 g1
  have u1 := opt_ub w M n S f (enc_ok.mp h1)
  have u2 := opt_ub (enc w pos) M n S g (enc_ok.mpr g1)
  rw [h2] at hf
  omega
/-- the assignment whose number is greatest; it is the only one -/
theorem opt_uniq (hp : ∀ a b, a < n → b < n → pos a = pos b → a = b) (h8 : ∀ a, a < n → pos a < 8) (hM : M ≤ 8) {S : Nat} {f g : Nat → Option Nat} (hf : okF w (setB M S) n f) (hg : okF w (setB M S) n g) (e : wt (enc w pos) f n = wt (enc w pos) g n) : ∀ a, a < n → f a = g a := by
  intro a ha
  have h1 := (enc_div hp h8 hf).2
  have h2 := (enc_div hp h8 hg).2
  rw [e] at h1
  have h3 : dig (fun a => dgt (f a)) pos n = dig (fun a => dgt (g a)) pos n := h1.symm.trans h2
  have d1 := (dig_at (d := fun a => dgt (f a)) (pos := pos) n (fun a _ => dgt_lt _) hp).2 a ha
  have d2 := (dig_at (d := fun a => dgt (g a)) (pos := pos) n (fun a _ => dgt_lt _) hp).2 a ha
  rw [h3] at d1
  have hlt : ∀ {q : Nat → Option Nat}, okF w (setB M S) n q → ∀ p, q a = some p → p < 8 := fun hq p hqp => by
    have := (hq.1 a ha p hqp).1
    simp only [setB, Bool.and_eq_true, decide_eq_true_eq] at this
    omega
  exact dgt_inj (hlt hf) (hlt hg) (d1.symm.trans d2)
end PS
/-- the transposed shares -/
def trS (sh : Nat → Nat → Option Nat) : Nat → Nat → Option Nat := fun p a => sh a p
theorem wt_upd (sh : Nat → Nat → Option Nat) {f : Nat → Option Nat} {a p v : Nat} (hf : f a = none) (hv : sh a p = some v) : ∀ n, (a < n → wt sh (updO f a (some p)) n = wt sh f n + v) ∧ (n ≤ a → wt sh (updO f a (some p)) n = wt sh f n)
  | 0 => ⟨fun h => absurd h (Nat.not_lt_zero _), fun _ => rfl⟩
  | n + 1 => by
    obtain ⟨h1, h2⟩ := wt_upd sh hf hv n
    refine ⟨fun h => ?_, fun h => ?_⟩
    · show wt sh (updO f a (some p)) n + wt1 (sh n) (updO f a (some p) n) = wt sh f n + wt1 (sh n) (f n) + v
      by_cases e : n = a
      · subst e
        rw [h2 (Nat.le_refl _), hf]
        simp [updO, wt1, hv]
      · rw [h1 (by omega)]
        have : updO f a (some p) n = f n := if_neg e
        rw [this]
        omega
    · show wt sh (updO f a (some p)) n + wt1 (sh n) (updO f a (some p) n) = wt sh f n + wt1 (sh n) (f n)
      have : updO f a (some p) n = f n := if_neg (by omega)
      rw [h2 (by omega), this]
theorem tr_ex (sh : Nat → Nat → Option Nat) (T : Nat → Bool) (n : Nat) (hT : ∀ a, T a = true → a < n) (g : Nat → Option Nat) : ∀ m, okF (trS sh) T m g → ∃ f, okF sh (fun p => decide (p < m)) n f ∧ (∀ a p, f a = some p → T a = true ∧ p < m ∧ g p = some a) ∧ wt sh f n = wt (trS sh) g m
  | 0, _ => by
    refine ⟨fun _ => none, ⟨fun a ha p hp => (nomatch hp), fun a b ha hb p hp => (nomatch hp)⟩, fun a p hp => (nomatch hp), ?_⟩
    have h0 : ∀ k, wt sh (fun _ => none) k = 0 := fun k => by
      induction k with
      | zero => rfl
      | succ k ih => show wt sh (fun _ => none) k + 0 = 0; rw [ih]
    exact h0 n
  | m + 1, h => by
    obtain ⟨f, h1, h2, h3⟩ := tr_ex sh T n hT g m ⟨fun a ha => h.1 a (by omega), fun a b ha hb => h.2 a b (by omega) (by omega)⟩
    have mono : okF sh (fun p => decide (p < m + 1)) n f := ⟨fun a ha p hp => by
      obtain ⟨e1, e2⟩ := h1.1 a ha p hp
      simp only [decide_eq_true_eq] at e1 ⊢
      exact ⟨by omega, e2⟩, h1.2⟩
    cases hg : g m with
    | none =>
      refine ⟨f, mono, fun a p hp => ?_, ?_⟩
      · obtain ⟨a1, a2, a3⟩ := h2 a p hp
        exact ⟨a1, by omega, a3⟩
      · show wt sh f n = wt (trS sh) g m + wt1 (trS sh m) (g m)
        rw [hg, h3]
        rfl
    | some a0 =>
      obtain ⟨hTa, v, hv⟩ := h.1 m (by omega) a0 hg
      have ha0 := hT a0 hTa
      have hv' : sh a0 m = some v := hv
      have hfn : f a0 = none := by
        cases hfa : f a0 with
        | none => rfl
        | some p =>
          obtain ⟨-, b2, b3⟩ := h2 a0 p hfa
          have := h.2 p m (by omega) (by omega) a0 b3 hg
          omega
      have hother : ∀ b, b ≠ a0 → updO f a0 (some m) b = f b := fun b hb => if_neg hb
      have hself : updO f a0 (some m) a0 = some m := if_pos rfl
      refine ⟨updO f a0 (some m), ⟨fun a ha p hp => ?_, fun a b ha hb p hpa hpb => ?_⟩, fun a p hp => ?_, ?_⟩
      · by_cases e : a = a0
        · subst e
          rw [hself] at hp
          cases hp
          exact ⟨by simp, v, hv'⟩
        · rw [hother a e] at hp
          exact mono.1 a ha p hp
      · by_cases ea : a = a0 <;> by_cases eb : b = a0
        · omega
        · rw [ea, hself] at hpa
          cases hpa
          rw [hother b eb] at hpb
          have := (h2 b m hpb).2.1
          omega
        · rw [eb, hself] at hpb
          cases hpb
          rw [hother a ea] at hpa
          have := (h2 a m hpa).2.1
          omega
        · rw [hother a ea] at hpa
          rw [hother b eb] at hpb
          exact h1.2 a b ha hb p hpa hpb
      · by_cases e : a = a0
        · subst e
          rw [hself] at hp
          cases hp
          exact ⟨hTa, by omega, hg⟩
        · rw [hother a e] at hp
          obtain ⟨a1, a2, a3⟩ := h2 a p hp
          exact ⟨a1, by omega, a3⟩
      · rw [(wt_upd sh hfn hv' n).1 ha0, h3]
        show _ = wt (trS sh) g m + wt1 (trS sh m) (g m)
        rw [hg]
        simp [wt1, hv]
