/-! pure: orders, ranks, places of digits; rows taken in another order -/
theorem pigeon : ∀ (n : Nat) (f : Nat → Nat), (∀ a, a < n → f a < n) → (∀ a b, a < n → b < n → f a = f b → a = b) → ∀ r, r < n → ∃ a, a < n ∧ f a = r
  | 0, _, _, _, r, hr => absurd hr (Nat.not_lt_zero r)
  | n + 1, f, h1, h2, r, hr => by
    have ih := pigeon n (fun a => if f a = n then f n else f a) (fun a ha => by
      show (if f a = n then f n else f a) < n
      have q1 := h1 a (by omega)
      have q2 := h1 n (by omega)
      split
      · rename_i e
        have : f n ≠ n := fun e2 => by have := h2 a n (by omega) (by omega) (by rw [e, e2]); omega
        omega
      · omega) (fun a b ha hb e => by
      have e : (if f a = n then f n else f a) = (if f b = n then f n else f b) := e
      by_cases ea : f a = n <;> by_cases eb : f b = n
      · exact h2 a b (by omega) (by omega) (by rw [ea, eb])
      · rw [if_pos ea, if_neg eb] at e
        have := h2 n b (by omega) (by omega) e; omega
      · rw [if_neg ea, if_pos eb] at e
        have := h2 a n (by omega) (by omega) e; omega
      · rw [if_neg ea, if_neg eb] at e
        exact h2 a b (by omega) (by omega) e)
    by_cases ern : r = f n
    · exact ⟨n, by omega, ern.symm⟩
    · have q2 := h1 n (by omega)
      by_cases e : r = n
      · obtain ⟨a, ha, hf⟩ := ih (f n) (by omega)
        have hf : (if f a = n then f n else f a) = f n := hf
        by_cases ea : f a = n
        · exact ⟨a, by omega, by rw [ea, e]⟩
        · rw [if_neg ea] at hf
          have := h2 a n (by omega) (by omega) hf; omega
      · obtain ⟨a, ha, hf⟩ := ih r (by omega)
        have hf : (if f a = n then f n else f a) = r := hf
        by_cases ea : f a = n
        · rw [if_pos ea] at hf; exact absurd hf.symm ern
        · rw [if_neg ea] at hf; exact ⟨a, by omega, hf⟩
/-- stands before -/
abbrev bef (nu mi : Nat → Nat) (a b : Nat) : Prop := mi a < mi b ∨ (mi a = mi b ∧ nu a < nu b)
theorem rk_mono {nu mi : Nat → Nat} {a b : Nat} (h : bef nu mi a b) : ∀ n, rkC nu mi a n ≤ rkC nu mi b n ∧ (a < n → rkC nu mi a n < rkC nu mi b n)
  | 0 => ⟨Nat.le_refl 0, fun h => absurd h (Nat.not_lt_zero a)⟩
  | n + 1 => by
    obtain ⟨h1, h2⟩ := rk_mono h n
    simp only [rkC]
    by_cases c : mi n < mi a ∨ (mi n = mi a ∧ nu n < nu a)
    · have c2 : mi n < mi b ∨ (mi n = mi b ∧ nu n < nu b) := by unfold bef at h; omega
      rw [if_pos c, if_pos c2]
      refine ⟨by omega, fun q => ?_⟩
      have : a ≠ n := fun e => by subst e; omega
      have := h2 (by omega)
      omega
    · rw [if_neg c]
      by_cases e : a = n
      · subst e
        have c2 : mi a < mi b ∨ (mi a = mi b ∧ nu a < nu b) := h
        rw [if_pos c2]
        exact ⟨by omega, fun _ => by omega⟩
      · split
        · exact ⟨by omega, fun q => by omega⟩
        · exact ⟨h1, fun q => h2 (by omega)⟩
section RK
variable {nu mi : Nat → Nat} {n : Nat}
theorem rk_inj (hnu : ∀ a, a < n → nu a = a) {a b : Nat} (ha : a < n) (hb : b < n) (e : rkC nu mi a n = rkC nu mi b n) : a = b := by
  rcases Nat.lt_trichotomy (mi a) (mi b) with q | q | q
  · have := (rk_mono (nu := nu) (a := a) (b := b) (Or.inl q) n).2 ha; omega
  · rcases Nat.lt_trichotomy a b with r | r | r
    · have := (rk_mono (nu := nu) (a := a) (b := b) (Or.inr ⟨q, by rw [hnu a ha, hnu b hb]; exact r⟩) n).2 ha; omega
    · exact r
    · have := (rk_mono (nu := nu) (a := b) (b := a) (Or.inr ⟨q.symm, by rw [hnu a ha, hnu b hb]; exact r⟩) n).2 hb; omega
  · have := (rk_mono (nu := nu) (a := b) (b := a) (Or.inl q) n).2 hb; omega
theorem rk_lt {a : Nat} (ha : a < n) : rkC nu mi a n < n := by
  have key : ∀ m, rkC nu mi a m ≤ m ∧ (a < m → rkC nu mi a m < m) := fun m => by
    induction m with
    | zero => exact ⟨Nat.le_refl 0, fun h => absurd h (Nat.not_lt_zero a)⟩
    | succ m ih =>
      simp only [rkC]
      by_cases e : a = m
      · subst e
        rw [if_neg (by omega)]
        exact ⟨by omega, fun _ => by omega⟩
      · split
        · exact ⟨by omega, fun q => by have := ih.2 (by omega); omega⟩
        · exact ⟨by omega, fun q => by omega⟩
  exact (key n).2 ha
/-- the asks by their ranks -/
theorem rk_inv (hnu : ∀ a, a < n → nu a = a) : ∃ g : Nat → Nat, ∀ r, r < n → g r < n ∧ rkC nu mi (g r) n = r := by
  have h := pigeon n (fun a => rkC nu mi a n) (fun a ha => rk_lt ha) (fun a b ha hb e => rk_inj hnu ha hb e)
  refine ⟨fun r => if q : r < n then Classical.choose (h r q) else 0, fun r hr => ?_⟩
  have e : (fun r => if q : r < n then Classical.choose (h r q) else 0) r = Classical.choose (h r hr) := dif_pos hr
  rw [e]
  exact Classical.choose_spec (h r hr)
end RK
theorem arF_at {rk : Nat → Nat} {ar : Nat → Int32} : ∀ n, (∀ a b, a < n → b < n → rk a = rk b → a = b) → ∀ a, a < n → arF rk ar n (rk a) = nI a
  | 0, _, a, ha => absurd ha (Nat.not_lt_zero a)
  | n + 1, h, a, ha => by
    simp only [arF]
    by_cases e : a = n
    · rw [e, pk_us]
    · rw [pk_un (fun q => e (h a n ha (by omega) q))]
      exact arF_at n (fun a b ha hb => h a b (by omega) (by omega)) a (by omega)
/-! numbers by their digits -/
theorem ext9 : ∀ (n A B : Nat), A < n → (∀ j, A / 9 ^ j % 9 = B / 9 ^ j % 9) → B < n → A = B
  | 0, A, _, h, _, _ => absurd h (Nat.not_lt_zero A)
  | n + 1, A, B, hA, h, hB => by
    have h0 := h 0
    rw [Nat.pow_zero, Nat.div_one, Nat.div_one] at h0
    by_cases z : A = 0 ∧ B = 0
    · omega
    · have ih := ext9 n (A / 9) (B / 9)
      by_cases za : A / 9 < n ∧ B / 9 < n
      · have := ih za.1 (fun j => by
          have := h (j + 1)
          rw [p9s, ← Nat.div_div_eq_div_mul, ← Nat.div_div_eq_div_mul] at this
          exact this) za.2
        omega
      · omega
theorem dig_lex {d d' pos : Nat → Nat} {n a0 : Nat} (hd : ∀ a, d a < 9) (hd' : ∀ a, d' a < 9) (hp : ∀ a b, a < n → b < n → pos a = pos b → a = b) (h0 : a0 < n) (hlt : d a0 < d' a0) (he : ∀ a, a < n → pos a0 < pos a → d a = d' a) : dig d pos n < dig d' pos n := by
  obtain ⟨x1, x2⟩ := dig_at (d := d) (pos := pos) n (fun a _ => hd a) hp
  obtain ⟨y1, y2⟩ := dig_at (d := d') (pos := pos) n (fun a _ => hd' a) hp
  generalize dig d pos n = X at *
  generalize dig d' pos n = Y at *
  have hi : X / 9 ^ (pos a0 + 1) = Y / 9 ^ (pos a0 + 1) := by
    refine ext9 (X / 9 ^ (pos a0 + 1) + Y / 9 ^ (pos a0 + 1) + 1) _ _ (Nat.lt_succ_of_le (Nat.le_add_right _ _)) (fun j => ?_) (Nat.lt_succ_of_le (Nat.le_add_left _ _))
    rw [Nat.div_div_eq_div_mul, Nat.div_div_eq_div_mul, ← Nat.pow_add]
    by_cases c : ∃ a, a < n ∧ pos a = pos a0 + 1 + j
    · obtain ⟨a, ha, e⟩ := c
      rw [← e, x2 a ha, y2 a ha]
      exact he a ha (by omega)
    · rw [x1 _ (fun a ha e => c ⟨a, ha, e⟩), y1 _ (fun a ha e => c ⟨a, ha, e⟩)]
  have l0 := x2 a0 h0
  have l1 := y2 a0 h0
  rw [Nat.pow_succ, ← Nat.div_div_eq_div_mul, ← Nat.div_div_eq_div_mul] at hi
  have lt : X / 9 ^ pos a0 < Y / 9 ^ pos a0 := by omega
  rcases Nat.lt_or_ge X Y with q | q
  · exact q
  · exact absurd (Nat.div_le_div_right q) (Nat.not_le.mpr lt)
/-! rows taken in another order -/
def reX (s : Nat → Nat) (f : Nat → Option Nat) : Nat → Nat → Option Nat
  | 0 => fun _ => none
  | k + 1 => updO (reX s f k) (s k) (f k)
theorem reX_at {s : Nat → Nat} {f : Nat → Option Nat} : ∀ n, (∀ a b, a < n → b < n → s a = s b → a = b) → (∀ k, k < n → reX s f n (s k) = f k) ∧ (∀ a, (∀ k, k < n → s k ≠ a) → reX s f n a = none)
  | 0, _ => ⟨fun k h => absurd h (Nat.not_lt_zero k), fun _ _ => rfl⟩
  | n + 1, h => by
    obtain ⟨h1, h2⟩ := reX_at (s := s) (f := f) n (fun a b ha hb => h a b (by omega) (by omega))
    refine ⟨fun k hk => ?_, fun a ha => ?_⟩
    · show updO (reX s f n) (s n) (f n) (s k) = f k
      by_cases e : k = n
      · rw [e, updO_s]
      · rw [updO_n _ _ (fun q => e (h k n hk (by omega) q))]
        exact h1 k (by omega)
    · show updO (reX s f n) (s n) (f n) a = none
      rw [updO_n _ _ (fun q => ha n (by omega) q.symm)]
      exact h2 a (fun k hk => ha k (by omega))
theorem wt_none (sh : Nat → Nat → Option Nat) : ∀ k, wt sh (fun _ => none) k = 0
  | 0 => rfl
  | k + 1 => by show wt sh (fun _ => none) k + 0 = 0; rw [wt_none sh k]
theorem wt_upd1 (sh : Nat → Nat → Option Nat) {f : Nat → Option Nat} {a : Nat} {x : Option Nat} (hf : f a = none) : ∀ n, (a < n → wt sh (updO f a x) n = wt sh f n + wt1 (sh a) x) ∧ (n ≤ a → wt sh (updO f a x) n = wt sh f n)
  | 0 => ⟨fun h => absurd h (Nat.not_lt_zero _), fun _ => rfl⟩
  | n + 1 => by
    obtain ⟨h1, h2⟩ := wt_upd1 sh (x := x) hf n
    refine ⟨fun h => ?_, fun h => ?_⟩
    · show wt sh (updO f a x) n + wt1 (sh n) (updO f a x n) = wt sh f n + wt1 (sh n) (f n) + wt1 (sh a) x
      by_cases e : n = a
      · subst e
        rw [h2 (Nat.le_refl _), hf, updO_s]
        simp [wt1]
      · rw [h1 (by omega), updO_n _ _ e]
        omega
    · show wt sh (updO f a x) n + wt1 (sh n) (updO f a x n) = wt sh f n + wt1 (sh n) (f n)
      rw [h2 (by omega), updO_n _ _ (by omega)]
theorem reX_wt (sh : Nat → Nat → Option Nat) {s : Nat → Nat} {f : Nat → Option Nat} {N : Nat} : ∀ n, (∀ a b, a < n → b < n → s a = s b → a = b) → (∀ k, k < n → s k < N) → wt sh (reX s f n) N = wt (fun k => sh (s k)) f n
  | 0, _, _ => wt_none sh N
  | n + 1, h, hN => by
    have ih := reX_wt sh (f := f) n (fun a b ha hb => h a b (by omega) (by omega)) (fun k hk => hN k (by omega))
    have hn : reX s f n (s n) = none := (reX_at n (fun a b ha hb => h a b (by omega) (by omega))).2 _ (fun k hk e => by have := h k n (by omega) (by omega) e; omega)
    show wt sh (updO (reX s f n) (s n) (f n)) N = wt (fun k => sh (s k)) f n + wt1 (sh (s n)) (f n)
    rw [(wt_upd1 sh hn N).1 (hN n (by omega)), ih]
theorem reX_ok {sh : Nat → Nat → Option Nat} {S : Nat → Bool} {s : Nat → Nat} {f : Nat → Option Nat} {n N : Nat} (h : ∀ a b, a < n → b < n → s a = s b → a = b) (hf : okF (fun k => sh (s k)) S n f) : okF sh S N (reX s f n) := by
  obtain ⟨h1, h2⟩ := reX_at (f := f) n h
  have im : ∀ a p, reX s f n a = some p → ∃ k, k < n ∧ s k = a ∧ f k = some p := fun a p e => by
    by_cases c : ∃ k, k < n ∧ s k = a
    · obtain ⟨k, hk, e2⟩ := c
      exact ⟨k, hk, e2, by rw [← h1 k hk, e2]; exact e⟩
    · rw [h2 a (fun k hk e2 => c ⟨k, hk, e2⟩)] at e
      cases e
  refine ⟨fun a _ p e => ?_, fun a b _ _ p ea eb => ?_⟩
  · obtain ⟨k, hk, rfl, e3⟩ := im a p e
    exact hf.1 k hk p e3
  · obtain ⟨k, hk, rfl, e3⟩ := im a p ea
    obtain ⟨k', hk', rfl, e3'⟩ := im b p eb
    rw [hf.2 k k' hk hk' p e3 e3']
theorem reX_self {s : Nat → Nat} {f : Nat → Option Nat} {n N : Nat} (h : ∀ a b, a < n → b < n → s a = s b → a = b) (hz : ∀ a, a < N → (∀ k, k < n → s k ≠ a) → f a = none) : ∀ a, a < N → reX s (fun k => f (s k)) n a = f a := fun a ha => by
  obtain ⟨h1, h2⟩ := reX_at (f := fun k => f (s k)) n h
  by_cases c : ∃ k, k < n ∧ s k = a
  · obtain ⟨k, hk, rfl⟩ := c
    exact h1 k hk
  · have c' : ∀ k, k < n → s k ≠ a := fun k hk e => c ⟨k, hk, e⟩
    rw [h2 a c', hz a ha c']
theorem opt_perm {sh : Nat → Nat → Option Nat} {s : Nat → Nat} {n N M S : Nat} (h : ∀ a b, a < n → b < n → s a = s b → a = b) (hN : ∀ k, k < n → s k < N) (hz : ∀ a, a < N → (∀ k, k < n → s k ≠ a) → ∀ p, sh a p = none) : opt (fun k => sh (s k)) M n S = opt sh M N S := by
  apply Nat.le_antisymm
  · obtain ⟨f, f1, f2, -⟩ := opt_ex (fun k => sh (s k)) M n S
    rw [← f2, ← reX_wt sh n h hN]
    exact opt_ub sh M N S _ (reX_ok h f1)
  · obtain ⟨f, f1, f2, -⟩ := opt_ex sh M N S
    have fz : ∀ a, a < N → (∀ k, k < n → s k ≠ a) → f a = none := fun a ha c => by
      cases e : f a with
      | none => rfl
      | some p =>
        obtain ⟨-, v, hv⟩ := f1.1 a ha p e
        rw [hz a ha c p] at hv
        cases hv
    have ok : okF (fun k => sh (s k)) (setB M S) n (fun k => f (s k)) := ⟨fun k hk p e => f1.1 (s k) (hN k hk) p e, fun k k' hk hk' p e e' => h k k' hk hk' (f1.2 (s k) (s k') (hN k hk) (hN k' hk') p e e')⟩
    have := opt_ub (fun k => sh (s k)) M n S _ ok
    rw [← reX_wt sh (N := N) n h hN, wt_congr sh N (reX_self h fz), f2] at this
    exact this
theorem rowOpt_congr {g g' : Nat → Nat} {r r' : Nat → Option Nat} {S : Nat} (hg : ∀ S, g S = g' S) : ∀ p, (∀ q, q < p → r q = r' q) → rowOpt g r S p = rowOpt g' r' S p
  | 0, _ => hg S
  | p + 1, h => by
    simp only [rowOpt]
    rw [rowOpt_congr hg p (fun q hq => h q (by omega)), h p (by omega), hg (S ^^^ 2 ^ p)]
theorem opt_congr {sh sh' : Nat → Nat → Option Nat} {M : Nat} : ∀ k, (∀ a p, a < k → p < M → sh a p = sh' a p) → ∀ S, opt sh M k S = opt sh' M k S
  | 0, _, _ => rfl
  | k + 1, h, S => by
    show rowOpt (opt sh M k) (sh k) S M = rowOpt (opt sh' M k) (sh' k) S M
    exact rowOpt_congr (fun S => opt_congr k (fun a p ha hp => h a p (by omega) hp) S) M (fun q hq => h k q (by omega) hq)
theorem opt_le {sh : Nat → Nat → Option Nat} {M C : Nat} (hC : ∀ a p v, sh a p = some v → v ≤ C) (k S : Nat) : opt sh M k S ≤ k * C := by
  obtain ⟨f, f1, f2, -⟩ := opt_ex sh M k S
  rw [← f2]
  clear f1 f2
  induction k with
  | zero => exact Nat.zero_le _
  | succ k ih =>
    show wt sh f k + wt1 (sh k) (f k) ≤ (k + 1) * C
    have : wt1 (sh k) (f k) ≤ C := by
      cases f k with
      | none => exact Nat.zero_le _
      | some p =>
        show (sh k p).getD 0 ≤ C
        cases e : sh k p with
        | none => exact Nat.zero_le _
        | some v => exact hC k p v e
    rw [Nat.succ_mul]
    omega
/-- a member taken away -/
theorem opt_rm {sh : Nat → Nat → Option Nat} {M k x S : Nat} : opt (fun a p => if p = x then none else sh a p) M k S = opt sh M k (if S.testBit x then S ^^^ 2 ^ x else S) := by
  have hS : ∀ p, (if S.testBit x then S ^^^ 2 ^ x else S).testBit p = (S.testBit p && !decide (p = x)) := fun p => by
    by_cases e : p = x
    · subst e
      by_cases b : S.testBit p = true
      · rw [if_pos b, tb_xorS, b]; simp
      · rw [if_neg b]; simp [b]
    · split
      · rw [tb_xor _ _ _ e]; simp [e]
      · simp [e]
  have io : ∀ f, okF (fun a p => if p = x then none else sh a p) (setB M S) k f ↔ okF sh (setB M (if S.testBit x then S ^^^ 2 ^ x else S)) k f := fun f => by
    constructor
    · intro h
      refine ⟨fun a ha p e => ?_, h.2⟩
      obtain ⟨h1, v, hv⟩ := h.1 a ha p e
      have hv : (if p = x then none else sh a p) = some v := hv
      by_cases e2 : p = x
      · simp [e2] at hv
      · rw [if_neg e2] at hv
        refine ⟨?_, v, hv⟩
        simp only [setB, Bool.and_eq_true, decide_eq_true_eq] at h1 ⊢
        exact ⟨h1.1, by rw [hS, h1.2]; simp [e2]⟩
    · intro h
      refine ⟨fun a ha p e => ?_, h.2⟩
      obtain ⟨h1, v, hv⟩ := h.1 a ha p e
      simp only [setB, Bool.and_eq_true, decide_eq_true_eq] at h1 ⊢
      rw [hS] at h1
      have e2 : p ≠ x := fun e3 => by simp [e3] at h1
      exact ⟨⟨h1.1, by have := h1.2; simp at this; exact this.1⟩, v, by show (if p = x then none else sh a p) = some v; rw [if_neg e2]; exact hv⟩
  have we : ∀ f, okF (fun a p => if p = x then none else sh a p) (setB M S) k f → wt (fun a p => if p = x then none else sh a p) f k = wt sh f k := fun f h => by
    have key : ∀ j, j ≤ k → wt (fun a p => if p = x then none else sh a p) f j = wt sh f j := fun j => by
      induction j with
      | zero => intro _; rfl
      | succ j ih =>
        intro hj
        show wt _ f j + wt1 _ (f j) = wt sh f j + wt1 (sh j) (f j)
        rw [ih (by omega)]
        cases e : f j with
        | none => rfl
        | some p =>
          obtain ⟨-, v, hv⟩ := h.1 j (by omega) p e
          by_cases e2 : p = x
          · simp [e2] at hv
          · show _ + (if p = x then none else sh j p).getD 0 = _ + (sh j p).getD 0
            rw [if_neg e2]
    exact key k (Nat.le_refl k)
  apply Nat.le_antisymm
  · obtain ⟨f, f1, f2, -⟩ := opt_ex (fun a p => if p = x then none else sh a p) M k S
    rw [← f2, we f f1]
    exact opt_ub sh M k _ f ((io f).mp f1)
  · obtain ⟨f, f1, f2, -⟩ := opt_ex sh M k (if S.testBit x then S ^^^ 2 ^ x else S)
    rw [← f2, ← we f ((io f).mpr f1)]
    exact opt_ub _ M k _ f ((io f).mpr f1)
/-- rows and members change places -/
theorem opt_tr {sh : Nat → Nat → Option Nat} {n m T : Nat} : opt (trS sh) n m T = opt (fun a p => if T.testBit a then sh a p else none) m n (2 ^ m - 1) := by
  have all : ∀ p, setB m (2 ^ m - 1) p = decide (p < m) := fun p => by
    simp only [setB, Nat.testBit_two_pow_sub_one, Bool.and_self]
  have we : ∀ f, (∀ a p, f a = some p → T.testBit a = true) → ∀ j, wt (fun a p => if T.testBit a then sh a p else none) f j = wt sh f j := fun f h j => by
    induction j with
    | zero => rfl
    | succ j ih =>
      show wt _ f j + wt1 _ (f j) = wt sh f j + wt1 (sh j) (f j)
      rw [ih]
      cases e : f j with
      | none => rfl
      | some p =>
        show _ + (if T.testBit j then sh j p else none).getD 0 = _ + (sh j p).getD 0
        rw [if_pos (h j p e)]
  apply Nat.le_antisymm
  · obtain ⟨g, g1, g2, -⟩ := opt_ex (trS sh) n m T
    obtain ⟨f, f1, f2, f3⟩ := tr_ex sh (setB n T) n (fun a ha => by simp only [setB, Bool.and_eq_true, decide_eq_true_eq] at ha; exact ha.1) g m g1
    have hT : ∀ a p, f a = some p → T.testBit a = true := fun a p e => by
      have := (f2 a p e).1
      simp only [setB, Bool.and_eq_true, decide_eq_true_eq] at this
      exact this.2
    rw [← g2, ← f3, ← we f hT n]
    refine opt_ub _ m n _ f ⟨fun a ha p e => ?_, f1.2⟩
    obtain ⟨e1, e2⟩ := f1.1 a ha p e
    exact ⟨by rw [all]; exact e1, by show ∃ v, (if T.testBit a then sh a p else none) = some v; rw [if_pos (hT a p e)]; exact e2⟩
  · obtain ⟨f, f1, f2, -⟩ := opt_ex (fun a p => if T.testBit a then sh a p else none) m n (2 ^ m - 1)
    obtain ⟨g, g1, g2, g3⟩ := tr_ex (trS (fun a p => if T.testBit a then sh a p else none)) (setB m (2 ^ m - 1)) m (fun p hp => by rw [all] at hp; exact of_decide_eq_true hp) f n f1
    have wg : ∀ j, wt (trS (fun a p => if T.testBit a then sh a p else none)) g j = wt (trS sh) g j ∨ j > m := fun j => by
      induction j with
      | zero => exact Or.inl rfl
      | succ j ih =>
        by_cases hj : j < m
        · refine Or.inl ?_
          rcases ih with ih | ih
          · show wt _ g j + wt1 _ (g j) = wt (trS sh) g j + wt1 (trS sh j) (g j)
            rw [ih]
            cases e : g j with
            | none => rfl
            | some a =>
              obtain ⟨-, v, hv⟩ := g1.1 j hj a e
              show _ + (if T.testBit a then sh a j else none).getD 0 = _ + (sh a j).getD 0
              have hv : (if T.testBit a then sh a j else none) = some v := hv
              split at hv
              · rename_i h; rw [if_pos h]
              · cases hv
          · omega
        · exact Or.inr (by omega)
    have wm := (wg m).resolve_right (Nat.lt_irrefl m)
    rw [← f2]
    have g3' : wt (trS (fun a p => if T.testBit a then sh a p else none)) g m = wt (fun a p => if T.testBit a then sh a p else none) f n := g3
    rw [← g3', wm]
    refine opt_ub (trS sh) n m T g ⟨fun p hp a e => ?_, g1.2⟩
    obtain ⟨e1, v, hv⟩ := g1.1 p hp a e
    have hv : (if T.testBit a then sh a p else none) = some v := hv
    split at hv
    · rename_i h
      refine ⟨?_, v, hv⟩
      simp only [setB, Bool.and_eq_true, decide_eq_true_eq]
      exact ⟨of_decide_eq_true e1, h⟩
    · cases hv
