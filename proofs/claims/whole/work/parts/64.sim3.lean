/-! pure: the class's rows of numbers hold the greatest numbers -/
theorem rowOpt_z (g : Nat → Nat) (r : Nat → Option Nat) : ∀ M, rowOpt g r 0 M = g 0
  | 0 => rfl
  | M + 1 => by
    simp only [rowOpt]
    rw [if_neg (by rw [Nat.zero_testBit]; decide)]
    exact rowOpt_z g r M
theorem valR_le {r : Nat → Option Nat} {C : Nat} (h : ∀ p v, r p = some v → v ≤ C) : ∀ M i, valR r M i ≤ C
  | 0, _ => Nat.zero_le _
  | M + 1, i => by
    have ih := valR_le h M i
    simp only [valR]
    cases e : r M with
    | none => exact ih
    | some v =>
      show (if i = cntR r M then v else valR r M i) ≤ C
      split
      · exact h M v e
      · exact ih
theorem bitR_pow {r : Nat → Option Nat} : ∀ M i, i < cntR r M → ∃ q, q < M ∧ bitR r M i = 2 ^ q
  | 0, i, h => absurd h (Nat.not_lt_zero i)
  | M + 1, i, h => by
    have ih := bitR_pow (r := r) M i
    simp only [cntR, bitR] at h ⊢
    cases e : r M with
    | none =>
      rw [e] at h
      obtain ⟨q, h1, h2⟩ := ih h
      exact ⟨q, by omega, h2⟩
    | some v =>
      rw [e] at h
      have h : i < cntR r M + 1 := h
      by_cases c : i = cntR r M
      · exact ⟨M, by omega, if_pos c⟩
      · obtain ⟨q, h1, h2⟩ := ih (by omega)
        exact ⟨q, by omega, (if_neg c).trans h2⟩
theorem wsB_N {sh : Nat → Int64} {rs st M S R C : Nat} {be os : Nat → Int64} {E : Nat → Nat → Option Nat} (hS : S = 2 ^ M) (hE : ∀ r p, r < R → p < M → sh (r * rs + p * st) = encI (E r p)) (hC : ∀ r p v, E r p = some v → v ≤ C) (hB : (R + 1) * C < 2 ^ 63) : ∀ r, r ≤ R → ∀ j, j < S → wsB sh rs st M S be os r j = lN (opt E M r j)
  | 0, _, j, hj => if_pos hj
  | r + 1, hr, j, hj => by
    have ih := wsB_N (be := be) (os := os) hS hE hC hB r (by omega)
    have hb1 : (r + 1) * C ≤ (R + 1) * C := Nat.mul_le_mul_right C (by omega)
    have hb2 : (r + 1) * C = r * C + C := Nat.succ_mul r C
    have hb3 : C ≤ (R + 1) * C := Nat.le_mul_of_pos_left C (by omega)
    obtain ⟨c1, c2, c3⟩ := co_N sh (r * rs) st (E r) (fun p v h => by have := hC r p v h; omega) (wsOs sh rs st M os r) M (fun p hp => hE r p (by omega) hp)
    show addRowF (wsB sh rs st M S be os r) (coS sh (r * rs) st (wsOs sh rs st M os r) M) (coT sh (r * rs) st M) (coC sh (r * rs) st M) S 0 j = lN (rowOpt (opt E M r) (E r) j M)
    simp only [addRowF]
    by_cases h0 : 0 < j
    · rw [if_pos ⟨h0, hj⟩, c1, c2, rowMost_N (nb := opt E M r) (ov := valR (E r) M) (B1 := r * C) (B2 := C) hj (fun q _ => opt_le hC r q) ih (by omega) (cntR (E r) M) (fun i _ => valR_le (hC r) M i) (fun i hi => by
        obtain ⟨q, q1, q2⟩ := bitR_pow M i hi
        rw [q2]
        exact xor_in hS hj (by rw [hS]; exact Nat.pow_lt_pow_right (by decide) q1)) c3, rowMN_opt]
    · have e : j = 0 := by omega
      subst e
      rw [if_neg (by omega), rowOpt_z]
      exact ih 0 hj
/-! what is offered, and the shares -/
theorem offR_at (w : Nat → Nat → Int64) (a : Nat) (sh : Nat → Int64) {b p : Nat} (hp : p < 8) : ∀ q, q ≤ 8 → offR w a sh q (b * 8 + p) = if b = a ∧ p < q then w a p else sh (b * 8 + p)
  | 0, _ => by rw [if_neg (by omega)]; rfl
  | q + 1, hq => by
    have ih := offR_at w a sh (b := b) hp q (by omega)
    show vp_updL (offR w a sh q) (a * 8 + q) (w a q) (b * 8 + p) = _
    by_cases e : b = a ∧ p = q
    · rw [e.1, e.2, pk_uLs, if_pos ⟨rfl, by omega⟩]
    · rw [pk_uLn (by omega), ih]
      by_cases c : b = a ∧ p < q
      · rw [if_pos c, if_pos ⟨c.1, by omega⟩]
      · rw [if_neg c, if_neg (by omega)]
theorem offF_at (w : Nat → Nat → Int64) {pn : Nat} (hpn : pn ≤ 8) (sh : Nat → Int64) {a p : Nat} (hp : p < pn) : ∀ n, a < n → offF w pn sh n (a * 8 + p) = w a p
  | 0, h => absurd h (Nat.not_lt_zero a)
  | n + 1, h => by
    show offR w n (offF w pn sh n) pn (a * 8 + p) = w a p
    rw [offR_at w n _ (by omega) pn hpn]
    by_cases e : a = n
    · rw [if_pos ⟨e, hp⟩, e]
    · rw [if_neg (fun q => e q.1)]
      exact offF_at w hpn sh hp n (by omega)
theorem turnF_at {ar : Nat → Nat} {pn a p ra : Nat} (hpn : pn ≤ 8) (hp : p < pn) : ∀ (k : Nat) (sh : Nat → Int64) (x : Nat), (∀ r, r < k → (ar r = a ↔ r = ra)) → turnF ar pn k sh (lN x) (a * 8 + p) = if ra < k then shr1 (lN (x * 9 ^ (k - 1 - ra))) p (sh (a * 8 + p)) else sh (a * 8 + p)
  | 0, sh, x, _ => by rw [if_neg (by omega)]; rfl
  | k + 1, sh, x, h => by
    have ih := turnF_at hpn hp k (turnRow (ar k) (lN x) sh pn) (x * 9) (fun r hr => h r (by omega))
    show turnF ar pn k (turnRow (ar k) (lN x) sh pn) (lN x * lN 9) (a * 8 + p) = _
    rw [lN_mul, ih]
    have hk := h k (by omega)
    by_cases e : ar k = a
    · have e2 := hk.mp e
      rw [if_neg (by omega), if_pos (by omega), e, ← e2]
      simp only [turnRow]
      rw [if_pos ⟨by omega, by omega⟩, Nat.add_sub_cancel_left, show k + 1 - 1 - k = 0 by omega, Nat.pow_zero, Nat.mul_one]
    · have e2 : k ≠ ra := fun q => e (hk.mpr q)
      have e3 : turnRow (ar k) (lN x) sh pn (a * 8 + p) = sh (a * 8 + p) := by
        simp only [turnRow]
        rw [if_neg (by omega)]
      rw [e3]
      by_cases c : ra < k
      · rw [if_pos c, if_pos (by omega), show k + 1 - 1 - ra = k - 1 - ra + 1 by omega, p9s, ← Nat.mul_assoc]
      · rw [if_neg c, if_neg (by omega)]
theorem shr1_enc {x p : Nat} {o : Option Nat} (hb : ∀ v, o = some v → v < 2 ^ 63) : shr1 (lN x) p (encI o) = encI (o.map (fun v => v * 43046721 + (8 - p) * x)) := by
  cases o with
  | none => rfl
  | some v =>
    show (if lN v = -1 then -1 else lN v * lN 43046721 + lN (8 - p) * lN x) = lN (v * 43046721 + (8 - p) * x)
    rw [if_neg (lN_ne (hb v rfl)), lN_mul, lN_mul, lN_add]
/-! what is read off the digits -/
theorem gvF_out {ar : Nat → Nat} {a : Nat} : ∀ (k d : Nat) (gi : Nat → Int32), (∀ r, r < k → ar r ≠ a) → gvF ar k d gi a = gi a
  | 0, _, _, _ => rfl
  | k + 1, d, gi, h => by
    show gvF ar k (d / 9) (upd gi (ar k) (if d % 9 = 0 then -1 else nI (8 - d % 9))) a = gi a
    rw [gvF_out k _ _ (fun r hr => h r (by omega)), pk_un (fun e => h k (by omega) e.symm)]
theorem gvF_at {ar : Nat → Nat} {r : Nat} : ∀ (k d : Nat) (gi : Nat → Int32), (∀ a b, a < k → b < k → ar a = ar b → a = b) → r < k → gvF ar k d gi (ar r) = if d / 9 ^ (k - 1 - r) % 9 = 0 then -1 else nI (8 - d / 9 ^ (k - 1 - r) % 9)
  | 0, _, _, _, h => absurd h (Nat.not_lt_zero r)
  | k + 1, d, gi, hi, h => by
    show gvF ar k (d / 9) (upd gi (ar k) (if d % 9 = 0 then -1 else nI (8 - d % 9))) (ar r) = _
    by_cases e : r = k
    · subst e
      rw [gvF_out r _ _ (fun q hq e => by have := hi q r (by omega) (by omega) e; omega), pk_us, show r + 1 - 1 - r = 0 by omega, Nat.pow_zero, Nat.div_one]
    · rw [gvF_at k _ _ (fun a b ha hb => hi a b (by omega) (by omega)) (by omega), Nat.div_div_eq_div_mul, ← p9s, show k - 1 - r + 1 = k + 1 - 1 - r by omega]
def one2 : Nat → Nat → Option Nat := fun _ _ => some 1
theorem gvN_wt {h : Nat → Option Nat} : ∀ (k d n : Nat), (∀ r, r < k → (d / 9 ^ (k - 1 - r) % 9 = 0 ↔ h r = none)) → gvN k d n = n + wt one2 h k
  | 0, _, _, _ => rfl
  | k + 1, d, n, hd => by
    show gvN k (d / 9) (if d % 9 = 0 then n + 0 else n + 1) = n + (wt one2 h k + wt1 (one2 k) (h k))
    rw [gvN_wt (h := h) k (d / 9) _ (fun r hr => by
      rw [Nat.div_div_eq_div_mul, ← p9s, show k - 1 - r + 1 = k + 1 - 1 - r by omega]
      exact hd r (by omega))]
    have hk := hd k (by omega)
    rw [show k + 1 - 1 - k = 0 by omega, Nat.pow_zero, Nat.div_one] at hk
    cases e : h k with
    | none => rw [if_pos (hk.mpr e)]; simp only [wt1]; omega
    | some p =>
      rw [if_neg (fun q => by have := hk.mp q; rw [e] at this; cases this)]
      simp only [wt1, one2, Option.getD_some]
      omega
/-! the reference's table and its choice -/
theorem and_all (M z q : Nat) (hq : q < M) : ((2 ^ M - 1) ^^^ z).testBit q = !z.testBit q := by
  rw [Nat.testBit_xor, Nat.testBit_two_pow_sub_one, decide_eq_true hq, Bool.true_xor]
theorem xor_or (M z q : Nat) (hz : ¬ z.testBit q = true) : (2 ^ M - 1) ^^^ (z ||| 2 ^ q) = ((2 ^ M - 1) ^^^ z) ^^^ 2 ^ q := by
  apply Nat.eq_of_testBit_eq
  intro i
  rw [Nat.testBit_xor, Nat.testBit_xor, Nat.testBit_xor, Nat.testBit_or, Nat.testBit_two_pow]
  by_cases e : q = i
  · subst e
    simp [hz]
  · simp [e]
theorem rwG_row {w : Nat → Option Nat} {g g' : Nat → Nat} {M z : Nat} (hz : z < 2 ^ M) (hg : ∀ z, z < 2 ^ M → g z = g' ((2 ^ M - 1) ^^^ z)) : ∀ q, q ≤ M → rwG w g z q = rowOpt g' w ((2 ^ M - 1) ^^^ z) q
  | 0, _ => hg z hz
  | q + 1, hq => by
    have ih := rwG_row (w := w) hz hg q (by omega)
    simp only [rwG, rowOpt]
    rw [and_all M z q (by omega), ih]
    have hb := tb_dm z q
    by_cases b : z.testBit q = true
    · have h1 := hb.mp b
      rw [b]
      cases w q with
      | none => rfl
      | some v =>
        show (if z / 2 ^ q % 2 = 0 then _ else _) = _
        rw [if_neg (by omega)]
        rfl
    · have h0 : z / 2 ^ q % 2 = 0 := by
        have : ¬ z / 2 ^ q % 2 = 1 := fun h => b (hb.mpr h)
        omega
      have e : z.testBit q = false := by simpa using b
      rw [e]
      cases w q with
      | none => rfl
      | some v =>
        show (if z / 2 ^ q % 2 = 0 then max _ (v + g (z ||| 2 ^ q)) else _) = max _ (g' ((2 ^ M - 1) ^^^ z ^^^ 2 ^ q) + v)
        rw [if_pos h0, hg _ (Nat.or_lt_two_pow hz (Nat.pow_lt_pow_right (by decide) (by omega))), xor_or M z q b, Nat.add_comm v]
theorem gO_opt {w : Nat → Nat → Option Nat} {pn n : Nat} : ∀ r z, z < 2 ^ pn → gO w pn n r z = opt (fun k => w (n - 1 - k)) pn r ((2 ^ pn - 1) ^^^ z)
  | 0, _, _ => rfl
  | r + 1, z, hz => rwG_row hz (fun z hz => gO_opt r z hz) pn (Nat.le_refl pn)
theorem wt_rev {w : Nat → Nat → Option Nat} {f : Nat → Option Nat} {n : Nat} : ∀ r, r ≤ n → wt w f n = wt w f (n - r) + wt (fun k => w (n - 1 - k)) (fun k => f (n - 1 - k)) r
  | 0, _ => rfl
  | r + 1, h => by
    have ih := wt_rev (w := w) (f := f) (n := n) r (by omega)
    show wt w f n = wt w f (n - (r + 1)) + (wt (fun k => w (n - 1 - k)) (fun k => f (n - 1 - k)) r + wt1 (w (n - 1 - r)) (f (n - 1 - r)))
    rw [ih, show n - r = (n - 1 - r) + 1 by omega]
    show wt w f (n - 1 - r) + wt1 (w (n - 1 - r)) (f (n - 1 - r)) + _ = _
    rw [show n - (r + 1) = n - 1 - r by omega]
    omega
/-- rows from i on take parts that are not in z -/
def tlF (w : Nat → Nat → Option Nat) (pn n i z : Nat) (f : Nat → Option Nat) : Prop :=
  (∀ j, i ≤ j → j < n → ∀ q, f j = some q → q < pn ∧ z / 2 ^ q % 2 = 0 ∧ ∃ v, w j q = some v) ∧ (∀ j k, i ≤ j → j < n → i ≤ k → k < n → ∀ q, f j = some q → f k = some q → j = k)
theorem tl_ub {w : Nat → Nat → Option Nat} {pn n i z : Nat} {f : Nat → Option Nat} (hi : i ≤ n) (hz : z < 2 ^ pn) (h : tlF w pn n i z f) : wt w f n ≤ wt w f i + gO w pn n (n - i) z := by
  rw [gO_opt _ _ hz]
  have e := wt_rev (w := w) (f := f) (n - i) (Nat.sub_le n i)
  rw [show n - (n - i) = i by omega] at e
  rw [e]
  refine Nat.add_le_add_left (opt_ub _ _ _ _ _ ⟨fun k hk q e => ?_, fun k k' hk hk' q e e' => ?_⟩) _
  · obtain ⟨h1, h2, h3⟩ := h.1 (n - 1 - k) (by omega) (by omega) q e
    refine ⟨?_, h3⟩
    have hb : ¬ z.testBit q = true := fun b => by have := (tb_dm z q).mp b; omega
    simp only [setB, Bool.and_eq_true, decide_eq_true_eq]
    exact ⟨h1, by rw [and_all pn z q h1]; simpa using hb⟩
  · have := h.2 (n - 1 - k) (n - 1 - k') (by omega) (by omega) (by omega) (by omega) q e e'
    omega
theorem tl_ex {w : Nat → Nat → Option Nat} {pn n i z : Nat} (F : Nat → Option Nat) (hi : i ≤ n) (hz : z < 2 ^ pn) : ∃ G, (∀ j, j < i → G j = F j) ∧ tlF w pn n i z G ∧ wt w G n = wt w F i + gO w pn n (n - i) z := by
  rw [gO_opt _ _ hz]
  obtain ⟨f, f1, f2, -⟩ := opt_ex (fun k => w (n - 1 - k)) pn (n - i) ((2 ^ pn - 1) ^^^ z)
  have lo : ∀ j, j < i → (fun j => if j < i then F j else f (n - 1 - j)) j = F j := fun j hj => if_pos hj
  have hi2 : ∀ j, i ≤ j → (fun j => if j < i then F j else f (n - 1 - j)) j = f (n - 1 - j) := fun j hj => if_neg (by omega)
  refine ⟨fun j => if j < i then F j else f (n - 1 - j), lo, ⟨fun j h1 h2 q e => ?_, fun j k h1 h2 h3 h4 q e e' => ?_⟩, ?_⟩
  · rw [hi2 j h1] at e
    obtain ⟨e1, v, hv⟩ := f1.1 (n - 1 - j) (by omega) q e
    have hv : w (n - 1 - (n - 1 - j)) q = some v := hv
    rw [show n - 1 - (n - 1 - j) = j by omega] at hv
    simp only [setB, Bool.and_eq_true, decide_eq_true_eq] at e1
    refine ⟨e1.1, ?_, v, hv⟩
    have b := e1.2
    rw [and_all pn z q e1.1] at b
    have : ¬ z / 2 ^ q % 2 = 1 := fun h => by rw [(tb_dm z q).mpr h] at b; cases b
    omega
  · rw [hi2 j h1] at e
    rw [hi2 k h3] at e'
    have := f1.2 (n - 1 - j) (n - 1 - k) (by omega) (by omega) q e e'
    omega
  · have e := wt_rev (w := w) (f := fun j => if j < i then F j else f (n - 1 - j)) (n - i) (Nat.sub_le n i)
    rw [show n - (n - i) = i by omega] at e
    rw [e, wt_congr w i lo, ← f2]
    congr 1
    exact wt_congr _ _ (fun k hk => by
      show (fun j => if j < i then F j else f (n - 1 - j)) (n - 1 - k) = f k
      rw [hi2 _ (by omega), show n - 1 - (n - 1 - k) = k by omega])
theorem pfO_ok {w : Nat → Option Nat} {g1 : Nat → Nat} {t z : Nat} : ∀ f q, (∀ b, pfO w g1 t z f q = some b → q ≤ b ∧ b < q + f ∧ (z / 2 ^ b % 2 = 0 ∧ (∃ v, w b = some v ∧ v + g1 (z ||| 2 ^ b) = t)) ∧ ∀ c, q ≤ c → c < b → ¬ (z / 2 ^ c % 2 = 0 ∧ (∃ v, w c = some v ∧ v + g1 (z ||| 2 ^ c) = t))) ∧ (pfO w g1 t z f q = none → ∀ c, q ≤ c → c < q + f → ¬ (z / 2 ^ c % 2 = 0 ∧ (∃ v, w c = some v ∧ v + g1 (z ||| 2 ^ c) = t)))
  | 0, q => ⟨fun b h => (nomatch h), fun _ c h1 h2 => by omega⟩
  | f + 1, q => by
    obtain ⟨h1, h2⟩ := pfO_ok (w := w) (g1 := g1) (t := t) (z := z) f (q + 1)
    simp only [pfO]
    by_cases c : z / 2 ^ q % 2 = 0 ∧ (∃ v, w q = some v ∧ v + g1 (z ||| 2 ^ q) = t)
    · rw [if_pos c]
      refine ⟨fun b e => ?_, fun h => (nomatch h)⟩
      cases e
      exact ⟨Nat.le_refl _, by omega, c, fun c h1 h2 => by omega⟩
    · rw [if_neg c]
      refine ⟨fun b e => ?_, fun e x hx1 hx2 => ?_⟩
      · obtain ⟨a1, a2, a3, a4⟩ := h1 b e
        refine ⟨by omega, by omega, a3, fun x hx1 hx2 => ?_⟩
        by_cases e2 : x = q
        · rw [e2]; exact c
        · exact a4 x (by omega) hx2
      · by_cases e2 : x = q
        · rw [e2]; exact c
        · exact h2 e x (by omega) (by omega)
theorem gO_ge {w : Nat → Nat → Option Nat} {pn n r z q v : Nat} (hz : z < 2 ^ pn) (hq : q < pn) (hb : z / 2 ^ q % 2 = 0) (hv : w (n - 1 - r) q = some v) : v + gO w pn n r (z ||| 2 ^ q) ≤ gO w pn n (r + 1) z := by
  have hb' : ¬ z.testBit q = true := fun b => by have := (tb_dm z q).mp b; omega
  rw [gO_opt _ _ hz, gO_opt _ _ (Nat.or_lt_two_pow hz (Nat.pow_lt_pow_right (by decide) hq)), xor_or pn z q hb', Nat.add_comm]
  exact rowOpt_ge (opt (fun k => w (n - 1 - k)) pn r) (w (n - 1 - r)) _ (by rw [and_all pn z q hq]; simpa using hb') hv pn hq
/-- the reference's choice is the one whose digits are greatest -/
theorem greedy {w : Nat → Nat → Option Nat} {pn n : Nat} (hpn : pn ≤ 8) {F : Nat → Option Nat} (hF : okF w (setB pn (2 ^ pn - 1)) n F) (ho : wt w F n = gO w pn n n 0) (lex : ∀ G i, i < n → okF w (setB pn (2 ^ pn - 1)) n G → wt w G n = wt w F n → (∀ j, j < i → G j = F j) → dgt (G i) ≤ dgt (F i)) :
    ∀ i, i ≤ n → (∀ j, j < i → pfW w pn n j (mtZ w pn n j) = F j) ∧ mtZ w pn n i < 2 ^ pn ∧ (∀ q, mtZ w pn n i / 2 ^ q % 2 = 1 ↔ ∃ j, j < i ∧ F j = some q) ∧ gO w pn n (n - i) (mtZ w pn n i) + wt w F i = wt w F n
  | 0, _ => ⟨fun j h => absurd h (Nat.not_lt_zero j), Nat.two_pow_pos pn, fun q => by show 0 / 2 ^ q % 2 = 1 ↔ _; rw [Nat.zero_div]; exact ⟨fun h => absurd h (by decide), fun ⟨j, h, _⟩ => absurd h (Nat.not_lt_zero j)⟩, by show gO w pn n (n - 0) 0 + 0 = wt w F n; rw [ho, Nat.sub_zero, Nat.add_zero]⟩
  | i + 1, hi => by
    obtain ⟨h1, h2, h3, h4⟩ := greedy hpn hF ho lex i (by omega)
    have hlt : ∀ j, j < n → ∀ q, F j = some q → q < pn := fun j hj q e => by
      have := (hF.1 j hj q e).1
      simp only [setB, Bool.and_eq_true, decide_eq_true_eq] at this
      exact this.1
    generalize hzz : mtZ w pn n i = z at *
    have er : n - i = (n - (i + 1)) + 1 := by omega
    have ei : n - 1 - (n - (i + 1)) = i := by omega
    have hwS : wt w F (i + 1) = wt w F i + wt1 (w i) (F i) := rfl
    -- F's own rows from i + 1 on
    have tlF1 : ∀ z', (∀ q, z' / 2 ^ q % 2 = 1 → ∃ j, j < i + 1 ∧ F j = some q) → tlF w pn n (i + 1) z' F := fun z' hz' => by
      refine ⟨fun j h5 h6 q e => ⟨hlt j h6 q e, ?_, (hF.1 j h6 q e).2⟩, fun j k h5 h6 h7 h8 q e e' => hF.2 j k h6 h8 q e e'⟩
      have : ¬ z' / 2 ^ q % 2 = 1 := fun h => by
        obtain ⟨j', h9, h10⟩ := hz' q h
        have := hF.2 j j' h6 (by omega) q e h10
        omega
      omega
    have hpf := pfO_ok (w := w i) (g1 := gO w pn n (n - (i + 1))) (t := gO w pn n (n - i) z) (z := z) pn 0
    -- the reference's part is F's
    have hx : pfW w pn n i z = F i := by
      have hge : dgt (F i) ≤ dgt (pfW w pn n i z) := by
        cases e : F i with
        | none => exact Nat.zero_le _
        | some q =>
          have hq := hlt i (by omega) q e
          obtain ⟨-, v, hv⟩ := hF.1 i (by omega) q e
          have hb : z / 2 ^ q % 2 = 0 := by
            have : ¬ z / 2 ^ q % 2 = 1 := fun h => by
              obtain ⟨j, h5, h6⟩ := (h3 q).mp h
              have := hF.2 i j (by omega) (by omega) q e h6
              omega
            omega
          have g1 : v + gO w pn n (n - (i + 1)) (z ||| 2 ^ q) ≤ gO w pn n (n - i) z := by
            rw [er]
            exact gO_ge h2 hq hb (by rw [ei]; exact hv)
          have g2 := tl_ub (i := i + 1) hi (Nat.or_lt_two_pow h2 (Nat.pow_lt_pow_right (by decide) hq)) (tlF1 (z ||| 2 ^ q) (fun c hc => by
            rcases (dm_or z q c).mp hc with h | h
            · obtain ⟨j, h5, h6⟩ := (h3 c).mp h
              exact ⟨j, by omega, h6⟩
            · exact ⟨i, by omega, by rw [e, h]⟩))
          have hw1 : wt1 (w i) (F i) = v := by rw [e]; simp [wt1, hv]
          have cond : z / 2 ^ q % 2 = 0 ∧ (∃ v, w i q = some v ∧ v + gO w pn n (n - (i + 1)) (z ||| 2 ^ q) = gO w pn n (n - i) z) := ⟨hb, v, hv, by omega⟩
          show 8 - q ≤ dgt (pfW w pn n i z)
          cases e2 : pfW w pn n i z with
          | none => exact absurd cond (hpf.2 e2 q (Nat.zero_le _) (by omega))
          | some b =>
            obtain ⟨b1, b2, b3, b4⟩ := hpf.1 b e2
            have : b ≤ q := by
              rcases Nat.lt_or_ge q b with c | c
              · exact absurd cond (b4 q (Nat.zero_le _) c)
              · exact c
            show 8 - q ≤ 8 - b
            omega
      have hle : dgt (pfW w pn n i z) ≤ dgt (F i) := by
        cases e2 : pfW w pn n i z with
        | none => exact Nat.zero_le _
        | some b =>
          obtain ⟨b1, b2, ⟨b3, v, hv, b5⟩, -⟩ := hpf.1 b e2
          have hb8 : b < pn := by omega
          obtain ⟨G, G1, G2, G3⟩ := tl_ex (w := w) (pn := pn) (n := n) (i := i + 1) (z := z ||| 2 ^ b) (updO F i (some b)) hi (Nat.or_lt_two_pow h2 (Nat.pow_lt_pow_right (by decide) hb8))
          have Gi : G i = some b := by rw [G1 i (by omega), updO_s]
          have Gl : ∀ j, j < i → G j = F j := fun j hj => by rw [G1 j (by omega), updO_n _ _ (by omega)]
          have hwG : wt w G n = wt w F n := by
            rw [G3]
            show wt w (updO F i (some b)) i + wt1 (w i) (updO F i (some b) i) + _ = _
            rw [wt_congr w (g := F) i (fun a ha => updO_n _ _ (by omega)), updO_s]
            have : wt1 (w i) (some b) = v := by simp [wt1, hv]
            rw [this]
            omega
          have nz : ∀ q, z / 2 ^ q % 2 = 0 → ∀ j, j < i → F j ≠ some q := fun q h j hj e => by
            have := (h3 q).mpr ⟨j, hj, e⟩
            omega
          have n2 : ∀ q, (z ||| 2 ^ b) / 2 ^ q % 2 = 0 → z / 2 ^ q % 2 = 0 ∧ q ≠ b := fun q h => by
            have : ¬ (z / 2 ^ q % 2 = 1 ∨ b = q) := fun c => by have := (dm_or z b q).mpr c; omega
            omega
          have all : ∀ q, q < pn → setB pn (2 ^ pn - 1) q = true := fun q hq => by
            simp only [setB, Nat.testBit_two_pow_sub_one, decide_eq_true hq, Bool.and_self]
          have okG : okF w (setB pn (2 ^ pn - 1)) n G := by
            refine ⟨fun j hj q e => ?_, fun j k hj hk q e e' => ?_⟩
            · rcases Nat.lt_trichotomy j i with c | c | c
              · rw [Gl j c] at e; exact hF.1 j hj q e
              · rw [c, Gi] at e; cases e; rw [c]; exact ⟨all b hb8, v, hv⟩
              · obtain ⟨d1, d2, d3⟩ := G2.1 j (by omega) hj q e; exact ⟨all q d1, d3⟩
            · rcases Nat.lt_trichotomy j i with c | c | c
              · rcases Nat.lt_trichotomy k i with c' | c' | c'
                · rw [Gl j c] at e; rw [Gl k c'] at e'; exact hF.2 j k hj hk q e e'
                · rw [c', Gi] at e'; cases e'; rw [Gl j c] at e; exact absurd e (nz b b3 j c)
                · obtain ⟨d1, d2, d3⟩ := G2.1 k (by omega) hk q e'
                  rw [Gl j c] at e
                  exact absurd e (nz q (n2 q d2).1 j c)
              · rcases Nat.lt_trichotomy k i with c' | c' | c'
                · rw [c, Gi] at e; cases e; rw [Gl k c'] at e'; exact absurd e' (nz b b3 k c')
                · omega
                · obtain ⟨d1, d2, d3⟩ := G2.1 k (by omega) hk q e'
                  rw [c, Gi] at e; cases e
                  exact absurd rfl (n2 _ d2).2
              · rcases Nat.lt_trichotomy k i with c' | c' | c'
                · obtain ⟨d1, d2, d3⟩ := G2.1 j (by omega) hj q e
                  rw [Gl k c'] at e'
                  exact absurd e' (nz q (n2 q d2).1 k c')
                · obtain ⟨d1, d2, d3⟩ := G2.1 j (by omega) hj q e
                  rw [c', Gi] at e'; cases e'
                  exact absurd rfl (n2 _ d2).2
                · exact G2.2 j k (by omega) hj (by omega) hk q e e'
          have := lex G i (by omega) okG hwG Gl
          rw [Gi] at this
          exact this
      refine dgt_inj (fun p e => by have := pfW_lt e; omega) (fun p e => by have := hlt i (by omega) p e; omega) (by omega)
    have hall : ∀ j, j < i + 1 → pfW w pn n j (mtZ w pn n j) = F j := fun j hj => by
      by_cases e : j = i
      · rw [e, hzz]; exact hx
      · exact h1 j (by omega)
    have hzS : mtZ w pn n (i + 1) = match F i with | none => z ||| 0 | some q => z ||| 2 ^ q := by
      simp only [mtZ]
      rw [hzz, hx]
      rfl
    refine ⟨hall, ?_⟩
    rw [hzS]
    cases e : F i with
    | none =>
      show z ||| 0 < 2 ^ pn ∧ (∀ q, (z ||| 0) / 2 ^ q % 2 = 1 ↔ _) ∧ gO w pn n (n - (i + 1)) (z ||| 0) + wt w F (i + 1) = wt w F n
      rw [Nat.or_zero]
      refine ⟨h2, fun q => ?_, ?_⟩
      · rw [h3 q]
        constructor
        · rintro ⟨j, h5, h6⟩; exact ⟨j, by omega, h6⟩
        · rintro ⟨j, h5, h6⟩
          by_cases c : j = i
          · rw [c, e] at h6; cases h6
          · exact ⟨j, by omega, h6⟩
      · have hw1 : wt1 (w i) (F i) = 0 := by rw [e]; rfl
        have g2 := tl_ub (i := i + 1) hi h2 (tlF1 z (fun c hc => by
          obtain ⟨j, h5, h6⟩ := (h3 c).mp hc
          exact ⟨j, by omega, h6⟩))
        have g3 : gO w pn n (n - (i + 1)) z ≤ gO w pn n (n - i) z := by
          rw [er]
          show _ ≤ rwG (w (n - 1 - (n - (i + 1)))) (gO w pn n (n - (i + 1))) z pn
          rw [rwG_row h2 (fun z hz => gO_opt (n - (i + 1)) z hz) pn (Nat.le_refl pn), gO_opt _ _ h2]
          exact rowOpt_base _ _ _ _
        omega
    | some q =>
      have hq := hlt i (by omega) q e
      show z ||| 2 ^ q < 2 ^ pn ∧ (∀ c, (z ||| 2 ^ q) / 2 ^ c % 2 = 1 ↔ _) ∧ gO w pn n (n - (i + 1)) (z ||| 2 ^ q) + wt w F (i + 1) = wt w F n
      refine ⟨Nat.or_lt_two_pow h2 (Nat.pow_lt_pow_right (by decide) hq), fun c => ?_, ?_⟩
      · rw [dm_or, h3 c]
        constructor
        · rintro (⟨j, h5, h6⟩ | h)
          · exact ⟨j, by omega, h6⟩
          · exact ⟨i, by omega, by rw [e, h]⟩
        · rintro ⟨j, h5, h6⟩
          by_cases c2 : j = i
          · rw [c2, e] at h6; cases h6; exact Or.inr rfl
          · exact Or.inl ⟨j, by omega, h6⟩
      · obtain ⟨b1, b2, ⟨b3, v, hv, b5⟩, -⟩ := hpf.1 q (hx.trans e)
        have hw1 : wt1 (w i) (F i) = v := by rw [e]; simp [wt1, hv]
        omega
