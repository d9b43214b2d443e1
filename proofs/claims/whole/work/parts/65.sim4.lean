/-! the reference's order of the open asks -/
theorem insP_at {mN od : Nat → Nat} {k : Nat} : ∀ b, insP mN od k b ≤ b ∧ (insP mN od k b < b → mN k < mN (od (insP mN od k b))) ∧ (0 < insP mN od k b → mN (od (insP mN od k b - 1)) ≤ mN k)
  | 0 => ⟨Nat.le_refl 0, fun h => absurd h (Nat.lt_irrefl 0), fun h => absurd h (Nat.lt_irrefl 0)⟩
  | b + 1 => by
    obtain ⟨h1, h2, h3⟩ := insP_at (mN := mN) (od := od) (k := k) b
    simp only [insP]
    by_cases c : mN k < mN (od b)
    · rw [if_pos c]
      refine ⟨by omega, fun _ => ?_, h3⟩
      by_cases e : insP mN od k b = b
      · rw [e]; exact c
      · exact h2 (by omega)
    · rw [if_neg c]
      exact ⟨Nat.le_refl _, fun h => absurd h (Nat.lt_irrefl _), fun _ => by rw [Nat.add_sub_cancel]; omega⟩
theorem srO_enum {sv : Nat → Int32} {mN od : Nat → Nat} : ∀ k, Enum (fun a => sv a = 0) mN k (srN sv k) (srO sv mN od k)
  | 0 => enum_0 _ _ _
  | k + 1 => by
    have ih := srO_enum (sv := sv) (mN := mN) (od := od) k
    simp only [srN, srO]
    by_cases c : sv k = 0
    · rw [if_pos c, if_pos c]
      generalize srN sv k = n at *
      generalize srO sv mN od k = o at *
      obtain ⟨h1, h2, h3⟩ := insP_at (mN := mN) (od := o) (k := k) n
      refine enum_ins (p := insP mN o k n) ih c h1 h2 h3 (fun m hm => ?_) (updN_s _ _ _) (fun m hm hm2 => ?_)
      · show updN (insS o n (insP mN o k n)) (insP mN o k n) k m = o m
        rw [updN_n _ _ (by omega)]
        exact insS_lt _ _ _ _ (by omega)
      · show updN (insS o n (insP mN o k n)) (insP mN o k n) k m = o (m - 1)
        rw [updN_n _ _ (by omega)]
        exact if_pos ⟨hm, hm2⟩
    · rw [if_neg c, if_neg c]
      exact enum_skip ih c
/-! the class's match is the reference's -/
def posR (an : Nat) (rk : Nat → Nat) : Nat → Nat := fun a => an - 1 - rk a
def MtH (an : Nat) (pn : Nat) (n : Nat) (W : Nat → Nat → Option Nat) (rk : Nat → Nat) (ar : Nat → Nat) (od : Nat → Nat) : Prop := (pn ≤ 8) ∧ (an ≤ 8) ∧ (∀ a p v, W a p = some v → v ≤ 1000000) ∧ (∀ a b, a < an → b < an → rk a = rk b → a = b) ∧ (∀ a, a < an → rk a < an) ∧ (∀ r, r < an → ar r < an ∧ rk (ar r) = r) ∧ (∀ i, i < n → od i < an) ∧ (∀ i j, i < j → j < n → rk (od i) < rk (od j)) ∧ (∀ a, a < an → (∀ i, i < n → od i ≠ a) → ∀ p, W a p = none)
theorem MtH.hpn {an pn n : Nat} {W : Nat → Nat → Option Nat} {rk ar od : Nat → Nat} (h : MtH an pn n W rk ar od) : pn ≤ 8 := h.1
theorem MtH.han {an pn n : Nat} {W : Nat → Nat → Option Nat} {rk ar od : Nat → Nat} (h : MtH an pn n W rk ar od) : an ≤ 8 := h.2.1
theorem MtH.hW {an pn n : Nat} {W : Nat → Nat → Option Nat} {rk ar od : Nat → Nat} (h : MtH an pn n W rk ar od) : ∀ a p v, W a p = some v → v ≤ 1000000 := h.2.2.1
theorem MtH.rinj {an pn n : Nat} {W : Nat → Nat → Option Nat} {rk ar od : Nat → Nat} (h : MtH an pn n W rk ar od) : ∀ a b, a < an → b < an → rk a = rk b → a = b := h.2.2.2.1
theorem MtH.rlt {an pn n : Nat} {W : Nat → Nat → Option Nat} {rk ar od : Nat → Nat} (h : MtH an pn n W rk ar od) : ∀ a, a < an → rk a < an := h.2.2.2.2.1
theorem MtH.har {an pn n : Nat} {W : Nat → Nat → Option Nat} {rk ar od : Nat → Nat} (h : MtH an pn n W rk ar od) : ∀ r, r < an → ar r < an ∧ rk (ar r) = r := h.2.2.2.2.2.1
theorem MtH.olt {an pn n : Nat} {W : Nat → Nat → Option Nat} {rk ar od : Nat → Nat} (h : MtH an pn n W rk ar od) : ∀ i, i < n → od i < an := h.2.2.2.2.2.2.1
theorem MtH.osort {an pn n : Nat} {W : Nat → Nat → Option Nat} {rk ar od : Nat → Nat} (h : MtH an pn n W rk ar od) : ∀ i j, i < j → j < n → rk (od i) < rk (od j) := h.2.2.2.2.2.2.2.1
theorem MtH.ocl {an pn n : Nat} {W : Nat → Nat → Option Nat} {rk ar od : Nat → Nat} (h : MtH an pn n W rk ar od) : ∀ a, a < an → (∀ i, i < n → od i ≠ a) → ∀ p, W a p = none := h.2.2.2.2.2.2.2.2
theorem mkMtH {an pn n : Nat} {W : Nat → Nat → Option Nat} {rk ar od : Nat → Nat} (hpn : pn ≤ 8) (han : an ≤ 8) (hW : ∀ a p v, W a p = some v → v ≤ 1000000) (rinj : ∀ a b, a < an → b < an → rk a = rk b → a = b) (rlt : ∀ a, a < an → rk a < an) (har : ∀ r, r < an → ar r < an ∧ rk (ar r) = r) (olt : ∀ i, i < n → od i < an) (osort : ∀ i j, i < j → j < n → rk (od i) < rk (od j)) (ocl : ∀ a, a < an → (∀ i, i < n → od i ≠ a) → ∀ p, W a p = none) : MtH an pn n W rk ar od := ⟨hpn, han, hW, rinj, rlt, har, olt, osort, ocl⟩
section MT
variable {an pn n : Nat} {W : Nat → Nat → Option Nat} {rk ar od : Nat → Nat}
theorem mt_oinj (h : MtH an pn n W rk ar od) : ∀ i j, i < n → j < n → od i = od j → i = j := fun i j hi hj e => by
  rcases Nat.lt_trichotomy i j with q | q | q
  · have := h.osort i j q hj; rw [e] at this; omega
  · exact q
  · have := h.osort j i q hi; rw [e] at this; omega
theorem mt_ark (h : MtH an pn n W rk ar od) {a : Nat} (ha : a < an) : ar (rk a) = a := h.rinj _ _ (h.har _ (h.rlt a ha)).1 ha (h.har _ (h.rlt a ha)).2
theorem mt_arinj (h : MtH an pn n W rk ar od) : ∀ r r', r < an → r' < an → ar r = ar r' → r = r' := fun r r' hr hr' e => by
  rw [← (h.har r hr).2, ← (h.har r' hr').2, e]
theorem mt_pinj (h : MtH an pn n W rk ar od) : ∀ a b, a < an → b < an → posR an rk a = posR an rk b → a = b := fun a b ha hb e => by
  have h1 := h.rlt a ha
  have h2 := h.rlt b hb
  unfold posR at e
  exact h.rinj a b ha hb (by omega)
theorem mt_p8 (h : MtH an pn n W rk ar od) : ∀ a, a < an → posR an rk a < 8 := fun a ha => by
  have := h.han
  unfold posR
  omega
theorem mt_sh (h : MtH an pn n W rk ar od) (sh : Nat → Int64) {a p : Nat} (ha : a < an) (hp : p < pn) : turnF ar pn an (offF (fun a p => encI (W a p)) pn sh an) (lN 1) (a * 8 + p) = encI (enc W (posR an rk) a p) := by
  have hr := h.rlt a ha
  rw [turnF_at (ra := rk a) h.hpn hp an _ 1 (fun r hr => ⟨fun e => by rw [← e]; exact ((h.har r hr).2).symm, fun e => by rw [e]; exact mt_ark h ha⟩), if_pos hr, offF_at _ h.hpn _ hp an ha, Nat.one_mul]
  exact shr1_enc (fun v e => by have := h.hW a p v e; omega)
theorem mt_encb (h : MtH an pn n W rk ar od) : ∀ a p v, (fun a p => if a < an then enc W (posR an rk) a p else none) a p = some v → v ≤ 43046800000000 := fun a p v e => by
  have e : (if a < an then enc W (posR an rk) a p else none) = some v := e
  split at e
  · rename_i ha
    simp only [enc] at e
    cases e2 : W a p with
    | none => rw [e2] at e; cases e
    | some u =>
      rw [e2] at e
      have e : some (u * 43046721 + (8 - p) * 9 ^ posR an rk a) = some v := e
      cases e
      have h1 := h.hW a p u e2
      have h2 : 9 ^ posR an rk a ≤ 9 ^ 7 := Nat.pow_le_pow_right (by decide) (by have := mt_p8 h a ha; omega)
      have h3 : (8 - p) * 9 ^ posR an rk a ≤ 38263752 := Nat.le_trans (Nat.mul_le_mul (Nat.sub_le 8 p) h2) (by decide)
      have h4 : u * 43046721 ≤ 1000000 * 43046721 := Nat.mul_le_mul_right _ h1
      exact Nat.le_trans (Nat.add_le_add h4 h3) (by decide)
  · cases e
theorem mt_cut (M S : Nat) : opt (fun a p => if a < an then enc W (posR an rk) a p else none) M an S = opt (enc W (posR an rk)) M an S := opt_congr an (fun a p ha _ => if_pos ha) S
theorem mt_be1 (h : MtH an pn n W rk ar od) (sh be os : Nat → Int64) : ∀ j, j < 2 ^ pn → wsB (turnF ar pn an (offF (fun a p => encI (W a p)) pn sh an) (lN 1)) 8 1 pn (2 ^ pn) be os an j = lN (opt (enc W (posR an rk)) pn an j) := fun j hj => by
  have h8 := h.han
  rw [wsB_N (E := fun a p => if a < an then enc W (posR an rk) a p else none) (R := an) (C := 43046800000000) rfl (fun r p hr hp => by
    show _ = encI (if r < an then enc W (posR an rk) r p else none)
    rw [Nat.mul_one, if_pos hr]; exact mt_sh h sh hr hp) (mt_encb h) (by omega) an (Nat.le_refl an) j hj, mt_cut]
theorem mt_be2 (h : MtH an pn n W rk ar od) (sh be os : Nat → Int64) : ∀ j, j < 2 ^ an → wsB (turnF ar pn an (offF (fun a p => encI (W a p)) pn sh an) (lN 1)) 1 8 an (2 ^ an) be os pn j = lN (opt (trS (enc W (posR an rk))) an pn j) := fun j hj => by
  have h8 := h.hpn
  rw [wsB_N (E := trS (fun a p => if a < an then enc W (posR an rk) a p else none)) (R := pn) (C := 43046800000000) rfl (fun r p hr hp => by
    show _ = encI (if p < an then enc W (posR an rk) p r else none)
    rw [Nat.mul_one, if_pos hp, Nat.add_comm r]; exact mt_sh h sh hp hr) (fun p a v e => mt_encb h a p v e) (by omega) pn (Nat.le_refl pn) j hj]
  congr 1
  exact opt_congr pn (fun p a _ ha => if_pos ha) j
theorem mt_X63 (h : MtH an pn n W rk ar od) (S : Nat) : opt (enc W (posR an rk)) pn an S < 2 ^ 63 := by
  have h8 := h.han
  have := opt_le (M := pn) (mt_encb h) an S
  rw [mt_cut] at this
  have := Nat.mul_le_mul_right 43046800000000 h8
  omega
theorem mt_Y63 (h : MtH an pn n W rk ar od) (T : Nat) : opt (trS (enc W (posR an rk))) an pn T < 2 ^ 63 := by
  have h8 := h.hpn
  have := opt_le (M := an) (C := 43046800000000) (sh := trS (fun a p => if a < an then enc W (posR an rk) a p else none)) (fun p a v e => mt_encb h a p v e) pn T
  rw [opt_congr (sh := trS (fun a p => if a < an then enc W (posR an rk) a p else none)) (sh' := trS (enc W (posR an rk))) pn (fun p a _ ha => if_pos ha) T] at this
  have := Nat.mul_le_mul_right 43046800000000 h8
  omega
theorem mt_div1 (h : MtH an pn n W rk ar od) (S : Nat) : opt (enc W (posR an rk)) pn an S / 43046721 = opt W pn an S := opt_enc (mt_pinj h) (mt_p8 h) S
theorem mt_div2 (h : MtH an pn n W rk ar od) (T : Nat) : opt (trS (enc W (posR an rk))) an pn T / 43046721 = opt (fun a p => if T.testBit a then W a p else none) pn an (2 ^ pn - 1) := by
  rw [opt_tr, ← opt_enc (w := fun a p => if T.testBit a then W a p else none) (mt_pinj h) (mt_p8 h)]
  congr 1
  refine opt_congr an (fun a p _ _ => ?_) _
  simp only [enc]
  split <;> rfl
/-- the reference's greatest worth, for shares that are none where the asks are closed -/
theorem mt_gO (h : MtH an pn n W rk ar od) {W' w : Nat → Nat → Option Nat} (hc : ∀ a, a < an → (∀ i, i < n → od i ≠ a) → ∀ p, W' a p = none) (hw : ∀ i q, i < n → q < pn → w i q = W' (od i) q) : gO w pn n n 0 = opt W' pn an (2 ^ pn - 1) := by
  rw [gO_opt n 0 (Nat.two_pow_pos pn), Nat.xor_zero, opt_congr (sh' := fun k => W' (od (n - 1 - k))) n (fun k p hk hp => hw (n - 1 - k) p (by omega) hp)]
  refine opt_perm (s := fun k => od (n - 1 - k)) (fun a b ha hb e => ?_) (fun k hk => h.olt _ (by omega)) (fun a ha hn => hc a ha (fun i hi e => hn (n - 1 - i) (by omega) (by show od (n - 1 - (n - 1 - i)) = a; rw [show n - 1 - (n - 1 - i) = i by omega]; exact e)))
  have := mt_oinj h (n - 1 - a) (n - 1 - b) (by omega) (by omega) e
  omega
theorem mt_tot (h : MtH an pn n W rk ar od) {w : Nat → Nat → Option Nat} (hw : ∀ i q, i < n → q < pn → w i q = W (od i) q) : opt (enc W (posR an rk)) pn an (2 ^ pn - 1) / 43046721 = gO w pn n n 0 := by
  rw [mt_div1 h, mt_gO h h.ocl hw]
theorem mt_pg (h : MtH an pn n W rk ar od) (sh be os pg : Nat → Int64) {w : Nat → Nat → Option Nat} {x : Nat} (hx : x < pn) (t : Int64) (hw : ∀ i q, i < n → q < pn → w i q = if q = x then none else W (od i) q) : gnF (wsB (turnF ar pn an (offF (fun a p => encI (W a p)) pn sh an) (lN 1)) 8 1 pn (2 ^ pn) be os an) pg t (2 ^ pn) pn x = t - lN (gO w pn n n 0) := by
  have hp : 2 ^ x < 2 ^ pn := Nat.pow_lt_pow_right (by decide) hx
  have h1 : 2 ^ pn - 1 < 2 ^ pn := Nat.sub_lt (Nat.two_pow_pos pn) (by decide)
  simp only [gnF]
  rw [if_pos hx, mt_be1 h sh be os _ (Nat.xor_lt_two_pow h1 hp), pk_lDiv (mt_X63 h _) (by decide) (by decide), mt_div1 h, mt_gO h (W' := fun a q => if q = x then none else W a q) (fun a ha hn p => by show (if p = x then none else W a p) = none; rw [h.ocl a ha hn p, ite_self]) hw, opt_rm, if_pos (by rw [Nat.testBit_two_pow_sub_one]; exact decide_eq_true hx)]
theorem mt_ag (h : MtH an pn n W rk ar od) (sh be os ag : Nat → Int64) {w : Nat → Nat → Option Nat} {x : Nat} (hx : x < an) (t : Int64) (hw : ∀ i q, i < n → q < pn → w i q = if od i = x then none else W (od i) q) : gnF (wsB (turnF ar pn an (offF (fun a p => encI (W a p)) pn sh an) (lN 1)) 1 8 an (2 ^ an) be os pn) ag t (2 ^ an) an x = t - lN (gO w pn n n 0) := by
  have hp : 2 ^ x < 2 ^ an := Nat.pow_lt_pow_right (by decide) hx
  have h1 : 2 ^ an - 1 < 2 ^ an := Nat.sub_lt (Nat.two_pow_pos an) (by decide)
  simp only [gnF]
  rw [if_pos hx, mt_be2 h sh be os _ (Nat.xor_lt_two_pow h1 hp), pk_lDiv (mt_Y63 h _) (by decide) (by decide), mt_div2 h, mt_gO h (W' := fun a q => if a = x then none else W a q) (fun a ha hn p => by show (if a = x then none else W a p) = none; rw [h.ocl a ha hn p, ite_self]) hw]
  congr 2
  refine opt_congr an (fun a p ha _ => ?_) _
  have hb : ((2 ^ an - 1) ^^^ 2 ^ x).testBit a = !decide (a = x) := by
    rw [Nat.testBit_xor, Nat.testBit_two_pow_sub_one, decide_eq_true ha, Nat.testBit_two_pow, Bool.true_xor]
    by_cases e : a = x
    · subst e; simp
    · simp [e, Ne.symm e]
  rw [hb]
  by_cases e : a = x
  · simp [e]
  · simp [e]
/-- the assignment of the greatest number -/
theorem mt_f (h : MtH an pn n W rk ar od) {w : Nat → Nat → Option Nat} (hw : ∀ i q, i < n → q < pn → w i q = W (od i) q) : ∃ f : Nat → Option Nat, (∀ a, a < an → ∀ p, f a = some p → p < pn) ∧ (∀ a, a < an → (∀ i, i < n → od i ≠ a) → f a = none) ∧ opt (enc W (posR an rk)) pn an (2 ^ pn - 1) % 43046721 = dig (fun a => dgt (f a)) (posR an rk) an ∧ (∀ i, i < n → pfW w pn n i (mtZ w pn n i) = f (od i)) := by
  obtain ⟨f, f1, f2, -⟩ := opt_ex (enc W (posR an rk)) pn an (2 ^ pn - 1)
  have f1 := enc_ok.mp f1
  have hd := enc_div (mt_pinj h) (mt_p8 h) f1
  rw [f2] at hd
  have fz : ∀ a, a < an → (∀ i, i < n → od i ≠ a) → f a = none := fun a ha c => by
    cases e : f a with
    | none => rfl
    | some p =>
      obtain ⟨-, v, hv⟩ := f1.1 a ha p e
      rw [h.ocl a ha c p] at hv
      cases hv
  have flt : ∀ a, a < an → ∀ p, f a = some p → p < pn := fun a ha p e => by
    have := (f1.1 a ha p e).1
    simp only [setB, Bool.and_eq_true, decide_eq_true_eq] at this
    exact this.1
  have oi := mt_oinj h
  -- weights over the order
  have wW : ∀ (G : Nat → Option Nat), okF w (setB pn (2 ^ pn - 1)) n G → okF (fun k => W (od k)) (setB pn (2 ^ pn - 1)) n G ∧ wt w G n = wt (fun k => W (od k)) G n := fun G hG => by
    have hl : ∀ j, j < n → ∀ q, G j = some q → q < pn := fun j hj q e => by
      have := (hG.1 j hj q e).1
      simp only [setB, Bool.and_eq_true, decide_eq_true_eq] at this
      exact this.1
    refine ⟨⟨fun j hj q e => ⟨(hG.1 j hj q e).1, by show ∃ v, W (od j) q = some v; rw [← hw j q hj (hl j hj q e)]; exact (hG.1 j hj q e).2⟩, hG.2⟩, ?_⟩
    have key : ∀ m, m ≤ n → wt w G m = wt (fun k => W (od k)) G m := fun m => by
      induction m with
      | zero => intro _; rfl
      | succ m ih =>
        intro hm
        show wt w G m + wt1 (w m) (G m) = wt (fun k => W (od k)) G m + wt1 (W (od m)) (G m)
        rw [ih (by omega)]
        cases e : G m with
        | none => rfl
        | some q => show _ + (w m q).getD 0 = _ + (W (od m) q).getD 0; rw [hw m q (by omega) (hl m (by omega) q e)]
    exact key n (Nat.le_refl n)
  have okF0 : okF w (setB pn (2 ^ pn - 1)) n (fun i => f (od i)) := by
    refine ⟨fun i hi p e => ?_, fun i j hi hj p e e' => oi i j hi hj (f1.2 (od i) (od j) (h.olt i hi) (h.olt j hj) p e e')⟩
    obtain ⟨e1, e2⟩ := f1.1 (od i) (h.olt i hi) p e
    exact ⟨e1, by rw [hw i p hi (flt _ (h.olt i hi) p e)]; exact e2⟩
  have wF : wt w (fun i => f (od i)) n = wt W f an := by
    rw [(wW _ okF0).2, ← reX_wt W (N := an) n oi h.olt, wt_congr W an (reX_self oi fz)]
  have ho : wt w (fun i => f (od i)) n = gO w pn n n 0 := by
    rw [wF, ← hd.1, mt_tot h hw]
  have lex : ∀ G i, i < n → okF w (setB pn (2 ^ pn - 1)) n G → wt w G n = wt w (fun i => f (od i)) n → (∀ j, j < i → G j = f (od j)) → dgt (G i) ≤ dgt (f (od i)) := fun G i hi hG e he => by
    rcases Nat.lt_or_ge (dgt (f (od i))) (dgt (G i)) with c | c
    · exfalso
      have g0 := wW G hG
      have g1 : okF W (setB pn (2 ^ pn - 1)) an (reX od G n) := reX_ok oi g0.1
      have g2 : wt W (reX od G n) an = wt W f an := by rw [reX_wt W n oi h.olt, ← g0.2, e, wF]
      have g3 := enc_div (mt_pinj h) (mt_p8 h) g1
      have g4 := opt_ub (enc W (posR an rk)) pn an (2 ^ pn - 1) _ (enc_ok.mpr g1)
      obtain ⟨r1, r2⟩ := reX_at (f := G) n oi
      have g5 := dig_lex (d := fun a => dgt (f a)) (d' := fun a => dgt (reX od G n a)) (pos := posR an rk) (n := an) (a0 := od i) (fun a => dgt_lt _) (fun a => dgt_lt _) (mt_pinj h) (h.olt i hi) (by show dgt (f (od i)) < dgt (reX od G n (od i)); rw [r1 i hi]; exact c) (fun a ha hpa => by
        show dgt (f a) = dgt (reX od G n a)
        by_cases c2 : ∃ j, j < n ∧ od j = a
        · obtain ⟨j, hj, rfl⟩ := c2
          have : j < i := by
            rcases Nat.lt_trichotomy j i with q | q | q
            · exact q
            · rw [q] at hpa; omega
            · have := h.osort i j q hj
              have := h.rlt (od j) (h.olt j hj)
              unfold posR at hpa
              omega
          rw [r1 j hj, he j this]
        · have c3 : ∀ j, j < n → od j ≠ a := fun j hj e => c2 ⟨j, hj, e⟩
          rw [r2 a c3, fz a ha c3])
      rw [g2] at g3
      omega
    · exact c
  have gr := greedy h.hpn okF0 ho lex n (Nat.le_refl n)
  exact ⟨f, flt, fz, hd.2, gr.1⟩
theorem mt_gv (h : MtH an pn n W rk ar od) {w : Nat → Nat → Option Nat} (hw : ∀ i q, i < n → q < pn → w i q = W (od i) q) (gi gv0 : Nat → Int32) (h0 : ∀ a, a < 8 → gv0 a = -1) : ∀ a, a < 8 → mtG w pn n od gv0 n a = if a < an then gvF ar an (opt (enc W (posR an rk)) pn an (2 ^ pn - 1) % 43046721) gi a else -1 := by
  obtain ⟨f, f1, f2, f3, f4⟩ := mt_f h hw
  have h8 := h.hpn
  have mg : ∀ m, m ≤ n → (∀ i, i < m → mtG w pn n od gv0 m (od i) = pfI (f (od i))) ∧ (∀ a, (∀ i, i < m → od i ≠ a) → mtG w pn n od gv0 m a = gv0 a) := fun m => by
    induction m with
    | zero => intro _; exact ⟨fun i hi => absurd hi (Nat.not_lt_zero i), fun _ _ => rfl⟩
    | succ m ih =>
      intro hm
      obtain ⟨i1, i2⟩ := ih (by omega)
      refine ⟨fun i hi => ?_, fun a ha => ?_⟩
      · show upd (mtG w pn n od gv0 m) (od m) (pfI (pfW w pn n m (mtZ w pn n m))) (od i) = _
        by_cases e : i = m
        · rw [e, pk_us, f4 m (by omega)]
        · rw [pk_un (fun q => e (mt_oinj h i m (by omega) (by omega) q)), i1 i (by omega)]
      · show upd (mtG w pn n od gv0 m) (od m) (pfI (pfW w pn n m (mtZ w pn n m))) a = _
        rw [pk_un (fun q => ha m (by omega) q.symm), i2 a (fun i hi => ha i (by omega))]
  obtain ⟨m1, m2⟩ := mg n (Nat.le_refl n)
  intro a ha
  by_cases hn : a < an
  · rw [if_pos hn]
    have hr := h.rlt a hn
    have e1 : gvF ar an (opt (enc W (posR an rk)) pn an (2 ^ pn - 1) % 43046721) gi a = pfI (f a) := by
      have e2 := gvF_at (ar := ar) (r := rk a) an (opt (enc W (posR an rk)) pn an (2 ^ pn - 1) % 43046721) gi (mt_arinj h) hr
      rw [mt_ark h hn] at e2
      have e3 := (dig_at (d := fun a => dgt (f a)) (pos := posR an rk) an (fun a _ => dgt_lt _) (mt_pinj h)).2 a hn
      rw [← f3] at e3
      have e4 : an - 1 - rk a = posR an rk a := rfl
      rw [e2, e4, e3]
      cases e : f a with
      | none => rfl
      | some p =>
        have := f1 a hn p e
        show (if 8 - p = 0 then -1 else nI (8 - (8 - p))) = nI p
        rw [if_neg (by omega), show 8 - (8 - p) = p by omega]
    rw [e1]
    by_cases c : ∃ i, i < n ∧ od i = a
    · obtain ⟨i, hi, rfl⟩ := c
      exact m1 i hi
    · have c' : ∀ i, i < n → od i ≠ a := fun i hi e => c ⟨i, hi, e⟩
      rw [m2 a c', f2 a hn c', h0 a ha]
      rfl
  · rw [if_neg hn, m2 a (fun i hi e => by have := h.olt i hi; omega), h0 a ha]
theorem mt_n (h : MtH an pn n W rk ar od) {w : Nat → Nat → Option Nat} (hw : ∀ i q, i < n → q < pn → w i q = W (od i) q) : gvN an (opt (enc W (posR an rk)) pn an (2 ^ pn - 1) % 43046721) 0 = mtN w pn n n := by
  obtain ⟨f, f1, f2, f3, f4⟩ := mt_f h hw
  have h8 := h.hpn
  rw [gvN_wt (h := fun r => f (ar r)) an _ 0 (fun r hr => by
    have hr2 := h.har r hr
    have e3 := (dig_at (d := fun a => dgt (f a)) (pos := posR an rk) an (fun a _ => dgt_lt _) (mt_pinj h)).2 (ar r) hr2.1
    rw [← f3] at e3
    have e4 : an - 1 - r = posR an rk (ar r) := by unfold posR; rw [hr2.2]
    rw [e4, e3]
    cases e : f (ar r) with
    | none => exact ⟨fun _ => rfl, fun _ => rfl⟩
    | some p =>
      have := f1 (ar r) hr2.1 p e
      exact ⟨fun q => by have q : 8 - p = 0 := q; omega, fun q => (nomatch q)⟩), Nat.zero_add]
  have a1 : wt one2 (fun r => f (ar r)) an = wt one2 f an := by
    have e := reX_wt one2 (s := ar) (f := fun r => f (ar r)) (N := an) an (mt_arinj h) (fun r hr => (h.har r hr).1)
    have e2 : wt (fun k => one2 (ar k)) (fun r => f (ar r)) an = wt one2 (fun r => f (ar r)) an := rfl
    rw [e2] at e
    rw [← e]
    exact wt_congr one2 an (reX_self (mt_arinj h) (fun a ha hn => absurd (mt_ark h ha) (hn _ (h.rlt a ha))))
  have a2 : wt one2 f an = wt one2 (fun i => f (od i)) n := by
    have e := reX_wt one2 (s := od) (f := fun i => f (od i)) (N := an) n (mt_oinj h) h.olt
    have e2 : wt (fun k => one2 (od k)) (fun r => f (od r)) n = wt one2 (fun r => f (od r)) n := rfl
    rw [e2] at e
    rw [← e]
    exact (wt_congr one2 an (reX_self (mt_oinj h) f2)).symm
  rw [a1, a2]
  have key : ∀ m, m ≤ n → wt one2 (fun i => f (od i)) m = mtN w pn n m := fun m => by
    induction m with
    | zero => intro _; rfl
    | succ m ih =>
      intro hm
      show wt one2 (fun i => f (od i)) m + wt1 (one2 m) (f (od m)) = mtN w pn n (m + 1)
      rw [ih (by omega)]
      simp only [mtN]
      rw [f4 m (by omega)]
      cases f (od m) with
      | none => rfl
      | some p => rfl
  exact key n (Nat.le_refl n)
end MT
