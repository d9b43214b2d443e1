/-! pure: rows that are kept in order by putting one more in its place -/
def Enum (P : Nat → Prop) (key : Nat → Nat) (i c : Nat) (g : Nat → Nat) : Prop :=
  (∀ m, m < c → g m < i ∧ P (g m)) ∧ (∀ m m', m < m' → m' < c → key (g m) < key (g m') ∨ (key (g m) = key (g m') ∧ g m < g m')) ∧ (∀ q, q < i → P q → ∃ m, m < c ∧ g m = q)
theorem enum_0 (P : Nat → Prop) (key g : Nat → Nat) : Enum P key 0 0 g := ⟨fun m h => absurd h (Nat.not_lt_zero m), fun m m' _ h => absurd h (Nat.not_lt_zero m'), fun q h => absurd h (Nat.not_lt_zero q)⟩
theorem enum_skip {P : Nat → Prop} {key : Nat → Nat} {i c : Nat} {g : Nat → Nat} (h : Enum P key i c g) (hn : ¬ P i) : Enum P key (i + 1) c g := by
  refine ⟨fun m hm => ⟨by have := (h.1 m hm).1; omega, (h.1 m hm).2⟩, h.2.1, fun q hq hP => ?_⟩
  by_cases e : q = i
  · subst e; exact absurd hP hn
  · exact h.2.2 q (by omega) hP
theorem enum_ins {P : Nat → Prop} {key : Nat → Nat} {i c : Nat} {g g' : Nat → Nat} (h : Enum P key i c g) (hP : P i) {p : Nat} (hp : p ≤ c) (h1 : p < c → key i < key (g p)) (h2 : 0 < p → key (g (p - 1)) ≤ key i) (g1 : ∀ m, m < p → g' m = g m) (g2 : g' p = i) (g3 : ∀ m, p < m → m ≤ c → g' m = g (m - 1)) : Enum P key (i + 1) (c + 1) g' := by
  obtain ⟨a1, a2, a3⟩ := h
  have le : ∀ m, m < p → key (g m) ≤ key i := fun m hm => by
    have q := h2 (by omega)
    by_cases e : m = p - 1
    · rw [e]; exact q
    · have := a2 m (p - 1) (by omega) (by omega); omega
  have gt : ∀ m, p ≤ m → m < c → key i < key (g m) := fun m hm hc => by
    have q := h1 (by omega)
    by_cases e : m = p
    · rw [e]; exact q
    · have := a2 p m (by omega) hc; omega
  refine ⟨fun m hm => ?_, fun m m' hmm hm' => ?_, fun q hq hPq => ?_⟩
  · rcases Nat.lt_trichotomy m p with e | e | e
    · rw [g1 m e]; have := a1 m (by omega); exact ⟨by omega, this.2⟩
    · rw [e, g2]; exact ⟨by omega, hP⟩
    · rw [g3 m e (by omega)]; have := a1 (m - 1) (by omega); exact ⟨by omega, this.2⟩
  · rcases Nat.lt_trichotomy m p with e | e | e
    · rw [g1 m e]
      rcases Nat.lt_trichotomy m' p with e' | e' | e'
      · rw [g1 m' e']; exact a2 m m' hmm (by omega)
      · rw [e', g2]
        have := le m e
        have := (a1 m (by omega)).1
        omega
      · rw [g3 m' e' (by omega)]
        have := le m e
        have := gt (m' - 1) (by omega) (by omega)
        omega
    · rw [e, g2, g3 m' (by omega) (by omega)]
      have := gt (m' - 1) (by omega) (by omega)
      omega
    · rw [g3 m e (by omega), g3 m' (by omega) (by omega)]
      exact a2 (m - 1) (m' - 1) (by omega) (by omega)
  · by_cases e : q = i
    · exact ⟨p, by omega, by rw [g2, e]⟩
    · obtain ⟨m, hm, hq2⟩ := a3 q (by omega) hPq
      by_cases hmp : m < p
      · exact ⟨m, by omega, by rw [g1 m hmp]; exact hq2⟩
      · exact ⟨m + 1, by omega, by rw [g3 (m + 1) (by omega) (by omega)]; exact hq2⟩
theorem enum_inj {P : Nat → Prop} {key : Nat → Nat} {i c : Nat} {g : Nat → Nat} (h : Enum P key i c g) {m m' : Nat} (hm : m < c) (hm' : m' < c) (e : g m = g m') : m = m' := by
  rcases Nat.lt_trichotomy m m' with q | q | q
  · have := h.2.1 m m' q hm'; rw [e] at this; omega
  · exact q
  · have := h.2.1 m' m q hm; rw [e] at this; omega
/-! one more price, put in its place -/
theorem insF_gt (v : Nat) : ∀ (j : Nat) (f : Nat → Nat) (m : Nat), j < m → insF v j f m = f m
  | 0, f, m, h => updN_n _ _ (by omega)
  | j + 1, f, m, h => by
    simp only [insF]
    split
    · rw [insF_gt v j _ m (by omega), updN_n _ _ (by omega)]
    · exact updN_n _ _ (by omega)
theorem insF_at (v : Nat) : ∀ (j : Nat) (f : Nat → Nat), ∃ p, p ≤ j ∧ (p < j → v < f p) ∧ (0 < p → f (p - 1) ≤ v) ∧ (∀ m, m < p → insF v j f m = f m) ∧ insF v j f p = v ∧ (∀ m, p < m → m ≤ j → insF v j f m = f (m - 1))
  | 0, f => ⟨0, Nat.le_refl 0, fun h => absurd h (Nat.lt_irrefl 0), fun h => absurd h (Nat.lt_irrefl 0), fun m h => absurd h (Nat.not_lt_zero m), updN_s _ _ _, fun m h1 h2 => by omega⟩
  | j + 1, f => by
    by_cases e : v < f j
    · obtain ⟨p, h1, h2, h3, h4, h5, h6⟩ := insF_at v j (updN f (j + 1) (f j))
      have lo : ∀ m, m ≤ j → updN f (j + 1) (f j) m = f m := fun m hm => updN_n _ _ (by omega)
      have hi : insF v (j + 1) f = insF v j (updN f (j + 1) (f j)) := if_pos e
      rw [hi]
      refine ⟨p, by omega, fun _ => ?_, fun h => ?_, fun m hm => ?_, h5, fun m hm hm2 => ?_⟩
      · by_cases q : p = j
        · rw [q]; exact e
        · rw [← lo p (by omega)]; exact h2 (by omega)
      · rw [← lo (p - 1) (by omega)]; exact h3 h
      · rw [h4 m hm, lo m (by omega)]
      · by_cases q : m = j + 1
        · rw [q, insF_gt v j _ (j + 1) (by omega), updN_s]; rfl
        · rw [h6 m hm (by omega), lo (m - 1) (by omega)]
    · have hi : insF v (j + 1) f = updN f (j + 1) v := if_neg e
      rw [hi]
      exact ⟨j + 1, Nat.le_refl _, fun h => absurd h (Nat.lt_irrefl _), fun _ => by show f (j + 1 - 1) ≤ v; rw [Nat.add_sub_cancel]; omega, fun m hm => updN_n _ _ (by omega), updN_s _ _ _, fun m h1 h2 => by omega⟩
section PL
variable {kd aG sT dY rA rC : Nat → Nat} {rn td : Nat} {fc : Nat → Nat} {fp : Nat → Nat → Nat}
/-- the class's row of a kind's prices holds the free parts of that kind in order -/
theorem skC_enum (k : Nat) (h0 : fc k = 0) : ∀ i, ∃ g, Enum (fun q => kd q = k ∧ stOn (sT q) (dY q) td = 0) (fun q => prM rA rC (aG q) rn) i ((skC kd aG sT dY rA rC rn td fc fp i).1 k) g ∧ ∀ m, m < (skC kd aG sT dY rA rC rn td fc fp i).1 k → (skC kd aG sT dY rA rC rn td fc fp i).2 k m = prM rA rC (aG (g m)) rn
  | 0 => ⟨fun _ => 0, by show Enum _ _ 0 (fc k) _; rw [h0]; exact enum_0 _ _ _, fun m h => by have h : m < fc k := h; omega⟩
  | i + 1 => by
    obtain ⟨g, e1, e2⟩ := skC_enum k h0 i
    simp only [skC]
    by_cases hs : stOn (sT i) (dY i) td = 0
    · rw [if_pos hs]
      by_cases hk : kd i = k
      · subst hk
        simp only [updN, va_up, if_true]
        generalize hc : (skC kd aG sT dY rA rC rn td fc fp i).1 (kd i) = c at *
        generalize hf : (skC kd aG sT dY rA rC rn td fc fp i).2 (kd i) = f at *
        obtain ⟨p, h1, h2, h3, h4, h5, h6⟩ := insF_at (prM rA rC (aG i) rn) c f
        refine ⟨fun m => if m < p then g m else if m = p then i else g (m - 1), ?_, fun m hm => ?_⟩
        · refine enum_ins (p := p) e1 ⟨rfl, hs⟩ h1 (fun q => ?_) (fun q => ?_) (fun m hm => if_pos hm) (by rw [if_neg (Nat.lt_irrefl p), if_pos rfl]) (fun m hm _ => by rw [if_neg (by omega), if_neg (by omega)])
          · have := h2 q; rw [e2 p q] at this; exact this
          · have := h3 q; rw [e2 (p - 1) (by omega)] at this; exact this
        · show insF _ c f m = prM rA rC (aG (if m < p then g m else if m = p then i else g (m - 1))) rn
          rcases Nat.lt_trichotomy m p with e | e | e
          · rw [if_pos e, h4 m e, e2 m (by omega)]
          · rw [if_neg (by omega), if_pos e, e, h5]
          · rw [if_neg (by omega), if_neg (by omega), h6 m e (by omega), e2 (m - 1) (by omega)]
      · have n1 : ¬ k = kd i := fun z => hk z.symm
        simp only [updN, va_up, if_neg n1]
        exact ⟨g, enum_skip e1 (fun z => hk z.1), e2⟩
    · rw [if_neg hs]
      exact ⟨g, enum_skip e1 (fun z => hs z.2), e2⟩
end PL
/-! the reference's repeated least price -/
theorem selM_ok {kd sT dY pz : Nat → Nat} {td k z : Nat} : ∀ n, (∀ b, selM kd sT dY pz td k z n = some b → b < n ∧ (kd b = k ∧ stOn (sT b) (dY b) td = 0 ∧ z / 2 ^ b % 2 = 0) ∧ ∀ q, q < n → (kd q = k ∧ stOn (sT q) (dY q) td = 0 ∧ z / 2 ^ q % 2 = 0) → q ≠ b → pz b < pz q ∨ (pz b = pz q ∧ b < q)) ∧ (selM kd sT dY pz td k z n = none → ∀ q, q < n → ¬ (kd q = k ∧ stOn (sT q) (dY q) td = 0 ∧ z / 2 ^ q % 2 = 0))
  | 0 => ⟨fun b h => (nomatch h), fun _ q h => absurd h (Nat.not_lt_zero q)⟩
  | n + 1 => by
    obtain ⟨h1, h2⟩ := selM_ok (kd := kd) (sT := sT) (dY := dY) (pz := pz) (td := td) (k := k) (z := z) n
    simp only [selM]
    by_cases hE : kd n = k ∧ stOn (sT n) (dY n) td = 0 ∧ z / 2 ^ n % 2 = 0
    · cases hs : selM kd sT dY pz td k z n with
      | none =>
        rw [if_pos ⟨hE, rfl⟩]
        refine ⟨fun b hb => ?_, fun h => (nomatch h)⟩
        cases hb
        exact ⟨by omega, hE, fun q hq hqE hne => absurd hqE (h2 hs q (by omega))⟩
      | some c =>
        obtain ⟨c1, c2, c3⟩ := h1 c hs
        by_cases hb : pz n < pz c
        · have e : betB pz n (some c) = true := decide_eq_true hb
          rw [if_pos ⟨hE, e⟩]
          refine ⟨fun b hb2 => ?_, fun h => (nomatch h)⟩
          cases hb2
          refine ⟨by omega, hE, fun q hq hqE hne => ?_⟩
          by_cases e3 : q = c
          · rw [e3]; exact Or.inl hb
          · have := c3 q (by omega) hqE e3; omega
        · have e : ¬ betB pz n (some c) = true := fun h => hb (of_decide_eq_true h)
          rw [if_neg (fun h => e h.2)]
          refine ⟨fun b hb2 => ?_, fun h => (nomatch h)⟩
          cases hb2
          refine ⟨by omega, c2, fun q hq hqE hne => ?_⟩
          by_cases e3 : q = n
          · rw [e3]; omega
          · exact c3 q (by omega) hqE hne
    · rw [if_neg (fun h => hE h.1)]
      refine ⟨fun b hb => ?_, fun h q hq => ?_⟩
      · obtain ⟨c1, c2, c3⟩ := h1 b hb
        refine ⟨by omega, c2, fun q hq hqE hne => ?_⟩
        by_cases e3 : q = n
        · rw [e3] at hqE; exact absurd hqE hE
        · exact c3 q (by omega) hqE hne
      · by_cases e3 : q = n
        · rw [e3]; exact hE
        · exact h2 h q (by omega)
theorem tb_dm (z q : Nat) : z.testBit q = true ↔ z / 2 ^ q % 2 = 1 := by
  rw [Nat.testBit_eq_decide_div_mod_eq]; exact decide_eq_true_iff
theorem dm_or (z b q : Nat) : (z ||| 2 ^ b) / 2 ^ q % 2 = 1 ↔ z / 2 ^ q % 2 = 1 ∨ b = q := by
  rw [← tb_dm, ← tb_dm, Nat.testBit_or, Nat.testBit_two_pow, Bool.or_eq_true, decide_eq_true_iff]
theorem csT_enum {kd sT dY pz : Nat → Nat} {td k pn c : Nat} {g : Nat → Nat} (h : Enum (fun q => kd q = k ∧ stOn (sT q) (dY q) td = 0) pz pn c g) {F : Nat → Nat} (hF : ∀ m, m < c → F m = pz (g m)) : ∀ n, n ≤ c → ∃ z, csT (fun z => selM kd sT dY pz td k z pn) pz n = some (psm F n, z) ∧ ∀ q, z / 2 ^ q % 2 = 1 ↔ ∃ m, m < n ∧ g m = q
  | 0, _ => ⟨0, rfl, fun q => by rw [Nat.zero_div]; exact ⟨fun h => absurd h (by decide), fun ⟨m, hm, _⟩ => absurd hm (Nat.not_lt_zero m)⟩⟩
  | n + 1, hn => by
    obtain ⟨z, h1, h2⟩ := csT_enum h hF n (by omega)
    have hz : ∀ q, z / 2 ^ q % 2 = 0 ↔ ¬ ∃ m, m < n ∧ g m = q := fun q => by rw [← h2 q]; omega
    have hel : kd (g n) = k ∧ stOn (sT (g n)) (dY (g n)) td = 0 ∧ z / 2 ^ g n % 2 = 0 := by
      refine ⟨(h.1 n (by omega)).2.1, (h.1 n (by omega)).2.2, (hz _).mpr ?_⟩
      rintro ⟨m, hm, e⟩
      have := enum_inj h (by omega) (by omega) e
      omega
    have hs : selM kd sT dY pz td k z pn = some (g n) := by
      have ok := selM_ok (kd := kd) (sT := sT) (dY := dY) (pz := pz) (td := td) (k := k) (z := z) pn
      cases hc : selM kd sT dY pz td k z pn with
      | none => exact absurd hel (ok.2 hc (g n) (h.1 n (by omega)).1)
      | some b =>
        obtain ⟨b1, b2, b3⟩ := ok.1 b hc
        obtain ⟨m, hm, e⟩ := h.2.2 b b1 ⟨b2.1, b2.2.1⟩
        by_cases hmn : m = n
        · rw [← e, hmn]
        · have hm2 : n < m := by
            rcases Nat.lt_or_gt_of_ne hmn with q | q
            · exact absurd ⟨m, q, e⟩ ((hz b).mp b2.2.2)
            · exact q
          have o1 := h.2.1 n m hm2 hm
          have o2 := b3 (g n) (h.1 n (by omega)).1 hel (by rw [← e]; intro q; have := enum_inj h (by omega) hm q; omega)
          rw [e] at o1
          omega
    refine ⟨z ||| 2 ^ g n, ?_, fun q => ?_⟩
    · simp only [csT, h1, hs, psm]
      rw [hF n (by omega)]
    · rw [dm_or, h2 q]
      constructor
      · rintro (⟨m, hm, e⟩ | e)
        · exact ⟨m, by omega, e⟩
        · exact ⟨n, by omega, e⟩
      · rintro ⟨m, hm, e⟩
        by_cases q : m = n
        · rw [q] at e; exact Or.inr e
        · exact Or.inl ⟨m, by omega, e⟩
theorem cost1_enum {kd sT dY pz : Nat → Nat} {td k pn c : Nat} {g : Nat → Nat} (h : Enum (fun q => kd q = k ∧ stOn (sT q) (dY q) td = 0) pz pn c g) {F : Nat → Nat} (hF : ∀ m, m < c → F m = pz (g m)) (n : Nat) : cost1 (fun z => selM kd sT dY pz td k z pn) pz n = if n ≤ c then some (psm F n) else none := by
  by_cases hn : n ≤ c
  · obtain ⟨z, h1, -⟩ := csT_enum h hF n hn
    rw [if_pos hn]
    simp only [cost1, h1]
  · obtain ⟨z, h1, h2⟩ := csT_enum h hF c (Nat.le_refl c)
    have hs : selM kd sT dY pz td k z pn = none := by
      have ok := selM_ok (kd := kd) (sT := sT) (dY := dY) (pz := pz) (td := td) (k := k) (z := z) pn
      cases hc : selM kd sT dY pz td k z pn with
      | none => rfl
      | some b =>
        obtain ⟨b1, b2, -⟩ := ok.1 b hc
        have := (h2 b).mpr (h.2.2 b b1 ⟨b2.1, b2.2.1⟩)
        omega
    have hc1 : csT (fun z => selM kd sT dY pz td k z pn) pz (c + 1) = none := by
      simp only [csT, h1, hs]
    have := csT_none hc1 (n - (c + 1))
    rw [show c + 1 + (n - (c + 1)) = n by omega] at this
    rw [if_neg hn]
    simp only [cost1, this]
theorem cjM_congr {C C' : Nat → Option Nat} : ∀ n, (∀ k, k < n → C k = C' k) → cjM C n = cjM C' n
  | 0, _ => rfl
  | n + 1, h => by
    simp only [cjM]
    rw [cjM_congr n (fun k hk => h k (by omega)), h n (by omega)]
theorem nd_eq {jne : Nat → Nat → Nat} {nd : Nat → Nat} {z k : Nat} : ∀ n, (∀ j, j < n → jne j k = nd (6 * j + k)) → ndC jne z k n = mnM nd z k n
  | 0, _ => rfl
  | n + 1, h => by
    simp only [ndC, mnM]
    rw [nd_eq n (fun j hj => h j (by omega)), h n (by omega)]
/-- the class's plan is the reference's -/
theorem plan_eq {kd aG sT dY rA rC : Nat → Nat} {rn td pn jn : Nat} {fc : Nat → Nat} {fp jne : Nat → Nat → Nat} {nd : Nat → Nat} (hj : ∀ j k, j < jn → k < 6 → jne j k = nd (6 * j + k)) :
    (fun z => cjM (kcC (skC kd aG sT dY rA rC rn td (zf fc 6) fp pn).1 (skC kd aG sT dY rA rC rn td (zf fc 6) fp pn).2 jne z jn) 6) = (fun z => cjM (fun k => cost1 (fun z => selM kd sT dY (fun q => prM rA rC (aG q) rn) td k z pn) (fun q => prM rA rC (aG q) rn) (mnM nd z k jn)) 6) := by
  funext z
  apply cjM_congr
  intro k hk
  obtain ⟨g, h1, h2⟩ := skC_enum (kd := kd) (aG := aG) (sT := sT) (dY := dY) (rA := rA) (rC := rC) (rn := rn) (td := td) (fc := zf fc 6) (fp := fp) k (zf_6 fc hk) pn
  rw [cost1_enum h1 h2, ← nd_eq jn (fun j hj2 => hj j k hj2 hk)]
  rfl
/-! recalls, late tools -/
theorem rc_eq {kd sR sT wh mtl : Nat → Nat} {ppe tl : Nat → Int32} {k : Nat} {v u : Int64} (h : ∀ i, sT i = 2 → ppe i = nI (wh i)) : ∀ n j, j < rcT kd sR sT k v u n → rcK kd sR sT ppe tl k v u n j = nI (rcL kd sR sT wh mtl k v u n j)
  | 0, j, hj => absurd hj (Nat.not_lt_zero j)
  | n + 1, j, hj => by
    have ih := rc_eq (kd := kd) (sR := sR) (mtl := mtl) (tl := tl) (k := k) (v := v) (u := u) h n j
    simp only [rcT] at hj
    simp only [rcK, rcL]
    by_cases c : rcC kd sR k v u n ∧ sT n = 2
    · rw [if_pos c] at hj ⊢
      rw [if_pos c]
      by_cases e : j = rcT kd sR sT k v u n
      · rw [e, pk_us, updN_s, h n c.2, nI_add]
      · rw [pk_un e, updN_n _ _ e]
        exact ih (by omega)
    · rw [if_neg c] at hj ⊢
      rw [if_neg c]
      exact ih hj
theorem rcS_n {kd sR sT : Nat → Nat} {k : Nat} {v u : Int64} (j : Nat) : ∀ n, rcS kd sR sT k v u n j = 3 ∨ rcS kd sR sT k v u n j = sT j
  | 0 => Or.inr rfl
  | n + 1 => by
    have ih := rcS_n (kd := kd) (sR := sR) (sT := sT) (k := k) (v := v) (u := u) j n
    simp only [rcS]
    split
    · simp only [updN]; split
      · exact Or.inl rfl
      · exact ih
    · exact ih
theorem late_eq {lt lt' : Nat → Int32} {lD : Nat → Nat} {td : Nat} {x : Int32} : ∀ f t z, (∀ q, q < t + f → (lt q = 0 ↔ lt' q = 0)) → lateM lt lD td x f t z = lateM lt' lD td x f t z
  | 0, _, _, _ => rfl
  | f + 1, t, z, h => by
    simp only [lateM]
    rw [late_eq f (t + 1) (z + 1) (fun q hq => h q (by omega)), late_eq f (t + 1) z (fun q hq => h q (by omega))]
    have e := h t (by omega)
    by_cases c : lt t = 0
    · rw [if_neg (fun q => q.1 c), if_neg (fun q => q.1 (e.mp c))]
    · have c' : ¬ lt' t = 0 := fun q => c (e.mpr q)
      by_cases d : lD t < td
      · simp only [c, c', d, not_false_eq_true, and_self, if_true]
      · simp only [d, and_false, if_false]
