/-! match -/
abbrev cWE (c : CS) : Nat → Nat → Option Nat := fun a p => wC c.ft c.rA c.rC c.rn c.td c.kd c.aG c.sT c.dY c.pho c.anu c.pd c.cN c.aop a p
abbrev cRk (c : CS) : Nat → Nat := fun b9 => rkC c.anu c.mN b9 c.an
abbrev cSH (c : CS) (arN : Nat → Nat) : Nat → Int64 := turnF arN c.pn c.an (offF (fun a p => encI (wC c.ft c.rA c.rC c.rn c.td c.kd c.aG c.sT c.dY c.pho c.anu c.pd c.cN c.aop a p)) c.pn c.sh c.an) (lN 1)
abbrev cB1 (c : CS) (arN : Nat → Nat) : Nat → Int64 := wsB (cSH c arN) 8 1 c.pn (2 ^ c.pn) c.be c.os c.an
abbrev cO1 (c : CS) (arN : Nat → Nat) : Nat → Int64 := wsOs (cSH c arN) 8 1 c.pn c.os c.an
abbrev cB2 (c : CS) (arN : Nat → Nat) : Nat → Int64 := wsB (cSH c arN) 1 8 c.an (2 ^ c.an) (cB1 c arN) (cO1 c arN) c.pn
abbrev mOd (c : CS) (m : MS) : Nat → Nat := srO m.sv c.mN m.od c.an
abbrev mN' (c : CS) (m : MS) : Nat := srN m.sv c.an
abbrev mWO (c : CS) (m : MS) (x y : Int32) : Nat → Nat → Option Nat := wOf c.td c.rn c.an c.rA c.rC c.ft c.kd c.aG c.sT m.wh c.dY c.pd c.cN m.sv (mOd c m) x y
def cX (c : CS) : Nat := opt (enc (cWE c) (posR c.an (cRk c))) c.pn c.an (2 ^ c.pn - 1)
theorem mtG_v {w : Nat → Nat → Option Nat} {pn n : Nat} {od : Nat → Nat} {gv : Nat → Int32} (j : Nat) : ∀ i, mtG w pn n od gv i j = gv j ∨ mtG w pn n od gv i j = -1 ∨ ∃ k, k < pn ∧ mtG w pn n od gv i j = nI k
  | 0 => Or.inl rfl
  | i + 1 => by
    have ih := mtG_v (w := w) (pn := pn) (n := n) (od := od) (gv := gv) j i
    show upd (mtG w pn n od gv i) (od i) (pfI (pfW w pn n i (mtZ w pn n i))) j = gv j ∨ _
    by_cases e : j = od i
    · have e1 : mtG w pn n od gv (i + 1) j = pfI (pfW w pn n i (mtZ w pn n i)) := by rw [e]; exact pk_us
      cases hq : pfW w pn n i (mtZ w pn n i) with
      | none => rw [hq] at e1; exact Or.inr (Or.inl e1)
      | some q => rw [hq] at e1; exact Or.inr (Or.inr ⟨q, pfW_lt hq, e1⟩)
    · have e1 : mtG w pn n od gv (i + 1) j = mtG w pn n od gv i j := pk_un e
      rw [pk_un e]
      rcases ih with ih | ih | ⟨k, hk, ih⟩
      · exact Or.inl ih
      · exact Or.inr (Or.inl (e1.trans ih))
      · exact Or.inr (Or.inr ⟨k, hk, e1.trans ih⟩)
theorem fillL_in1 {gn F1 F2 : Nat → Int64} {a b p : Nat} (hp : p < a) (h8 : a ≤ 8) : fillL (fillL gn 0 F1 a) 8 F2 b p = F1 p := by
  simp only [fillL]
  rw [if_neg (by omega), if_pos (by omega), Nat.sub_zero]
theorem fillL_in2 {g F2 : Nat → Int64} {b x : Nat} (hx : x < b) : fillL g 8 F2 b (8 + x) = F2 x := by
  simp only [fillL]
  rw [if_pos (by omega), Nat.add_sub_cancel_left]
section SM
variable {c : CS} {m : MS}
theorem wE_eq (h : Rel c m) {a p : Nat} (ha : a < c.an) : cWE c a p = if prsO c.td c.rn c.an c.rA c.rC c.ft c.kd c.aG c.sT m.wh c.dY c.pd c.cN m.sv p a then some (c.cN a - prM c.rA c.rC (c.aG p) c.rn) else none := by
  show pwO c.ft c.rA c.rC c.rn c.td (c.kd p) (c.aG p) (c.sT p) (c.dY p) (c.pho p) (c.anu a) (c.pd a) (c.cN a) (c.aop a) = _
  unfold pwO
  exact ite_iff (pw_pr h ha) _ _
theorem mt_H (h : Rel c m) : ∃ arN : Nat → Nat, MtH c.an c.pn (mN' c m) (cWE c) (cRk c) arN (mOd c m) ∧ ∀ r, r < c.an → arF (fun b9 => rkC c.anu c.mN b9 c.an) c.ar c.an r = nI (arN r) ∧ arN r < 8 := by
  obtain ⟨arN, ha⟩ := rk_inv (nu := c.anu) (mi := c.mN) (n := c.an) h.lnu
  have en := srO_enum (sv := m.sv) (mN := c.mN) (od := m.od) c.an
  have h8 := h.han
  have ri : ∀ a b, a < c.an → b < c.an → cRk c a = cRk c b → a = b := fun a b ha hb e => rk_inj h.lnu ha hb e
  refine ⟨arN, ⟨h.hpn, h.han, fun a p v e => ?_, ri, fun a ha => rk_lt ha, ha, fun i hi => (en.1 i hi).1, fun i j hij hj => ?_, fun a ha hn p => ?_⟩, fun r hr => ⟨?_, by have := (ha r hr).1; omega⟩⟩
  · have e : pwO c.ft c.rA c.rC c.rn c.td (c.kd p) (c.aG p) (c.sT p) (c.dY p) (c.pho p) (c.anu a) (c.pd a) (c.cN a) (c.aop a) = some v := e
    unfold pwO at e
    split at e
    · cases e; have := h.hcN a; omega
    · cases e
  · have l := en.2.1 i j hij hj
    have l1 := (en.1 i (Nat.lt_trans hij hj)).1
    have l2 := (en.1 j hj).1
    refine (rk_mono (nu := c.anu) (mi := c.mN) (a := mOd c m i) (b := mOd c m j) ?_ c.an).2 l1
    unfold bef
    rw [h.lnu _ l1, h.lnu _ l2]
    exact l
  · rw [wE_eq h ha]
    refine if_neg (fun q => ?_)
    obtain ⟨i, hi, e⟩ := en.2.2 a ha q.2.1.2
    exact hn i hi e
  · have e := arF_at (rk := cRk c) (ar := c.ar) c.an ri (arN r) (ha r hr).1
    have e2 : cRk c (arN r) = r := (ha r hr).2
    rw [e2] at e
    exact e
theorem mw_lt  {i : Nat} (hi : i < mN' c m) : mOd c m i < c.an := (srO_enum (sv := m.sv) (mN := c.mN) (od := m.od) c.an).1 i hi |>.1
theorem mw_0 (h : Rel c m) : ∀ i q, i < mN' c m → q < c.pn → mWO c m (-1) (-1) i q = cWE c (mOd c m i) q := fun i q hi hq => by
  have h8 := h.hpn
  rw [wE_eq h (mw_lt hi)]
  exact wOf_m1 (srO_lt h.hod c.an h.han) (by omega)
theorem mw_p (h : Rel c m) {x : Nat} (hx : x < c.pn) : ∀ i q, i < mN' c m → q < c.pn → mWO c m (nI x) (-1) i q = if q = x then none else cWE c (mOd c m i) q := fun i q hi hq => by
  have h8 := h.hpn
  have ho : mOd c m i < 8 := srO_lt (sv := m.sv) (mN := c.mN) h.hod c.an h.han i
  rw [wE_eq h (mw_lt hi)]
  show wOf c.td c.rn c.an c.rA c.rC c.ft c.kd c.aG c.sT m.wh c.dY c.pd c.cN m.sv (mOd c m) (nI x) (-1) i q = _
  unfold wOf
  rw [if_neg (m1_ne (by omega))]
  by_cases e : q = x
  · rw [if_pos e, if_neg (fun z => z.1 (by rw [e]))]
  · rw [if_neg e]
    have ne : ¬ nI q = nI x := fun z => e ((nI_eq (by omega) (by omega)).mp z)
    exact ite_iff ⟨fun z => z.2, fun z => ⟨ne, z⟩⟩ _ _
theorem mw_a (h : Rel c m) {x : Nat} (hx : x < c.an) : ∀ i q, i < mN' c m → q < c.pn → mWO c m (-1) (nI x) i q = if mOd c m i = x then none else cWE c (mOd c m i) q := fun i q hi hq => by
  have h8 := h.hpn
  have ha8 := h.han
  have ho : mOd c m i < 8 := srO_lt (sv := m.sv) (mN := c.mN) h.hod c.an h.han i
  rw [wE_eq h (mw_lt hi)]
  show wOf c.td c.rn c.an c.rA c.rC c.ft c.kd c.aG c.sT m.wh c.dY c.pd c.cN m.sv (mOd c m) (-1) (nI x) i q = _
  unfold wOf
  by_cases e : mOd c m i = x
  · rw [if_pos e, if_pos (by show nI (mOd c m i) = nI x; rw [e])]
  · rw [if_neg e, if_neg (fun z => e ((nI_eq (by omega) (by omega)).mp z))]
    have ne : ¬ nI q = -1 := m1_ne (by omega)
    exact ite_iff ⟨fun z => z.2, fun z => ⟨ne, z⟩⟩ _ _
variable {arN : Nat → Nat}
theorem mt_hX (hM : MtH c.an c.pn (mN' c m) (cWE c) (cRk c) arN (mOd c m)) : cB1 c arN (2 ^ c.pn - 1) = lN (cX c) ∧ cX c < 2 ^ 63 := ⟨mt_be1 hM c.sh c.be c.os _ (Nat.sub_lt (Nat.two_pow_pos _) (by decide)), mt_X63 hM _⟩
theorem an_match (h : Rel c m) (hM : MtH c.an c.pn (mN' c m) (cWE c) (cRk c) arN (mOd c m)) : nI (gvN c.an (cX c % 43046721) 0) = nI (mtN (mWO c m (-1) (-1)) c.pn (mN' c m) (mN' c m)) := congrArg nI (mt_n hM (mw_0 h))
theorem st_match (h : Rel c m) (hM : MtH c.an c.pn (mN' c m) (cWE c) (cRk c) arN (mOd c m)) : Rel (mkCS c.ad c.qR c.lp c.la c.lj c.qM c.qN c.ft c.wr c.tl c.tn c.bo c.lD c.td c.rA c.rC c.rn c.mdp c.xp c.pn c.pa c.kd c.aG c.sR c.sT c.dY c.pho c.ppe c.mda c.xa c.an c.aa c.anu c.pd c.cN c.mN c.aop c.rr c.fc c.ntot c.ch c.fp c.mdj c.xj c.jn c.ja c.jx c.jne (cSH c arN) (cB2 c arN) (wsOb (cSH c arN) 1 8 c.an (wsOb (cSH c arN) 8 1 c.pn c.ob c.an) c.pn) (wsOs (cSH c arN) 1 8 c.an (cO1 c arN) c.pn) (wsOc (cSH c arN) 1 8 c.an (wsOc (cSH c arN) 8 1 c.pn c.oc c.an) c.pn) (arF (fun b9 => rkC c.anu c.mN b9 c.an) c.ar c.an) (gvF arN c.an (cX c % 43046721) c.gi) (gnF (cB1 c arN) c.pg (lN (cX c / 43046721)) (2 ^ c.pn) c.pn) (gnF (cB2 c arN) c.ag (lN (cX c / 43046721)) (2 ^ c.an) c.an) (c.pn) (c.an) (gvN c.an (cX c % 43046721) 0) (lN (cX c / 43046721))) (mkMS m.ad (nI 1) (lN (gO (mWO c m (-1) (-1)) c.pn (mN' c m) (mN' c m) 0)) (c.pn) (c.an) m.bp m.fc m.fj m.wh m.sv m.nd m.tl m.lt m.lT (mtG (mWO c m (-1) (-1)) c.pn (mN' c m) (mOd c m) (fillM m.gv 8) (mN' c m)) (fillL (fillL m.gn 0 (fun kq => lN (gO (mWO c m (-1) (-1)) c.pn (mN' c m) (mN' c m) 0) - lN (gO (mWO c m (nI kq) (-1)) c.pn (mN' c m) (mN' c m) 0)) c.pn) 8 (fun kq => lN (gO (mWO c m (-1) (-1)) c.pn (mN' c m) (mN' c m) 0) - lN (gO (mWO c m (-1) (nI kq)) c.pn (mN' c m) (mN' c m) 0)) c.an) (mOd c m) (brF (mWO c m (-1) (-1)) c.pn (mN' c m) (brI (fun kq => mWO c m (-1) (nI kq)) c.pn (mN' c m) (brI (fun kq => mWO c m (nI kq) (-1)) c.pn (mN' c m) (brF (mWO c m (-1) (-1)) c.pn (mN' c m) m.br (mN' c m)) c.pn) c.an) (mN' c m))) := by
  have h8 := h.hpn
  have ha8 := h.han
  have tot : cX c / 43046721 = gO (mWO c m (-1) (-1)) c.pn (mN' c m) (mN' c m) 0 := mt_tot hM (mw_0 h)
  have f0 : ∀ a, a < 8 → fillM m.gv 8 a = -1 := fun a ha => if_pos ha
  refine (mkRel (htd := h.htd) (hrn := h.hrn) (hpn := h.hpn) (han := h.han) (hjn := h.hjn) (htn := h.htn) (hrA := h.hrA) (hrC := h.hrC) (hkd := h.hkd) (haG := h.haG) (hsT := h.hsT) (hdY := h.hdY) (hpd := h.hpd) (hcN := h.hcN) (hmN := h.hmN) (hwr := h.hwr) (hlD := h.hlD) (hfc := h.hfc) (hfp := h.hfp) (hne := h.hne) (hnd := h.hnd) (hwh := h.hwh) (hod := srO_lt h.hod c.an ha8) (hch := h.hch) (hmp := h8) (hma := ha8) (hsold := h.hsold) (fsT := h.fsT) (fdY := h.fdY) (fsv := h.fsv) (fnd := h.fnd) (lho := h.lho) (lpe := h.lpe) (lnu := h.lnu) (lop := h.lop) (lbo := h.lbo) (hlT := h.hlT) (ltl := h.ltl) (lne := h.lne) (lnt := h.lnt) (lch := h.lch) (lmt := ?_) (lgv := mt_gv hM (mw_0 h) c.gi (fillM m.gv 8) f0) (hgv := fun j => ?_) (hgk := fun a ha => ?_) (lm0 := fun z => absurd z (show ¬ nI 1 = 0 by decide)) (lm1 := fun _ => ⟨rfl, rfl⟩) (hgp := h8) (hga := ha8) (lpg := fun p hp => ?_) (lag := fun a ha => ?_))
  · show lN (cX c / 43046721) = if nI 1 = 0 then -1 else lN _
    rw [if_neg (by decide), tot]
  · rcases mtG_v (w := mWO c m (-1) (-1)) (pn := c.pn) (n := mN' c m) (od := mOd c m) (gv := fillM m.gv 8) j (mN' c m) with e | e | ⟨k, hk, e⟩
    · by_cases hj : j < 8
      · exact Or.inl (e.trans (f0 j hj))
      · rcases h.hgv j with g | ⟨k, hk, g⟩
        · exact Or.inl (e.trans ((if_neg hj).trans g))
        · exact Or.inr ⟨k, hk, e.trans ((if_neg hj).trans g)⟩
    · exact Or.inl e
    · exact Or.inr ⟨k, by omega, e⟩
  · rcases mtG_v (w := mWO c m (-1) (-1)) (pn := c.pn) (n := mN' c m) (od := mOd c m) (gv := fillM m.gv 8) a (mN' c m) with e | e | ⟨k, hk, e⟩
    · exact Or.inl (e.trans (f0 a ha))
    · exact Or.inl e
    · exact Or.inr ⟨k, hk, e⟩
  · have hp : p < c.pn := hp
    have e1 := mt_pg hM c.sh c.be c.os c.pg hp (lN (cX c / 43046721)) (mw_p h hp)
    have e3 : lN (cX c / 43046721) - lN (gO (mWO c m (nI p) (-1)) c.pn (mN' c m) (mN' c m) 0) = lN (gO (mWO c m (-1) (-1)) c.pn (mN' c m) (mN' c m) 0) - lN (gO (mWO c m (nI p) (-1)) c.pn (mN' c m) (mN' c m) 0) := by rw [tot]
    exact e1.trans (e3.trans (fillL_in1 (gn := m.gn) (a := c.pn) (b := c.an) (p := p) (F2 := fun kq => lN (gO (mWO c m (-1) (-1)) c.pn (mN' c m) (mN' c m) 0) - lN (gO (mWO c m (-1) (nI kq)) c.pn (mN' c m) (mN' c m) 0)) (F1 := fun kq => lN (gO (mWO c m (-1) (-1)) c.pn (mN' c m) (mN' c m) 0) - lN (gO (mWO c m (nI kq) (-1)) c.pn (mN' c m) (mN' c m) 0)) hp h8).symm)
  · have ha : a < c.an := ha
    have e1 := mt_ag hM c.sh (cB1 c arN) (cO1 c arN) c.ag ha (lN (cX c / 43046721)) (mw_a h ha)
    have e3 : lN (cX c / 43046721) - lN (gO (mWO c m (-1) (nI a)) c.pn (mN' c m) (mN' c m) 0) = lN (gO (mWO c m (-1) (-1)) c.pn (mN' c m) (mN' c m) 0) - lN (gO (mWO c m (-1) (nI a)) c.pn (mN' c m) (mN' c m) 0) := by rw [tot]
    exact e1.trans (e3.trans (fillL_in2 (F2 := fun kq => lN (gO (mWO c m (-1) (-1)) c.pn (mN' c m) (mN' c m) 0) - lN (gO (mWO c m (-1) (nI kq)) c.pn (mN' c m) (mN' c m) 0)) ha).symm)
end SM
/-! the two new objects -/
theorem rel_0 (uad uqR : Nat → Nat) (ulp ula ulj : Nat) (uqM uqN urr mad : Nat → Nat) : Rel (mkCS (uad) (uqR) (ulp) (ula) (ulj) (uqM) (uqN) (fun _ => nI 0) (fun _ => 0) (fun _ => nI 0) (0) (fillM (fun _ => nI 0) 4) (fun _ => 0) (0) (fun _ => 0) (fun _ => 0) (0) (nI 0) (0) (0) (fun _ => 0) (fun _ => 0) (fun _ => 0) (fun _ => 0) (fun _ => 0) (fun _ => 0) (fun _ => nI 0) (fun _ => nI 0) (nI 0) (0) (0) (fun _ => 0) (fun _ => 0) (fun _ => 0) (fun _ => 0) (fun _ => 0) (fun _ => nI 0) (urr) (fun _ => 0) (-1) (0) (fun _ _ => 0) (nI 0) (0) (0) (fun _ => 0) (fun _ => 0) (fun _ _ => 0) (fun _ => lN 0) (fun _ => lN 0) (fun _ => nI 0) (fun _ => lN 0) (0) (fun _ => nI 0) (fun _ => nI 0) (fun _ => lN 0) (fun _ => lN 0) (0) (0) (0) (-1)) (mkMS (mad) (nI 0) (lN 0) (0) (0) (nI 0) (lN 0) (0) (fun _ => 0) (fun _ => nI 0) (fun _ => 0) (fun _ => 0) (fun _ => nI 0) (fun _ => 0) (fillM (fun _ => nI 0) 8) (fun _ => lN 0) (fun _ => 0) (fun _ => 0)) := mkRel
  (htd := Nat.zero_le _)
  (hrn := Nat.zero_le _)
  (hpn := Nat.zero_le _)
  (han := Nat.zero_le _)
  (hjn := Nat.zero_le _)
  (htn := Nat.zero_le _)
  (hrA := fun _ => Nat.zero_le _)
  (hrC := fun _ => Nat.zero_le _)
  (hkd := fun _ => Nat.zero_lt_succ _)
  (haG := fun _ => Nat.zero_le _)
  (hsT := fun _ => Nat.zero_le _)
  (hdY := fun _ => Nat.zero_le _)
  (hpd := fun _ => Nat.zero_lt_succ _)
  (hcN := fun _ => Nat.zero_le _)
  (hmN := fun _ => Nat.zero_le _)
  (hwr := fun _ => Nat.zero_le _)
  (hlD := fun _ => Nat.zero_le _)
  (hfc := fun _ => Nat.zero_le _)
  (hfp := fun _ _ => Nat.zero_le _)
  (hne := fun _ _ => Nat.zero_le _)
  (hnd := fun _ => Nat.zero_le _)
  (hwh := fun _ => Nat.zero_lt_succ _)
  (hod := fun _ => Nat.zero_lt_succ _)
  (hch := Nat.zero_lt_succ _)
  (hmp := Nat.zero_le _)
  (hma := Nat.zero_le _)
  (hsold := fun _ _ => Nat.zero_le _)
  (fsT := fun _ _ => rfl)
  (fdY := fun _ _ => rfl)
  (fsv := fun _ _ => nI_0)
  (fnd := fun _ _ _ _ => rfl)
  (lho := fun j e => by have e : (0 : Nat) = 1 := e; omega)
  (lpe := fun j e => by have e : (0 : Nat) = 2 := e; omega)
  (lnu := fun a ha => absurd ha (Nat.not_lt_zero a))
  (lop := fun a ha => absurd ha (Nat.not_lt_zero a))
  (lbo := fun t ht => by
    show fillM (fun _ => nI 0) 4 t = if nI 0 = 0 then -1 else nI 0
    rw [if_pos nI_0]; exact if_pos ht)
  (hlT := fun _ => Nat.zero_lt_succ _)
  (ltl := fun i hi => absurd hi (Nat.not_lt_zero i))
  (lne := fun j _ hj => absurd hj (Nat.not_lt_zero j))
  (lnt := by show (-1 : Int64) = if nI 0 = 0 then -1 else lN 0; rw [if_pos nI_0])
  (lch := rfl)
  (lmt := by show (-1 : Int64) = if nI 0 = 0 then -1 else lN 0; rw [if_pos nI_0])
  (lgv := fun a ha => by
    show fillM (fun _ => nI 0) 8 a = if a < 0 then _ else -1
    rw [if_neg (Nat.not_lt_zero a)]; exact if_pos ha)
  (hgv := fun j => by
    by_cases hj : j < 8
    · exact Or.inl (if_pos hj)
    · exact Or.inr ⟨0, by decide, if_neg hj⟩)
  (hgk := fun a ha => Or.inl (if_pos ha))
  (lm0 := fun _ => ⟨rfl, rfl⟩)
  (lm1 := fun z => absurd nI_0 z)
  (hgp := Nat.zero_le _)
  (hga := Nat.zero_le _)
  (lpg := fun p hp => absurd hp (Nat.not_lt_zero p))
  (lag := fun a ha => absurd ha (Nat.not_lt_zero a))
