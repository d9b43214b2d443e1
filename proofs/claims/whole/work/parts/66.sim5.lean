/-! the two states side by side -/
def CS : Type := (Nat → Nat) × (Nat → Nat) × Nat × Nat × Nat × (Nat → Nat) × (Nat → Nat) × (Nat → Int32) × (Nat → Nat) × (Nat → Int32) × Nat × (Nat → Int32) × (Nat → Nat) × Nat × (Nat → Nat) × (Nat → Nat) × Nat × Int32 × Nat × Nat × (Nat → Nat) × (Nat → Nat) × (Nat → Nat) × (Nat → Nat) × (Nat → Nat) × (Nat → Nat) × (Nat → Int32) × (Nat → Int32) × Int32 × Nat × Nat × (Nat → Nat) × (Nat → Nat) × (Nat → Nat) × (Nat → Nat) × (Nat → Nat) × (Nat → Int32) × (Nat → Nat) × (Nat → Nat) × Int64 × Nat × (Nat → Nat → Nat) × Int32 × Nat × Nat × (Nat → Nat) × (Nat → Nat) × (Nat → Nat → Nat) × (Nat → Int64) × (Nat → Int64) × (Nat → Int32) × (Nat → Int64) × Nat × (Nat → Int32) × (Nat → Int32) × (Nat → Int64) × (Nat → Int64) × Nat × Nat × Nat × Int64
def CS.ad (c : CS) : Nat → Nat := c.1
def CS.qR (c : CS) : Nat → Nat := c.2.1
def CS.lp (c : CS) : Nat := c.2.2.1
def CS.la (c : CS) : Nat := c.2.2.2.1
def CS.lj (c : CS) : Nat := c.2.2.2.2.1
def CS.qM (c : CS) : Nat → Nat := c.2.2.2.2.2.1
def CS.qN (c : CS) : Nat → Nat := c.2.2.2.2.2.2.1
def CS.ft (c : CS) : Nat → Int32 := c.2.2.2.2.2.2.2.1
def CS.wr (c : CS) : Nat → Nat := c.2.2.2.2.2.2.2.2.1
def CS.tl (c : CS) : Nat → Int32 := c.2.2.2.2.2.2.2.2.2.1
def CS.tn (c : CS) : Nat := c.2.2.2.2.2.2.2.2.2.2.1
def CS.bo (c : CS) : Nat → Int32 := c.2.2.2.2.2.2.2.2.2.2.2.1
def CS.lD (c : CS) : Nat → Nat := c.2.2.2.2.2.2.2.2.2.2.2.2.1
def CS.td (c : CS) : Nat := c.2.2.2.2.2.2.2.2.2.2.2.2.2.1
def CS.rA (c : CS) : Nat → Nat := c.2.2.2.2.2.2.2.2.2.2.2.2.2.2.1
def CS.rC (c : CS) : Nat → Nat := c.2.2.2.2.2.2.2.2.2.2.2.2.2.2.2.1
def CS.rn (c : CS) : Nat := c.2.2.2.2.2.2.2.2.2.2.2.2.2.2.2.2.1
def CS.mdp (c : CS) : Int32 := c.2.2.2.2.2.2.2.2.2.2.2.2.2.2.2.2.2.1
def CS.xp (c : CS) : Nat := c.2.2.2.2.2.2.2.2.2.2.2.2.2.2.2.2.2.2.1
def CS.pn (c : CS) : Nat := c.2.2.2.2.2.2.2.2.2.2.2.2.2.2.2.2.2.2.2.1
def CS.pa (c : CS) : Nat → Nat := c.2.2.2.2.2.2.2.2.2.2.2.2.2.2.2.2.2.2.2.2.1
def CS.kd (c : CS) : Nat → Nat := c.2.2.2.2.2.2.2.2.2.2.2.2.2.2.2.2.2.2.2.2.2.1
def CS.aG (c : CS) : Nat → Nat := c.2.2.2.2.2.2.2.2.2.2.2.2.2.2.2.2.2.2.2.2.2.2.1
def CS.sR (c : CS) : Nat → Nat := c.2.2.2.2.2.2.2.2.2.2.2.2.2.2.2.2.2.2.2.2.2.2.2.1
def CS.sT (c : CS) : Nat → Nat := c.2.2.2.2.2.2.2.2.2.2.2.2.2.2.2.2.2.2.2.2.2.2.2.2.1
def CS.dY (c : CS) : Nat → Nat := c.2.2.2.2.2.2.2.2.2.2.2.2.2.2.2.2.2.2.2.2.2.2.2.2.2.1
def CS.pho (c : CS) : Nat → Int32 := c.2.2.2.2.2.2.2.2.2.2.2.2.2.2.2.2.2.2.2.2.2.2.2.2.2.2.1
def CS.ppe (c : CS) : Nat → Int32 := c.2.2.2.2.2.2.2.2.2.2.2.2.2.2.2.2.2.2.2.2.2.2.2.2.2.2.2.1
def CS.mda (c : CS) : Int32 := c.2.2.2.2.2.2.2.2.2.2.2.2.2.2.2.2.2.2.2.2.2.2.2.2.2.2.2.2.1
def CS.xa (c : CS) : Nat := c.2.2.2.2.2.2.2.2.2.2.2.2.2.2.2.2.2.2.2.2.2.2.2.2.2.2.2.2.2.1
def CS.an (c : CS) : Nat := c.2.2.2.2.2.2.2.2.2.2.2.2.2.2.2.2.2.2.2.2.2.2.2.2.2.2.2.2.2.2.1
def CS.aa (c : CS) : Nat → Nat := c.2.2.2.2.2.2.2.2.2.2.2.2.2.2.2.2.2.2.2.2.2.2.2.2.2.2.2.2.2.2.2.1
def CS.anu (c : CS) : Nat → Nat := c.2.2.2.2.2.2.2.2.2.2.2.2.2.2.2.2.2.2.2.2.2.2.2.2.2.2.2.2.2.2.2.2.1
def CS.pd (c : CS) : Nat → Nat := c.2.2.2.2.2.2.2.2.2.2.2.2.2.2.2.2.2.2.2.2.2.2.2.2.2.2.2.2.2.2.2.2.2.1
def CS.cN (c : CS) : Nat → Nat := c.2.2.2.2.2.2.2.2.2.2.2.2.2.2.2.2.2.2.2.2.2.2.2.2.2.2.2.2.2.2.2.2.2.2.1
def CS.mN (c : CS) : Nat → Nat := c.2.2.2.2.2.2.2.2.2.2.2.2.2.2.2.2.2.2.2.2.2.2.2.2.2.2.2.2.2.2.2.2.2.2.2.1
def CS.aop (c : CS) : Nat → Int32 := c.2.2.2.2.2.2.2.2.2.2.2.2.2.2.2.2.2.2.2.2.2.2.2.2.2.2.2.2.2.2.2.2.2.2.2.2.1
def CS.rr (c : CS) : Nat → Nat := c.2.2.2.2.2.2.2.2.2.2.2.2.2.2.2.2.2.2.2.2.2.2.2.2.2.2.2.2.2.2.2.2.2.2.2.2.2.1
def CS.fc (c : CS) : Nat → Nat := c.2.2.2.2.2.2.2.2.2.2.2.2.2.2.2.2.2.2.2.2.2.2.2.2.2.2.2.2.2.2.2.2.2.2.2.2.2.2.1
def CS.ntot (c : CS) : Int64 := c.2.2.2.2.2.2.2.2.2.2.2.2.2.2.2.2.2.2.2.2.2.2.2.2.2.2.2.2.2.2.2.2.2.2.2.2.2.2.2.1
def CS.ch (c : CS) : Nat := c.2.2.2.2.2.2.2.2.2.2.2.2.2.2.2.2.2.2.2.2.2.2.2.2.2.2.2.2.2.2.2.2.2.2.2.2.2.2.2.2.1
def CS.fp (c : CS) : Nat → Nat → Nat := c.2.2.2.2.2.2.2.2.2.2.2.2.2.2.2.2.2.2.2.2.2.2.2.2.2.2.2.2.2.2.2.2.2.2.2.2.2.2.2.2.2.1
def CS.mdj (c : CS) : Int32 := c.2.2.2.2.2.2.2.2.2.2.2.2.2.2.2.2.2.2.2.2.2.2.2.2.2.2.2.2.2.2.2.2.2.2.2.2.2.2.2.2.2.2.1
def CS.xj (c : CS) : Nat := c.2.2.2.2.2.2.2.2.2.2.2.2.2.2.2.2.2.2.2.2.2.2.2.2.2.2.2.2.2.2.2.2.2.2.2.2.2.2.2.2.2.2.2.1
def CS.jn (c : CS) : Nat := c.2.2.2.2.2.2.2.2.2.2.2.2.2.2.2.2.2.2.2.2.2.2.2.2.2.2.2.2.2.2.2.2.2.2.2.2.2.2.2.2.2.2.2.2.1
def CS.ja (c : CS) : Nat → Nat := c.2.2.2.2.2.2.2.2.2.2.2.2.2.2.2.2.2.2.2.2.2.2.2.2.2.2.2.2.2.2.2.2.2.2.2.2.2.2.2.2.2.2.2.2.2.1
def CS.jx (c : CS) : Nat → Nat := c.2.2.2.2.2.2.2.2.2.2.2.2.2.2.2.2.2.2.2.2.2.2.2.2.2.2.2.2.2.2.2.2.2.2.2.2.2.2.2.2.2.2.2.2.2.2.1
def CS.jne (c : CS) : Nat → Nat → Nat := c.2.2.2.2.2.2.2.2.2.2.2.2.2.2.2.2.2.2.2.2.2.2.2.2.2.2.2.2.2.2.2.2.2.2.2.2.2.2.2.2.2.2.2.2.2.2.2.1
def CS.sh (c : CS) : Nat → Int64 := c.2.2.2.2.2.2.2.2.2.2.2.2.2.2.2.2.2.2.2.2.2.2.2.2.2.2.2.2.2.2.2.2.2.2.2.2.2.2.2.2.2.2.2.2.2.2.2.2.1
def CS.be (c : CS) : Nat → Int64 := c.2.2.2.2.2.2.2.2.2.2.2.2.2.2.2.2.2.2.2.2.2.2.2.2.2.2.2.2.2.2.2.2.2.2.2.2.2.2.2.2.2.2.2.2.2.2.2.2.2.1
def CS.ob (c : CS) : Nat → Int32 := c.2.2.2.2.2.2.2.2.2.2.2.2.2.2.2.2.2.2.2.2.2.2.2.2.2.2.2.2.2.2.2.2.2.2.2.2.2.2.2.2.2.2.2.2.2.2.2.2.2.2.1
def CS.os (c : CS) : Nat → Int64 := c.2.2.2.2.2.2.2.2.2.2.2.2.2.2.2.2.2.2.2.2.2.2.2.2.2.2.2.2.2.2.2.2.2.2.2.2.2.2.2.2.2.2.2.2.2.2.2.2.2.2.2.1
def CS.oc (c : CS) : Nat := c.2.2.2.2.2.2.2.2.2.2.2.2.2.2.2.2.2.2.2.2.2.2.2.2.2.2.2.2.2.2.2.2.2.2.2.2.2.2.2.2.2.2.2.2.2.2.2.2.2.2.2.2.1
def CS.ar (c : CS) : Nat → Int32 := c.2.2.2.2.2.2.2.2.2.2.2.2.2.2.2.2.2.2.2.2.2.2.2.2.2.2.2.2.2.2.2.2.2.2.2.2.2.2.2.2.2.2.2.2.2.2.2.2.2.2.2.2.2.1
def CS.gi (c : CS) : Nat → Int32 := c.2.2.2.2.2.2.2.2.2.2.2.2.2.2.2.2.2.2.2.2.2.2.2.2.2.2.2.2.2.2.2.2.2.2.2.2.2.2.2.2.2.2.2.2.2.2.2.2.2.2.2.2.2.2.1
def CS.pg (c : CS) : Nat → Int64 := c.2.2.2.2.2.2.2.2.2.2.2.2.2.2.2.2.2.2.2.2.2.2.2.2.2.2.2.2.2.2.2.2.2.2.2.2.2.2.2.2.2.2.2.2.2.2.2.2.2.2.2.2.2.2.2.1
def CS.ag (c : CS) : Nat → Int64 := c.2.2.2.2.2.2.2.2.2.2.2.2.2.2.2.2.2.2.2.2.2.2.2.2.2.2.2.2.2.2.2.2.2.2.2.2.2.2.2.2.2.2.2.2.2.2.2.2.2.2.2.2.2.2.2.2.1
def CS.mp (c : CS) : Nat := c.2.2.2.2.2.2.2.2.2.2.2.2.2.2.2.2.2.2.2.2.2.2.2.2.2.2.2.2.2.2.2.2.2.2.2.2.2.2.2.2.2.2.2.2.2.2.2.2.2.2.2.2.2.2.2.2.2.1
def CS.ma (c : CS) : Nat := c.2.2.2.2.2.2.2.2.2.2.2.2.2.2.2.2.2.2.2.2.2.2.2.2.2.2.2.2.2.2.2.2.2.2.2.2.2.2.2.2.2.2.2.2.2.2.2.2.2.2.2.2.2.2.2.2.2.2.1
def CS.prn (c : CS) : Nat := c.2.2.2.2.2.2.2.2.2.2.2.2.2.2.2.2.2.2.2.2.2.2.2.2.2.2.2.2.2.2.2.2.2.2.2.2.2.2.2.2.2.2.2.2.2.2.2.2.2.2.2.2.2.2.2.2.2.2.2.1
def CS.mtot (c : CS) : Int64 := c.2.2.2.2.2.2.2.2.2.2.2.2.2.2.2.2.2.2.2.2.2.2.2.2.2.2.2.2.2.2.2.2.2.2.2.2.2.2.2.2.2.2.2.2.2.2.2.2.2.2.2.2.2.2.2.2.2.2.2.2
def mkCS (ad : Nat → Nat) (qR : Nat → Nat) (lp : Nat) (la : Nat) (lj : Nat) (qM : Nat → Nat) (qN : Nat → Nat) (ft : Nat → Int32) (wr : Nat → Nat) (tl : Nat → Int32) (tn : Nat) (bo : Nat → Int32) (lD : Nat → Nat) (td : Nat) (rA : Nat → Nat) (rC : Nat → Nat) (rn : Nat) (mdp : Int32) (xp : Nat) (pn : Nat) (pa : Nat → Nat) (kd : Nat → Nat) (aG : Nat → Nat) (sR : Nat → Nat) (sT : Nat → Nat) (dY : Nat → Nat) (pho : Nat → Int32) (ppe : Nat → Int32) (mda : Int32) (xa : Nat) (an : Nat) (aa : Nat → Nat) (anu : Nat → Nat) (pd : Nat → Nat) (cN : Nat → Nat) (mN : Nat → Nat) (aop : Nat → Int32) (rr : Nat → Nat) (fc : Nat → Nat) (ntot : Int64) (ch : Nat) (fp : Nat → Nat → Nat) (mdj : Int32) (xj : Nat) (jn : Nat) (ja : Nat → Nat) (jx : Nat → Nat) (jne : Nat → Nat → Nat) (sh : Nat → Int64) (be : Nat → Int64) (ob : Nat → Int32) (os : Nat → Int64) (oc : Nat) (ar : Nat → Int32) (gi : Nat → Int32) (pg : Nat → Int64) (ag : Nat → Int64) (mp : Nat) (ma : Nat) (prn : Nat) (mtot : Int64) : CS := (ad, qR, lp, la, lj, qM, qN, ft, wr, tl, tn, bo, lD, td, rA, rC, rn, mdp, xp, pn, pa, kd, aG, sR, sT, dY, pho, ppe, mda, xa, an, aa, anu, pd, cN, mN, aop, rr, fc, ntot, ch, fp, mdj, xj, jn, ja, jx, jne, sh, be, ob, os, oc, ar, gi, pg, ag, mp, ma, prn, mtot)
def MS : Type := (Nat → Nat) × Int32 × Int64 × Nat × Nat × Int32 × Int64 × Nat × (Nat → Nat) × (Nat → Int32) × (Nat → Nat) × (Nat → Nat) × (Nat → Int32) × (Nat → Nat) × (Nat → Int32) × (Nat → Int64) × (Nat → Nat) × (Nat → Nat)
def MS.ad (c : MS) : Nat → Nat := c.1
def MS.bm (c : MS) : Int32 := c.2.1
def MS.fw (c : MS) : Int64 := c.2.2.1
def MS.gp (c : MS) : Nat := c.2.2.2.1
def MS.ga (c : MS) : Nat := c.2.2.2.2.1
def MS.bp (c : MS) : Int32 := c.2.2.2.2.2.1
def MS.fc (c : MS) : Int64 := c.2.2.2.2.2.2.1
def MS.fj (c : MS) : Nat := c.2.2.2.2.2.2.2.1
def MS.wh (c : MS) : Nat → Nat := c.2.2.2.2.2.2.2.2.1
def MS.sv (c : MS) : Nat → Int32 := c.2.2.2.2.2.2.2.2.2.1
def MS.nd (c : MS) : Nat → Nat := c.2.2.2.2.2.2.2.2.2.2.1
def MS.tl (c : MS) : Nat → Nat := c.2.2.2.2.2.2.2.2.2.2.2.1
def MS.lt (c : MS) : Nat → Int32 := c.2.2.2.2.2.2.2.2.2.2.2.2.1
def MS.lT (c : MS) : Nat → Nat := c.2.2.2.2.2.2.2.2.2.2.2.2.2.1
def MS.gv (c : MS) : Nat → Int32 := c.2.2.2.2.2.2.2.2.2.2.2.2.2.2.1
def MS.gn (c : MS) : Nat → Int64 := c.2.2.2.2.2.2.2.2.2.2.2.2.2.2.2.1
def MS.od (c : MS) : Nat → Nat := c.2.2.2.2.2.2.2.2.2.2.2.2.2.2.2.2.1
def MS.br (c : MS) : Nat → Nat := c.2.2.2.2.2.2.2.2.2.2.2.2.2.2.2.2.2
def mkMS (ad : Nat → Nat) (bm : Int32) (fw : Int64) (gp : Nat) (ga : Nat) (bp : Int32) (fc : Int64) (fj : Nat) (wh : Nat → Nat) (sv : Nat → Int32) (nd : Nat → Nat) (tl : Nat → Nat) (lt : Nat → Int32) (lT : Nat → Nat) (gv : Nat → Int32) (gn : Nat → Int64) (od : Nat → Nat) (br : Nat → Nat) : MS := (ad, bm, fw, gp, ga, bp, fc, fj, wh, sv, nd, tl, lt, lT, gv, gn, od, br)
def Rel (c : CS) (m : MS) : Prop := (c.td ≤ 100000) ∧ (c.rn ≤ 6) ∧ (c.pn ≤ 8) ∧ (c.an ≤ 8) ∧ (c.jn ≤ 6) ∧ (c.tn ≤ 8) ∧ (∀ j, c.rA j ≤ 1000) ∧ (∀ j, c.rC j ≤ 100000) ∧ (∀ j, c.kd j < 6) ∧ (∀ j, c.aG j ≤ 1000) ∧ (∀ j, c.sT j ≤ 3) ∧ (∀ j, c.dY j ≤ 100000) ∧ (∀ j, c.pd j < 6) ∧ (∀ j, c.cN j ≤ 1000000) ∧ (∀ j, c.mN j ≤ 1000000000) ∧ (∀ j, c.wr j ≤ 1000) ∧ (∀ j, c.lD j ≤ 100000) ∧ (∀ k, c.fc k ≤ 8) ∧ (∀ k i, c.fp k i ≤ 100000) ∧ (∀ j k, c.jne j k ≤ 3) ∧ (∀ j, m.nd j ≤ 3) ∧ (∀ j, m.wh j < 10) ∧ (∀ j, m.od j < 8) ∧ (c.ch < 64) ∧ (c.mp ≤ 8) ∧ (c.ma ≤ 8) ∧ (∀ j, c.sT j = 2 → c.dY j ≤ c.td) ∧ (∀ j, c.pn ≤ j → c.sT j = 0) ∧ (∀ j, c.pn ≤ j → c.dY j = 0) ∧ (∀ j, c.an ≤ j → m.sv j = 0) ∧ (∀ j k, c.jn ≤ j → k < 6 → m.nd (6 * j + k) = 0) ∧ (∀ j, c.sT j = 1 → c.pho j = nI (m.wh j)) ∧ (∀ j, c.sT j = 2 → c.ppe j = nI (m.wh j)) ∧ (∀ a, a < c.an → c.anu a = a) ∧ (∀ a, a < c.an → (c.aop a = 0 ↔ ¬ m.sv a = 0)) ∧ (∀ t, t < 4 → c.bo t = if m.lt t = 0 then -1 else nI (m.lT t)) ∧ (∀ t, m.lT t < 10) ∧ (∀ i, i < c.tn → c.tl i = nI (m.tl i)) ∧ (∀ j k, j < c.jn → k < 6 → c.jne j k = m.nd (6 * j + k)) ∧ (c.ntot = if m.bp = 0 then -1 else m.fc) ∧ (c.ch = m.fj) ∧ (c.mtot = if m.bm = 0 then -1 else m.fw) ∧ (∀ a, a < 8 → m.gv a = if a < c.ma then c.gi a else -1) ∧ (∀ j, m.gv j = -1 ∨ ∃ k, k < 8 ∧ m.gv j = nI k) ∧ (∀ a, a < 8 → m.gv a = -1 ∨ ∃ k, k < c.pn ∧ m.gv a = nI k) ∧ (m.bm = 0 → c.mp = 0 ∧ c.ma = 0) ∧ (¬ m.bm = 0 → c.mp = m.gp ∧ c.ma = m.ga) ∧ (m.gp ≤ 8) ∧ (m.ga ≤ 8) ∧ (∀ p, p < c.mp → c.pg p = m.gn p) ∧ (∀ a, a < c.ma → c.ag a = m.gn (8 + a))
theorem Rel.htd {c : CS} {m : MS} (h : Rel c m) : c.td ≤ 100000 := h.1
theorem Rel.hrn {c : CS} {m : MS} (h : Rel c m) : c.rn ≤ 6 := h.2.1
theorem Rel.hpn {c : CS} {m : MS} (h : Rel c m) : c.pn ≤ 8 := h.2.2.1
theorem Rel.han {c : CS} {m : MS} (h : Rel c m) : c.an ≤ 8 := h.2.2.2.1
theorem Rel.hjn {c : CS} {m : MS} (h : Rel c m) : c.jn ≤ 6 := h.2.2.2.2.1
theorem Rel.htn {c : CS} {m : MS} (h : Rel c m) : c.tn ≤ 8 := h.2.2.2.2.2.1
theorem Rel.hrA {c : CS} {m : MS} (h : Rel c m) : ∀ j, c.rA j ≤ 1000 := h.2.2.2.2.2.2.1
theorem Rel.hrC {c : CS} {m : MS} (h : Rel c m) : ∀ j, c.rC j ≤ 100000 := h.2.2.2.2.2.2.2.1
theorem Rel.hkd {c : CS} {m : MS} (h : Rel c m) : ∀ j, c.kd j < 6 := h.2.2.2.2.2.2.2.2.1
theorem Rel.haG {c : CS} {m : MS} (h : Rel c m) : ∀ j, c.aG j ≤ 1000 := h.2.2.2.2.2.2.2.2.2.1
theorem Rel.hsT {c : CS} {m : MS} (h : Rel c m) : ∀ j, c.sT j ≤ 3 := h.2.2.2.2.2.2.2.2.2.2.1
theorem Rel.hdY {c : CS} {m : MS} (h : Rel c m) : ∀ j, c.dY j ≤ 100000 := h.2.2.2.2.2.2.2.2.2.2.2.1
theorem Rel.hpd {c : CS} {m : MS} (h : Rel c m) : ∀ j, c.pd j < 6 := h.2.2.2.2.2.2.2.2.2.2.2.2.1
theorem Rel.hcN {c : CS} {m : MS} (h : Rel c m) : ∀ j, c.cN j ≤ 1000000 := h.2.2.2.2.2.2.2.2.2.2.2.2.2.1
theorem Rel.hmN {c : CS} {m : MS} (h : Rel c m) : ∀ j, c.mN j ≤ 1000000000 := h.2.2.2.2.2.2.2.2.2.2.2.2.2.2.1
theorem Rel.hwr {c : CS} {m : MS} (h : Rel c m) : ∀ j, c.wr j ≤ 1000 := h.2.2.2.2.2.2.2.2.2.2.2.2.2.2.2.1
theorem Rel.hlD {c : CS} {m : MS} (h : Rel c m) : ∀ j, c.lD j ≤ 100000 := h.2.2.2.2.2.2.2.2.2.2.2.2.2.2.2.2.1
theorem Rel.hfc {c : CS} {m : MS} (h : Rel c m) : ∀ k, c.fc k ≤ 8 := h.2.2.2.2.2.2.2.2.2.2.2.2.2.2.2.2.2.1
theorem Rel.hfp {c : CS} {m : MS} (h : Rel c m) : ∀ k i, c.fp k i ≤ 100000 := h.2.2.2.2.2.2.2.2.2.2.2.2.2.2.2.2.2.2.1
theorem Rel.hne {c : CS} {m : MS} (h : Rel c m) : ∀ j k, c.jne j k ≤ 3 := h.2.2.2.2.2.2.2.2.2.2.2.2.2.2.2.2.2.2.2.1
theorem Rel.hnd {c : CS} {m : MS} (h : Rel c m) : ∀ j, m.nd j ≤ 3 := h.2.2.2.2.2.2.2.2.2.2.2.2.2.2.2.2.2.2.2.2.1
theorem Rel.hwh {c : CS} {m : MS} (h : Rel c m) : ∀ j, m.wh j < 10 := h.2.2.2.2.2.2.2.2.2.2.2.2.2.2.2.2.2.2.2.2.2.1
theorem Rel.hod {c : CS} {m : MS} (h : Rel c m) : ∀ j, m.od j < 8 := h.2.2.2.2.2.2.2.2.2.2.2.2.2.2.2.2.2.2.2.2.2.2.1
theorem Rel.hch {c : CS} {m : MS} (h : Rel c m) : c.ch < 64 := h.2.2.2.2.2.2.2.2.2.2.2.2.2.2.2.2.2.2.2.2.2.2.2.1
theorem Rel.hmp {c : CS} {m : MS} (h : Rel c m) : c.mp ≤ 8 := h.2.2.2.2.2.2.2.2.2.2.2.2.2.2.2.2.2.2.2.2.2.2.2.2.1
theorem Rel.hma {c : CS} {m : MS} (h : Rel c m) : c.ma ≤ 8 := h.2.2.2.2.2.2.2.2.2.2.2.2.2.2.2.2.2.2.2.2.2.2.2.2.2.1
theorem Rel.hsold {c : CS} {m : MS} (h : Rel c m) : ∀ j, c.sT j = 2 → c.dY j ≤ c.td := h.2.2.2.2.2.2.2.2.2.2.2.2.2.2.2.2.2.2.2.2.2.2.2.2.2.2.1
theorem Rel.fsT {c : CS} {m : MS} (h : Rel c m) : ∀ j, c.pn ≤ j → c.sT j = 0 := h.2.2.2.2.2.2.2.2.2.2.2.2.2.2.2.2.2.2.2.2.2.2.2.2.2.2.2.1
theorem Rel.fdY {c : CS} {m : MS} (h : Rel c m) : ∀ j, c.pn ≤ j → c.dY j = 0 := h.2.2.2.2.2.2.2.2.2.2.2.2.2.2.2.2.2.2.2.2.2.2.2.2.2.2.2.2.1
theorem Rel.fsv {c : CS} {m : MS} (h : Rel c m) : ∀ j, c.an ≤ j → m.sv j = 0 := h.2.2.2.2.2.2.2.2.2.2.2.2.2.2.2.2.2.2.2.2.2.2.2.2.2.2.2.2.2.1
theorem Rel.fnd {c : CS} {m : MS} (h : Rel c m) : ∀ j k, c.jn ≤ j → k < 6 → m.nd (6 * j + k) = 0 := h.2.2.2.2.2.2.2.2.2.2.2.2.2.2.2.2.2.2.2.2.2.2.2.2.2.2.2.2.2.2.1
theorem Rel.lho {c : CS} {m : MS} (h : Rel c m) : ∀ j, c.sT j = 1 → c.pho j = nI (m.wh j) := h.2.2.2.2.2.2.2.2.2.2.2.2.2.2.2.2.2.2.2.2.2.2.2.2.2.2.2.2.2.2.2.1
theorem Rel.lpe {c : CS} {m : MS} (h : Rel c m) : ∀ j, c.sT j = 2 → c.ppe j = nI (m.wh j) := h.2.2.2.2.2.2.2.2.2.2.2.2.2.2.2.2.2.2.2.2.2.2.2.2.2.2.2.2.2.2.2.2.1
theorem Rel.lnu {c : CS} {m : MS} (h : Rel c m) : ∀ a, a < c.an → c.anu a = a := h.2.2.2.2.2.2.2.2.2.2.2.2.2.2.2.2.2.2.2.2.2.2.2.2.2.2.2.2.2.2.2.2.2.1
theorem Rel.lop {c : CS} {m : MS} (h : Rel c m) : ∀ a, a < c.an → (c.aop a = 0 ↔ ¬ m.sv a = 0) := h.2.2.2.2.2.2.2.2.2.2.2.2.2.2.2.2.2.2.2.2.2.2.2.2.2.2.2.2.2.2.2.2.2.2.1
theorem Rel.lbo {c : CS} {m : MS} (h : Rel c m) : ∀ t, t < 4 → c.bo t = if m.lt t = 0 then -1 else nI (m.lT t) := h.2.2.2.2.2.2.2.2.2.2.2.2.2.2.2.2.2.2.2.2.2.2.2.2.2.2.2.2.2.2.2.2.2.2.2.1
theorem Rel.hlT {c : CS} {m : MS} (h : Rel c m) : ∀ t, m.lT t < 10 := h.2.2.2.2.2.2.2.2.2.2.2.2.2.2.2.2.2.2.2.2.2.2.2.2.2.2.2.2.2.2.2.2.2.2.2.2.1
theorem Rel.ltl {c : CS} {m : MS} (h : Rel c m) : ∀ i, i < c.tn → c.tl i = nI (m.tl i) := h.2.2.2.2.2.2.2.2.2.2.2.2.2.2.2.2.2.2.2.2.2.2.2.2.2.2.2.2.2.2.2.2.2.2.2.2.2.1
theorem Rel.lne {c : CS} {m : MS} (h : Rel c m) : ∀ j k, j < c.jn → k < 6 → c.jne j k = m.nd (6 * j + k) := h.2.2.2.2.2.2.2.2.2.2.2.2.2.2.2.2.2.2.2.2.2.2.2.2.2.2.2.2.2.2.2.2.2.2.2.2.2.2.1
theorem Rel.lnt {c : CS} {m : MS} (h : Rel c m) : c.ntot = if m.bp = 0 then -1 else m.fc := h.2.2.2.2.2.2.2.2.2.2.2.2.2.2.2.2.2.2.2.2.2.2.2.2.2.2.2.2.2.2.2.2.2.2.2.2.2.2.2.1
theorem Rel.lch {c : CS} {m : MS} (h : Rel c m) : c.ch = m.fj := h.2.2.2.2.2.2.2.2.2.2.2.2.2.2.2.2.2.2.2.2.2.2.2.2.2.2.2.2.2.2.2.2.2.2.2.2.2.2.2.2.1
theorem Rel.lmt {c : CS} {m : MS} (h : Rel c m) : c.mtot = if m.bm = 0 then -1 else m.fw := h.2.2.2.2.2.2.2.2.2.2.2.2.2.2.2.2.2.2.2.2.2.2.2.2.2.2.2.2.2.2.2.2.2.2.2.2.2.2.2.2.2.1
theorem Rel.lgv {c : CS} {m : MS} (h : Rel c m) : ∀ a, a < 8 → m.gv a = if a < c.ma then c.gi a else -1 := h.2.2.2.2.2.2.2.2.2.2.2.2.2.2.2.2.2.2.2.2.2.2.2.2.2.2.2.2.2.2.2.2.2.2.2.2.2.2.2.2.2.2.1
theorem Rel.hgv {c : CS} {m : MS} (h : Rel c m) : ∀ j, m.gv j = -1 ∨ ∃ k, k < 8 ∧ m.gv j = nI k := h.2.2.2.2.2.2.2.2.2.2.2.2.2.2.2.2.2.2.2.2.2.2.2.2.2.2.2.2.2.2.2.2.2.2.2.2.2.2.2.2.2.2.2.1
theorem Rel.hgk {c : CS} {m : MS} (h : Rel c m) : ∀ a, a < 8 → m.gv a = -1 ∨ ∃ k, k < c.pn ∧ m.gv a = nI k := h.2.2.2.2.2.2.2.2.2.2.2.2.2.2.2.2.2.2.2.2.2.2.2.2.2.2.2.2.2.2.2.2.2.2.2.2.2.2.2.2.2.2.2.2.1
theorem Rel.lm0 {c : CS} {m : MS} (h : Rel c m) : m.bm = 0 → c.mp = 0 ∧ c.ma = 0 := h.2.2.2.2.2.2.2.2.2.2.2.2.2.2.2.2.2.2.2.2.2.2.2.2.2.2.2.2.2.2.2.2.2.2.2.2.2.2.2.2.2.2.2.2.2.1
theorem Rel.lm1 {c : CS} {m : MS} (h : Rel c m) : ¬ m.bm = 0 → c.mp = m.gp ∧ c.ma = m.ga := h.2.2.2.2.2.2.2.2.2.2.2.2.2.2.2.2.2.2.2.2.2.2.2.2.2.2.2.2.2.2.2.2.2.2.2.2.2.2.2.2.2.2.2.2.2.2.1
theorem Rel.hgp {c : CS} {m : MS} (h : Rel c m) : m.gp ≤ 8 := h.2.2.2.2.2.2.2.2.2.2.2.2.2.2.2.2.2.2.2.2.2.2.2.2.2.2.2.2.2.2.2.2.2.2.2.2.2.2.2.2.2.2.2.2.2.2.2.1
theorem Rel.hga {c : CS} {m : MS} (h : Rel c m) : m.ga ≤ 8 := h.2.2.2.2.2.2.2.2.2.2.2.2.2.2.2.2.2.2.2.2.2.2.2.2.2.2.2.2.2.2.2.2.2.2.2.2.2.2.2.2.2.2.2.2.2.2.2.2.1
theorem Rel.lpg {c : CS} {m : MS} (h : Rel c m) : ∀ p, p < c.mp → c.pg p = m.gn p := h.2.2.2.2.2.2.2.2.2.2.2.2.2.2.2.2.2.2.2.2.2.2.2.2.2.2.2.2.2.2.2.2.2.2.2.2.2.2.2.2.2.2.2.2.2.2.2.2.2.1
theorem Rel.lag {c : CS} {m : MS} (h : Rel c m) : ∀ a, a < c.ma → c.ag a = m.gn (8 + a) := h.2.2.2.2.2.2.2.2.2.2.2.2.2.2.2.2.2.2.2.2.2.2.2.2.2.2.2.2.2.2.2.2.2.2.2.2.2.2.2.2.2.2.2.2.2.2.2.2.2.2
theorem mkRel {c : CS} {m : MS} (htd : c.td ≤ 100000) (hrn : c.rn ≤ 6) (hpn : c.pn ≤ 8) (han : c.an ≤ 8) (hjn : c.jn ≤ 6) (htn : c.tn ≤ 8) (hrA : ∀ j, c.rA j ≤ 1000) (hrC : ∀ j, c.rC j ≤ 100000) (hkd : ∀ j, c.kd j < 6) (haG : ∀ j, c.aG j ≤ 1000) (hsT : ∀ j, c.sT j ≤ 3) (hdY : ∀ j, c.dY j ≤ 100000) (hpd : ∀ j, c.pd j < 6) (hcN : ∀ j, c.cN j ≤ 1000000) (hmN : ∀ j, c.mN j ≤ 1000000000) (hwr : ∀ j, c.wr j ≤ 1000) (hlD : ∀ j, c.lD j ≤ 100000) (hfc : ∀ k, c.fc k ≤ 8) (hfp : ∀ k i, c.fp k i ≤ 100000) (hne : ∀ j k, c.jne j k ≤ 3) (hnd : ∀ j, m.nd j ≤ 3) (hwh : ∀ j, m.wh j < 10) (hod : ∀ j, m.od j < 8) (hch : c.ch < 64) (hmp : c.mp ≤ 8) (hma : c.ma ≤ 8) (hsold : ∀ j, c.sT j = 2 → c.dY j ≤ c.td) (fsT : ∀ j, c.pn ≤ j → c.sT j = 0) (fdY : ∀ j, c.pn ≤ j → c.dY j = 0) (fsv : ∀ j, c.an ≤ j → m.sv j = 0) (fnd : ∀ j k, c.jn ≤ j → k < 6 → m.nd (6 * j + k) = 0) (lho : ∀ j, c.sT j = 1 → c.pho j = nI (m.wh j)) (lpe : ∀ j, c.sT j = 2 → c.ppe j = nI (m.wh j)) (lnu : ∀ a, a < c.an → c.anu a = a) (lop : ∀ a, a < c.an → (c.aop a = 0 ↔ ¬ m.sv a = 0)) (lbo : ∀ t, t < 4 → c.bo t = if m.lt t = 0 then -1 else nI (m.lT t)) (hlT : ∀ t, m.lT t < 10) (ltl : ∀ i, i < c.tn → c.tl i = nI (m.tl i)) (lne : ∀ j k, j < c.jn → k < 6 → c.jne j k = m.nd (6 * j + k)) (lnt : c.ntot = if m.bp = 0 then -1 else m.fc) (lch : c.ch = m.fj) (lmt : c.mtot = if m.bm = 0 then -1 else m.fw) (lgv : ∀ a, a < 8 → m.gv a = if a < c.ma then c.gi a else -1) (hgv : ∀ j, m.gv j = -1 ∨ ∃ k, k < 8 ∧ m.gv j = nI k) (hgk : ∀ a, a < 8 → m.gv a = -1 ∨ ∃ k, k < c.pn ∧ m.gv a = nI k) (lm0 : m.bm = 0 → c.mp = 0 ∧ c.ma = 0) (lm1 : ¬ m.bm = 0 → c.mp = m.gp ∧ c.ma = m.ga) (hgp : m.gp ≤ 8) (hga : m.ga ≤ 8) (lpg : ∀ p, p < c.mp → c.pg p = m.gn p) (lag : ∀ a, a < c.ma → c.ag a = m.gn (8 + a)) : Rel c m := ⟨htd, hrn, hpn, han, hjn, htn, hrA, hrC, hkd, haG, hsT, hdY, hpd, hcN, hmN, hwr, hlD, hfc, hfp, hne, hnd, hwh, hod, hch, hmp, hma, hsold, fsT, fdY, fsv, fnd, lho, lpe, lnu, lop, lbo, hlT, ltl, lne, lnt, lch, lmt, lgv, hgv, hgk, lm0, lm1, hgp, hga, lpg, lag⟩
theorem ite_iff {α : Sort _} {P Q : Prop} [Decidable P] [Decidable Q] (h : P ↔ Q) (a b : α) : (if P then a else b) = (if Q then a else b) := by
  by_cases q : Q
  · rw [if_pos q, if_pos (h.mpr q)]
  · rw [if_neg q, if_neg (fun z => q (h.mp z))]
theorem nOf_clamp {x : Int32} {n : Nat} (hn : n < 2 ^ 31) (h : inR x n) : x.toNatClampNeg = nOf x := by
  obtain ⟨j, hj, rfl⟩ := inR_n hn h
  rw [nI_clamp (by omega), nOf_nI (by omega)]
theorem inR_nOf {x : Int32} {n : Nat} (h : inR x n) : nOf x < n := by unfold inR at h; unfold nOf; omega
theorem nI_nOf {x : Int32} {n : Nat} (hn : n < 2 ^ 31) (h : inR x n) : nI (nOf x) = x := by
  obtain ⟨j, hj, rfl⟩ := inR_n hn h
  rw [nOf_nI (by omega)]
theorem m1_ne {k : Nat} (h : k < 2 ^ 31) : ¬ nI k = -1 := fun e => by
  have := congrArg Int32.toInt e
  rw [nI_toInt h] at this
  have h2 : (-1 : Int32).toInt = -1 := by decide
  omega
theorem updN_lt {f : Nat → Nat} {k v B : Nat} (h : ∀ j, f j < B) (hv : v < B) : ∀ j, updN f k v j < B := fun j => by
  simp only [updN]; split
  · exact hv
  · exact h j
theorem updN_le {f : Nat → Nat} {k v B : Nat} (h : ∀ j, f j ≤ B) (hv : v ≤ B) : ∀ j, updN f k v j ≤ B := fun j => by
  simp only [updN]; split
  · exact hv
  · exact h j
section ST
variable {c : CS} {m : MS}
theorem st_today (h : Rel c m) (x : Int32) : Rel (mkCS c.ad c.qR c.lp c.la c.lj c.qM c.qN c.ft c.wr c.tl c.tn c.bo c.lD (if inI c.td 100000 x then nOf x else c.td) c.rA c.rC c.rn c.mdp c.xp c.pn c.pa c.kd c.aG c.sR c.sT c.dY c.pho c.ppe c.mda c.xa c.an c.aa c.anu c.pd c.cN c.mN c.aop c.rr c.fc c.ntot c.ch c.fp c.mdj c.xj c.jn c.ja c.jx c.jne c.sh c.be c.ob c.os c.oc c.ar c.gi c.pg c.ag c.mp c.ma c.prn c.mtot) m := by
  by_cases q : inI c.td 100000 x
  · simp only [if_pos q]
    have h1 : c.td ≤ nOf x ∧ nOf x ≤ 100000 := by unfold inI at q; unfold nOf; omega
    exact (mkRel (htd := h1.2) (hrn := h.hrn) (hpn := h.hpn) (han := h.han) (hjn := h.hjn) (htn := h.htn) (hrA := h.hrA) (hrC := h.hrC) (hkd := h.hkd) (haG := h.haG) (hsT := h.hsT) (hdY := h.hdY) (hpd := h.hpd) (hcN := h.hcN) (hmN := h.hmN) (hwr := h.hwr) (hlD := h.hlD) (hfc := h.hfc) (hfp := h.hfp) (hne := h.hne) (hnd := h.hnd) (hwh := h.hwh) (hod := h.hod) (hch := h.hch) (hmp := h.hmp) (hma := h.hma) (hsold := fun j e => Nat.le_trans (h.hsold j e) h1.1) (fsT := h.fsT) (fdY := h.fdY) (fsv := h.fsv) (fnd := h.fnd) (lho := h.lho) (lpe := h.lpe) (lnu := h.lnu) (lop := h.lop) (lbo := h.lbo) (hlT := h.hlT) (ltl := h.ltl) (lne := h.lne) (lnt := h.lnt) (lch := h.lch) (lmt := h.lmt) (lgv := h.lgv) (hgv := h.hgv) (hgk := h.hgk) (lm0 := h.lm0) (lm1 := h.lm1) (hgp := h.hgp) (hga := h.hga) (lpg := h.lpg) (lag := h.lag))
  · simp only [if_neg q]
    exact h
theorem st_row (h : Rel c m) (x : Int32) (v : Int64) : Rel (mkCS c.ad c.qR c.lp c.la c.lj c.qM c.qN c.ft c.wr c.tl c.tn c.bo c.lD c.td (if (c.rn < 6 ∧ inI 0 1000 x ∧ inL 0 100000 v ∧ (c.rn = 0 ∨ c.rA (c.rn - 1) < nOf x)) then updN c.rA c.rn (nOf x) else c.rA) (if (c.rn < 6 ∧ inI 0 1000 x ∧ inL 0 100000 v ∧ (c.rn = 0 ∨ c.rA (c.rn - 1) < nOf x)) then updN c.rC c.rn (nOfL v) else c.rC) (if (c.rn < 6 ∧ inI 0 1000 x ∧ inL 0 100000 v ∧ (c.rn = 0 ∨ c.rA (c.rn - 1) < nOf x)) then c.rn + 1 else c.rn) c.mdp c.xp c.pn c.pa c.kd c.aG c.sR c.sT c.dY c.pho c.ppe c.mda c.xa c.an c.aa c.anu c.pd c.cN c.mN c.aop c.rr c.fc c.ntot c.ch c.fp c.mdj c.xj c.jn c.ja c.jx c.jne c.sh c.be c.ob c.os c.oc c.ar c.gi c.pg c.ag c.mp c.ma c.prn c.mtot) m := by
  by_cases q : c.rn < 6 ∧ inI 0 1000 x ∧ inL 0 100000 v ∧ (c.rn = 0 ∨ c.rA (c.rn - 1) < nOf x)
  · simp only [if_pos q]
    have h1 : nOf x ≤ 1000 := by have := q.2.1; unfold inI at this; unfold nOf; omega
    have h2 : nOfL v ≤ 100000 := by have := q.2.2.1; unfold inL at this; unfold nOfL; omega
    have h3 := q.1
    exact (mkRel (htd := h.htd) (hrn := h3) (hpn := h.hpn) (han := h.han) (hjn := h.hjn) (htn := h.htn) (hrA := updN_le h.hrA h1) (hrC := updN_le h.hrC h2) (hkd := h.hkd) (haG := h.haG) (hsT := h.hsT) (hdY := h.hdY) (hpd := h.hpd) (hcN := h.hcN) (hmN := h.hmN) (hwr := h.hwr) (hlD := h.hlD) (hfc := h.hfc) (hfp := h.hfp) (hne := h.hne) (hnd := h.hnd) (hwh := h.hwh) (hod := h.hod) (hch := h.hch) (hmp := h.hmp) (hma := h.hma) (hsold := h.hsold) (fsT := h.fsT) (fdY := h.fdY) (fsv := h.fsv) (fnd := h.fnd) (lho := h.lho) (lpe := h.lpe) (lnu := h.lnu) (lop := h.lop) (lbo := h.lbo) (hlT := h.hlT) (ltl := h.ltl) (lne := h.lne) (lnt := h.lnt) (lch := h.lch) (lmt := h.lmt) (lgv := h.lgv) (hgv := h.hgv) (hgk := h.hgk) (lm0 := h.lm0) (lm1 := h.lm1) (hgp := h.hgp) (hga := h.hga) (lpg := h.lpg) (lag := h.lag))
  · simp only [if_neg q]
    exact h
theorem st_fits (h : Rel c m) (x y b : Int32) : Rel (mkCS c.ad c.qR c.lp c.la c.lj c.qM c.qN (if (inR x 6 ∧ inR y 6) then upd c.ft (6 * nOf x + nOf y) b else c.ft) c.wr c.tl c.tn c.bo c.lD c.td c.rA c.rC c.rn c.mdp c.xp c.pn c.pa c.kd c.aG c.sR c.sT c.dY c.pho c.ppe c.mda c.xa c.an c.aa c.anu c.pd c.cN c.mN c.aop c.rr c.fc c.ntot c.ch c.fp c.mdj c.xj c.jn c.ja c.jx c.jne c.sh c.be c.ob c.os c.oc c.ar c.gi c.pg c.ag c.mp c.ma c.prn c.mtot) m := (mkRel (htd := h.htd) (hrn := h.hrn) (hpn := h.hpn) (han := h.han) (hjn := h.hjn) (htn := h.htn) (hrA := h.hrA) (hrC := h.hrC) (hkd := h.hkd) (haG := h.haG) (hsT := h.hsT) (hdY := h.hdY) (hpd := h.hpd) (hcN := h.hcN) (hmN := h.hmN) (hwr := h.hwr) (hlD := h.hlD) (hfc := h.hfc) (hfp := h.hfp) (hne := h.hne) (hnd := h.hnd) (hwh := h.hwh) (hod := h.hod) (hch := h.hch) (hmp := h.hmp) (hma := h.hma) (hsold := h.hsold) (fsT := h.fsT) (fdY := h.fdY) (fsv := h.fsv) (fnd := h.fnd) (lho := h.lho) (lpe := h.lpe) (lnu := h.lnu) (lop := h.lop) (lbo := h.lbo) (hlT := h.hlT) (ltl := h.ltl) (lne := h.lne) (lnt := h.lnt) (lch := h.lch) (lmt := h.lmt) (lgv := h.lgv) (hgv := h.hgv) (hgk := h.hgk) (lm0 := h.lm0) (lm1 := h.lm1) (hgp := h.hgp) (hga := h.hga) (lpg := h.lpg) (lag := h.lag))
theorem st_warr (h : Rel c m) (x y : Int32) : Rel (mkCS c.ad c.qR c.lp c.la c.lj c.qM c.qN c.ft (if (inR x 6 ∧ inI 0 1000 y) then updN c.wr (nOf x) (nOf y) else c.wr) c.tl c.tn c.bo c.lD c.td c.rA c.rC c.rn c.mdp c.xp c.pn c.pa c.kd c.aG c.sR c.sT c.dY c.pho c.ppe c.mda c.xa c.an c.aa c.anu c.pd c.cN c.mN c.aop c.rr c.fc c.ntot c.ch c.fp c.mdj c.xj c.jn c.ja c.jx c.jne c.sh c.be c.ob c.os c.oc c.ar c.gi c.pg c.ag c.mp c.ma c.prn c.mtot) m := by
  refine (mkRel (htd := h.htd) (hrn := h.hrn) (hpn := h.hpn) (han := h.han) (hjn := h.hjn) (htn := h.htn) (hrA := h.hrA) (hrC := h.hrC) (hkd := h.hkd) (haG := h.haG) (hsT := h.hsT) (hdY := h.hdY) (hpd := h.hpd) (hcN := h.hcN) (hmN := h.hmN) (hwr := fun j => ?_) (hlD := h.hlD) (hfc := h.hfc) (hfp := h.hfp) (hne := h.hne) (hnd := h.hnd) (hwh := h.hwh) (hod := h.hod) (hch := h.hch) (hmp := h.hmp) (hma := h.hma) (hsold := h.hsold) (fsT := h.fsT) (fdY := h.fdY) (fsv := h.fsv) (fnd := h.fnd) (lho := h.lho) (lpe := h.lpe) (lnu := h.lnu) (lop := h.lop) (lbo := h.lbo) (hlT := h.hlT) (ltl := h.ltl) (lne := h.lne) (lnt := h.lnt) (lch := h.lch) (lmt := h.lmt) (lgv := h.lgv) (hgv := h.hgv) (hgk := h.hgk) (lm0 := h.lm0) (lm1 := h.lm1) (hgp := h.hgp) (hga := h.hga) (lpg := h.lpg) (lag := h.lag))
  show (if (inR x 6 ∧ inI 0 1000 y) then updN c.wr (nOf x) (nOf y) else c.wr) j ≤ 1000
  split
  · rename_i q
    exact updN_le h.hwr (by have := q.2; unfold inI at this; unfold nOf; omega) j
  · exact h.hwr j
/-! parts, asks, jobs -/
abbrev cPart (c : CS) (x y : Int32) (v : Int64) : Prop := c.pn < 8 ∧ inR x 6 ∧ inI 0 1000 y ∧ inL 0 1000000000 v
theorem st_part_sT (h : Rel c m) (x y : Int32) (v : Int64) : (if cPart c x y v then updN c.sT c.pn 0 else c.sT) = c.sT := by
  split
  · rw [← h.fsT c.pn (Nat.le_refl _)]; exact updN_id _ _
  · rfl
theorem st_part_dY (h : Rel c m) (x y : Int32) (v : Int64) : (if cPart c x y v then updN c.dY c.pn 0 else c.dY) = c.dY := by
  split
  · rw [← h.fdY c.pn (Nat.le_refl _)]; exact updN_id _ _
  · rfl
theorem st_part (h : Rel c m) (x y : Int32) (v : Int64) (u1 : Int32) (u2 : Nat) (u3 : Nat → Nat) : Rel (mkCS c.ad c.qR c.lp c.la c.lj c.qM c.qN c.ft c.wr c.tl c.tn c.bo c.lD c.td c.rA c.rC c.rn (u1) (u2) (if cPart c x y v then c.pn + 1 else c.pn) (u3) (if cPart c x y v then updN c.kd c.pn (nOf x) else c.kd) (if cPart c x y v then updN c.aG c.pn (nOf y) else c.aG) (if cPart c x y v then updN c.sR c.pn (nOfL v) else c.sR) c.sT c.dY (if cPart c x y v then upd c.pho c.pn (-1) else c.pho) (if cPart c x y v then upd c.ppe c.pn (-1) else c.ppe) c.mda c.xa c.an c.aa c.anu c.pd c.cN c.mN c.aop c.rr c.fc c.ntot c.ch c.fp c.mdj c.xj c.jn c.ja c.jx c.jne c.sh c.be c.ob c.os c.oc c.ar c.gi c.pg c.ag c.mp c.ma c.prn c.mtot) m := by
  by_cases q : cPart c x y v
  · simp only [if_pos q]
    have h1 := inR_nOf q.2.1
    have h2 : nOf y ≤ 1000 := by have := q.2.2.1; unfold inI at this; unfold nOf; omega
    have z := h.fsT c.pn (Nat.le_refl _)
    refine (mkRel (htd := h.htd) (hrn := h.hrn) (hpn := q.1) (han := h.han) (hjn := h.hjn) (htn := h.htn) (hrA := h.hrA) (hrC := h.hrC) (hkd := updN_lt h.hkd h1) (haG := updN_le h.haG h2) (hsT := h.hsT) (hdY := h.hdY) (hpd := h.hpd) (hcN := h.hcN) (hmN := h.hmN) (hwr := h.hwr) (hlD := h.hlD) (hfc := h.hfc) (hfp := h.hfp) (hne := h.hne) (hnd := h.hnd) (hwh := h.hwh) (hod := h.hod) (hch := h.hch) (hmp := h.hmp) (hma := h.hma) (hsold := h.hsold) (fsT := fun j hj => h.fsT j (by have hj : c.pn + 1 ≤ j := hj; omega)) (fdY := fun j hj => h.fdY j (by have hj : c.pn + 1 ≤ j := hj; omega)) (fsv := h.fsv) (fnd := h.fnd) (lho := fun j e => ?_) (lpe := fun j e => ?_) (lnu := h.lnu) (lop := h.lop) (lbo := h.lbo) (hlT := h.hlT) (ltl := h.ltl) (lne := h.lne) (lnt := h.lnt) (lch := h.lch) (lmt := h.lmt) (lgv := h.lgv) (hgv := h.hgv) (hgk := fun a ha => ?_) (lm0 := h.lm0) (lm1 := h.lm1) (hgp := h.hgp) (hga := h.hga) (lpg := h.lpg) (lag := h.lag))
    · have e : c.sT j = 1 := e
      have ne : j ≠ c.pn := fun w => by rw [w, z] at e; omega
      show upd c.pho c.pn (-1) j = _
      rw [pk_un ne]; exact h.lho j e
    · have e : c.sT j = 2 := e
      have ne : j ≠ c.pn := fun w => by rw [w, z] at e; omega
      show upd c.ppe c.pn (-1) j = _
      rw [pk_un ne]; exact h.lpe j e
    · rcases h.hgk a ha with w | ⟨k, hk, w⟩
      · exact Or.inl w
      · exact Or.inr ⟨k, by show k < c.pn + 1; omega, w⟩
  · simp only [if_neg q]
    exact (mkRel (htd := h.htd) (hrn := h.hrn) (hpn := h.hpn) (han := h.han) (hjn := h.hjn) (htn := h.htn) (hrA := h.hrA) (hrC := h.hrC) (hkd := h.hkd) (haG := h.haG) (hsT := h.hsT) (hdY := h.hdY) (hpd := h.hpd) (hcN := h.hcN) (hmN := h.hmN) (hwr := h.hwr) (hlD := h.hlD) (hfc := h.hfc) (hfp := h.hfp) (hne := h.hne) (hnd := h.hnd) (hwh := h.hwh) (hod := h.hod) (hch := h.hch) (hmp := h.hmp) (hma := h.hma) (hsold := h.hsold) (fsT := h.fsT) (fdY := h.fdY) (fsv := h.fsv) (fnd := h.fnd) (lho := h.lho) (lpe := h.lpe) (lnu := h.lnu) (lop := h.lop) (lbo := h.lbo) (hlT := h.hlT) (ltl := h.ltl) (lne := h.lne) (lnt := h.lnt) (lch := h.lch) (lmt := h.lmt) (lgv := h.lgv) (hgv := h.hgv) (hgk := h.hgk) (lm0 := h.lm0) (lm1 := h.lm1) (hgp := h.hgp) (hga := h.hga) (lpg := h.lpg) (lag := h.lag))
abbrev cAsk (c : CS) (x : Int32) (v w : Int64) : Prop := c.an < 8 ∧ inR x 6 ∧ inL 0 1000000 v ∧ inL 0 1000000000 w
theorem st_ask (h : Rel c m) (x : Int32) (v w : Int64) (u1 : Int32) (u2 : Nat) (u3 : Nat → Nat) : Rel (mkCS c.ad c.qR c.lp c.la c.lj c.qM c.qN c.ft c.wr c.tl c.tn c.bo c.lD c.td c.rA c.rC c.rn c.mdp c.xp c.pn c.pa c.kd c.aG c.sR c.sT c.dY c.pho c.ppe (u1) (u2) (if cAsk c x v w then c.an + 1 else c.an) (u3) (if cAsk c x v w then updN c.anu c.an c.an else c.anu) (if cAsk c x v w then updN c.pd c.an (nOf x) else c.pd) (if cAsk c x v w then updN c.cN c.an (nOfL v) else c.cN) (if cAsk c x v w then updN c.mN c.an (nOfL w) else c.mN) (if cAsk c x v w then upd c.aop c.an (nI 1) else c.aop) c.rr c.fc c.ntot c.ch c.fp c.mdj c.xj c.jn c.ja c.jx c.jne c.sh c.be c.ob c.os c.oc c.ar c.gi c.pg c.ag c.mp c.ma c.prn c.mtot) m := by
  by_cases q : cAsk c x v w
  · simp only [if_pos q]
    have h1 := inR_nOf q.2.1
    have h2 : nOfL v ≤ 1000000 := by have := q.2.2.1; unfold inL at this; unfold nOfL; omega
    have h3 : nOfL w ≤ 1000000000 := by have := q.2.2.2; unfold inL at this; unfold nOfL; omega
    refine (mkRel (htd := h.htd) (hrn := h.hrn) (hpn := h.hpn) (han := q.1) (hjn := h.hjn) (htn := h.htn) (hrA := h.hrA) (hrC := h.hrC) (hkd := h.hkd) (haG := h.haG) (hsT := h.hsT) (hdY := h.hdY) (hpd := updN_lt h.hpd h1) (hcN := updN_le h.hcN h2) (hmN := updN_le h.hmN h3) (hwr := h.hwr) (hlD := h.hlD) (hfc := h.hfc) (hfp := h.hfp) (hne := h.hne) (hnd := h.hnd) (hwh := h.hwh) (hod := h.hod) (hch := h.hch) (hmp := h.hmp) (hma := h.hma) (hsold := h.hsold) (fsT := h.fsT) (fdY := h.fdY) (fsv := fun j hj => h.fsv j (by have hj : c.an + 1 ≤ j := hj; omega)) (fnd := h.fnd) (lho := h.lho) (lpe := h.lpe) (lnu := fun a ha => ?_) (lop := fun a ha => ?_) (lbo := h.lbo) (hlT := h.hlT) (ltl := h.ltl) (lne := h.lne) (lnt := h.lnt) (lch := h.lch) (lmt := h.lmt) (lgv := h.lgv) (hgv := h.hgv) (hgk := h.hgk) (lm0 := h.lm0) (lm1 := h.lm1) (hgp := h.hgp) (hga := h.hga) (lpg := h.lpg) (lag := h.lag))
    · have ha : a < c.an + 1 := ha
      show updN c.anu c.an c.an a = a
      simp only [updN]; split
      · rename_i e; exact e.symm
      · exact h.lnu a (by omega)
    · have ha : a < c.an + 1 := ha
      show upd c.aop c.an (nI 1) a = 0 ↔ _
      by_cases e : a = c.an
      · rw [e, pk_us]
        exact ⟨fun w => absurd w (by decide), fun w => absurd (h.fsv c.an (Nat.le_refl _)) w⟩
      · rw [pk_un e]; exact h.lop a (by omega)
  · simp only [if_neg q]
    exact (mkRel (htd := h.htd) (hrn := h.hrn) (hpn := h.hpn) (han := h.han) (hjn := h.hjn) (htn := h.htn) (hrA := h.hrA) (hrC := h.hrC) (hkd := h.hkd) (haG := h.haG) (hsT := h.hsT) (hdY := h.hdY) (hpd := h.hpd) (hcN := h.hcN) (hmN := h.hmN) (hwr := h.hwr) (hlD := h.hlD) (hfc := h.hfc) (hfp := h.hfp) (hne := h.hne) (hnd := h.hnd) (hwh := h.hwh) (hod := h.hod) (hch := h.hch) (hmp := h.hmp) (hma := h.hma) (hsold := h.hsold) (fsT := h.fsT) (fdY := h.fdY) (fsv := h.fsv) (fnd := h.fnd) (lho := h.lho) (lpe := h.lpe) (lnu := h.lnu) (lop := h.lop) (lbo := h.lbo) (hlT := h.hlT) (ltl := h.ltl) (lne := h.lne) (lnt := h.lnt) (lch := h.lch) (lmt := h.lmt) (lgv := h.lgv) (hgv := h.hgv) (hgk := h.hgk) (lm0 := h.lm0) (lm1 := h.lm1) (hgp := h.hgp) (hga := h.hga) (lpg := h.lpg) (lag := h.lag))
theorem st_job (h : Rel c m) (u1 : Int32) (u2 : Nat) (u3 u4 : Nat → Nat) : Rel (mkCS c.ad c.qR c.lp c.la c.lj c.qM c.qN c.ft c.wr c.tl c.tn c.bo c.lD c.td c.rA c.rC c.rn c.mdp c.xp c.pn c.pa c.kd c.aG c.sR c.sT c.dY c.pho c.ppe c.mda c.xa c.an c.aa c.anu c.pd c.cN c.mN c.aop c.rr c.fc c.ntot c.ch c.fp (u1) (u2) (if c.jn < 6 then c.jn + 1 else c.jn) (u3) (u4) (if c.jn < 6 then va_up c.jne c.jn (fun _ => 0) else c.jne) c.sh c.be c.ob c.os c.oc c.ar c.gi c.pg c.ag c.mp c.ma c.prn c.mtot) m := by
  by_cases q : c.jn < 6
  · simp only [if_pos q]
    refine (mkRel (htd := h.htd) (hrn := h.hrn) (hpn := h.hpn) (han := h.han) (hjn := q) (htn := h.htn) (hrA := h.hrA) (hrC := h.hrC) (hkd := h.hkd) (haG := h.haG) (hsT := h.hsT) (hdY := h.hdY) (hpd := h.hpd) (hcN := h.hcN) (hmN := h.hmN) (hwr := h.hwr) (hlD := h.hlD) (hfc := h.hfc) (hfp := h.hfp) (hne := fun j k => ?_) (hnd := h.hnd) (hwh := h.hwh) (hod := h.hod) (hch := h.hch) (hmp := h.hmp) (hma := h.hma) (hsold := h.hsold) (fsT := h.fsT) (fdY := h.fdY) (fsv := h.fsv) (fnd := fun j k hj hk => h.fnd j k (by have hj : c.jn + 1 ≤ j := hj; omega) hk) (lho := h.lho) (lpe := h.lpe) (lnu := h.lnu) (lop := h.lop) (lbo := h.lbo) (hlT := h.hlT) (ltl := h.ltl) (lne := fun j k hj hk => ?_) (lnt := h.lnt) (lch := h.lch) (lmt := h.lmt) (lgv := h.lgv) (hgv := h.hgv) (hgk := h.hgk) (lm0 := h.lm0) (lm1 := h.lm1) (hgp := h.hgp) (hga := h.hga) (lpg := h.lpg) (lag := h.lag))
    · show va_up c.jne c.jn (fun _ => 0) j k ≤ 3
      simp only [va_up]; split
      · exact Nat.zero_le _
      · exact h.hne j k
    · have hj : j < c.jn + 1 := hj
      show va_up c.jne c.jn (fun _ => 0) j k = _
      simp only [va_up]; split
      · rename_i e; rw [e]; exact (h.fnd c.jn k (Nat.le_refl _) hk).symm
      · exact h.lne j k (by omega) hk
  · simp only [if_neg q]
    exact (mkRel (htd := h.htd) (hrn := h.hrn) (hpn := h.hpn) (han := h.han) (hjn := h.hjn) (htn := h.htn) (hrA := h.hrA) (hrC := h.hrC) (hkd := h.hkd) (haG := h.haG) (hsT := h.hsT) (hdY := h.hdY) (hpd := h.hpd) (hcN := h.hcN) (hmN := h.hmN) (hwr := h.hwr) (hlD := h.hlD) (hfc := h.hfc) (hfp := h.hfp) (hne := h.hne) (hnd := h.hnd) (hwh := h.hwh) (hod := h.hod) (hch := h.hch) (hmp := h.hmp) (hma := h.hma) (hsold := h.hsold) (fsT := h.fsT) (fdY := h.fdY) (fsv := h.fsv) (fnd := h.fnd) (lho := h.lho) (lpe := h.lpe) (lnu := h.lnu) (lop := h.lop) (lbo := h.lbo) (hlT := h.hlT) (ltl := h.ltl) (lne := h.lne) (lnt := h.lnt) (lch := h.lch) (lmt := h.lmt) (lgv := h.lgv) (hgv := h.hgv) (hgk := h.hgk) (lm0 := h.lm0) (lm1 := h.lm1) (hgp := h.hgp) (hga := h.hga) (lpg := h.lpg) (lag := h.lag))
/-! hold, returned, needs, recall, lend, back -/
abbrev cHold (c : CS) (x y z : Int32) : Prop := inR x c.pn ∧ inR y c.an ∧ inI c.td 100000 z ∧ stOn (c.sT (nOf x)) (c.dY (nOf x)) c.td = 0 ∧ ¬ c.aop (nOf y) = 0
abbrev mHold (c : CS) (m : MS) (x y z : Int32) : Prop := inR x c.pn ∧ stOn (c.sT (nOf x)) (c.dY (nOf x)) c.td = 0 ∧ opn m.sv c.an y ∧ inI c.td 100000 z
theorem st_hold_iff (h : Rel c m) (x y z : Int32) : mHold c m x y z ↔ cHold c x y z := by
  have key : inR y c.an → (m.sv y.toNatClampNeg = 0 ↔ ¬ c.aop (nOf y) = 0) := fun q => by
    have h8 := h.han
    rw [nOf_clamp (by omega) q, h.lop _ (inR_nOf q), Classical.not_not]
  constructor
  · rintro ⟨a1, a2, ⟨a3, a4⟩, a5⟩
    exact ⟨a1, a3, a5, a2, (key a3).mp a4⟩
  · rintro ⟨a1, a3, a5, a2, a4⟩
    exact ⟨a1, a2, ⟨a3, (key a3).mpr a4⟩, a5⟩
theorem st_hold (h : Rel c m) (x y z : Int32) : Rel (mkCS c.ad c.qR c.lp c.la c.lj c.qM c.qN c.ft c.wr c.tl c.tn c.bo c.lD c.td c.rA c.rC c.rn c.mdp c.xp c.pn c.pa c.kd c.aG c.sR (if cHold c x y z then updN c.sT (nOf x) 1 else c.sT) (if cHold c x y z then updN c.dY (nOf x) (nOf z) else c.dY) (if cHold c x y z then upd c.pho (nOf x) (nI (c.anu (nOf y))) else c.pho) c.ppe c.mda c.xa c.an c.aa c.anu c.pd c.cN c.mN c.aop c.rr c.fc c.ntot c.ch c.fp c.mdj c.xj c.jn c.ja c.jx c.jne c.sh c.be c.ob c.os c.oc c.ar c.gi c.pg c.ag c.mp c.ma c.prn c.mtot) (mkMS m.ad m.bm m.fw m.gp m.ga m.bp m.fc m.fj (if mHold c m x y z then updN m.wh (nOf x) (nOf y) else m.wh) m.sv m.nd m.tl m.lt m.lT m.gv m.gn m.od m.br) := by
  rw [ite_iff (st_hold_iff h x y z)]
  by_cases q : cHold c x y z
  · simp only [if_pos q]
    have h1 := inR_nOf q.1
    have h2 := inR_nOf q.2.1
    have h8 := h.han
    have h3 : nOf z ≤ 100000 := by have := q.2.2.1; unfold inI at this; unfold nOf; omega
    refine (mkRel (htd := h.htd) (hrn := h.hrn) (hpn := h.hpn) (han := h.han) (hjn := h.hjn) (htn := h.htn) (hrA := h.hrA) (hrC := h.hrC) (hkd := h.hkd) (haG := h.haG) (hsT := updN_le h.hsT (by decide)) (hdY := updN_le h.hdY h3) (hpd := h.hpd) (hcN := h.hcN) (hmN := h.hmN) (hwr := h.hwr) (hlD := h.hlD) (hfc := h.hfc) (hfp := h.hfp) (hne := h.hne) (hnd := h.hnd) (hwh := updN_lt h.hwh (by omega)) (hod := h.hod) (hch := h.hch) (hmp := h.hmp) (hma := h.hma) (hsold := fun j e => ?_) (fsT := fun j hj => ?_) (fdY := fun j hj => ?_) (fsv := h.fsv) (fnd := h.fnd) (lho := fun j e => ?_) (lpe := fun j e => ?_) (lnu := h.lnu) (lop := h.lop) (lbo := h.lbo) (hlT := h.hlT) (ltl := h.ltl) (lne := h.lne) (lnt := h.lnt) (lch := h.lch) (lmt := h.lmt) (lgv := h.lgv) (hgv := h.hgv) (hgk := h.hgk) (lm0 := h.lm0) (lm1 := h.lm1) (hgp := h.hgp) (hga := h.hga) (lpg := h.lpg) (lag := h.lag))
    · have e : updN c.sT (nOf x) 1 j = 2 := e
      show updN c.dY (nOf x) (nOf z) j ≤ c.td
      by_cases w : j = nOf x
      · rw [w, updN_s] at e; omega
      · rw [updN_n _ _ w] at e ⊢; exact h.hsold j e
    · show updN c.sT (nOf x) 1 j = 0
      have hj : c.pn ≤ j := hj
      rw [updN_n _ _ (by omega)]; exact h.fsT j hj
    · show updN c.dY (nOf x) (nOf z) j = 0
      have hj : c.pn ≤ j := hj
      rw [updN_n _ _ (by omega)]; exact h.fdY j hj
    · have e : updN c.sT (nOf x) 1 j = 1 := e
      show upd c.pho (nOf x) (nI (c.anu (nOf y))) j = nI (updN m.wh (nOf x) (nOf y) j)
      by_cases w : j = nOf x
      · rw [w, pk_us, updN_s, h.lnu _ h2]
      · rw [updN_n _ _ w] at e; rw [pk_un w, updN_n _ _ w]; exact h.lho j e
    · have e : updN c.sT (nOf x) 1 j = 2 := e
      show c.ppe j = nI (updN m.wh (nOf x) (nOf y) j)
      by_cases w : j = nOf x
      · rw [w, updN_s] at e; omega
      · rw [updN_n _ _ w] at e ⊢; exact h.lpe j e
  · simp only [if_neg q]
    exact (mkRel (htd := h.htd) (hrn := h.hrn) (hpn := h.hpn) (han := h.han) (hjn := h.hjn) (htn := h.htn) (hrA := h.hrA) (hrC := h.hrC) (hkd := h.hkd) (haG := h.haG) (hsT := h.hsT) (hdY := h.hdY) (hpd := h.hpd) (hcN := h.hcN) (hmN := h.hmN) (hwr := h.hwr) (hlD := h.hlD) (hfc := h.hfc) (hfp := h.hfp) (hne := h.hne) (hnd := h.hnd) (hwh := h.hwh) (hod := h.hod) (hch := h.hch) (hmp := h.hmp) (hma := h.hma) (hsold := h.hsold) (fsT := h.fsT) (fdY := h.fdY) (fsv := h.fsv) (fnd := h.fnd) (lho := h.lho) (lpe := h.lpe) (lnu := h.lnu) (lop := h.lop) (lbo := h.lbo) (hlT := h.hlT) (ltl := h.ltl) (lne := h.lne) (lnt := h.lnt) (lch := h.lch) (lmt := h.lmt) (lgv := h.lgv) (hgv := h.hgv) (hgk := h.hgk) (lm0 := h.lm0) (lm1 := h.lm1) (hgp := h.hgp) (hga := h.hga) (lpg := h.lpg) (lag := h.lag))
abbrev cRet (c : CS) (x : Int32) : Prop := inR x c.pn ∧ c.sT (nOf x) = 2 ∧ c.td - c.dY (nOf x) ≤ c.wr (c.kd (nOf x))
theorem st_ret (h : Rel c m) (x : Int32) : Rel (mkCS c.ad c.qR c.lp c.la c.lj c.qM c.qN c.ft c.wr c.tl c.tn c.bo c.lD c.td c.rA c.rC c.rn c.mdp c.xp c.pn c.pa c.kd c.aG c.sR (if cRet c x then updN c.sT (nOf x) 0 else c.sT) c.dY c.pho c.ppe c.mda c.xa c.an c.aa c.anu c.pd c.cN c.mN c.aop c.rr c.fc c.ntot c.ch c.fp c.mdj c.xj c.jn c.ja c.jx c.jne c.sh c.be c.ob c.os c.oc c.ar c.gi c.pg c.ag c.mp c.ma c.prn c.mtot) m := by
  by_cases q : cRet c x
  · simp only [if_pos q]
    have sub : ∀ j v, updN c.sT (nOf x) 0 j = v → 0 < v → c.sT j = v := fun j v e hv => by
      by_cases w : j = nOf x
      · rw [w, updN_s] at e; omega
      · rw [updN_n _ _ w] at e; exact e
    refine (mkRel (htd := h.htd) (hrn := h.hrn) (hpn := h.hpn) (han := h.han) (hjn := h.hjn) (htn := h.htn) (hrA := h.hrA) (hrC := h.hrC) (hkd := h.hkd) (haG := h.haG) (hsT := updN_le h.hsT (by decide)) (hdY := h.hdY) (hpd := h.hpd) (hcN := h.hcN) (hmN := h.hmN) (hwr := h.hwr) (hlD := h.hlD) (hfc := h.hfc) (hfp := h.hfp) (hne := h.hne) (hnd := h.hnd) (hwh := h.hwh) (hod := h.hod) (hch := h.hch) (hmp := h.hmp) (hma := h.hma) (hsold := fun j e => h.hsold j (sub j 2 e (by decide))) (fsT := fun j hj => ?_) (fdY := h.fdY) (fsv := h.fsv) (fnd := h.fnd) (lho := fun j e => h.lho j (sub j 1 e (by decide))) (lpe := fun j e => h.lpe j (sub j 2 e (by decide))) (lnu := h.lnu) (lop := h.lop) (lbo := h.lbo) (hlT := h.hlT) (ltl := h.ltl) (lne := h.lne) (lnt := h.lnt) (lch := h.lch) (lmt := h.lmt) (lgv := h.lgv) (hgv := h.hgv) (hgk := h.hgk) (lm0 := h.lm0) (lm1 := h.lm1) (hgp := h.hgp) (hga := h.hga) (lpg := h.lpg) (lag := h.lag))
    show updN c.sT (nOf x) 0 j = 0
    simp only [updN]; split
    · rfl
    · exact h.fsT j hj
  · simp only [if_neg q]
    exact h
abbrev cNeeds (c : CS) (x y z : Int32) : Prop := inR x c.jn ∧ inR y 6 ∧ inI 0 3 z
theorem st_needs (h : Rel c m) (x y z : Int32) : Rel (mkCS c.ad c.qR c.lp c.la c.lj c.qM c.qN c.ft c.wr c.tl c.tn c.bo c.lD c.td c.rA c.rC c.rn c.mdp c.xp c.pn c.pa c.kd c.aG c.sR c.sT c.dY c.pho c.ppe c.mda c.xa c.an c.aa c.anu c.pd c.cN c.mN c.aop c.rr c.fc c.ntot c.ch c.fp c.mdj c.xj c.jn c.ja c.jx (if cNeeds c x y z then va_up c.jne (nOf x) (updN (c.jne (nOf x)) (nOf y) (nOf z)) else c.jne) c.sh c.be c.ob c.os c.oc c.ar c.gi c.pg c.ag c.mp c.ma c.prn c.mtot) (mkMS m.ad m.bm m.fw m.gp m.ga m.bp m.fc m.fj m.wh m.sv (if cNeeds c x y z then updN m.nd (6 * nOf x + nOf y) (nOf z) else m.nd) m.tl m.lt m.lT m.gv m.gn m.od m.br) := by
  by_cases q : cNeeds c x y z
  · simp only [if_pos q]
    have h1 := inR_nOf q.1
    have h2 := inR_nOf q.2.1
    have h3 : nOf z ≤ 3 := by have := q.2.2; unfold inI at this; unfold nOf; omega
    refine (mkRel (htd := h.htd) (hrn := h.hrn) (hpn := h.hpn) (han := h.han) (hjn := h.hjn) (htn := h.htn) (hrA := h.hrA) (hrC := h.hrC) (hkd := h.hkd) (haG := h.haG) (hsT := h.hsT) (hdY := h.hdY) (hpd := h.hpd) (hcN := h.hcN) (hmN := h.hmN) (hwr := h.hwr) (hlD := h.hlD) (hfc := h.hfc) (hfp := h.hfp) (hne := fun j k => ?_) (hnd := updN_le h.hnd h3) (hwh := h.hwh) (hod := h.hod) (hch := h.hch) (hmp := h.hmp) (hma := h.hma) (hsold := h.hsold) (fsT := h.fsT) (fdY := h.fdY) (fsv := h.fsv) (fnd := fun j k hj hk => ?_) (lho := h.lho) (lpe := h.lpe) (lnu := h.lnu) (lop := h.lop) (lbo := h.lbo) (hlT := h.hlT) (ltl := h.ltl) (lne := fun j k hj hk => ?_) (lnt := h.lnt) (lch := h.lch) (lmt := h.lmt) (lgv := h.lgv) (hgv := h.hgv) (hgk := h.hgk) (lm0 := h.lm0) (lm1 := h.lm1) (hgp := h.hgp) (hga := h.hga) (lpg := h.lpg) (lag := h.lag))
    · show va_up c.jne (nOf x) (updN (c.jne (nOf x)) (nOf y) (nOf z)) j k ≤ 3
      simp only [va_up]; split
      · exact updN_le (fun i => h.hne _ i) h3 k
      · exact h.hne j k
    · have hj : c.jn ≤ j := hj
      show updN m.nd (6 * nOf x + nOf y) (nOf z) (6 * j + k) = 0
      rw [updN_n _ _ (by omega)]; exact h.fnd j k hj hk
    · show va_up c.jne (nOf x) (updN (c.jne (nOf x)) (nOf y) (nOf z)) j k = updN m.nd (6 * nOf x + nOf y) (nOf z) (6 * j + k)
      have l := h.lne j k hj hk
      by_cases w : j = nOf x
      · have e1 : va_up c.jne (nOf x) (updN (c.jne (nOf x)) (nOf y) (nOf z)) j k = updN (c.jne (nOf x)) (nOf y) (nOf z) k := by simp only [va_up]; rw [if_pos w]
        rw [e1]
        by_cases w2 : k = nOf y
        · rw [w2, updN_s, w, updN_s]
        · rw [updN_n _ _ w2, updN_n _ _ (by omega), ← w]; exact l
      · have e1 : va_up c.jne (nOf x) (updN (c.jne (nOf x)) (nOf y) (nOf z)) j k = c.jne j k := by simp only [va_up]; rw [if_neg w]
        rw [e1, updN_n _ _ (by omega)]; exact l
  · simp only [if_neg q]
    exact h
theorem st_recall (h : Rel c m) (x : Int32) (v u : Int64) : Rel (mkCS c.ad c.qR c.lp c.la c.lj c.qM c.qN c.ft c.wr (if inR x 6 then rcK c.kd c.sR c.sT c.ppe c.tl (nOf x) v u c.pn else c.tl) (if inR x 6 then rcT c.kd c.sR c.sT (nOf x) v u c.pn else c.tn) c.bo c.lD c.td c.rA c.rC c.rn c.mdp c.xp c.pn c.pa c.kd c.aG c.sR (if inR x 6 then rcS c.kd c.sR c.sT (nOf x) v u c.pn else c.sT) c.dY c.pho c.ppe c.mda c.xa c.an c.aa c.anu c.pd c.cN c.mN c.aop c.rr c.fc c.ntot c.ch c.fp c.mdj c.xj c.jn c.ja c.jx c.jne c.sh c.be c.ob c.os c.oc c.ar c.gi c.pg c.ag c.mp c.ma c.prn c.mtot) (mkMS m.ad m.bm m.fw m.gp m.ga m.bp m.fc m.fj m.wh m.sv m.nd (if inR x 6 then rcL c.kd c.sR c.sT m.wh m.tl (nOf x) v u c.pn else m.tl) m.lt m.lT m.gv m.gn m.od m.br) := by
  by_cases q : inR x 6
  · simp only [if_pos q]
    have h8 := h.hpn
    have rl := rcT_le c.kd c.sR c.sT (nOf x) v u c.pn
    have sub : ∀ j w, rcS c.kd c.sR c.sT (nOf x) v u c.pn j = w → w < 3 → c.sT j = w := fun j w e hw => by
      rcases rcS_n (kd := c.kd) (sR := c.sR) (sT := c.sT) (k := nOf x) (v := v) (u := u) j c.pn with z | z
      · omega
      · omega
    refine (mkRel (htd := h.htd) (hrn := h.hrn) (hpn := h.hpn) (han := h.han) (hjn := h.hjn) (htn := by show rcT c.kd c.sR c.sT (nOf x) v u c.pn ≤ 8; omega) (hrA := h.hrA) (hrC := h.hrC) (hkd := h.hkd) (haG := h.haG) (hsT := fun j => ?_) (hdY := h.hdY) (hpd := h.hpd) (hcN := h.hcN) (hmN := h.hmN) (hwr := h.hwr) (hlD := h.hlD) (hfc := h.hfc) (hfp := h.hfp) (hne := h.hne) (hnd := h.hnd) (hwh := h.hwh) (hod := h.hod) (hch := h.hch) (hmp := h.hmp) (hma := h.hma) (hsold := fun j e => h.hsold j (sub j 2 e (by decide))) (fsT := fun j hj => ?_) (fdY := h.fdY) (fsv := h.fsv) (fnd := h.fnd) (lho := fun j e => h.lho j (sub j 1 e (by decide))) (lpe := fun j e => h.lpe j (sub j 2 e (by decide))) (lnu := h.lnu) (lop := h.lop) (lbo := h.lbo) (hlT := h.hlT) (ltl := fun i hi => rc_eq h.lpe c.pn i hi) (lne := h.lne) (lnt := h.lnt) (lch := h.lch) (lmt := h.lmt) (lgv := h.lgv) (hgv := h.hgv) (hgk := h.hgk) (lm0 := h.lm0) (lm1 := h.lm1) (hgp := h.hgp) (hga := h.hga) (lpg := h.lpg) (lag := h.lag))
    · show rcS c.kd c.sR c.sT (nOf x) v u c.pn j ≤ 3
      have := h.hsT j
      rcases rcS_n (kd := c.kd) (sR := c.sR) (sT := c.sT) (k := nOf x) (v := v) (u := u) j c.pn with z | z <;> omega
    · show rcS c.kd c.sR c.sT (nOf x) v u c.pn j = 0
      rw [rcS_ge c.kd c.sR c.sT (nOf x) v u c.pn hj]; exact h.fsT j hj
  · simp only [if_neg q]
    exact h
theorem bo_iff (h : Rel c m) {t : Nat} (ht : t < 4) : c.bo t = -1 ↔ m.lt t = 0 := by
  rw [h.lbo t ht]
  have h1 := h.hlT t
  by_cases q : m.lt t = 0
  · rw [if_pos q]; exact ⟨fun _ => q, fun _ => rfl⟩
  · rw [if_neg q]; exact ⟨fun w => absurd w (m1_ne (by omega)), fun w => absurd w q⟩
abbrev cLend (c : CS) (x y z : Int32) : Prop := inR x 4 ∧ inR y 10 ∧ inI c.td 100000 z ∧ c.bo (nOf x) = -1
abbrev mLend (c : CS) (m : MS) (x y z : Int32) : Prop := inR x 4 ∧ inR y 10 ∧ m.lt (nOf x) = 0 ∧ inI c.td 100000 z
theorem st_lend_iff (h : Rel c m) (x y z : Int32) : mLend c m x y z ↔ cLend c x y z := by
  constructor
  · rintro ⟨a1, a2, a3, a4⟩
    exact ⟨a1, a2, a4, (bo_iff h (inR_nOf a1)).mpr a3⟩
  · rintro ⟨a1, a2, a4, a3⟩
    exact ⟨a1, a2, (bo_iff h (inR_nOf a1)).mp a3, a4⟩
theorem st_lend (h : Rel c m) (x y z : Int32) : Rel (mkCS c.ad c.qR c.lp c.la c.lj c.qM c.qN c.ft c.wr c.tl c.tn (if cLend c x y z then upd c.bo (nOf x) y else c.bo) (if cLend c x y z then updN c.lD (nOf x) (nOf z) else c.lD) c.td c.rA c.rC c.rn c.mdp c.xp c.pn c.pa c.kd c.aG c.sR c.sT c.dY c.pho c.ppe c.mda c.xa c.an c.aa c.anu c.pd c.cN c.mN c.aop c.rr c.fc c.ntot c.ch c.fp c.mdj c.xj c.jn c.ja c.jx c.jne c.sh c.be c.ob c.os c.oc c.ar c.gi c.pg c.ag c.mp c.ma c.prn c.mtot) (mkMS m.ad m.bm m.fw m.gp m.ga m.bp m.fc m.fj m.wh m.sv m.nd m.tl (if mLend c m x y z then upd m.lt (nOf x) (nI 1) else m.lt) (if mLend c m x y z then updN m.lT (nOf x) (nOf y) else m.lT) m.gv m.gn m.od m.br) := by
  rw [ite_iff (st_lend_iff h x y z), ite_iff (st_lend_iff h x y z)]
  by_cases q : cLend c x y z
  · simp only [if_pos q]
    have h2 := inR_nOf q.2.1
    have h3 : nOf z ≤ 100000 := by have := q.2.2.1; unfold inI at this; unfold nOf; omega
    refine (mkRel (htd := h.htd) (hrn := h.hrn) (hpn := h.hpn) (han := h.han) (hjn := h.hjn) (htn := h.htn) (hrA := h.hrA) (hrC := h.hrC) (hkd := h.hkd) (haG := h.haG) (hsT := h.hsT) (hdY := h.hdY) (hpd := h.hpd) (hcN := h.hcN) (hmN := h.hmN) (hwr := h.hwr) (hlD := updN_le h.hlD h3) (hfc := h.hfc) (hfp := h.hfp) (hne := h.hne) (hnd := h.hnd) (hwh := h.hwh) (hod := h.hod) (hch := h.hch) (hmp := h.hmp) (hma := h.hma) (hsold := h.hsold) (fsT := h.fsT) (fdY := h.fdY) (fsv := h.fsv) (fnd := h.fnd) (lho := h.lho) (lpe := h.lpe) (lnu := h.lnu) (lop := h.lop) (lbo := fun t ht => ?_) (hlT := updN_lt h.hlT h2) (ltl := h.ltl) (lne := h.lne) (lnt := h.lnt) (lch := h.lch) (lmt := h.lmt) (lgv := h.lgv) (hgv := h.hgv) (hgk := h.hgk) (lm0 := h.lm0) (lm1 := h.lm1) (hgp := h.hgp) (hga := h.hga) (lpg := h.lpg) (lag := h.lag))
    show upd c.bo (nOf x) y t = if upd m.lt (nOf x) (nI 1) t = 0 then -1 else nI (updN m.lT (nOf x) (nOf y) t)
    by_cases w : t = nOf x
    · rw [w, pk_us, pk_us, updN_s, if_neg (by decide), nI_nOf (by decide) q.2.1]
    · rw [pk_un w, pk_un w, updN_n _ _ w]; exact h.lbo t ht
  · simp only [if_neg q]
    exact (mkRel (htd := h.htd) (hrn := h.hrn) (hpn := h.hpn) (han := h.han) (hjn := h.hjn) (htn := h.htn) (hrA := h.hrA) (hrC := h.hrC) (hkd := h.hkd) (haG := h.haG) (hsT := h.hsT) (hdY := h.hdY) (hpd := h.hpd) (hcN := h.hcN) (hmN := h.hmN) (hwr := h.hwr) (hlD := h.hlD) (hfc := h.hfc) (hfp := h.hfp) (hne := h.hne) (hnd := h.hnd) (hwh := h.hwh) (hod := h.hod) (hch := h.hch) (hmp := h.hmp) (hma := h.hma) (hsold := h.hsold) (fsT := h.fsT) (fdY := h.fdY) (fsv := h.fsv) (fnd := h.fnd) (lho := h.lho) (lpe := h.lpe) (lnu := h.lnu) (lop := h.lop) (lbo := h.lbo) (hlT := h.hlT) (ltl := h.ltl) (lne := h.lne) (lnt := h.lnt) (lch := h.lch) (lmt := h.lmt) (lgv := h.lgv) (hgv := h.hgv) (hgk := h.hgk) (lm0 := h.lm0) (lm1 := h.lm1) (hgp := h.hgp) (hga := h.hga) (lpg := h.lpg) (lag := h.lag))
theorem st_back (h : Rel c m) (x : Int32) : Rel (mkCS c.ad c.qR c.lp c.la c.lj c.qM c.qN c.ft c.wr c.tl c.tn (if inR x 4 then upd c.bo (nOf x) (-1) else c.bo) c.lD c.td c.rA c.rC c.rn c.mdp c.xp c.pn c.pa c.kd c.aG c.sR c.sT c.dY c.pho c.ppe c.mda c.xa c.an c.aa c.anu c.pd c.cN c.mN c.aop c.rr c.fc c.ntot c.ch c.fp c.mdj c.xj c.jn c.ja c.jx c.jne c.sh c.be c.ob c.os c.oc c.ar c.gi c.pg c.ag c.mp c.ma c.prn c.mtot) (mkMS m.ad m.bm m.fw m.gp m.ga m.bp m.fc m.fj m.wh m.sv m.nd m.tl (if (inR x 4 ∧ ¬ m.lt (nOf x) = 0) then upd m.lt (nOf x) (nI 0) else m.lt) m.lT m.gv m.gn m.od m.br) := by
  by_cases q : inR x 4
  · simp only [if_pos q]
    refine (mkRel (htd := h.htd) (hrn := h.hrn) (hpn := h.hpn) (han := h.han) (hjn := h.hjn) (htn := h.htn) (hrA := h.hrA) (hrC := h.hrC) (hkd := h.hkd) (haG := h.haG) (hsT := h.hsT) (hdY := h.hdY) (hpd := h.hpd) (hcN := h.hcN) (hmN := h.hmN) (hwr := h.hwr) (hlD := h.hlD) (hfc := h.hfc) (hfp := h.hfp) (hne := h.hne) (hnd := h.hnd) (hwh := h.hwh) (hod := h.hod) (hch := h.hch) (hmp := h.hmp) (hma := h.hma) (hsold := h.hsold) (fsT := h.fsT) (fdY := h.fdY) (fsv := h.fsv) (fnd := h.fnd) (lho := h.lho) (lpe := h.lpe) (lnu := h.lnu) (lop := h.lop) (lbo := fun t ht => ?_) (hlT := h.hlT) (ltl := h.ltl) (lne := h.lne) (lnt := h.lnt) (lch := h.lch) (lmt := h.lmt) (lgv := h.lgv) (hgv := h.hgv) (hgk := h.hgk) (lm0 := h.lm0) (lm1 := h.lm1) (hgp := h.hgp) (hga := h.hga) (lpg := h.lpg) (lag := h.lag))
    show upd c.bo (nOf x) (-1) t = if (if (inR x 4 ∧ ¬ m.lt (nOf x) = 0) then upd m.lt (nOf x) (nI 0) else m.lt) t = 0 then -1 else nI (m.lT t)
    by_cases w : t = nOf x
    · rw [w, pk_us]
      by_cases z : m.lt (nOf x) = 0
      · have n1 : ¬ (inR x 4 ∧ ¬ m.lt (nOf x) = 0) := fun r => r.2 z
        rw [if_neg n1, if_pos z]
      · have n1 : inR x 4 ∧ ¬ m.lt (nOf x) = 0 := ⟨q, z⟩
        rw [if_pos n1, pk_us, if_pos nI_0]
    · rw [pk_un w, h.lbo t ht]
      by_cases z : m.lt (nOf x) = 0
      · have n1 : ¬ (inR x 4 ∧ ¬ m.lt (nOf x) = 0) := fun r => r.2 z
        rw [if_neg n1]
      · have n1 : inR x 4 ∧ ¬ m.lt (nOf x) = 0 := ⟨q, z⟩
        rw [if_pos n1, pk_un w]
  · have q2 : ¬ (inR x 4 ∧ ¬ m.lt (nOf x) = 0) := fun r => q r.1
    simp only [if_neg q, if_neg q2]
    exact h
theorem an_back (h : Rel c m) (x : Int32) : (if inR x 4 then c.bo (nOf x) else -1) = (if (inR x 4 ∧ ¬ m.lt (nOf x) = 0) then nI (m.lT (nOf x)) else -1) := by
  by_cases q : inR x 4
  · rw [if_pos q, h.lbo _ (inR_nOf q)]
    by_cases z : m.lt (nOf x) = 0
    · rw [if_pos z, if_neg (fun r => r.2 z)]
    · rw [if_neg z, if_pos ⟨q, z⟩]
  · rw [if_neg q, if_neg (fun r => q r.1)]
theorem an_late (h : Rel c m) (x : Int32) : lateM (fun t => if c.bo t = -1 then 0 else 1) c.lD c.td x 4 0 0 = lateM m.lt c.lD c.td x 4 0 0 := late_eq 4 0 0 (fun t ht => by
  show (if c.bo t = -1 then (0 : Int32) else 1) = 0 ↔ m.lt t = 0
  rw [← bo_iff h (by omega)]
  by_cases q : c.bo t = -1
  · rw [if_pos q]; exact ⟨fun _ => q, fun _ => rfl⟩
  · rw [if_neg q]; exact ⟨fun w => absurd w (by decide), fun w => absurd w q⟩)
theorem an_recalled (h : Rel c m) (x : Int32) : atR c.tl (-1) x c.tn = atR (fun j => nI (m.tl j)) (-1) x c.tn := by
  have h8 := h.htn
  by_cases q : inR x c.tn
  · obtain ⟨j, hj, rfl⟩ := inR_n (by omega) q
    rw [atR_nI hj (by omega), atR_nI hj (by omega), h.ltl j hj]
  · rw [atR_no q, atR_no q]
theorem an_of (h : Rel c m) (x : Int32) : atR c.gi (-1) x c.ma = atR m.gv (-1) x 8 := by
  have h8 := h.hma
  by_cases q : inR x 8
  · obtain ⟨j, hj, rfl⟩ := inR_n (by omega) q
    rw [atR_nI hj (by decide), h.lgv j hj]
    by_cases w : j < c.ma
    · rw [atR_nI w (by omega), if_pos w]
    · rw [atR_no (fun z => w ((inR_nI (by omega)).mp z)), if_neg w]
  · rw [atR_no q, atR_no (fun z => q (by unfold inR at z ⊢; omega))]
theorem an_gain (h : Rel c m) (x y : Int32) : (if x = 0 then atL c.pg (-1) y c.mp else if x = nI 1 then atL c.ag (-1) y c.ma else -1) = (if (¬ m.bm = 0 ∧ ((x = nI 0 ∧ inR y m.gp) ∨ (x = nI 1 ∧ inR y m.ga))) then m.gn (8 * nOf x + nOf y) else -1) := by
  have hp8 := h.hmp
  have ha8 := h.hma
  have n10 : ¬ nI 1 = nI 0 := by decide
  by_cases b : m.bm = 0
  · obtain ⟨z1, z2⟩ := h.lm0 b
    have n1 : ¬ (¬ m.bm = 0 ∧ ((x = nI 0 ∧ inR y m.gp) ∨ (x = nI 1 ∧ inR y m.ga))) := fun q => q.1 b
    rw [if_neg n1, z1, z2, atL_no (by unfold inR; omega), atL_no (by unfold inR; omega), ite_self, ite_self]
  · obtain ⟨z1, z2⟩ := h.lm1 b
    by_cases x0 : x = nI 0
    · subst x0
      rw [if_pos nI_0]
      by_cases q : inR y m.gp
      · have q' : inR y c.mp := by rw [z1]; exact q
        rw [if_pos ⟨b, Or.inl ⟨rfl, q⟩⟩]
        obtain ⟨j, hj, rfl⟩ := inR_n (by omega) q'
        rw [atL_nI hj (by omega), nOf_nI (by decide), nOf_nI (by omega), Nat.mul_zero, Nat.zero_add]
        exact h.lpg j hj
      · rw [if_neg (fun r => by rcases r.2 with w | w; exact q w.2; exact n10 w.1.symm), atL_no (by rw [z1]; exact q)]
    · have x0' : ¬ x = 0 := fun w => x0 (w.trans nI_0.symm)
      rw [if_neg x0']
      by_cases x1 : x = nI 1
      · subst x1
        rw [if_pos rfl]
        by_cases q : inR y m.ga
        · have q' : inR y c.ma := by rw [z2]; exact q
          rw [if_pos ⟨b, Or.inr ⟨rfl, q⟩⟩]
          obtain ⟨j, hj, rfl⟩ := inR_n (by omega) q'
          rw [atL_nI hj (by omega), nOf_nI (by decide), nOf_nI (by omega)]
          exact h.lag j hj
        · rw [if_neg (fun r => by rcases r.2 with w | w; exact x0 w.1; exact q w.2), atL_no (by rw [z2]; exact q)]
      · rw [if_neg x1, if_neg (fun r => by rcases r.2 with w | w; exact x0 w.1; exact x1 w.1)]
theorem an_does (h : Rel c m) (x : Int32) : bI (inR x 6 ∧ c.ch / 2 ^ nOf x % 2 = 1) = bI (inR x 6 ∧ m.fj / 2 ^ nOf x % 2 = 1) := by rw [h.lch]
/-! plan -/
theorem st_plan (h : Rel c m) : Rel (mkCS c.ad c.qR c.lp c.la c.lj c.qM c.qN c.ft c.wr c.tl c.tn c.bo c.lD c.td c.rA c.rC c.rn c.mdp c.xp c.pn c.pa c.kd c.aG c.sR c.sT c.dY c.pho c.ppe c.mda c.xa c.an c.aa c.anu c.pd c.cN c.mN c.aop c.rr ((skC c.kd c.aG c.sT c.dY c.rA c.rC c.rn c.td (zf c.fc 6) c.fp c.pn).1) (lN (plM (fun z => cjM (kcC (skC c.kd c.aG c.sT c.dY c.rA c.rC c.rn c.td (zf c.fc 6) c.fp c.pn).1 (skC c.kd c.aG c.sT c.dY c.rA c.rC c.rn c.td (zf c.fc 6) c.fp c.pn).2 c.jne z c.jn) 6) (2 ^ c.jn - 1)).2) ((plM (fun z => cjM (kcC (skC c.kd c.aG c.sT c.dY c.rA c.rC c.rn c.td (zf c.fc 6) c.fp c.pn).1 (skC c.kd c.aG c.sT c.dY c.rA c.rC c.rn c.td (zf c.fc 6) c.fp c.pn).2 c.jne z c.jn) 6) (2 ^ c.jn - 1)).1) ((skC c.kd c.aG c.sT c.dY c.rA c.rC c.rn c.td (zf c.fc 6) c.fp c.pn).2) c.mdj c.xj c.jn c.ja c.jx c.jne c.sh c.be c.ob c.os c.oc c.ar c.gi c.pg c.ag c.mp c.ma c.prn c.mtot) (mkMS m.ad m.bm m.fw m.gp m.ga (nI 1) (lN (plM (fun z => cjM (fun k => cost1 (fun z => selM c.kd c.sT c.dY (fun q => prM c.rA c.rC (c.aG q) c.rn) c.td k z c.pn) (fun q => prM c.rA c.rC (c.aG q) c.rn) (mnM m.nd z k c.jn)) 6) (2 ^ c.jn - 1)).2) ((plM (fun z => cjM (fun k => cost1 (fun z => selM c.kd c.sT c.dY (fun q => prM c.rA c.rC (c.aG q) c.rn) c.td k z c.pn) (fun q => prM c.rA c.rC (c.aG q) c.rn) (mnM m.nd z k c.jn)) 6) (2 ^ c.jn - 1)).1) m.wh m.sv m.nd m.tl m.lt m.lT m.gv m.gn m.od m.br) := by
  have e := plan_eq (kd := c.kd) (aG := c.aG) (sT := c.sT) (dY := c.dY) (rA := c.rA) (rC := c.rC) (rn := c.rn) (td := c.td) (pn := c.pn) (fc := c.fc) (fp := c.fp) h.lne
  have h8 := h.hpn
  have h6 := h.hjn
  refine (mkRel (htd := h.htd) (hrn := h.hrn) (hpn := h.hpn) (han := h.han) (hjn := h.hjn) (htn := h.htn) (hrA := h.hrA) (hrC := h.hrC) (hkd := h.hkd) (haG := h.haG) (hsT := h.hsT) (hdY := h.hdY) (hpd := h.hpd) (hcN := h.hcN) (hmN := h.hmN) (hwr := h.hwr) (hlD := h.hlD) (hfc := fun k => ?_) (hfp := fun k i => skC_p h.hrC h.hfp c.pn k i) (hne := h.hne) (hnd := h.hnd) (hwh := h.hwh) (hod := h.hod) (hch := ?_) (hmp := h.hmp) (hma := h.hma) (hsold := h.hsold) (fsT := h.fsT) (fdY := h.fdY) (fsv := h.fsv) (fnd := h.fnd) (lho := h.lho) (lpe := h.lpe) (lnu := h.lnu) (lop := h.lop) (lbo := h.lbo) (hlT := h.hlT) (ltl := h.ltl) (lne := h.lne) (lnt := ?_) (lch := ?_) (lmt := h.lmt) (lgv := h.lgv) (hgv := h.hgv) (hgk := h.hgk) (lm0 := h.lm0) (lm1 := h.lm1) (hgp := h.hgp) (hga := h.hga) (lpg := h.lpg) (lag := h.lag))
  · show (skC c.kd c.aG c.sT c.dY c.rA c.rC c.rn c.td (zf c.fc 6) c.fp c.pn).1 k ≤ 8
    by_cases q : k < 6
    · exact Nat.le_trans (skC_6 c.pn k q) h8
    · rw [skC_o h.hkd c.pn k q]; exact h.hfc k
  · show (plM _ (2 ^ c.jn - 1)).1 < 64
    have h1 := plM_le (fun z => cjM (kcC (skC c.kd c.aG c.sT c.dY c.rA c.rC c.rn c.td (zf c.fc 6) c.fp c.pn).1 (skC c.kd c.aG c.sT c.dY c.rA c.rC c.rn c.td (zf c.fc 6) c.fp c.pn).2 c.jne z c.jn) 6) (2 ^ c.jn - 1)
    have h2 : 2 ^ c.jn ≤ 2 ^ 6 := Nat.pow_le_pow_right (by decide) h6
    have h3 := Nat.two_pow_pos c.jn
    omega
  · show lN _ = if nI 1 = 0 then _ else lN _
    rw [if_neg (by decide), e]
  · show (plM _ _).1 = (plM _ _).1
    rw [e]
theorem an_plan (h : Rel c m) : (nI (szM (plM (fun z => cjM (kcC (skC c.kd c.aG c.sT c.dY c.rA c.rC c.rn c.td (zf c.fc 6) c.fp c.pn).1 (skC c.kd c.aG c.sT c.dY c.rA c.rC c.rn c.td (zf c.fc 6) c.fp c.pn).2 c.jne z c.jn) 6) (2 ^ c.jn - 1)).1 6)) = (nI (szM (plM (fun z => cjM (fun k => cost1 (fun z => selM c.kd c.sT c.dY (fun q => prM c.rA c.rC (c.aG q) c.rn) c.td k z c.pn) (fun q => prM c.rA c.rC (c.aG q) c.rn) (mnM m.nd z k c.jn)) 6) (2 ^ c.jn - 1)).1 6)) := by
  rw [plan_eq (kd := c.kd) (aG := c.aG) (sT := c.sT) (dY := c.dY) (rA := c.rA) (rC := c.rC) (rn := c.rn) (td := c.td) (pn := c.pn) (fc := c.fc) (fp := c.fp) h.lne]
/-! serve -/
theorem pw_pr (h : Rel c m) {q a : Nat} (ha : a < c.an) : pwC c.ft c.rA c.rC c.rn c.td (c.kd q) (c.aG q) (c.sT q) (c.dY q) (c.pho q) (c.anu a) (c.pd a) (c.cN a) (c.aop a) ↔ prsO c.td c.rn c.an c.rA c.rC c.ft c.kd c.aG c.sT m.wh c.dY c.pd c.cN m.sv q a := by
  have h8 := h.han
  have l1 : ¬ c.aop a = 0 ↔ m.sv a = 0 := by rw [h.lop a ha, Classical.not_not]
  have l2 : (stOn (c.sT q) (c.dY q) c.td = 1 ∧ c.pho q = nI (c.anu a)) ↔ (stOn (c.sT q) (c.dY q) c.td = 1 ∧ m.wh q = a) := by
    constructor
    · rintro ⟨e1, e2⟩
      refine ⟨e1, ?_⟩
      have e3 : c.sT q = 1 := by unfold stOn at e1; split at e1 <;> omega
      rw [h.lho q e3, h.lnu a ha] at e2
      have := h.hwh q
      exact (nI_eq (by omega) (by omega)).mp e2
    · rintro ⟨e1, e2⟩
      have e3 : c.sT q = 1 := by unfold stOn at e1; split at e1 <;> omega
      exact ⟨e1, by rw [h.lho q e3, h.lnu a ha, e2]⟩
  unfold pwC prsO
  rw [l1, l2]
  constructor
  · rintro ⟨a1, a2, a3, a4⟩; exact ⟨a4, ⟨ha, a1⟩, a2, a3⟩
  · rintro ⟨a4, ⟨_, a1⟩, a2, a3⟩; exact ⟨a1, a2, a3, a4⟩
abbrev cGv (c : CS) (x : Int32) : Int32 := atR c.gi (-1) x c.ma
abbrev cServe (c : CS) (x y : Int32) : Prop := inR x c.an ∧ inR (atR c.gi (-1) x c.ma) c.pn ∧ inR y 10 ∧ pwC c.ft c.rA c.rC c.rn c.td (c.kd (nOf (atR c.gi (-1) x c.ma))) (c.aG (nOf (atR c.gi (-1) x c.ma))) (c.sT (nOf (atR c.gi (-1) x c.ma))) (c.dY (nOf (atR c.gi (-1) x c.ma))) (c.pho (nOf (atR c.gi (-1) x c.ma))) (c.anu (nOf x)) (c.pd (nOf x)) (c.cN (nOf x)) (c.aop (nOf x))
abbrev mServe (c : CS) (m : MS) (x y : Int32) : Prop := opn m.sv c.an x ∧ inR y 10 ∧ ¬ m.gv (nOf x) < 0 ∧ prsO c.td c.rn c.an c.rA c.rC c.ft c.kd c.aG c.sT m.wh c.dY c.pd c.cN m.sv (nOf (m.gv (nOf x))) (nOf x)
theorem gv_at (h : Rel c m) {x : Int32} (q : inR x c.an) : atR c.gi (-1) x c.ma = m.gv (nOf x) := by
  have h8 := h.han
  rw [an_of h]
  obtain ⟨j, hj, rfl⟩ := inR_n (by omega) q
  rw [atR_nI (by omega) (by decide), nOf_nI (by omega)]
theorem st_serve_iff (h : Rel c m) (x y : Int32) : mServe c m x y ↔ cServe c x y := by
  have h8 := h.han
  have hp8 := h.hpn
  constructor
  · rintro ⟨⟨a1, a2⟩, a3, a4, a5⟩
    have hx := inR_nOf a1
    unfold cServe
    rw [gv_at h a1]
    refine ⟨a1, ?_, a3, (pw_pr h hx).mpr a5⟩
    rcases h.hgk (nOf x) (by omega) with w | ⟨k, hk, w⟩
    · rw [w] at a4; exact absurd (by decide) a4
    · rw [w]; exact (inR_nI (by omega)).mpr hk
  · rintro ⟨a1, a2, a3, a4⟩
    have hx := inR_nOf a1
    rw [gv_at h a1] at a2 a4
    have a5 := (pw_pr h hx).mp a4
    refine ⟨⟨a1, ?_⟩, a3, ?_, a5⟩
    · rw [nOf_clamp (by omega) a1]; exact a5.2.1.2
    · intro w; exact inR_lt w a2
theorem an_serve (h : Rel c m) (x y : Int32) : (if cServe c x y then (atR c.gi (-1) x c.ma) else -1) = (if mServe c m x y then m.gv (nOf x) else -1) := by
  rw [ite_iff (st_serve_iff h x y)]
  by_cases q : cServe c x y
  · rw [if_pos q, if_pos q, gv_at h q.1]
  · rw [if_neg q, if_neg q]
theorem sv_at (h : Rel c m) {α : Type} (x y : Int32) (F : Nat → α) (d : α) : (if mServe c m x y then F (nOf (m.gv (nOf x))) else d) = (if cServe c x y then F (nOf (atR c.gi (-1) x c.ma)) else d) := by
  rw [ite_iff (st_serve_iff h x y)]
  by_cases q : cServe c x y
  · rw [if_pos q, if_pos q, gv_at h q.1]
  · rw [if_neg q, if_neg q]
theorem st_serve (h : Rel c m) (x y : Int32) : Rel (mkCS c.ad c.qR c.lp c.la c.lj c.qM c.qN c.ft c.wr c.tl c.tn c.bo c.lD c.td c.rA c.rC c.rn c.mdp c.xp c.pn c.pa c.kd c.aG c.sR (if cServe c x y then updN c.sT (nOf (atR c.gi (-1) x c.ma)) 2 else c.sT) (if cServe c x y then updN c.dY (nOf (atR c.gi (-1) x c.ma)) c.td else c.dY) c.pho (if cServe c x y then upd c.ppe (nOf (atR c.gi (-1) x c.ma)) y else c.ppe) c.mda c.xa c.an c.aa c.anu c.pd c.cN c.mN (if cServe c x y then upd c.aop (nOf x) (nI 0) else c.aop) c.rr c.fc c.ntot c.ch c.fp c.mdj c.xj c.jn c.ja c.jx c.jne c.sh c.be c.ob c.os c.oc c.ar c.gi c.pg c.ag c.mp c.ma c.prn c.mtot) (mkMS m.ad m.bm m.fw m.gp m.ga m.bp m.fc m.fj (if mServe c m x y then updN m.wh (nOf (m.gv (nOf x))) (nOf y) else m.wh) (if mServe c m x y then upd m.sv (nOf x) (nI 1) else m.sv) m.nd m.tl m.lt m.lT m.gv m.gn m.od m.br) := by
  rw [sv_at h x y (fun k => updN m.wh k (nOf y)), ite_iff (st_serve_iff h x y)]
  by_cases q : cServe c x y
  · simp only [if_pos q]
    have hx := inR_nOf q.1
    have hq := inR_nOf q.2.1
    have hy := inR_nOf q.2.2.1
    generalize nOf (atR c.gi (-1) x c.ma) = b at *
    refine (mkRel (htd := h.htd) (hrn := h.hrn) (hpn := h.hpn) (han := h.han) (hjn := h.hjn) (htn := h.htn) (hrA := h.hrA) (hrC := h.hrC) (hkd := h.hkd) (haG := h.haG) (hsT := updN_le h.hsT (by decide)) (hdY := updN_le h.hdY h.htd) (hpd := h.hpd) (hcN := h.hcN) (hmN := h.hmN) (hwr := h.hwr) (hlD := h.hlD) (hfc := h.hfc) (hfp := h.hfp) (hne := h.hne) (hnd := h.hnd) (hwh := updN_lt h.hwh hy) (hod := h.hod) (hch := h.hch) (hmp := h.hmp) (hma := h.hma) (hsold := fun j e => ?_) (fsT := fun j hj => ?_) (fdY := fun j hj => ?_) (fsv := fun j hj => ?_) (fnd := h.fnd) (lho := fun j e => ?_) (lpe := fun j e => ?_) (lnu := h.lnu) (lop := fun a ha => ?_) (lbo := h.lbo) (hlT := h.hlT) (ltl := h.ltl) (lne := h.lne) (lnt := h.lnt) (lch := h.lch) (lmt := h.lmt) (lgv := h.lgv) (hgv := h.hgv) (hgk := h.hgk) (lm0 := h.lm0) (lm1 := h.lm1) (hgp := h.hgp) (hga := h.hga) (lpg := h.lpg) (lag := h.lag))
    · have e : updN c.sT b 2 j = 2 := e
      show updN c.dY b c.td j ≤ c.td
      by_cases w : j = b
      · rw [w, updN_s]; exact Nat.le_refl _
      · rw [updN_n _ _ w] at e ⊢; exact h.hsold j e
    · show updN c.sT b 2 j = 0
      have hj : c.pn ≤ j := hj
      rw [updN_n _ _ (by omega)]; exact h.fsT j hj
    · show updN c.dY b c.td j = 0
      have hj : c.pn ≤ j := hj
      rw [updN_n _ _ (by omega)]; exact h.fdY j hj
    · show upd m.sv (nOf x) (nI 1) j = 0
      have hj : c.an ≤ j := hj
      rw [pk_un (by omega)]; exact h.fsv j hj
    · have e : updN c.sT b 2 j = 1 := e
      show c.pho j = nI (updN m.wh b (nOf y) j)
      by_cases w : j = b
      · rw [w, updN_s] at e; omega
      · rw [updN_n _ _ w] at e ⊢; exact h.lho j e
    · have e : updN c.sT b 2 j = 2 := e
      show upd c.ppe b y j = nI (updN m.wh b (nOf y) j)
      by_cases w : j = b
      · rw [w, pk_us, updN_s, nI_nOf (by decide) q.2.2.1]
      · rw [updN_n _ _ w] at e; rw [pk_un w, updN_n _ _ w]; exact h.lpe j e
    · show upd c.aop (nOf x) (nI 0) a = 0 ↔ ¬ upd m.sv (nOf x) (nI 1) a = 0
      by_cases w : a = nOf x
      · rw [w, pk_us, pk_us]; exact ⟨fun _ => by decide, fun _ => nI_0⟩
      · rw [pk_un w, pk_un w]; exact h.lop a ha
  · simp only [if_neg q]
    exact (mkRel (htd := h.htd) (hrn := h.hrn) (hpn := h.hpn) (han := h.han) (hjn := h.hjn) (htn := h.htn) (hrA := h.hrA) (hrC := h.hrC) (hkd := h.hkd) (haG := h.haG) (hsT := h.hsT) (hdY := h.hdY) (hpd := h.hpd) (hcN := h.hcN) (hmN := h.hmN) (hwr := h.hwr) (hlD := h.hlD) (hfc := h.hfc) (hfp := h.hfp) (hne := h.hne) (hnd := h.hnd) (hwh := h.hwh) (hod := h.hod) (hch := h.hch) (hmp := h.hmp) (hma := h.hma) (hsold := h.hsold) (fsT := h.fsT) (fdY := h.fdY) (fsv := h.fsv) (fnd := h.fnd) (lho := h.lho) (lpe := h.lpe) (lnu := h.lnu) (lop := h.lop) (lbo := h.lbo) (hlT := h.hlT) (ltl := h.ltl) (lne := h.lne) (lnt := h.lnt) (lch := h.lch) (lmt := h.lmt) (lgv := h.lgv) (hgv := h.hgv) (hgk := h.hgk) (lm0 := h.lm0) (lm1 := h.lm1) (hgp := h.hgp) (hga := h.hga) (lpg := h.lpg) (lag := h.lag))
end ST
